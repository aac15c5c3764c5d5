section
variable {p : Nat}
abbrev sO (B s : Nat) (sz : Int) : GE := oB 7 [.ref (B + 1), .ref (B + 7), .ref (s + 1), .ref (s + 2), .ref (s + 4), .ref (s + 6), .int (gI sz)]
theorem ix_bd {i k sz : Int} (i0 : 0 ≤ i) (i1 : i < sz) (k0 : 0 ≤ k) (k1 : k < sz) (s1 : sz ≤ 12) : 0 ≤ i * sz + k ∧ i * sz + k < 144 := by
  have h1 : 0 ≤ i * sz := Int.mul_nonneg i0 (by omega)
  have h2 : i * sz ≤ (sz - 1) * sz := Int.mul_le_mul_of_nonneg_right (by omega) (by omega)
  have h3 : (sz - 1) * sz ≤ (sz - 1) * 12 := Int.mul_le_mul_of_nonneg_left (by omega) (by omega)
  omega
theorem ix_inj {i k j l sz : Int} (k0 : 0 ≤ k) (k1 : k < sz) (l0 : 0 ≤ l) (l1 : l < sz) (e : i * sz + k = j * sz + l) : i = j ∧ k = l := by
  have e1 : (i * sz + k) % sz = k := by rw [Int.add_comm, Int.add_mul_emod_self_right, Int.emod_eq_of_lt k0 k1]
  have e2 : (j * sz + l) % sz = l := by rw [Int.add_comm, Int.add_mul_emod_self_right, Int.emod_eq_of_lt l0 l1]
  have e3 : k = l := by rw [← e1, ← e2, e]
  refine ⟨?_, e3⟩
  subst e3
  have e4 : i * sz = j * sz := by omega
  exact Int.eq_of_mul_eq_mul_right (by omega) e4
/-- the square's rows -/
def LSq (hp : prm p) (s : Nat) (h : GH) (g : Int → Option Nat) (sz : Int) (C : Int → Int → Px p) : Prop := RLi 144 (s + 8) h (s + 1) g ∧ ∀ i k : Int, 0 ≤ i → i < sz → 0 ≤ k → k < sz → ∃ r, g (i * sz + k) = some r ∧ RP hp 84 h r (C i k)
theorem LSq.lo {hp : prm p} {s : Nat} {L : List Nat} {h h1 : GH} {g : Int → Option Nat} {sz : Int} {C : Int → Int → Px p} (w : LSq hp s h g sz C) (f : Fr L h h1) (hL : ∀ x ∈ L, x + 2 ≤ s + 8 ∧ (x + 2 ≤ s + 1 ∨ s + 2 ≤ x)) : LSq hp s h1 g sz C := by
  have ap : ∀ (t : Int) (r : Nat), g t = some r → Ai r L := fun t r hr x hx => by
    have h1 := (w.1.2.1 t r hr).1
    have h2 := hL x hx
    unfold AP; omega
  refine ⟨w.1.fr f (fun x hx => ?_) (fun t r hr => Or.inl (ap t r hr)), fun i k i0 i1 k0 k1 => ?_⟩
  · have := hL x hx; unfold NE; omega
  · obtain ⟨r, hr, hR⟩ := w.2 i k i0 i1 k0 k1
    exact ⟨r, hr, hR.fr f (ap _ r hr)⟩
theorem LSq.put {hp : prm p} {s r : Nat} {h h1 : GH} {g : Int → Option Nat} {sz i k : Int} {C : Int → Int → Px p} {q : Px p} (w : LSq hp s h g sz C) (f : Fr [r] h h1) (hr : g (i * sz + k) = some r) (k0 : 0 ≤ k) (k1 : k < sz) (hP : RP hp 84 h1 r q) : LSq hp s h1 g sz (cup C i k q) := by
  have ap : ∀ (t : Int) (u : Nat), t ≠ i * sz + k → g t = some u → Ai u [r] := fun t u ht hu => Ai.c (w.1.2.2 t _ u r ht hu hr) (Ai.n _)
  have lr := (w.1.2.1 _ r hr).1
  refine ⟨w.1.fr f (Ni.c ⟨by unfold NE; omega, by unfold NE; omega⟩ (Ni.n _)) (fun t u hu => ?_), fun a b a0 a1 b0 b1 => ?_⟩
  · by_cases z : t = i * sz + k
    · rw [z, hr] at hu
      have := Option.some.inj hu
      subst this
      exact Or.inr hP.ra
    · exact Or.inl (ap t u z hu)
  · unfold cup
    by_cases z : a = i ∧ b = k
    · rw [if_pos z, z.1, z.2]; exact ⟨r, hr, hP⟩
    · rw [if_neg z]
      obtain ⟨u, hu, hR⟩ := w.2 a b a0 a1 b0 b1
      exact ⟨u, hu, hR.fr f (ap _ u (fun e => z (ix_inj b0 b1 k0 k1 e)) hu)⟩
theorem LSq.mono {hp : prm p} {s : Nat} {h : GH} {g : Int → Option Nat} {sz : Int} {C C2 : Int → Int → Px p} (w : LSq hp s h g sz C) (e : ∀ i k, 0 ≤ i → i < sz → 0 ≤ k → k < sz → C2 i k = C i k) : LSq hp s h g sz C2 := ⟨w.1, fun i k i0 i1 k0 k1 => by rw [e i k i0 i1 k0 k1]; exact w.2 i k i0 i1 k0 k1⟩
/-- truncated, and a row and a multiple of another -/
def trA (h : prm p) (f : Px p) (i : Int) : Px p := fun k => letI := fR h; if (k : Int) < i then f k else 0
theorem trA_0 (h : prm p) (f : Px p) : letI := pR h; trA h f 0 = 0 := funext fun k => by
  rw [zero_k]
  letI := fR h
  show (if (k : Int) < 0 then f k else 0) = 0
  rw [if_neg (by omega)]
theorem trA_s (h : prm p) (f : Px p) {i : Int} (i0 : 0 ≤ i) : letI := pR h; trA h f (i + 1) = trA h f i + xm (fR h) (f i.toNat) i.toNat := funext fun k => by
  letI := fR h
  show (if (k : Int) < i + 1 then f k else 0) = (if (k : Int) < i then f k else 0) + (if k = i.toNat then f i.toNat else 0)
  by_cases z : k = i.toNat
  · rw [if_pos (by omega), if_neg (by omega), if_pos z, z]; grind
  · rw [if_neg z]
    by_cases y : (k : Int) < i
    · rw [if_pos (by omega), if_pos y]; grind
    · rw [if_neg (by omega), if_neg y]; grind
theorem trA_e (h : prm p) {f : Px p} (hf : po (fR h) f) {i : Int} (hi : dgi h f < i) : trA h f i = f := funext fun k => by
  letI := fR h
  show (if (k : Int) < i then f k else 0) = f k
  by_cases z : (k : Int) < i
  · rw [if_pos z]
  · rw [if_neg z, dgi_dl h hf k (by have := dgi_ge h hf; omega)]
def asR (g gb : Int → Int) (c sh n : Int) : Int → Int := fun m => if sh ≤ m ∧ m < sh + n then g m + c * gb (m - sh) else g m
theorem asR_0 (g gb : Int → Int) (c sh : Int) : asR g gb c sh 0 = g := funext fun m => by unfold asR; rw [if_neg (by omega)]
theorem asR_at (g gb : Int → Int) (c sh n : Int) : asR g gb c sh n (sh + n) = g (sh + n) := by unfold asR; rw [if_neg (by omega)]
theorem asR_s (g gb : Int → Int) {c sh n : Int} (hn : 0 ≤ n) : gup (asR g gb c sh n) (sh + n) (g (sh + n) + c * gb n) = asR g gb c sh (n + 1) := funext fun m => by
  unfold gup asR
  by_cases z : m = sh + n
  · subst z; rw [if_pos rfl, if_pos (by omega), show sh + n - sh = n by omega]
  · rw [if_neg z]
    by_cases y : sh ≤ m ∧ m < sh + n
    · rw [if_pos y, if_pos (by omega)]
    · rw [if_neg y, if_neg (by omega)]
/-- one turn of pileLess -/
theorem pl_turn (h : prm p) {g gb : Int → Int} {fa fb F : Px p} {d e D i c : Int} (hb : PO h e gb fb) (i0 : 0 ≤ i) (hi : i ≤ d) (hD : d + e ≤ D) (hc : zi h c = (letI := fR h; - fa i.toNat)) (H : letI := pR h; ph h g D = F - trA h fa i * fb) : letI := pR h; ph h (asR g gb c i (e + 1)) D = F - trA h fa (i + 1) * fb := by
  letI := pR h
  have e1 : ph h (asR g gb c i (e + 1)) D = ph h g D + xm (fR h) (zi h c) i.toNat * fb := funext fun k => by
    letI := fR h
    show (if (k : Int) ≤ D then zi h (asR g gb c i (e + 1) k) else 0) = (if (k : Int) ≤ D then zi h (g k) else 0) + zmul (fR h) (xm (fR h) (zi h c) i.toNat) fb k
    rw [xm_mul]
    have hfb : ∀ m : Nat, fb m = if (m : Int) ≤ e then zi h (gb m) else 0 := fun m => congrFun hb.2.2.2 m
    unfold asR
    by_cases z : i ≤ (k : Int) ∧ (k : Int) < i + (e + 1)
    · rw [if_pos (by omega), if_pos (by omega), if_pos (by omega), if_pos (by omega), zi_add, zi_mul, hfb, if_pos (by omega), show ((k - i.toNat : Nat) : Int) = (k : Int) - i by omega]
    · rw [if_neg z]
      by_cases y : i.toNat ≤ k
      · rw [if_pos y, hfb, if_neg (show ¬ ((k - i.toNat : Nat) : Int) ≤ e by omega)]
        split <;> grind
      · rw [if_neg y]
        split <;> grind
  rw [e1, H, trA_s h fa i0, hc]
  have e2 : xm (fR h) (letI := fR h; - fa i.toNat) i.toNat = - xm (fR h) (fa i.toNat) i.toNat := funext fun k => by
    letI := fR h
    show (if k = i.toNat then - fa i.toNat else 0) = - (if k = i.toNat then fa i.toNat else 0)
    split
    · rfl
    · grind
  rw [e2]
  generalize xm (fR h) (fa i.toNat) i.toNat = x
  generalize trA h fa i = t
  grind
theorem ph_ext (h : prm p) {g g2 : Int → Int} {d D : Int} (hd : d ≤ D) (h1 : ∀ k, 0 ≤ k → k ≤ d → g2 k = g k) (h2 : ∀ k, 0 ≤ k → d < k → k ≤ D → g2 k = 0) : ph h g2 D = ph h g d := funext fun k => by
  letI := fR h
  show (if (k : Int) ≤ D then zi h (g2 k) else 0) = (if (k : Int) ≤ d then zi h (g k) else 0)
  by_cases z : (k : Int) ≤ d
  · rw [if_pos (by omega), if_pos z, h1 k (by omega) z]
  · rw [if_neg z]
    by_cases y : (k : Int) ≤ D
    · rw [if_pos y, h2 k (by omega) (by omega) y, zi_0]
    · rw [if_neg y]
end
def gZ (g : Int → Int) (lo hi : Int) : Int → Int := fun m => if lo ≤ m ∧ m < hi then 0 else g m
theorem gZ_0 (g : Int → Int) (lo : Int) : gZ g lo lo = g := funext fun m => by unfold gZ; rw [if_neg (by omega)]
theorem gZ_s (g : Int → Int) {lo hi : Int} (h : lo ≤ hi) : gup (gZ g lo hi) hi 0 = gZ g lo (hi + 1) := funext fun m => by
  unfold gup gZ
  by_cases z : m = hi
  · subst z; rw [if_pos rfl, if_pos (by omega)]
  · rw [if_neg z]
    by_cases y : lo ≤ m ∧ m < hi
    · rw [if_pos y, if_pos (by omega)]
    · rw [if_neg y, if_neg (by omega)]
set_option maxHeartbeats 4000000 in
set_option maxRecDepth 100000 in
theorem sS_pileLess (N : GN) (h : GH) (B s a b n m p : Nat) (hp : prm p) (hp2 : p ≤ 65536) (sz D : Int) (fa fb F : Px p) (hso : h.2 s = some (sO B s sz)) (hfl : h.2 (B + 1) = some (oB 1 [.int (gI ((p : Int)))])) (hr : RU hp 160 h (s + 2) D 4299262263296 F) (ha : RP hp n h a fa) (hb : RP hp m h b fb) (hd : dgi hp fa + dgi hp fb < 160) (hBs : B + 58 ≤ s) (aas : AP a (s + 2)) (abs : AP b (s + 2)) : Sp N yX7_pileLess mX7_pileLess 0 0 [.ref (s), .ref (a), .ref (b)] h (fun v h1 => v = none ∧ Fr [s + 2] h h1 ∧ ∃ D2 g2, RW 160 h1 (s + 2) D2 g2 ∧ (∀ k, 0 ≤ k → k ≤ D2 → 0 ≤ g2 k ∧ g2 k ≤ 8598524526592) ∧ (letI := pR hp; F - pml hp fa fb) = ph hp g2 D2 ∧ D ≤ D2 ∧ (D2 ≤ D ∨ D2 ≤ dgi hp fa + dgi hp fb)) := by
  refine Sp.of (by decide) rfl rfl (Nat.le_of_ble_eq_true rfl) ?_
  show Go N mX7_pileLess _ 0 0 h 0 [(0, .ref (s)), (1, .ref (a)), (2, .ref (b))] []
  have hp1 := hp.1
  have ne0 : NE (s) (B + 1) := by unfold NE; first | omega | (unfold AP at aas abs; omega)
  have ne1 : NE (s) (s + 2) := by unfold NE; first | omega | (unfold AP at aas abs; omega)
  have ne2 : NE (s) (s + 3) := by unfold NE; first | omega | (unfold AP at aas abs; omega)
  have ne3 : NE (B + 1) (s + 2) := by unfold NE; first | omega | (unfold AP at aas abs; omega)
  have ne4 : NE (B + 1) (s + 3) := by unfold NE; first | omega | (unfold AP at aas abs; omega)
  have ne5 : NE (a) (a + 1) := by unfold NE; first | omega | (unfold AP at aas abs; omega)
  have ne6 : NE (a) (s + 2) := by unfold NE; first | omega | (unfold AP at aas abs; omega)
  have ne7 : NE (a) (s + 3) := by unfold NE; first | omega | (unfold AP at aas abs; omega)
  have ne8 : NE (a + 1) (s + 2) := by unfold NE; first | omega | (unfold AP at aas abs; omega)
  have ne9 : NE (a + 1) (s + 3) := by unfold NE; first | omega | (unfold AP at aas abs; omega)
  have ne10 : NE (b) (b + 1) := by unfold NE; first | omega | (unfold AP at aas abs; omega)
  have ne11 : NE (b) (s + 2) := by unfold NE; first | omega | (unfold AP at aas abs; omega)
  have ne12 : NE (b) (s + 3) := by unfold NE; first | omega | (unfold AP at aas abs; omega)
  have ne13 : NE (b + 1) (s + 2) := by unfold NE; first | omega | (unfold AP at aas abs; omega)
  have ne14 : NE (b + 1) (s + 3) := by unfold NE; first | omega | (unfold AP at aas abs; omega)
  have ne15 : NE (s + 2) (s + 3) := by unfold NE; first | omega | (unfold AP at aas abs; omega)
  obtain ⟨gx, ⟨x1, x2, x3, x4, x5, x6, x7⟩, xb, xp⟩ := hr
  have hla := ha.lt
  have hlb := hb.lt
  have hpa := ha.po
  have hpb := hb.po
  obtain ⟨ga, ⟨a1, a2, a3, a4, a5, a6, a7⟩, aP⟩ : ∃ g, RW n h a (dgi hp fa) g ∧ PO hp (dgi hp fa) g fa := ha
  obtain ⟨gb, ⟨b1, b2, b3, b4, b5, b6, b7⟩, bP⟩ : ∃ g, RW m h b (dgi hp fb) g ∧ PO hp (dgi hp fb) g fb := hb
  refine g_aload_n 1 dX7_pileLess_0 rfl ?_
  refine g_getf 1 dX7_pileLess_1 kX5 (by decide) fX7_80 a1 rfl ?_
  refine g_if_lt (tgt := 14) dX7_pileLess_4 rfl (by first | (unfold gW; omega) | (unfold gW; split <;> omega)) (fun c1 => ?_) (fun c1 => ?_)
  · skip
    exact g_vret dX7_pileLess_14 rfl ⟨rfl, (Fr.rf [s + 2] h), D, gx, ⟨x1, x2, x3, x4, x5, x6, x7⟩, fun m m0 m1 => by have := xb m m0 m1; omega, by
                                                                      rw [← xp]
                                                                      letI := pR hp
                                                                      show F - pml hp fa fb = F
                                                                      have e9 : pml hp fa fb = 0 := by
                                                                        refine dgi_z hp (mul_po hpa hpb) ?_
                                                                        have : dgi hp (pml hp fa fb) = _ := mul_dgi hp hpa hpb
                                                                        rw [this, if_pos (by omega)]; omega
                                                                      rw [e9]
                                                                      generalize F = x
                                                                      grind, by omega, by omega⟩
  · skip
    refine g_aload_n 2 dX7_pileLess_7 rfl ?_
    refine g_getf 1 dX7_pileLess_8 kX5 (by decide) fX7_80 b1 rfl ?_
    refine g_if_ge (tgt := 15) dX7_pileLess_11 rfl (by first | (unfold gW; omega) | (unfold gW; split <;> omega)) (fun c2 => ?_) (fun c2 => ?_)
    · skip
      refine g_aload_n 0 dX7_pileLess_15 rfl ?_
      refine g_getf 3 dX7_pileLess_16 kX7 (by decide) fX7_20 hso rfl ?_
      refine g_getf 1 dX7_pileLess_19 kX5 (by decide) fX7_80 x1 rfl ?_
      refine g_iconst dX7_pileLess_22 ?_
      refine g_iadd dX7_pileLess_23 ?_
      refine g_istore_n (ls2 := [(3, .int (gI ((D) + (1)))), (0, .ref (s)), (1, .ref (a)), (2, .ref (b))]) dX7_pileLess_24 rfl (by decide) rfl ?_
      have lz : ∀ (kk : Nat) (k : Int) (hlz : GH), kk = (300 - k).toNat → Fr [s + 2] h hlz → hlz.2 (s + 2) = some (oB 5 [.ref (s + 3), .int (gI (D))]) → hlz.2 (s + 3) = some (aJ 160 (gZ gx (D + 1) k)) → (D + 1 ≤ k ∧ (k ≤ D + 1 ∨ k ≤ dgi hp fa + dgi hp fb + 1)) → Go N mX7_pileLess (fun v h1 => v = none ∧ Fr [s + 2] h h1 ∧ ∃ D2 g2, RW 160 h1 (s + 2) D2 g2 ∧ (∀ k, 0 ≤ k → k ≤ D2 → 0 ≤ g2 k ∧ g2 k ≤ 8598524526592) ∧ (letI := pR hp; F - pml hp fa fb) = ph hp g2 D2 ∧ D ≤ D2 ∧ (D2 ≤ D ∨ D2 ≤ dgi hp fa + dgi hp fb)) 0 0 hlz 25 [(3, .int (gI (k))), (0, .ref (s)), (1, .ref (a)), (2, .ref (b))] [] := by
        refine Go.ind (fun kk ih_lz => ?_)
        intro k hlz hkk_lz fr_lz cf_lz_0 cf_lz_1 hk
        have cg_lz_0 : hlz.2 (s) = some (oB 7 [.ref (B + 1), .ref (B + 7), .ref (s + 1), .ref (s + 2), .ref (s + 4), .ref (s + 6), .int (gI (sz))]) := Fr.at0 fr_lz (Ni.c ⟨ne1, ne2⟩ (Ni.n _)) hso
        have cg_lz_1 : hlz.2 (B + 1) = some (oB 1 [.int (gI ((p : Int)))]) := Fr.at0 fr_lz (Ni.c ⟨ne3, ne4⟩ (Ni.n _)) hfl
        have cg_lz_2 : hlz.2 (a) = some (oB 5 [.ref (a + 1), .int (gI (dgi hp fa))]) := Fr.at0 fr_lz (Ni.c ⟨ne6, ne7⟩ (Ni.n _)) a1
        have cg_lz_3 : hlz.2 (a + 1) = some (aJ n (ga)) := Fr.at0 fr_lz (Ni.c ⟨ne8, ne9⟩ (Ni.n _)) a2
        have cg_lz_4 : hlz.2 (b) = some (oB 5 [.ref (b + 1), .int (gI (dgi hp fb))]) := Fr.at0 fr_lz (Ni.c ⟨ne11, ne12⟩ (Ni.n _)) b1
        have cg_lz_5 : hlz.2 (b + 1) = some (aJ m (gb)) := Fr.at0 fr_lz (Ni.c ⟨ne13, ne14⟩ (Ni.n _)) b2
        refine g_iload_n 0 dX7_pileLess_25 rfl ?_
        refine g_aload_n 2 dX7_pileLess_26 rfl ?_
        refine g_getf 1 dX7_pileLess_27 kX5 (by decide) fX7_80 cg_lz_2 rfl ?_
        refine g_aload_n 3 dX7_pileLess_30 rfl ?_
        refine g_getf 1 dX7_pileLess_31 kX5 (by decide) fX7_80 cg_lz_4 rfl ?_
        refine g_iadd dX7_pileLess_34 ?_
        refine g_icmp_gt (tgt := 54) dX7_pileLess_35 rfl (by first | (unfold gW; omega) | (unfold gW; split <;> omega)) (by first | (unfold gW; omega) | (unfold gW; split <;> omega)) (fun c103 => ?_) (fun c103 => ?_)
        · skip
          refine g_aload_n 1 dX7_pileLess_54 rfl ?_
          refine g_getf 3 dX7_pileLess_55 kX7 (by decide) fX7_20 cg_lz_0 rfl ?_
          refine g_aload_n 1 dX7_pileLess_58 rfl ?_
          refine g_getf 3 dX7_pileLess_59 kX7 (by decide) fX7_20 cg_lz_0 rfl ?_
          refine g_getf 1 dX7_pileLess_62 kX5 (by decide) fX7_80 cf_lz_0 rfl ?_
          refine g_aload_n 2 dX7_pileLess_65 rfl ?_
          refine g_getf 1 dX7_pileLess_66 kX5 (by decide) fX7_80 cg_lz_2 rfl ?_
          refine g_aload_n 3 dX7_pileLess_69 rfl ?_
          refine g_getf 1 dX7_pileLess_70 kX5 (by decide) fX7_80 cg_lz_4 rfl ?_
          refine g_iadd dX7_pileLess_73 ?_
          refine g_max dX7_pileLess_74 lX7_102 (by first | (unfold gW; omega) | (unfold gW; split <;> omega)) (by first | (unfold gW; omega) | (unfold gW; split <;> omega)) (by decide) (Nat.le_of_ble_eq_true rfl) ?_
          refine g_putf 1 dX7_pileLess_77 kX5 (by decide) fX7_80 rfl cf_lz_0 (Nat.le_of_ble_eq_true rfl) rfl rfl ?_
          obtain ⟨hh104, eh104⟩ : ∃ z : GH, z = hset hlz (s + 2) (oB 5 [.ref (s + 3), .int (gI (if D < (dgi hp fa) + (dgi hp fb) then (dgi hp fa) + (dgi hp fb) else D))]) := ⟨_, rfl⟩
          refine Go.hp eh104.symm ?_
          have fh104_0 : hh104.2 (s) = some (oB 7 [.ref (B + 1), .ref (B + 7), .ref (s + 1), .ref (s + 2), .ref (s + 4), .ref (s + 6), .int (gI (sz))]) := hs_n eh104 ne1 cg_lz_0
          have fh104_1 : hh104.2 (B + 1) = some (oB 1 [.int (gI ((p : Int)))]) := hs_n eh104 ne3 cg_lz_1
          have fh104_2 : hh104.2 (a) = some (oB 5 [.ref (a + 1), .int (gI (dgi hp fa))]) := hs_n eh104 ne6 cg_lz_2
          have fh104_3 : hh104.2 (a + 1) = some (aJ n (ga)) := hs_n eh104 ne8 cg_lz_3
          have fh104_4 : hh104.2 (b) = some (oB 5 [.ref (b + 1), .int (gI (dgi hp fb))]) := hs_n eh104 ne11 cg_lz_4
          have fh104_5 : hh104.2 (b + 1) = some (aJ m (gb)) := hs_n eh104 ne13 cg_lz_5
          have fh104_6 : hh104.2 (s + 2) = some (oB 5 [.ref (s + 3), .int (gI (if D < (dgi hp fa) + (dgi hp fb) then (dgi hp fa) + (dgi hp fb) else D))]) := hs_s eh104
          have fh104_7 : hh104.2 (s + 3) = some (aJ 160 (gZ gx (D + 1) k)) := hs_n eh104 (ne15).s cf_lz_1
          have fr104 : Fr [s + 2] h hh104 := Fr.w0 fr_lz (List.Mem.head _) eh104
          refine g_iconst dX7_pileLess_80 ?_
          refine g_istore_n (ls2 := [(3, .int (gI (0))), (0, .ref (s)), (1, .ref (a)), (2, .ref (b))]) dX7_pileLess_81 rfl (by decide) rfl ?_
          obtain ⟨D2, hD2⟩ : ∃ D2 : Int, D2 = if D < dgi hp fa + dgi hp fb then dgi hp fa + dgi hp fb else D := ⟨_, rfl⟩
          have hD2b : D ≤ D2 ∧ dgi hp fa + dgi hp fb ≤ D2 ∧ D2 < 160 := by rw [hD2]; split <;> omega
          have f2 : hh104.2 (s + 2) = some (oB 5 [.ref (s + 3), .int (gI D2)]) := by rw [hD2]; exact fh104_6
          have hz0 : ∀ m, 0 ≤ m → m ≤ D2 → 0 ≤ gZ gx (D + 1) k m ∧ gZ gx (D + 1) k m ≤ 4299262263296 := fun m m0 m1 => by
                                                                      unfold gZ
                                                                      split
                                                                      · omega
                                                                      · exact xb m m0 (by omega)
          have hpz : ph hp (gZ gx (D + 1) k) D2 = F := by
                                                                      rw [xp]
                                                                      exact ph_ext hp hD2b.1 (fun m m0 m1 => by unfold gZ; rw [if_neg (by omega)]) (fun m m0 m1 m2 => by unfold gZ; rw [if_pos (by omega)])
          have li : ∀ (kk : Nat) (i : Int) (gg : Int → Int) (hli : GH), kk = (300 - i).toNat → Fr [s + 2] h hli → hli.2 (s + 2) = some (oB 5 [.ref (s + 3), .int (gI (D2))]) → hli.2 (s + 3) = some (aJ 160 (gg)) → (0 ≤ i ∧ i ≤ dgi hp fa + 1) → (∀ m, 0 ≤ m → m ≤ D2 → 0 ≤ gg m ∧ gg m ≤ 4299262263296 + i * 4294967296) → (letI := pR hp; ph hp gg D2 = F - trA hp fa i * fb) → Go N mX7_pileLess (fun v h1 => v = none ∧ Fr [s + 2] h h1 ∧ ∃ D2 g2, RW 160 h1 (s + 2) D2 g2 ∧ (∀ k, 0 ≤ k → k ≤ D2 → 0 ≤ g2 k ∧ g2 k ≤ 8598524526592) ∧ (letI := pR hp; F - pml hp fa fb) = ph hp g2 D2 ∧ D ≤ D2 ∧ (D2 ≤ D ∨ D2 ≤ dgi hp fa + dgi hp fb)) 0 0 hli 82 [(3, .int (gI (i))), (0, .ref (s)), (1, .ref (a)), (2, .ref (b))] [] := by
            refine Go.ind (fun kk ih_li => ?_)
            intro i gg hli hkk_li fr_li cf_li_0 cf_li_1 hi hgb hE
            have cg_li_0 : hli.2 (s) = some (oB 7 [.ref (B + 1), .ref (B + 7), .ref (s + 1), .ref (s + 2), .ref (s + 4), .ref (s + 6), .int (gI (sz))]) := Fr.at0 fr_li (Ni.c ⟨ne1, ne2⟩ (Ni.n _)) hso
            have cg_li_1 : hli.2 (B + 1) = some (oB 1 [.int (gI ((p : Int)))]) := Fr.at0 fr_li (Ni.c ⟨ne3, ne4⟩ (Ni.n _)) hfl
            have cg_li_2 : hli.2 (a) = some (oB 5 [.ref (a + 1), .int (gI (dgi hp fa))]) := Fr.at0 fr_li (Ni.c ⟨ne6, ne7⟩ (Ni.n _)) a1
            have cg_li_3 : hli.2 (a + 1) = some (aJ n (ga)) := Fr.at0 fr_li (Ni.c ⟨ne8, ne9⟩ (Ni.n _)) a2
            have cg_li_4 : hli.2 (b) = some (oB 5 [.ref (b + 1), .int (gI (dgi hp fb))]) := Fr.at0 fr_li (Ni.c ⟨ne11, ne12⟩ (Ni.n _)) b1
            have cg_li_5 : hli.2 (b + 1) = some (aJ m (gb)) := Fr.at0 fr_li (Ni.c ⟨ne13, ne14⟩ (Ni.n _)) b2
            refine g_iload_n 0 dX7_pileLess_82 rfl ?_
            refine g_aload_n 2 dX7_pileLess_83 rfl ?_
            refine g_getf 1 dX7_pileLess_84 kX5 (by decide) fX7_80 cg_li_2 rfl ?_
            refine g_icmp_gt (tgt := 156) dX7_pileLess_87 rfl (by first | (unfold gW; omega) | (unfold gW; split <;> omega)) (by first | (unfold gW; omega) | (unfold gW; split <;> omega)) (fun c205 => ?_) (fun c205 => ?_)
            · skip
              exact g_vret dX7_pileLess_156 rfl ⟨rfl, fr_li, D2, _, ⟨cf_li_0, by rw [← aJ_nf]; exact cf_li_1, fun m => gX_t _, by omega, by omega, by omega, by omega⟩, fun m m0 m1 => by
                                                                      have h9 := hgb m m0 m1
                                                                      rw [gJ_id (by unfold gX; omega)]; omega, by
                                                                      letI := pR hp
                                                                      have hi9 : i = dgi hp fa + 1 := by omega
                                                                      rw [hi9, trA_e hp hpa (by omega)] at hE
                                                                      show F - pml hp fa fb = _
                                                                      refine hE.symm.trans (ph_cg hp (fun m m0 m1 => ?_)).symm
                                                                      have h9 := hgb m m0 m1
                                                                      rw [gJ_id (by unfold gX; omega)], by omega, by rw [hD2]; split <;> omega⟩
            · skip
              refine g_aload_n 1 dX7_pileLess_90 rfl ?_
              refine g_getf 0 dX7_pileLess_91 kX7 (by decide) fX7_30 cg_li_0 rfl ?_
              refine g_getf 0 dX7_pileLess_94 kX1 (by decide) fX7_108 cg_li_1 rfl ?_
              refine g_i2l dX7_pileLess_97 (by first | (unfold gW; omega) | (unfold gW; split <;> omega)) ?_
              refine g_aload_n 2 dX7_pileLess_98 rfl ?_
              refine g_getf 0 dX7_pileLess_99 kX5 (by decide) fX7_98 cg_li_2 rfl ?_
              refine g_iload_n 0 dX7_pileLess_102 rfl ?_
              refine g_laload dX7_pileLess_103 cg_li_3 (by omega) (by omega) (by omega) ?_
              have hai := aP.2.1 i hi.1 (by omega)
              refine g_lsub dX7_pileLess_104 ?_
              refine g_lstore (ls2 := [(4, .long (gJ (((p : Int)) - ((ga) (i))))), (3, .int (gI (i))), (0, .ref (s)), (1, .ref (a)), (2, .ref (b))]) dX7_pileLess_105 (by decide) rfl ?_
              refine g_iconst dX7_pileLess_107 ?_
              refine g_istore (ls2 := [(6, .int (gI (0))), (4, .long (gJ (((p : Int)) - ((ga) (i))))), (3, .int (gI (i))), (0, .ref (s)), (1, .ref (a)), (2, .ref (b))]) dX7_pileLess_108 (by decide) rfl ?_
              have lj : ∀ (kk : Nat) (j : Int) (hlj : GH), kk = (300 - j).toNat → Fr [s + 2] h hlj → hlj.2 (s + 2) = some (oB 5 [.ref (s + 3), .int (gI (D2))]) → hlj.2 (s + 3) = some (aJ 160 (asR gg gb (p - ga i) i j)) → (0 ≤ j ∧ j ≤ dgi hp fb + 1) → Go N mX7_pileLess (fun v h1 => v = none ∧ Fr [s + 2] h h1 ∧ ∃ D2 g2, RW 160 h1 (s + 2) D2 g2 ∧ (∀ k, 0 ≤ k → k ≤ D2 → 0 ≤ g2 k ∧ g2 k ≤ 8598524526592) ∧ (letI := pR hp; F - pml hp fa fb) = ph hp g2 D2 ∧ D ≤ D2 ∧ (D2 ≤ D ∨ D2 ≤ dgi hp fa + dgi hp fb)) 0 0 hlj 110 [(6, .int (gI (j))), (4, .long (gJ (((p : Int)) - ((ga) (i))))), (3, .int (gI (i))), (0, .ref (s)), (1, .ref (a)), (2, .ref (b))] [] := by
                refine Go.ind (fun kk ih_lj => ?_)
                intro j hlj hkk_lj fr_lj cf_lj_0 cf_lj_1 hj
                have cg_lj_0 : hlj.2 (s) = some (oB 7 [.ref (B + 1), .ref (B + 7), .ref (s + 1), .ref (s + 2), .ref (s + 4), .ref (s + 6), .int (gI (sz))]) := Fr.at0 fr_lj (Ni.c ⟨ne1, ne2⟩ (Ni.n _)) hso
                have cg_lj_1 : hlj.2 (B + 1) = some (oB 1 [.int (gI ((p : Int)))]) := Fr.at0 fr_lj (Ni.c ⟨ne3, ne4⟩ (Ni.n _)) hfl
                have cg_lj_2 : hlj.2 (a) = some (oB 5 [.ref (a + 1), .int (gI (dgi hp fa))]) := Fr.at0 fr_lj (Ni.c ⟨ne6, ne7⟩ (Ni.n _)) a1
                have cg_lj_3 : hlj.2 (a + 1) = some (aJ n (ga)) := Fr.at0 fr_lj (Ni.c ⟨ne8, ne9⟩ (Ni.n _)) a2
                have cg_lj_4 : hlj.2 (b) = some (oB 5 [.ref (b + 1), .int (gI (dgi hp fb))]) := Fr.at0 fr_lj (Ni.c ⟨ne11, ne12⟩ (Ni.n _)) b1
                have cg_lj_5 : hlj.2 (b + 1) = some (aJ m (gb)) := Fr.at0 fr_lj (Ni.c ⟨ne13, ne14⟩ (Ni.n _)) b2
                refine g_iload 0 dX7_pileLess_110 rfl ?_
                refine g_aload_n 5 dX7_pileLess_112 rfl ?_
                refine g_getf 1 dX7_pileLess_113 kX5 (by decide) fX7_80 cg_lj_4 rfl ?_
                refine g_icmp_gt (tgt := 150) dX7_pileLess_116 rfl (by first | (unfold gW; omega) | (unfold gW; split <;> omega)) (by first | (unfold gW; omega) | (unfold gW; split <;> omega)) (fun c306 => ?_) (fun c306 => ?_)
                · skip
                  refine g_iinc 2 (ls2 := [(3, .int (gI (i + 1))), (6, .int (gI (j))), (4, .long (gJ (((p : Int)) - ((ga) (i))))), (0, .ref (s)), (1, .ref (a)), (2, .ref (b))]) dX7_pileLess_150 rfl (by decide) rfl ?_
                  refine g_goto (tgt := 82) dX7_pileLess_153 rfl ?_
                  refine Go.sub [0, 3, 4, 5] rfl ?_
                  exact ih_li _ (by omega) (i + 1) (asR gg gb (p - ga i) i (dgi hp fb + 1)) hlj rfl fr_lj cf_lj_0 (by
                                                                      have hj9 : j = dgi hp fb + 1 := by omega
                                                                      have e9 := cf_lj_1
                                                                      rw [hj9] at e9
                                                                      exact e9) (by omega) (fun m m0 m1 => by
                                                                      have h9 := hgb m m0 m1
                                                                      unfold asR
                                                                      split
                                                                      · have hbj := bP.2.1 (m - i) (by omega) (by omega)
                                                                        have bm : 0 ≤ (p - ga i) * gb (m - i) ∧ (p - ga i) * gb (m - i) ≤ 65536 * 65536 := ⟨Int.mul_nonneg (by omega) hbj.1, Int.mul_le_mul (by omega) (by omega) hbj.1 (by omega)⟩
                                                                        omega
                                                                      · omega) (pl_turn hp bP hi.1 (by omega) (show dgi hp fa + dgi hp fb ≤ D2 by omega) (by
                                                                      rw [zi_sub, zi_p]
                                                                      have e9 := PO_cf aP hi.1 (by omega)
                                                                      have e8 := cf_zi hp fa i.toNat
                                                                      rw [show ((i.toNat : Nat) : Int) = i by omega] at e8
                                                                      rw [e9, e8]
                                                                      letI := fR hp
                                                                      generalize fa i.toNat = x
                                                                      grind) hE)
                · skip
                  refine g_aload_n 3 dX7_pileLess_119 rfl ?_
                  refine g_getf 3 dX7_pileLess_120 kX7 (by decide) fX7_20 cg_lj_0 rfl ?_
                  refine g_getf 0 dX7_pileLess_123 kX5 (by decide) fX7_98 cf_lj_0 rfl ?_
                  refine g_iload_n 2 dX7_pileLess_126 rfl ?_
                  refine g_iload 0 dX7_pileLess_127 rfl ?_
                  refine g_iadd dX7_pileLess_129 ?_
                  refine g_dup2 dX7_pileLess_130 rfl rfl ?_
                  refine g_laload dX7_pileLess_131 cf_lj_1 (by omega) (by omega) (by omega) ?_
                  have erd : asR gg gb (p - ga i) i j (i + j) = gg (i + j) := asR_at _ _ _ _ _
                  rw [erd]
                  refine g_lload 1 dX7_pileLess_132 rfl ?_
                  refine g_aload_n 5 dX7_pileLess_134 rfl ?_
                  refine g_getf 0 dX7_pileLess_135 kX5 (by decide) fX7_98 cg_lj_4 rfl ?_
                  refine g_iload 0 dX7_pileLess_138 rfl ?_
                  refine g_laload dX7_pileLess_140 cg_lj_5 (by omega) (by omega) (by omega) ?_
                  have hbj := bP.2.1 j hj.1 (by omega)
                  have bm : 0 ≤ (p - ga i) * gb j ∧ (p - ga i) * gb j ≤ 65536 * 65536 := ⟨Int.mul_nonneg (by omega) hbj.1, Int.mul_le_mul (by omega) (by omega) hbj.1 (by omega)⟩
                  have hgg := hgb (i + j) (by omega) (by omega)
                  refine g_lmul dX7_pileLess_141 ?_
                  refine g_ladd dX7_pileLess_142 ?_
                  refine g_lastore dX7_pileLess_143 cf_lj_1 (by omega) (by omega) (by omega) ?_
                  obtain ⟨hh307, eh307⟩ : ∃ z : GH, z = hset hlj (s + 3) (aJ 160 (gup (asR gg gb (p - ga i) i j) ((i) + (j)) ((gg (i + j)) + ((((p : Int)) - ((ga) (i))) * ((gb) (j)))))) := ⟨_, rfl⟩
                  refine Go.hp eh307.symm ?_
                  have fh307_0 : hh307.2 (s) = some (oB 7 [.ref (B + 1), .ref (B + 7), .ref (s + 1), .ref (s + 2), .ref (s + 4), .ref (s + 6), .int (gI (sz))]) := hs_n eh307 ne2 cg_lj_0
                  have fh307_1 : hh307.2 (B + 1) = some (oB 1 [.int (gI ((p : Int)))]) := hs_n eh307 ne4 cg_lj_1
                  have fh307_2 : hh307.2 (a) = some (oB 5 [.ref (a + 1), .int (gI (dgi hp fa))]) := hs_n eh307 ne7 cg_lj_2
                  have fh307_3 : hh307.2 (a + 1) = some (aJ n (ga)) := hs_n eh307 ne9 cg_lj_3
                  have fh307_4 : hh307.2 (b) = some (oB 5 [.ref (b + 1), .int (gI (dgi hp fb))]) := hs_n eh307 ne12 cg_lj_4
                  have fh307_5 : hh307.2 (b + 1) = some (aJ m (gb)) := hs_n eh307 ne14 cg_lj_5
                  have fh307_6 : hh307.2 (s + 2) = some (oB 5 [.ref (s + 3), .int (gI (D2))]) := hs_n eh307 ne15 cf_lj_0
                  have fh307_7 : hh307.2 (s + 3) = some (aJ 160 (gup (asR gg gb (p - ga i) i j) ((i) + (j)) ((gg (i + j)) + ((((p : Int)) - ((ga) (i))) * ((gb) (j)))))) := hs_s eh307
                  have fr307 : Fr [s + 2] h hh307 := Fr.w1 fr_lj (List.Mem.head _) eh307
                  refine g_iinc 0 (ls2 := [(6, .int (gI (j + 1))), (4, .long (gJ (((p : Int)) - ((ga) (i))))), (3, .int (gI (i))), (0, .ref (s)), (1, .ref (a)), (2, .ref (b))]) dX7_pileLess_144 rfl (by decide) rfl ?_
                  refine g_goto (tgt := 110) dX7_pileLess_147 rfl ?_
                  exact ih_lj _ (by omega) (j + 1) hh307 rfl fr307 fh307_6 (by
                                                                      have e9 := fh307_7
                                                                      rw [asR_s gg gb hj.1] at e9
                                                                      exact e9) (by omega)
              exact lj _ (0) hli rfl fr_li cf_li_0 (by rw [asR_0]; exact cf_li_1) (by omega)
          exact li _ (0) (gZ gx (D + 1) k) hh104 rfl fr104 f2 fh104_7 (by omega) (fun m m0 m1 => by have := hz0 m m0 m1; omega) (by
                                                                      letI := pR hp
                                                                      rw [hpz, trA_0]
                                                                      generalize F = x
                                                                      grind)
        · skip
          refine g_aload_n 1 dX7_pileLess_38 rfl ?_
          refine g_getf 3 dX7_pileLess_39 kX7 (by decide) fX7_20 cg_lz_0 rfl ?_
          refine g_getf 0 dX7_pileLess_42 kX5 (by decide) fX7_98 cf_lz_0 rfl ?_
          refine g_iload_n 0 dX7_pileLess_45 rfl ?_
          refine g_lconst0 dX7_pileLess_46 ?_
          refine g_lastore dX7_pileLess_47 cf_lz_1 (by omega) (by omega) (by omega) ?_
          obtain ⟨hh508, eh508⟩ : ∃ z : GH, z = hset hlz (s + 3) (aJ 160 (gup (gZ gx (D + 1) k) (k) (0))) := ⟨_, rfl⟩
          refine Go.hp eh508.symm ?_
          have fh508_0 : hh508.2 (s) = some (oB 7 [.ref (B + 1), .ref (B + 7), .ref (s + 1), .ref (s + 2), .ref (s + 4), .ref (s + 6), .int (gI (sz))]) := hs_n eh508 ne2 cg_lz_0
          have fh508_1 : hh508.2 (B + 1) = some (oB 1 [.int (gI ((p : Int)))]) := hs_n eh508 ne4 cg_lz_1
          have fh508_2 : hh508.2 (a) = some (oB 5 [.ref (a + 1), .int (gI (dgi hp fa))]) := hs_n eh508 ne7 cg_lz_2
          have fh508_3 : hh508.2 (a + 1) = some (aJ n (ga)) := hs_n eh508 ne9 cg_lz_3
          have fh508_4 : hh508.2 (b) = some (oB 5 [.ref (b + 1), .int (gI (dgi hp fb))]) := hs_n eh508 ne12 cg_lz_4
          have fh508_5 : hh508.2 (b + 1) = some (aJ m (gb)) := hs_n eh508 ne14 cg_lz_5
          have fh508_6 : hh508.2 (s + 2) = some (oB 5 [.ref (s + 3), .int (gI (D))]) := hs_n eh508 ne15 cf_lz_0
          have fh508_7 : hh508.2 (s + 3) = some (aJ 160 (gup (gZ gx (D + 1) k) (k) (0))) := hs_s eh508
          have fr508 : Fr [s + 2] h hh508 := Fr.w1 fr_lz (List.Mem.head _) eh508
          refine g_iinc 0 (ls2 := [(3, .int (gI (k + 1))), (0, .ref (s)), (1, .ref (a)), (2, .ref (b))]) dX7_pileLess_48 rfl (by decide) rfl ?_
          refine g_goto (tgt := 25) dX7_pileLess_51 rfl ?_
          exact ih_lz _ (by omega) (k + 1) hh508 rfl fr508 fh508_6 (by rw [← gZ_s gx (by omega)]; exact fh508_7) (by omega)
      exact lz _ (D + 1) h rfl (Fr.rf [s + 2] h) x1 (by rw [gZ_0]; exact x2) (by omega)
    · skip
      exact g_vret dX7_pileLess_14 rfl ⟨rfl, (Fr.rf [s + 2] h), D, gx, ⟨x1, x2, x3, x4, x5, x6, x7⟩, fun m m0 m1 => by have := xb m m0 m1; omega, by
                                                                      rw [← xp]
                                                                      letI := pR hp
                                                                      show F - pml hp fa fb = F
                                                                      have e9 : pml hp fa fb = 0 := by
                                                                        refine dgi_z hp (mul_po hpa hpb) ?_
                                                                        have : dgi hp (pml hp fa fb) = _ := mul_dgi hp hpa hpb
                                                                        rw [this, if_pos (by omega)]; omega
                                                                      rw [e9]
                                                                      generalize F = x
                                                                      grind, by omega, by omega⟩
set_option maxHeartbeats 4000000 in
set_option maxRecDepth 100000 in
theorem sS_cell0 (N : GN) (h : GH) (B s r : Nat) (sz i k : Int) (g : Int → Option Nat) (hik : 0 ≤ i * sz + k ∧ i * sz + k < 144) (hso : h.2 s = some (sO B s sz)) (hli : h.2 (s + 1) = some (aR "PolyWork$Row" 144 g)) (hgi : g (i * sz + k) = some r) : Sp N yX7_cell mX7_cell 0 0 [.ref (s), .int (gI (i)), .int (gI (k))] h (fun v h1 => h1 = h ∧ v = some (.ref r)) := by
  refine Sp.of (by decide) rfl rfl (Nat.le_of_ble_eq_true rfl) ?_
  show Go N mX7_cell _ 0 0 h 0 [(0, .ref (s)), (1, .int (gI (i))), (2, .int (gI (k)))] []
  refine g_aload_n 0 dX7_cell_0 rfl ?_
  refine g_getf 2 dX7_cell_1 kX7 (by decide) fX7_11 hso rfl ?_
  refine g_iload_n 1 dX7_cell_4 rfl ?_
  refine g_aload_n 0 dX7_cell_5 rfl ?_
  refine g_getf 6 dX7_cell_6 kX7 (by decide) fX7_42 hso rfl ?_
  refine g_imul dX7_cell_9 ?_
  refine g_iload_n 2 dX7_cell_10 rfl ?_
  refine g_iadd dX7_cell_11 ?_
  refine g_callS (nc2 := 0) (ns2 := 0) (As := [.ref (s + 1), .int (gI (((i) * (sz)) + (k)))]) (st := []) rfl dX7_cell_12 okX5_in lX7_46 stX5_in (by decide) (by decide) rfl (Nat.le_of_ble_eq_true rfl) (sL_in0 N _ (s + 1) 144 r g (((i) * (sz)) + (k)) (by omega) (by omega) hli hgi) (by omega) (by omega) (fun v1 hc1 q1 => ?_)
  obtain ⟨hq2, rfl⟩ := q1
  refine Go.nf (h' := h) (st' := [.ref (r)]) hq2 rfl (Nat.le_refl _) (Nat.le_refl _) ?_
  exact g_aret (a := some (r)) dX7_cell_15 rfl ⟨rfl, rfl⟩
theorem lsq_c {s a : Nat} {L : List Nat} (h : a + 2 ≤ s + 8 ∧ (a + 2 ≤ s + 1 ∨ s + 2 ≤ a)) (t : ∀ x ∈ L, x + 2 ≤ s + 8 ∧ (x + 2 ≤ s + 1 ∨ s + 2 ≤ x)) : ∀ x ∈ a :: L, x + 2 ≤ s + 8 ∧ (x + 2 ≤ s + 1 ∨ s + 2 ≤ x) := fun x hx => by
  rcases List.mem_cons.mp hx with z | z
  · rw [z]; exact h
  · exact t x z
set_option maxHeartbeats 4000000 in
set_option maxRecDepth 100000 in
theorem sS_pivotRow (N : GN) (h : GH) (B s p : Nat) (hp : prm p) (sz k : Int) (hsz : 1 ≤ sz ∧ sz ≤ 12) (hk : 0 ≤ k ∧ k < sz) (g : Int → Option Nat) (C : Int → Int → Px p) (hso : h.2 s = some (sO B s sz)) (hls : LSq hp s h g sz C) : Sp N yX7_pivotRow mX7_pivotRow 0 0 [.ref (s), .int (gI (k))] h (fun v h1 => h1 = h ∧ ((∃ w, k ≤ w ∧ w < sz ∧ 0 ≤ dgi hp (C w k) ∧ (∀ t, k ≤ t → t < w → dgi hp (C t k) < 0) ∧ v = some (.int (gI w))) ∨ (v = some (.int (gI (-1))) ∧ ∀ t, k ≤ t → t < sz → dgi hp (C t k) < 0))) := by
  refine Sp.of (by decide) rfl rfl (Nat.le_of_ble_eq_true rfl) ?_
  show Go N mX7_pivotRow _ 0 0 h 0 [(0, .ref (s)), (1, .int (gI (k)))] []
  refine g_iload_n 1 dX7_pivotRow_0 rfl ?_
  refine g_istore_n (ls2 := [(2, .int (gI (k))), (0, .ref (s)), (1, .int (gI (k)))]) dX7_pivotRow_1 rfl (by decide) rfl ?_
  have lo : ∀ (kk : Nat) (w : Int) (hlo : GH), kk = (12 - w).toNat → Fr [] h hlo → LSq hp s hlo (g) sz (C) → (k ≤ w ∧ w ≤ sz) → (∀ t, k ≤ t → t < w → dgi hp (C t k) < 0) → Go N mX7_pivotRow (fun v h1 => h1 = h ∧ ((∃ w, k ≤ w ∧ w < sz ∧ 0 ≤ dgi hp (C w k) ∧ (∀ t, k ≤ t → t < w → dgi hp (C t k) < 0) ∧ v = some (.int (gI w))) ∨ (v = some (.int (gI (-1))) ∧ ∀ t, k ≤ t → t < sz → dgi hp (C t k) < 0))) 0 0 hlo 2 [(2, .int (gI (w))), (0, .ref (s)), (1, .int (gI (k)))] [] := by
    refine Go.ind (fun kk ih_lo => ?_)
    intro w hlo hkk_lo fr_lo cr_lo_0 hw hZ
    have cg_lo_0 : hlo.2 (s) = some (oB 7 [.ref (B + 1), .ref (B + 7), .ref (s + 1), .ref (s + 2), .ref (s + 4), .ref (s + 6), .int (gI (sz))]) := Fr.at0 fr_lo (Ni.n _) hso
    refine g_iload_n 0 dX7_pivotRow_2 rfl ?_
    refine g_aload_n 1 dX7_pivotRow_3 rfl ?_
    refine g_getf 6 dX7_pivotRow_4 kX7 (by decide) fX7_42 cg_lo_0 rfl ?_
    refine g_icmp_ge (tgt := 30) dX7_pivotRow_7 rfl (by first | assumption | (unfold gW; omega) | (unfold gW; split <;> omega)) (by first | assumption | (unfold gW; omega) | (unfold gW; split <;> omega)) (fun c101 => ?_) (fun c101 => ?_)
    · skip
      refine g_iconst dX7_pivotRow_30 ?_
      exact g_iret dX7_pivotRow_31 rfl ⟨Fr.e0 fr_lo, Or.inr ⟨rfl, fun t t0 t1 => hZ t t0 (by omega)⟩⟩
    · skip
      refine g_aload_n 1 dX7_pivotRow_10 rfl ?_
      refine g_iload_n 0 dX7_pivotRow_11 rfl ?_
      refine g_iload_n 2 dX7_pivotRow_12 rfl ?_
      obtain ⟨r103, hg103, hP103⟩ := (cr_lo_0).2 (w) (k) (by omega) (by omega) (by omega) (by omega)
      have hb103 := ix_bd (sz := sz) (show 0 ≤ w by omega) (show w < sz by omega) (show 0 ≤ k by omega) (show k < sz by omega) hsz.2
      have lr103 := ((cr_lo_0).1.2.1 _ r103 hg103).1
      refine g_callV (nc2 := 0) (ns2 := 0) (ci := 7) (As := [.int (gI (w)), .int (gI (k))]) (st := []) rfl dX7_pivotRow_13 okX7_cell lX7_55 itX7_cell seX7_cell rfl cg_lo_0 (by decide) (by decide) rfl (Nat.le_of_ble_eq_true rfl) (sS_cell0 N _ B s r103 sz (w) (k) g hb103 cg_lo_0 (cr_lo_0).1.1 hg103) (by omega) (by omega) (fun v102 hc102 q102 => ?_)
      obtain ⟨hq103, rfl⟩ := q102
      refine Go.nf (h' := hlo) (st' := [.ref (r103)]) hq103 rfl (Nat.le_refl _) (Nat.le_refl _) ?_
      have hlr := (hP103).lt
      refine g_getf 1 dX7_pivotRow_16 kX5 (by decide) fX7_80 (hP103).o rfl ?_
      refine g_if_lt (tgt := 24) dX7_pivotRow_19 rfl (by first | assumption | (unfold gW; omega) | (unfold gW; split <;> omega)) (fun c104 => ?_) (fun c104 => ?_)
      · skip
        refine g_iinc 0 (ls2 := [(2, .int (gI (w + 1))), (0, .ref (s)), (1, .int (gI (k)))]) dX7_pivotRow_24 rfl (by decide) rfl ?_
        refine g_goto (tgt := 2) dX7_pivotRow_27 rfl ?_
        exact ih_lo _ (by omega) (w + 1) hlo rfl fr_lo cr_lo_0 (by omega) (fun t t0 t1 => by
                                                                      rcases Int.lt_or_le t w with z | z
                                                                      · exact hZ t t0 z
                                                                      · rw [show t = w by omega]; omega)
      · skip
        refine g_iload_n 0 dX7_pivotRow_22 rfl ?_
        exact g_iret dX7_pivotRow_23 rfl ⟨Fr.e0 fr_lo, Or.inl ⟨w, hw.1, by omega, by omega, hZ, rfl⟩⟩
  exact lo _ (k) h rfl (Fr.rf [] h) hls (by omega) (fun t t0 t1 => by omega)
