theorem sm_tail {K : Type} (R : Lean.Grind.CommRing K) {n m : Nat} {f : Nat → K} (h : n ≤ m) (hz : letI := R; ∀ i, n ≤ i → f i = 0) : sm R m f = sm R n f := by
  letI := R
  induction m with
  | zero => rw [show n = 0 by omega]
  | succ m ih =>
    rcases Nat.lt_or_ge m n with z | z
    · rw [show n = m + 1 by omega]
    · show sm R m f + f m = sm R n f
      rw [ih z, hz m z]
      grind
/-- the product -/
abbrev pml {p : Nat} (h : prm p) (f g : Px p) : Px p := zmul (fR h) f g
theorem gMod_em {n p : Int} (hp : 0 < p) : gMod n p = n % p := by
  unfold gMod
  rw [Int.tmod_eq_emod]
  have h1 := Int.emod_nonneg n (show p ≠ 0 by omega)
  have h2 := Int.emod_lt_of_pos n hp
  split
  · rename_i z
    rcases z with z | z
    · simp [h1]
    · have : n % p = 0 := Int.emod_eq_zero_of_dvd z
      rw [this]; simp
  · rw [if_neg (by omega)]
    omega
theorem RA.o {n : Nat} {hh : GH} {r : Nat} (w : RA n hh r) : ∃ d, hh.2 r = some (oB 5 [.ref (r + 1), .int (gI d)]) := by
  obtain ⟨d, g, b⟩ := w
  exact ⟨d, b.1⟩
section
variable {p : Nat}
theorem RU.o {h : prm p} {n : Nat} {hh : GH} {r : Nat} {d U : Int} {f : Px p} (w : RU h n hh r d U f) : hh.2 r = some (oB 5 [.ref (r + 1), .int (gI d)]) := by
  obtain ⟨g, b, _⟩ := w
  exact b.1
theorem RP.cp {h : prm p} {n m : Nat} {hh h1 : GH} {r : Nat} {f : Px p} {d : Int} {g g1 gf : Int → Int} (hp : p ≤ 65536) (hd : dgi h f < n) (hn : 1 ≤ n ∧ n ≤ 1000) (hf : PO h (dgi h f) gf f) (e1 : ∀ j, 0 ≤ j → g1 j = if j ≤ (if (n : Int) - 1 < dgi h f then (n : Int) - 1 else dgi h f) then gf j else g j) (eh : h1 = hset (hset hh r (oB 5 [.ref (r + 1), .int (gI (if (n : Int) - 1 < dgi h f then (n : Int) - 1 else dgi h f))])) (r + 1) (aJ n g1)) : RP h n h1 r f := by
  rw [if_neg (by omega)] at eh
  refine RP.mk (d := dgi h f) (g := g1) ?_ (hs_s eh) ⟨hd, hn⟩ (hf.cg (fun k k0 k1 => ?_)) hp
  · rw [eh, hset_n _ _ (by omega)]; exact hset_s _ _ _
  · have e9 : (if (n : Int) - 1 < dgi h f then (n : Int) - 1 else dgi h f) = dgi h f := if_neg (by omega)
    rw [e1 k k0, e9, if_pos k1]
/-- number times f -/
theorem PO_sm {h : prm p} {g g2 : Int → Int} {f : Px p} {d c : Int} (w : PO h d g f) (hc : letI := fR h; zi h c ≠ 0) (e : ∀ k, 0 ≤ k → k ≤ d → g2 k = g k * c % p) : letI := pR h; PO h d g2 (cz h (zi h c) * f) := by
  letI := pR h
  have hp := h.1
  have w2 := w
  obtain ⟨a1, a2, a3, a4⟩ := w2
  have hd := w.dgi
  refine PO_of ?_ ?_ (fun k k0 k1 => ?_)
  · rw [mul_dgi h (cz_po h _) w.po, cz_dgi h hc, hd]
    by_cases z : d < 0
    · rw [if_pos (Or.inr z)]; omega
    · rw [if_neg (by omega)]; omega
  · refine funext fun k => ?_
    show zmul (fR h) (zc (fR h) (zi h c)) f k = _
    rw [zmul_c, a4]
    letI := fR h
    show zi h c * (if (k : Int) ≤ d then zi h (g k) else 0) = (if (k : Int) ≤ d then zi h (g2 k) else 0)
    by_cases z : (k : Int) ≤ d
    · rw [if_pos z, if_pos z, e k (by omega) z, zi_mod, zi_mul]; grind
    · rw [if_neg z, if_neg z]; grind
  · rw [e k k0 k1]
    exact ⟨Int.emod_nonneg _ (by omega), Int.emod_lt_of_pos _ (by omega)⟩
theorem PO_cz {h : prm p} {g : Int → Int} {c : Int} (h0 : 0 ≤ c) (h1 : c < p) (e : g 0 = c) : PO h (if c = 0 then -1 else 0) g (cz h (zi h c)) := by
  by_cases z : c = 0
  · rw [if_pos z]
    have e2 : zi h c = zi h 0 := by rw [z]
    refine PO_of ?_ ?_ (fun k k0 k1 => by omega)
    · rw [e2, zi_0 h]; exact (congrArg (dgi h) (cz_0 h)).trans (dgi_0 h)
    · rw [e2, zi_0 h]
      refine funext fun k => ?_
      letI := fR h
      show (if k = 0 then (0 : Fp p) else 0) = (if (k : Int) ≤ -1 then zi h (g k) else 0)
      rw [if_neg (show ¬ (k : Int) ≤ -1 by omega)]
      split <;> rfl
  · rw [if_neg z]
    refine PO_of (cz_dgi h (zi_ne h (by omega) h1)) ?_ (fun k k0 k1 => ?_)
    · refine funext fun k => ?_
      letI := fR h
      show (if k = 0 then zi h c else 0) = (if (k : Int) ≤ 0 then zi h (g k) else 0)
      by_cases y : k = 0
      · rw [if_pos y, if_pos (by omega), y]; show _ = zi h (g 0); rw [e]
      · rw [if_neg y, if_neg (by omega)]
    · have : k = 0 := by omega
      rw [this, e]; exact ⟨h0, h1⟩
/-- monic: divided by its leading number -/
noncomputable def mon (h : prm p) (f : Px p) : Px p := letI := pR h; cz h (zi h (ivr p (ld h f))) * f
theorem mon_0 (h : prm p) {f : Px p} (hf : po (fR h) f) (hd : dgi h f < 0) : mon h f = f := by
  letI := pR h
  show cz h (zi h (ivr p (ld h f))) * f = f
  rw [dgi_z h hf hd]; grind
theorem ld_in (h : prm p) {f : Px p} (hf : po (fR h) f) (hd : 0 ≤ dgi h f) : 0 < ld h f ∧ ld h f < p := by
  have h1 := cf_in f h (dgi h f)
  have h2 := (dgi_dg h hf hd).1
  unfold ld
  refine ⟨?_, h1.2⟩
  rcases Int.lt_or_eq_of_le h1.1 with z | z
  · exact z
  · exfalso
    apply h2
    have h3 := cf_zi h f (dgi h f).toNat
    rw [show (((dgi h f).toNat : Nat) : Int) = dgi h f by omega, ← z] at h3
    rw [← h3]; exact zi_0 h
theorem iv_ne (h : prm p) {a : Int} (h0 : 0 < a) (h1 : a < p) : letI := fR h; zi h (ivr p a) ≠ 0 := by
  letI := fR h
  intro e
  have := ivr_zi h h0 h1
  rw [e] at this
  have h2 : (0 : Fp p) * zi h a = 0 := by grind
  rw [h2] at this
  exact (fld_p h).2 this.symm
/-- the product as pile leaves it -/
theorem pil_ph {h : prm p} {ga gb gc : Int → Int} {d e : Int} {fa fb : Px p} (wa : PO h d ga fa) (wb : PO h e gb fb) : letI := pR h; fa * fb = ph h (pil ga gb gc e (if d < 0 ∨ e < 0 then -1 else d + e) (d + 1).toNat) (if d < 0 ∨ e < 0 then -1 else d + e) := by
  letI := pR h
  have da := wa.1
  have db := wb.1
  by_cases z : d < 0 ∨ e < 0
  · rw [if_pos z]
    have e0 : fa * fb = 0 := by
      rcases z with z | z
      · rw [dgi_z h wa.po (by rw [wa.dgi]; exact z)]; grind
      · rw [dgi_z h wb.po (by rw [wb.dgi]; exact z)]; grind
    rw [e0]
    refine funext fun k => ?_
    rw [zero_k]
    letI := fR h
    show 0 = (if (k : Int) ≤ -1 then _ else 0)
    rw [if_neg (by omega)]
  · rw [if_neg z]
    refine funext fun k => ?_
    letI := fR h
    show zmul (fR h) fa fb k = (if (k : Int) ≤ d + e then zi h (if 0 ≤ (k : Int) ∧ (k : Int) ≤ d + e then cvp ga gb e (d + 1).toNat k else gc k) else 0)
    by_cases y : (k : Int) ≤ d + e
    · rw [if_pos y, if_pos ⟨by omega, y⟩]
      unfold cvp
      rw [zs_zi]
      unfold zmul
      have ea : ∀ i : Nat, fa i = if (i : Int) ≤ d then zi h (ga i) else 0 := fun i => by rw [wa.2.2.2]; rfl
      have eb : ∀ i : Nat, fb i = if (i : Int) ≤ e then zi h (gb i) else 0 := fun i => by rw [wb.2.2.2]; rfl
      have term : ∀ i : Nat, i ≤ k → fa i * fb (k - i) = if (i : Int) ≤ d then zi h (if (i : Int) ≤ (k : Int) ∧ (k : Int) - i ≤ e then ga i * gb ((k : Int) - i) else 0) else 0 := fun i hi => by
        rw [ea, eb]
        by_cases x : (i : Int) ≤ d
        · rw [if_pos x, if_pos x]
          by_cases v : (k : Int) - i ≤ e
          · rw [if_pos (show ((k - i : Nat) : Int) ≤ e by omega), if_pos (show (i : Int) ≤ (k : Int) ∧ (k : Int) - i ≤ e from ⟨by omega, v⟩), zi_mul h, show ((k - i : Nat) : Int) = (k : Int) - i by omega]
          · rw [if_neg (show ¬ ((k - i : Nat) : Int) ≤ e by omega), if_neg (show ¬ ((i : Int) ≤ (k : Int) ∧ (k : Int) - i ≤ e) by omega), zi_0 h]; grind
        · rw [if_neg x, if_neg x]; grind
      rcases Nat.le_total (k + 1) (d + 1).toNat with w | w
      · rw [sm_tail (fR h) w (fun i hi => by rw [if_neg (by omega), zi_0 h])]
        exact sm_congr (fR h) (fun i hi => by rw [term i (by omega), if_pos (by omega)])
      · rw [sm_tail (f := fun i => fa i * fb (k - i)) (fR h) w (fun i hi => by rw [ea, if_neg (by omega)]; grind)]
        exact sm_congr (fR h) (fun i hi => by rw [term i (by omega), if_pos (by omega)])
    · rw [if_neg y]
      have := mul_dl (fR h) (n := d.toNat) (m := e.toNat) (by have := dgi_dl h wa.po; rw [wa.dgi] at this; rw [show d.toNat + 1 = (d + 1).toNat by omega]; exact this) (by have := dgi_dl h wb.po; rw [wb.dgi] at this; rw [show e.toNat + 1 = (e + 1).toNat by omega]; exact this)
      exact this k (by omega)
theorem pil_bd {h : prm p} (hp : p ≤ 65536) {ga gb gc : Int → Int} {d e : Int} {fa fb : Px p} (wa : PO h d ga fa) (wb : PO h e gb fb) (hd : d < 1000) (t : Int) (k : Int) (h0 : 0 ≤ k) (h1 : k ≤ t) : 0 ≤ pil ga gb gc e t (d + 1).toNat k ∧ pil ga gb gc e t (d + 1).toNat k ≤ 4299262263296 := by
  unfold pil
  rw [if_pos ⟨h0, h1⟩]
  unfold cvp
  have hw := wa.1
  have := zs_bd (d + 1).toNat (fun i => if (i : Int) ≤ k ∧ k - i ≤ e then ga i * gb (k - i) else 0) (U := 4294967296) (fun i hi => by
    by_cases zz : (i : Int) ≤ k ∧ k - i ≤ e
    · show 0 ≤ (if (i : Int) ≤ k ∧ k - i ≤ e then ga i * gb (k - i) else 0) ∧ (if (i : Int) ≤ k ∧ k - i ≤ e then ga i * gb (k - i) else 0) ≤ 4294967296
      rw [if_pos zz]
      have b1 := wa.2.1 i (by omega) (by omega)
      have b2 := wb.2.1 (k - i) (by omega) (by omega)
      exact g_prod b1.1 b1.2 b2.1 b2.2 (by omega)
    · show 0 ≤ (if (i : Int) ≤ k ∧ k - i ≤ e then ga i * gb (k - i) else 0) ∧ (if (i : Int) ≤ k ∧ k - i ≤ e then ga i * gb (k - i) else 0) ≤ 4294967296
      rw [if_neg zz]
      omega)
  refine ⟨this.1, Int.le_trans this.2 ?_⟩
  have : (((d + 1).toNat : Nat) : Int) ≤ 1001 := by omega
  omega
end
theorem sP_copy (N : GN) (h : GH) (r r2 n m p : Nat) (hp : prm p) (hp2 : p ≤ 65536) (f : Px p) (hr : RA n h r) (hb : RP hp m h r2 f) (hd : dgi hp f < n) (ap : AP r r2) : Sp N yX5_copy mX5_copy 0 0 [.ref r, .ref r2] h (fun v h1 => v = none ∧ Fr [r] h h1 ∧ RP hp n h1 r f) := by
  obtain ⟨d, g, hr1, hr2, hr3, hr4, hr5, hr6, hr7⟩ := hr
  obtain ⟨gf, ⟨hb1, hb2, hb3, hb4, hb5, hb6, hb7⟩, hPb⟩ := hb
  have ap2 := ap
  unfold AP at ap2
  refine Sp.imp (sX5_copy N h r (r + 1) n r2 (r2 + 1) m d (dgi hp f) g gf hr6 hr7 hb7 hb4 hb5 (by omega) (by omega) (by omega) (by omega) (by omega) hr1 hr2 hb1 hb2) (fun v h1 q => ?_)
  obtain ⟨rfl, g1, e1, e2⟩ := q
  refine ⟨rfl, ?_, RP.cp (m := m) (d := d) (g := g) hp2 hd ⟨hr6, hr7⟩ hPb e1 e2⟩
  exact Fr.w1 (Fr.w0 (Fr.rf _ _) (List.Mem.head _) rfl) (List.Mem.head _) e2
set_option maxHeartbeats 4000000 in
set_option maxRecDepth 100000 in
theorem sP_become (N : GN) (h : GH) (r n p : Nat) (hp : prm p) (hp2 : p ≤ 65536) (c : Int) (c0 : 0 ≤ c) (c1 : c < p) (hr : RA n h r) : Sp N yX5_become mX5_become 0 0 [.ref (r), .long (gJ (c))] h (fun v h1 => v = none ∧ Fr [r] h h1 ∧ RP hp n h1 r (cz hp (zi hp c))) := by
  refine Sp.of (by decide) rfl rfl (Nat.le_of_ble_eq_true rfl) ?_
  show Go N mX5_become _ 0 0 h 0 [(0, .ref (r)), (1, .long (gJ (c)))] []
  obtain ⟨d, g, hr1, hr2, hr3, hr4, hr5, hr6, hr7⟩ := hr
  have ne0 : NE r (r + 1) := by unfold NE; omega
  refine g_aload_n 0 dX5_become_0 rfl ?_
  refine g_getf 0 dX5_become_1 kX5 (by decide) fX5_15 hr1 rfl ?_
  refine g_iconst dX5_become_4 ?_
  refine g_lload_n 1 dX5_become_5 rfl ?_
  refine g_lastore dX5_become_6 hr2 (by omega) (by omega) (by omega) ?_
  obtain ⟨hh1, eh1⟩ : ∃ z : GH, z = hset h (r + 1) (aJ n (gup (g) (0) (c))) := ⟨_, rfl⟩
  refine Go.hp eh1.symm ?_
  have fh1_0 : hh1.2 (r) = some (oB 5 [.ref (r + 1), .int (gI (d))]) := hs_n eh1 ne0 hr1
  have fh1_1 : hh1.2 (r + 1) = some (aJ n (gup (g) (0) (c))) := hs_s eh1
  have fr1 : Fr [r] h hh1 := Fr.w1 (Fr.rf [r] h) (List.Mem.head _) eh1
  refine g_aload_n 0 dX5_become_7 rfl ?_
  refine g_lload_n 1 dX5_become_8 rfl ?_
  refine g_lconst0 dX5_become_9 ?_
  refine g_lcmp dX5_become_10 (by unfold gX; omega) (by unfold gX; omega) ?_
  refine g_if_ne (tgt := 18) dX5_become_11 rfl (gW_cmp _ _) (fun c2 => ?_) (fun c2 => ?_)
  · skip
    have hz := fun z => c2 (gcmp_eq.mpr z)
    refine g_iconst dX5_become_18 ?_
    refine g_putf 1 dX5_become_19 kX5 (by decide) fX5_9 rfl fh1_0 (Nat.le_of_ble_eq_true rfl) rfl rfl ?_
    obtain ⟨hh3, eh3⟩ : ∃ z : GH, z = hset hh1 (r) (oB 5 [.ref (r + 1), .int (gI (0))]) := ⟨_, rfl⟩
    refine Go.hp eh3.symm ?_
    have fh3_0 : hh3.2 (r) = some (oB 5 [.ref (r + 1), .int (gI (0))]) := hs_s eh3
    have fh3_1 : hh3.2 (r + 1) = some (aJ n (gup (g) (0) (c))) := hs_n eh3 (ne0).s fh1_1
    have fr3 : Fr [r] h hh3 := Fr.w0 fr1 (List.Mem.head _) eh3
    exact g_vret dX5_become_22 rfl ⟨rfl, fr3, by
    have z := PO_cz (h := hp) (g := gup g 0 c) c0 c1 (gup_s _ _ _)
    rw [if_neg hz] at z
    exact RP.mk fh3_0 fh3_1 ⟨by omega, hr6, hr7⟩ z hp2⟩
  · skip
    have hz := gcmp_eq.mp c2
    refine g_iconst dX5_become_14 ?_
    refine g_goto (tgt := 19) dX5_become_15 rfl ?_
    refine g_putf 1 dX5_become_19 kX5 (by decide) fX5_9 rfl fh1_0 (Nat.le_of_ble_eq_true rfl) rfl rfl ?_
    obtain ⟨hh4, eh4⟩ : ∃ z : GH, z = hset hh1 (r) (oB 5 [.ref (r + 1), .int (gI (-1))]) := ⟨_, rfl⟩
    refine Go.hp eh4.symm ?_
    have fh4_0 : hh4.2 (r) = some (oB 5 [.ref (r + 1), .int (gI (-1))]) := hs_s eh4
    have fh4_1 : hh4.2 (r + 1) = some (aJ n (gup (g) (0) (c))) := hs_n eh4 (ne0).s fh1_1
    have fr4 : Fr [r] h hh4 := Fr.w0 fr1 (List.Mem.head _) eh4
    exact g_vret dX5_become_22 rfl ⟨rfl, fr4, by
    have z := PO_cz (h := hp) (g := gup g 0 c) c0 c1 (gup_s _ _ _)
    rw [if_pos hz] at z
    exact RP.mk fh4_0 fh4_1 ⟨by omega, hr6, hr7⟩ z hp2⟩
theorem sP_number (N : GN) (h : GH) (r n p : Nat) (hp : prm p) (f : Px p) (k : Int) (hk : gW k) (hr : RP hp n h r f) : Sp N yX5_number mX5_number 0 0 [.ref r, .int (gI k)] h (fun v h1 => h1 = h ∧ v = some (.long (gJ (cf f k)))) := by
  obtain ⟨g, ⟨hr1, hr2, hr3, hr4, hr5, hr6, hr7⟩, hP⟩ := hr
  refine Sp.imp (sX5_number N h r (r + 1) n (dgi hp f) k g hr6 hr7 hk hr4 hr5 hr1 hr2) (fun v h1 q => ⟨q.1, q.2.trans ?_⟩)
  have : (if 0 ≤ k ∧ k ≤ dgi hp f then g k else 0) = cf f k := by
    split
    · rename_i z; exact PO_cf hP z.1 z.2
    · rcases Int.lt_or_le k 0 with z | z
      · unfold cf; rw [if_neg (by omega)]
      · exact (cf_hi hp hP.po (by omega)).symm
  rw [this]
theorem sP_leading (N : GN) (h : GH) (r n p : Nat) (hp : prm p) (f : Px p) (hr : RP hp n h r f) : Sp N yX5_leading mX5_leading 0 0 [.ref r] h (fun v h1 => h1 = h ∧ v = some (.long (gJ (ld hp f)))) := by
  obtain ⟨g, ⟨hr1, hr2, hr3, hr4, hr5, hr6, hr7⟩, hP⟩ := hr
  refine Sp.imp (sX5_leading N h r (r + 1) n (dgi hp f) g hr6 hr7 hr4 hr5 hr1 hr2) (fun v h1 q => ⟨q.1, q.2.trans ?_⟩)
  have : (if dgi hp f < 0 then 0 else g (dgi hp f)) = ld hp f := by
    unfold ld
    split
    · unfold cf; rw [if_neg (by omega)]
    · exact PO_cf hP (by omega) (Int.le_refl _)
  rw [this]
theorem sP_pile (N : GN) (h : GH) (th a b c n m l p : Nat) (hp : prm p) (hp2 : p ≤ 65536) (fa fb : Px p) (ha : RP hp n h a fa) (hb : RP hp m h b fb) (hc : RA l h c) (hd : dgi hp fa + dgi hp fb < l) (ac : AP a c) (bc : AP b c) : Sp N yX2_pile mX2_pile 0 0 [.ref th, .ref a, .ref b, .ref c] h (fun v h1 => v = none ∧ Fr [c] h h1 ∧ RU hp l h1 c (dgi hp (pml hp fa fb)) 4299262263296 (pml hp fa fb)) := by
  letI := pR hp
  obtain ⟨ga, ⟨ha1, ha2, ha3, ha4, ha5, ha6, ha7⟩, hPa⟩ := ha
  obtain ⟨gb, ⟨hb1, hb2, hb3, hb4, hb5, hb6, hb7⟩, hPb⟩ := hb
  obtain ⟨dc, gc, hc1, hc2, hc3, hc4, hc5, hc6, hc7⟩ := hc
  unfold AP at ac bc
  refine Sp.imp (sX2_pile N h th a (a + 1) b (b + 1) c (c + 1) n m l (dgi hp fa) (dgi hp fb) dc ga gb gc ha7 hb7 hc7 ha4 ha5 hb4 hb5 hd ha3 (by omega) (by omega) (by omega) (by omega) (by omega) (by omega) (by omega) (by omega) (by omega) ha1 ha2 hb1 hb2 hc1 hc2) (fun v h1 q => ?_)
  obtain ⟨rfl, e⟩ := q
  have hdm : dgi hp (pml hp fa fb) = _ := mul_dgi hp hPa.po hPb.po
  have hph : pml hp fa fb = _ := pil_ph (gc := gc) hPa hPb
  rw [← hdm] at hph e
  have hl : dgi hp (pml hp fa fb) < l := by rw [hdm]; split <;> omega
  have hg : -1 ≤ dgi hp (pml hp fa fb) := by rw [hdm]; split <;> omega
  refine ⟨rfl, Fr.w0 (Fr.w1 (Fr.rf _ _) (List.Mem.head _) rfl) (List.Mem.head _) e, fun j => (gJ (pil ga gb gc (dgi hp fb) (dgi hp (pml hp fa fb)) (dgi hp fa + 1).toNat j)).toInt, ⟨hs_s e, ?_, fun j => gJ_in _, hg, hl, hc6, hc7⟩, fun k k0 k1 => ?_, ?_⟩
  · rw [e, hset_n _ _ (by omega), hset_s, ← aJ_nf]
  · have := pil_bd (gc := gc) hp2 hPa hPb (by omega) _ k k0 k1
    show 0 ≤ (gJ _).toInt ∧ (gJ _).toInt ≤ _
    rw [gJ_id (by unfold gX; omega)]
    exact this
  · refine hph.trans (ph_cg hp (fun k k0 k1 => ?_))
    have := pil_bd (gc := gc) hp2 hPa hPb (by omega) _ k k0 k1
    show zi hp _ = zi hp (gJ _).toInt
    rw [gJ_id (by unfold gX; omega)]
set_option maxHeartbeats 4000000 in
set_option maxRecDepth 100000 in
theorem sP_inverse (N : GN) (h : GH) (f p : Nat) (hp : 2 ≤ p) (hp2 : p ≤ 65536) (a : Int) (a0 : 0 ≤ a) (a1 : a < p) (hf : h.2 f = some (oB 1 [.int (gI ((p : Int)))])) : Sp N yX1_inverse mX1_inverse 0 0 [.ref (f), .long (gJ (a))] h (fun v h1 => h1 = h ∧ v = some (.long (gJ (ivr p a)))) := by
  refine Sp.of (by decide) rfl rfl (Nat.le_of_ble_eq_true rfl) ?_
  show Go N mX1_inverse _ 0 0 h 0 [(0, .ref (f)), (1, .long (gJ (a)))] []
  refine g_lload_n 1 dX1_inverse_0 rfl ?_
  refine g_lconst1 dX1_inverse_1 ?_
  refine g_lcmp dX1_inverse_2 (by unfold gX; omega) (by unfold gX; omega) ?_
  refine g_if_ne (tgt := 10) dX1_inverse_3 rfl (gW_cmp _ _) (fun c1 => ?_) (fun c1 => ?_)
  · skip
    have hz := fun z => c1 (gcmp_eq.mpr z)
    refine g_aload_n 0 dX1_inverse_10 rfl ?_
    refine g_lload_n 1 dX1_inverse_11 rfl ?_
    refine g_aload_n 0 dX1_inverse_12 rfl ?_
    refine g_getf 0 dX1_inverse_13 kX1 (by decide) fX1_9 hf rfl ?_
    refine g_iconst dX1_inverse_16 ?_
    refine g_isub dX1_inverse_17 ?_
    refine g_callV (nc2 := 0) (ns2 := 0) (ci := 1) (As := [.long (gJ (a)), .int (gI (((p : Int)) - (2)))]) (st := []) rfl dX1_inverse_18 okX1_raise lX1_22 itX1_raise seX1_raise rfl hf (by decide) (by decide) rfl (Nat.le_of_ble_eq_true rfl) (sX1_raise N _ (f) (p : Int) (a) (((p : Int)) - (2)) (by omega) (by omega) (by omega) (by omega) (by omega) (by unfold gW; omega) hf) (by omega) (by omega) (fun v2 hc2 q2 => ?_)
    obtain ⟨hq3, rfl⟩ := q2
    refine Go.nf (h' := h) (st' := [.long (gJ ((a) ^ (((p : Int)) - (2)).toNat % (p : Int)))]) hq3 rfl (Nat.le_refl _) (Nat.le_refl _) ?_
    exact g_lret dX1_inverse_21 rfl ⟨rfl, by rw [show ivr p a = (a) ^ (((p : Int)) - (2)).toNat % (p : Int) by unfold ivr; rw [if_neg hz]]⟩
  · skip
    have hz := gcmp_eq.mp c1
    refine g_lconst1 dX1_inverse_6 ?_
    refine g_goto (tgt := 21) dX1_inverse_7 rfl ?_
    exact g_lret dX1_inverse_21 rfl ⟨rfl, by rw [show ivr p a = 1 by unfold ivr; rw [if_pos hz]]⟩
set_option maxHeartbeats 4000000 in
set_option maxRecDepth 100000 in
theorem sP_makeMonic (N : GN) (h : GH) (B r n p : Nat) (hp : prm p) (hp2 : p ≤ 65536) (f : Px p) (hth : h.2 (B + 7) = some (oB 2 [.ref (B + 1), .ref (B + 8), .ref (B + 10), .ref (B + 12), .ref (B + 14), .ref (B + 16), .ref (B + 18), .ref (B + 20), .ref (B + 22)])) (hfl : h.2 (B + 1) = some (oB 1 [.int (gI ((p : Int)))])) (hr : RP hp n h r f) (or1 : B + 8 ≤ r) : Sp N yX2_makeMonic mX2_makeMonic 0 0 [.ref (B + 7), .ref (r)] h (fun v h1 => v = none ∧ Fr [r] h h1 ∧ RP hp n h1 r (mon hp f)) := by
  refine Sp.of (by decide) rfl rfl (Nat.le_of_ble_eq_true rfl) ?_
  show Go N mX2_makeMonic _ 0 0 h 0 [(0, .ref (B + 7)), (1, .ref (r))] []
  have hr0 := hr
  obtain ⟨g, ⟨hr1, hr2, hr3, hr4, hr5, hr6, hr7⟩, hP⟩ := hr0
  have hp1 := hp.1
  have ne0 : NE (B + 7) (B + 1) := by unfold NE; omega
  have ne1 : NE (B + 7) (r) := by unfold NE; omega
  have ne2 : NE (B + 7) (r + 1) := by unfold NE; omega
  have ne3 : NE (B + 1) (r) := by unfold NE; omega
  have ne4 : NE (B + 1) (r + 1) := by unfold NE; omega
  have ne5 : NE (r) (r + 1) := by unfold NE; omega
  refine g_aload_n 1 dX2_makeMonic_0 rfl ?_
  refine g_getf 1 dX2_makeMonic_1 kX5 (by decide) fX2_45 hr1 rfl ?_
  refine g_if_ge (tgt := 8) dX2_makeMonic_4 rfl (by unfold gW; omega) (fun c1 => ?_) (fun c1 => ?_)
  · skip
    have hld := ld_in hp hr.po c1
    have hiv := ivr_in hp (ld hp f)
    refine g_aload_n 0 dX2_makeMonic_8 rfl ?_
    refine g_getf 0 dX2_makeMonic_9 kX2 (by decide) fX2_41 hth rfl ?_
    refine g_aload_n 1 dX2_makeMonic_12 rfl ?_
    refine g_callV (nc2 := 0) (ns2 := 0) (ci := 5) (As := []) (st := [.ref (B + 1)]) rfl dX2_makeMonic_13 okX5_leading lX2_79 itX5_leading seX5_leading rfl hr1 (by decide) (by decide) rfl (Nat.le_of_ble_eq_true rfl) (sP_leading N _ (r) n p hp f hr) (by omega) (by omega) (fun v2 hc2 q2 => ?_)
    obtain ⟨hq3, rfl⟩ := q2
    refine Go.nf (h' := h) (st' := [.long (gJ (ld hp f)), .ref (B + 1)]) hq3 rfl (Nat.le_refl _) (Nat.le_refl _) ?_
    refine g_callV (nc2 := 0) (ns2 := 0) (ci := 1) (As := [.long (gJ (ld hp f))]) (st := []) rfl dX2_makeMonic_16 okX1_inverse lX2_83 itX1_inverse seX1_inverse rfl hfl (by decide) (by decide) rfl (Nat.le_of_ble_eq_true rfl) (sP_inverse N _ (B + 1) p (by omega) hp2 (ld hp f) (by omega) (by omega) hfl) (by omega) (by omega) (fun v4 hc4 q4 => ?_)
    obtain ⟨hq5, rfl⟩ := q4
    refine Go.nf (h' := h) (st' := [.long (gJ (ivr p (ld hp f)))]) hq5 rfl (Nat.le_refl _) (Nat.le_refl _) ?_
    refine g_lstore_n (ls2 := [(2, .long (gJ (ivr p (ld hp f)))), (0, .ref (B + 7)), (1, .ref (r))]) dX2_makeMonic_19 rfl (by decide) rfl ?_
    refine g_iconst dX2_makeMonic_20 ?_
    refine g_istore (ls2 := [(4, .int (gI (0))), (2, .long (gJ (ivr p (ld hp f)))), (0, .ref (B + 7)), (1, .ref (r))]) dX2_makeMonic_21 (by decide) rfl ?_
    have lm : ∀ (kk : Nat) (k : Int) (hlm : GH), kk = (dgi hp f + 1 - k).toNat → Fr [r] h hlm → hlm.2 (r) = some (oB 5 [.ref (r + 1), .int (gI (dgi hp f))]) → hlm.2 (r + 1) = some (aJ n (gF g (fun j => g j * ivr p (ld hp f) % p) k)) → (0 ≤ k) → (k ≤ dgi hp f + 1) → Go N mX2_makeMonic (fun v h1 => v = none ∧ Fr [r] h h1 ∧ RP hp n h1 r (mon hp f)) 0 0 hlm 23 [(4, .int (gI (k))), (2, .long (gJ (ivr p (ld hp f)))), (0, .ref (B + 7)), (1, .ref (r))] [] := by
      refine Go.ind (fun kk ih_lm => ?_)
      intro k hlm hkk_lm fr_lm cf_lm_0 cf_lm_1 hk0 hk1
      have cg_lm_0 : hlm.2 (B + 7) = some (oB 2 [.ref (B + 1), .ref (B + 8), .ref (B + 10), .ref (B + 12), .ref (B + 14), .ref (B + 16), .ref (B + 18), .ref (B + 20), .ref (B + 22)]) := Fr.at0 fr_lm (Ni.c ⟨ne1, ne2⟩ (Ni.n _)) hth
      have cg_lm_1 : hlm.2 (B + 1) = some (oB 1 [.int (gI ((p : Int)))]) := Fr.at0 fr_lm (Ni.c ⟨ne3, ne4⟩ (Ni.n _)) hfl
      refine g_iload 0 dX2_makeMonic_23 rfl ?_
      refine g_aload_n 3 dX2_makeMonic_25 rfl ?_
      refine g_getf 1 dX2_makeMonic_26 kX5 (by decide) fX2_45 cf_lm_0 rfl ?_
      refine g_icmp_gt (tgt := 63) dX2_makeMonic_29 rfl (by unfold gW; omega) (by unfold gW; omega) (fun c106 => ?_) (fun c106 => ?_)
      · skip
        exact g_vret dX2_makeMonic_63 rfl ⟨rfl, fr_lm, by
      have hkk : k = dgi hp f + 1 := by omega
      exact RP.mk (d := dgi hp f) cf_lm_0 cf_lm_1 ⟨by omega, by omega, by omega⟩ (PO_sm hP (iv_ne hp hld.1 hld.2) (fun j j0 j1 => by unfold gF; rw [if_pos (by omega)])) hp2⟩
      · skip
        refine g_aload_n 3 dX2_makeMonic_32 rfl ?_
        refine g_getf 0 dX2_makeMonic_33 kX5 (by decide) fX2_49 cf_lm_0 rfl ?_
        refine g_iload 0 dX2_makeMonic_36 rfl ?_
        refine g_aload_n 3 dX2_makeMonic_38 rfl ?_
        refine g_getf 0 dX2_makeMonic_39 kX5 (by decide) fX2_49 cf_lm_0 rfl ?_
        refine g_iload 0 dX2_makeMonic_42 rfl ?_
        refine g_laload dX2_makeMonic_44 cf_lm_1 (by omega) (by omega) (by omega) ?_
        rw [gF_at]
        have hgk := hP.2.1 k hk0 (by omega)
        have hpr := g_prod hgk.1 hgk.2 hiv.1 hiv.2 (show (p : Int) ≤ 65536 by omega)
        refine g_lload_n 1 dX2_makeMonic_45 rfl ?_
        refine g_lmul dX2_makeMonic_46 ?_
        refine g_aload_n 2 dX2_makeMonic_47 rfl ?_
        refine g_getf 0 dX2_makeMonic_48 kX2 (by decide) fX2_41 cg_lm_0 rfl ?_
        refine g_getf 0 dX2_makeMonic_51 kX1 (by decide) fX2_57 cg_lm_1 rfl ?_
        refine g_i2l dX2_makeMonic_54 (by unfold gW; omega) ?_
        refine g_lrem dX2_makeMonic_55 (by unfold gX; omega) (by unfold gX; omega) (by omega) ?_
        rw [tm_em hpr.1]
        refine g_lastore dX2_makeMonic_56 cf_lm_1 (by omega) (by omega) (by omega) ?_
        obtain ⟨hh107, eh107⟩ : ∃ z : GH, z = hset hlm (r + 1) (aJ n (gup (gF g (fun j => g j * ivr p (ld hp f) % p) k) (k) (g k * ivr p (ld hp f) % p))) := ⟨_, rfl⟩
        refine Go.hp eh107.symm ?_
        have fh107_0 : hh107.2 (B + 7) = some (oB 2 [.ref (B + 1), .ref (B + 8), .ref (B + 10), .ref (B + 12), .ref (B + 14), .ref (B + 16), .ref (B + 18), .ref (B + 20), .ref (B + 22)]) := hs_n eh107 ne2 cg_lm_0
        have fh107_1 : hh107.2 (B + 1) = some (oB 1 [.int (gI ((p : Int)))]) := hs_n eh107 ne4 cg_lm_1
        have fh107_2 : hh107.2 (r) = some (oB 5 [.ref (r + 1), .int (gI (dgi hp f))]) := hs_n eh107 ne5 cf_lm_0
        have fh107_3 : hh107.2 (r + 1) = some (aJ n (gup (gF g (fun j => g j * ivr p (ld hp f) % p) k) (k) (g k * ivr p (ld hp f) % p))) := hs_s eh107
        have fr107 : Fr [r] h hh107 := Fr.w1 fr_lm (List.Mem.head _) eh107
        refine g_iinc 0 (ls2 := [(4, .int (gI (k + 1))), (2, .long (gJ (ivr p (ld hp f)))), (0, .ref (B + 7)), (1, .ref (r))]) dX2_makeMonic_57 rfl (by decide) rfl ?_
        refine g_goto (tgt := 23) dX2_makeMonic_60 rfl ?_
        exact ih_lm _ (by omega) (k + 1) hh107 rfl fr107 fh107_2 (by rw [← gF_s g (fun j => g j * ivr p (ld hp f) % p) hk0]; exact fh107_3) (by omega) (by omega)
    exact lm _ (0) h rfl (Fr.rf [r] h) hr1 (by rw [gF_0]; exact hr2) (by omega) (by omega)
  · skip
    exact g_vret dX2_makeMonic_7 rfl ⟨rfl, Fr.rf _ _, by rw [mon_0 hp hr.po (by omega)]; exact hr⟩
