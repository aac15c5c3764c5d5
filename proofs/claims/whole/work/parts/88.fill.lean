section
variable {p : Nat}
/-- fill's frame -/
def FSf (s : Nat) (h : GH) (g : Int → Option Nat) (h1 : GH) (g1 : Int → Option Nat) : Prop := h.1 ≤ h1.1 ∧ (∀ (x : Nat) (e : GE), h.2 x = some e → x ≠ s → x ≠ s + 1 → (∀ (t : Int) (r : Nat), g t = some r → x ≠ r ∧ x ≠ r + 1) → h1.2 x = some e) ∧ ∀ (t : Int) (r : Nat), g1 t = some r → g t = some r ∨ h.1 ≤ r
theorem FSf.rf (s : Nat) (h : GH) (g : Int → Option Nat) : FSf s h g h g := ⟨Nat.le_refl _, fun _ _ a _ _ _ => a, fun _ _ a => Or.inl a⟩
theorem FSf.tr {s : Nat} {h h1 h2 : GH} {g g1 g2 : Int → Option Nat} (wf : ∀ (a : Nat) (e : GE), h.2 a = some e → a < h.1) (a : FSf s h g h1 g1) (b : FSf s h1 g1 h2 g2) : FSf s h g h2 g2 := by
  refine ⟨Nat.le_trans a.1 b.1, fun x e hx n0 n1 nr => b.2.1 x e (a.2.1 x e hx n0 n1 nr) n0 n1 (fun t r hr => ?_), fun t r hr => ?_⟩
  · rcases a.2.2 t r hr with z | z
    · exact nr t r z
    · have := wf x e hx; omega
  · rcases b.2.2 t r hr with z | z
    · exact a.2.2 t r z
    · have := a.1; exact Or.inr (by omega)
theorem FSf.cell {s r : Nat} {i : Int} {h h1 : GH} {g g2 : Int → Option Nat} (f : FK (fun x _ => x ≠ s + 1) h h1) (h2 : g2 i = some r) (h3 : ∀ j, j ≠ i → g2 j = g j) (h4 : g i = some r ∨ r = h.1) : FSf s h g h1 g2 := by
  refine ⟨f.1, fun x e hx _ n1 _ => f.2 x e hx n1, fun t q hq => ?_⟩
  by_cases z : t = i
  · rw [z, h2] at hq
    have := Option.some.inj hq
    subst this
    rcases h4 with y | y
    · exact Or.inl (z ▸ y)
    · exact Or.inr (by omega)
  · rw [h3 t z] at hq; exact Or.inl hq
theorem FSf.wr {s r : Nat} {t : Int} {h h1 : GH} {g : Int → Option Nat} (f : Fr [r] h h1) (hr : g t = some r) : FSf s h g h1 g := ⟨Nat.le_of_eq f.1.symm, fun x e hx _ _ nr => f.at0 (Ni.c ⟨(nr t r hr).1, (nr t r hr).2⟩ (Ni.n _)) hx, fun _ _ a => Or.inl a⟩
theorem FSf.s {s : Nat} {h h1 : GH} {g : Int → Option Nat} (f : Fr [s] h h1) : FSf s h g h1 g := ⟨Nat.le_of_eq f.1.symm, fun x e hx n0 n1 _ => f.at0 (Ni.c ⟨n0, n1⟩ (Ni.n _)) hx, fun _ _ a => Or.inl a⟩
theorem FSf.q {B s : Nat} {h h1 : GH} {g g1 : Int → Option Nat} (a : FSf s h g h1 g1) : FSq B s h g h1 g1 := by
  refine ⟨a.1, fun x e hx hn _ => a.2.1 x e hx (fun z => hn (Or.inl (by omega))) (fun z => hn (Or.inl (by omega))) (fun t r hr => ⟨fun z => hn (Or.inr ⟨t, r, hr, Or.inl z⟩), fun z => hn (Or.inr ⟨t, r, hr, Or.inr z⟩)⟩), fun x hx => ?_⟩
  rcases hx with z | ⟨t, r, hr, z⟩
  · exact Or.inl (Or.inl z)
  · rcases a.2.2 t r hr with y | y
    · exact Or.inl (Or.inr ⟨t, r, y, z⟩)
    · exact Or.inr (by omega)
theorem PP.of {hp : prm p} {h h1 : GH} {a : Nat} {F : Pxy p} (w : PP hp h a F) (f : ∀ (x : Nat) (e : GE), x = a ∨ x = a + 1 → h.2 x = some e → h1.2 x = some e) : PP hp h1 a F := by
  obtain ⟨g, ⟨a1, a2, a3⟩, b, c⟩ := w
  exact ⟨g, ⟨f _ _ (Or.inl rfl) a1, f _ _ (Or.inr rfl) a2, a3⟩, b, c⟩
theorem RP.of1 {hp : prm p} {n : Nat} {h h1 : GH} {r : Nat} {q : Px p} (w : RP hp n h r q) (f : ∀ (x : Nat) (e : GE), x = r ∨ x = r + 1 → h.2 x = some e → h1.2 x = some e) : RP hp n h1 r q := by
  obtain ⟨g, ⟨a, b, c⟩, d⟩ := w
  exact ⟨g, ⟨f _ _ (Or.inl rfl) a, f _ _ (Or.inr rfl) b, c⟩, d⟩
theorem RA.of1 {n : Nat} {h h1 : GH} {r : Nat} (w : RA n h r) (f : ∀ (x : Nat) (e : GE), x = r ∨ x = r + 1 → h.2 x = some e → h1.2 x = some e) : RA n h1 r := by
  obtain ⟨d, g, a, b, c⟩ := w
  exact ⟨d, g, f _ _ (Or.inl rfl) a, f _ _ (Or.inr rfl) b, c⟩
/-- the square as far as it is filled -/
def LSd (hp : prm p) (s : Nat) (h : GH) (g : Int → Option Nat) (sz : Int) (C : Int → Int → Px p) (i k : Int) : Prop := RLi 144 (s + 8) h (s + 1) g ∧ ∀ x y : Int, 0 ≤ x → x < sz → 0 ≤ y → y < sz → (x < i ∨ (x = i ∧ y < k)) → ∃ r, g (x * sz + y) = some r ∧ RP hp 84 h r (C x y)
theorem LSd.cell {hp : prm p} {s : Nat} {h h1 : GH} {g g2 : Int → Option Nat} {sz i k : Int} {C : Int → Int → Px p} (w : LSd hp s h g sz C i k) (k0 : 0 ≤ k) (k1 : k < sz) (f : FK (fun x _ => x ≠ s + 1) h h1) (h3 : ∀ j, j ≠ i * sz + k → g2 j = g j) (h4 : RLi 144 (s + 8) h1 (s + 1) g2) : LSd hp s h1 g2 sz C i k := by
  refine ⟨h4, fun x y x0 x1 y0 y1 hd => ?_⟩
  obtain ⟨r, hr, hR⟩ := w.2 x y x0 x1 y0 y1 hd
  have lr := (w.1.2.1 _ r hr).1
  exact ⟨r, by rw [h3 _ (fun e => by have := ix_inj y0 y1 k0 k1 e; omega)]; exact hr, hR.of1 (fun z e hz he => f.2 z e he (by omega))⟩
theorem LSd.put {hp : prm p} {s r : Nat} {h h1 : GH} {g : Int → Option Nat} {sz i k : Int} {C : Int → Int → Px p} (w : LSd hp s h g sz C i k) (f : Fr [r] h h1) (hr : g (i * sz + k) = some r) (k0 : 0 ≤ k) (k1 : k < sz) (hP : RP hp 84 h1 r (C i k)) : LSd hp s h1 g sz C i (k + 1) := by
  have ap : ∀ (t : Int) (u : Nat), t ≠ i * sz + k → g t = some u → Ai u [r] := fun t u ht hu => Ai.c (w.1.2.2 t _ u r ht hu hr) (Ai.n _)
  have lr := (w.1.2.1 _ r hr).1
  refine ⟨w.1.fr f (Ni.c ⟨by unfold NE; omega, by unfold NE; omega⟩ (Ni.n _)) (fun t u hu => ?_), fun a b a0 a1 b0 b1 hd => ?_⟩
  · by_cases z : t = i * sz + k
    · rw [z, hr] at hu
      have := Option.some.inj hu
      subst this
      exact Or.inr hP.ra
    · exact Or.inl (ap t u z hu)
  · by_cases z : a = i ∧ b = k
    · rw [z.1, z.2]; exact ⟨r, hr, hP⟩
    · obtain ⟨u, hu, hR⟩ := w.2 a b a0 a1 b0 b1 (by omega)
      exact ⟨u, hu, hR.fr f (ap _ u (fun e => z (ix_inj b0 b1 k0 k1 e)) hu)⟩
theorem LSd.row {hp : prm p} {s : Nat} {h : GH} {g : Int → Option Nat} {sz i k : Int} {C : Int → Int → Px p} (w : LSd hp s h g sz C i k) (hk : sz ≤ k) : LSd hp s h g sz C (i + 1) 0 := ⟨w.1, fun x y x0 x1 y0 y1 hd => w.2 x y x0 x1 y0 y1 (by omega)⟩
theorem LSd.fin {hp : prm p} {s : Nat} {h : GH} {g : Int → Option Nat} {sz i k : Int} {C : Int → Int → Px p} (w : LSd hp s h g sz C i k) (hi : sz ≤ i) : LSq hp s h g sz C := ⟨w.1, fun x y x0 x1 y0 y1 => w.2 x y x0 x1 y0 y1 (by omega)⟩
end
set_option maxHeartbeats 4000000 in
set_option maxRecDepth 100000 in
theorem sS_cellA (N : GN) (h : GH) (B s : Nat) (sz i k : Int) (g : Int → Option Nat) (hik : 0 ≤ i * sz + k ∧ i * sz + k < 144) (hlo : s + 8 ≤ h.1) (hso : h.2 s = some (sO B s sz)) (hli : RLi 144 (s + 8) h (s + 1) g) : Sp N yX7_cell mX7_cell 2 86 [.ref (s), .int (gI (i)), .int (gI (k))] h (fun v h1 => ∃ r g2, v = some (.ref r) ∧ g2 (i * sz + k) = some r ∧ (∀ j, j ≠ i * sz + k → g2 j = g j) ∧ ((g (i * sz + k) = some r ∧ h1 = h ∧ g2 = g) ∨ (g (i * sz + k) = none ∧ r = h.1 ∧ RA 84 h1 r)) ∧ RLi 144 (s + 8) h1 (s + 1) g2 ∧ FK (fun x _ => x ≠ s + 1) h h1) := by
  refine Sp.of (by decide) rfl rfl (Nat.le_of_ble_eq_true rfl) ?_
  show Go N mX7_cell _ 2 86 h 0 [(0, .ref (s)), (1, .int (gI (i))), (2, .int (gI (k)))] []
  refine g_aload_n 0 dX7_cell_0 rfl ?_
  refine g_getf 2 dX7_cell_1 kX7 (by decide) fX7_11 hso rfl ?_
  refine g_iload_n 1 dX7_cell_4 rfl ?_
  refine g_aload_n 0 dX7_cell_5 rfl ?_
  refine g_getf 6 dX7_cell_6 kX7 (by decide) fX7_42 hso rfl ?_
  refine g_imul dX7_cell_9 ?_
  refine g_iload_n 2 dX7_cell_10 rfl ?_
  refine g_iadd dX7_cell_11 ?_
  refine g_callS (nc2 := 2) (ns2 := 86) (As := [.ref (s + 1), .int (gI (((i) * (sz)) + (k)))]) (st := []) rfl dX7_cell_12 okX5_in lX7_46 stX5_in (by decide) (by decide) rfl (Nat.le_of_ble_eq_true rfl) (sL_in N _ (s + 1) 144 (s + 8) g (((i) * (sz)) + (k)) (by omega) (by omega) hlo hli) (by omega) (by omega) (fun v1 hc1 q1 => ?_)
  obtain ⟨r, g2, rfl, z1, z2, z3, z4, z5⟩ := q1
  refine Go.nf (h' := hc1) (st' := [.ref (r)]) rfl rfl (Nat.le_refl _) (Nat.le_refl _) ?_
  exact g_aret (a := some (r)) dX7_cell_15 rfl ⟨r, g2, rfl, z1, z2, z3, z4, z5⟩
theorem RLi.fr2 {n s : Nat} {e : GE} {h h1 : GH} {g : Int → Option Nat} (w : RLi n (s + 8) h (s + 1) g) (eh : h1 = hset h s e) : RLi n (s + 8) h1 (s + 1) g := by
  have un : ∀ x, x ≠ s → h1.2 x = h.2 x := fun x hx => by rw [eh, hset_n _ _ hx]
  exact ⟨(un _ (by omega)).trans w.1, fun i r hr => ⟨(w.2.1 i r hr).1, (w.2.1 i r hr).2.of (fun x hx => un x (by have := (w.2.1 i r hr).1; omega))⟩, w.2.2⟩
set_option maxHeartbeats 4000000 in
set_option maxRecDepth 100000 in
theorem sS_fill (N : GN) (h : GH) (B s qa qb p : Nat) (hp : prm p) (hp2 : p ≤ 65536) (sz : Int) (F G : Pxy p) (g0 : Int → Option Nat) (hF1 : 1 ≤ dY hp F) (hG1 : 1 ≤ dY hp G) (hlo : s + 8 ≤ h.1) (hso : h.2 s = some (sO B s sz)) (hli : RLi 144 (s + 8) h (s + 1) g0) (hqa : PP hp h qa F) (hqb : PP hp h qb G) (ap_qa : AP qa s) (ap_qb : AP qb s) : Sp N yX7_fill mX7_fill 288 12384 [.ref (s), .ref (qa), .ref (qb)] h (fun v h1 => v = none ∧ ∃ g, FSf s h g0 h1 g ∧ LSq hp s h1 g (dY hp F + dY hp G) (eyI hp F G) ∧ h1.2 s = some (sO B s (dY hp F + dY hp G)) ∧ PP hp h1 qa F ∧ PP hp h1 qb G) := by
  refine Sp.of (by decide) rfl rfl (Nat.le_of_ble_eq_true rfl) ?_
  show Go N mX7_fill _ 288 12384 h 0 [(0, .ref (s)), (1, .ref (qa)), (2, .ref (qb))] []
  refine Go.wf (fun wf => ?_)
  have hp1 := hp.1
  have hdF := hqa.dg.2
  have hdG := hqb.dg.2
  refine g_aload_n 0 dX7_fill_0 rfl ?_
  refine g_aload_n 1 dX7_fill_1 rfl ?_
  refine g_getf 2 dX7_fill_2 kX4 (by decide) fX7_50 (hqa).o rfl ?_
  refine g_aload_n 2 dX7_fill_5 rfl ?_
  refine g_getf 2 dX7_fill_6 kX4 (by decide) fX7_50 (hqb).o rfl ?_
  refine g_iadd dX7_fill_9 ?_
  refine g_putf 6 dX7_fill_10 kX7 (by decide) fX7_42 rfl hso (Nat.le_of_ble_eq_true rfl) rfl rfl ?_
  obtain ⟨hh1, eh1⟩ : ∃ z : GH, z = hset h (s) (oB 7 [.ref (B + 1), .ref (B + 7), .ref (s + 1), .ref (s + 2), .ref (s + 4), .ref (s + 6), .int (gI ((dY hp (F)) + (dY hp (G))))]) := ⟨_, rfl⟩
  refine Go.hp eh1.symm ?_
  have fh1_0 : hh1.2 (s) = some (oB 7 [.ref (B + 1), .ref (B + 7), .ref (s + 1), .ref (s + 2), .ref (s + 4), .ref (s + 6), .int (gI ((dY hp (F)) + (dY hp (G))))]) := hs_s eh1
  have fx1 : Fr [s] h hh1 := Fr.w0 (Fr.rf _ _) (List.Mem.head _) eh1
  have rk5001_0 : PP hp hh1 (qa) (F) := (hqa).fr fx1 (Ai.c ap_qa (Ai.n _))
  have rk5001_1 : PP hp hh1 (qb) (G) := (hqb).fr fx1 (Ai.c ap_qb (Ai.n _))
  have fr1 : Fr [s] h hh1 := Fr.w0 (Fr.rf [s] h) (List.Mem.head _) eh1
  have fs0 : FSf s h g0 hh1 g0 := FSf.s fr1
  have ld0 : LSd hp s hh1 g0 (dY hp F + dY hp G) (eyI hp F G) 0 0 := ⟨hli.fr2 eh1, fun x y x0 x1 y0 y1 hd => by omega⟩
  have pzqa : PP hp hh1 qa F := (hqa).fr fr1 (Ai.c ap_qa (Ai.n _))
  have pzqb : PP hp hh1 qb G := (hqb).fr fr1 (Ai.c ap_qb (Ai.n _))
  refine g_iconst dX7_fill_13 ?_
  refine g_istore_n (ls2 := [(3, .int (gI (0))), (0, .ref (s)), (1, .ref (qa)), (2, .ref (qb))]) dX7_fill_14 rfl (by decide) rfl ?_
  have l1 : ∀ (kk : Nat) (i : Int) (g : Int → Option Nat) (hl1 : GH), kk = (12 - i).toNat → FSf s h g0 hl1 g → hl1.2 (s) = some (oB 7 [.ref (B + 1), .ref (B + 7), .ref (s + 1), .ref (s + 2), .ref (s + 4), .ref (s + 6), .int (gI ((dY hp (F)) + (dY hp (G))))]) → LSd hp s hl1 (g) (dY hp F + dY hp G) (eyI hp F G) (i) (0) → PP hp hl1 (qa) (F) → PP hp hl1 (qb) (G) → (0 ≤ i ∧ i ≤ dY hp F + dY hp G) → Go N mX7_fill (fun v h1 => v = none ∧ ∃ g, FSf s h g0 h1 g ∧ LSq hp s h1 g (dY hp F + dY hp G) (eyI hp F G) ∧ h1.2 s = some (sO B s (dY hp F + dY hp G)) ∧ PP hp h1 qa F ∧ PP hp h1 qb G) (24 * (12 - i).toNat) (1032 * (12 - i).toNat) hl1 15 [(3, .int (gI (i))), (0, .ref (s)), (1, .ref (qa)), (2, .ref (qb))] [] := by
    refine Go.ind (fun kk ih_l1 => ?_)
    intro i g hl1 hkk_l1 fr_l1 cf_l1_0 cr_l1_0 cr_l1_1 cr_l1_2 hi
    refine g_iload_n 0 dX7_fill_15 rfl ?_
    refine g_aload_n 1 dX7_fill_16 rfl ?_
    refine g_getf 6 dX7_fill_17 kX7 (by decide) fX7_42 cf_l1_0 rfl ?_
    refine g_icmp_ge (tgt := 147) dX7_fill_20 rfl (by first | assumption | (unfold gW; omega) | (unfold gW; split <;> omega)) (by first | assumption | (unfold gW; omega) | (unfold gW; split <;> omega)) (fun c202 => ?_) (fun c202 => ?_)
    · skip
      exact g_vret dX7_fill_147 rfl ⟨rfl, g, fr_l1, LSd.fin cr_l1_0 (by omega), cf_l1_0, cr_l1_1, cr_l1_2⟩
    · skip
      refine g_iload_n 0 dX7_fill_23 rfl ?_
      refine g_aload_n 3 dX7_fill_24 rfl ?_
      refine g_getf 2 dX7_fill_25 kX4 (by decide) fX7_50 (cr_l1_2).o rfl ?_
      refine g_icmp_ge (tgt := 35) dX7_fill_28 rfl (by first | assumption | (unfold gW; omega) | (unfold gW; split <;> omega)) (by first | assumption | (unfold gW; omega) | (unfold gW; split <;> omega)) (fun c203 => ?_) (fun c203 => ?_)
      · skip
        refine g_iconst dX7_fill_35 ?_
        refine g_istore (ls2 := [(4, .int (gI (0))), (3, .int (gI (i))), (0, .ref (s)), (1, .ref (qa)), (2, .ref (qb))]) dX7_fill_36 (by decide) rfl ?_
        refine g_iload 0 dX7_fill_38 rfl ?_
        refine g_if_eq (tgt := 47) dX7_fill_40 rfl (by first | assumption | (unfold gW; omega) | (unfold gW; split <;> omega)) (fun c204 => ?_) (fun c204 => absurd c204 (by omega))
        refine g_aload_n 4 dX7_fill_47 rfl ?_
        refine g_astore (ls2 := [(5, .ref (qb)), (4, .int (gI (0))), (3, .int (gI (i))), (0, .ref (s)), (1, .ref (qa)), (2, .ref (qb))]) dX7_fill_48 (by decide) rfl ?_
        refine g_iload 1 dX7_fill_50 rfl ?_
        refine g_if_eq (tgt := 59) dX7_fill_52 rfl (by first | assumption | (unfold gW; omega) | (unfold gW; split <;> omega)) (fun c205 => ?_) (fun c205 => absurd c205 (by omega))
        refine g_iload_n 2 dX7_fill_59 rfl ?_
        refine g_aload_n 5 dX7_fill_60 rfl ?_
        refine g_getf 2 dX7_fill_61 kX4 (by decide) fX7_50 (cr_l1_2).o rfl ?_
        refine g_isub dX7_fill_64 ?_
        refine g_istore (ls2 := [(6, .int (gI ((i) - (dY hp (G))))), (5, .ref (qb)), (4, .int (gI (0))), (3, .int (gI (i))), (0, .ref (s)), (1, .ref (qa)), (2, .ref (qb))]) dX7_fill_65 (by decide) rfl ?_
        refine g_iconst dX7_fill_67 ?_
        refine g_istore (ls2 := [(7, .int (gI (0))), (6, .int (gI ((i) - (dY hp (G))))), (5, .ref (qb)), (4, .int (gI (0))), (3, .int (gI (i))), (0, .ref (s)), (1, .ref (qa)), (2, .ref (qb))]) dX7_fill_68 (by decide) rfl ?_
        have l2 : ∀ (kk : Nat) (k : Int) (gk : Int → Option Nat) (hl2 : GH), kk = (12 - k).toNat → FSf s h g0 hl2 gk → hl2.2 (s) = some (oB 7 [.ref (B + 1), .ref (B + 7), .ref (s + 1), .ref (s + 2), .ref (s + 4), .ref (s + 6), .int (gI ((dY hp (F)) + (dY hp (G))))]) → LSd hp s hl2 (gk) (dY hp F + dY hp G) (eyI hp F G) (i) (k) → PP hp hl2 (qa) (F) → PP hp hl2 (qb) (G) → (0 ≤ k ∧ k ≤ dY hp F + dY hp G) → Go N mX7_fill (fun v h1 => v = none ∧ ∃ g, FSf s h g0 h1 g ∧ LSq hp s h1 g (dY hp F + dY hp G) (eyI hp F G) ∧ h1.2 s = some (sO B s (dY hp F + dY hp G)) ∧ PP hp h1 qa F ∧ PP hp h1 qb G) (24 * (11 - i).toNat + 2 * (12 - k).toNat) (1032 * (11 - i).toNat + 86 * (12 - k).toNat) hl2 70 [(7, .int (gI (k))), (6, .int (gI ((i) - (dY hp (G))))), (5, .ref (qb)), (4, .int (gI (0))), (3, .int (gI (i))), (0, .ref (s)), (1, .ref (qa)), (2, .ref (qb))] [] := by
          refine Go.ind (fun kk ih_l2 => ?_)
          intro k gk hl2 hkk_l2 fr_l2 cf_l2_0 cr_l2_0 cr_l2_1 cr_l2_2 hk
          refine g_iload 0 dX7_fill_70 rfl ?_
          refine g_aload_n 5 dX7_fill_72 rfl ?_
          refine g_getf 6 dX7_fill_73 kX7 (by decide) fX7_42 cf_l2_0 rfl ?_
          refine g_icmp_ge (tgt := 141) dX7_fill_76 rfl (by first | assumption | (unfold gW; omega) | (unfold gW; split <;> omega)) (by first | assumption | (unfold gW; omega) | (unfold gW; split <;> omega)) (fun c306 => ?_) (fun c306 => ?_)
          · skip
            refine g_iinc 4 (ls2 := [(3, .int (gI (i + 1))), (7, .int (gI (k))), (6, .int (gI ((i) - (dY hp (G))))), (5, .ref (qb)), (4, .int (gI (0))), (0, .ref (s)), (1, .ref (qa)), (2, .ref (qb))]) dX7_fill_141 rfl (by decide) rfl ?_
            refine g_goto (tgt := 15) dX7_fill_144 rfl ?_
            refine Go.sub [0, 5, 6, 7] rfl ?_
            exact Go.imp (by omega) (by omega) (ih_l1 _ (by omega) (i + 1) (gk) hl2 rfl fr_l2 cf_l2_0 ((cr_l2_0).row (by omega)) cr_l2_1 cr_l2_2 (by omega))
          · skip
            refine g_aload 2 dX7_fill_79 rfl ?_
            refine g_getf 2 dX7_fill_81 kX4 (by decide) fX7_50 (cr_l2_2).o rfl ?_
            refine g_iload 0 dX7_fill_84 rfl ?_
            refine g_iload 1 dX7_fill_86 rfl ?_
            refine g_isub dX7_fill_88 ?_
            refine g_isub dX7_fill_89 ?_
            refine g_istore (ls2 := [(8, .int (gI ((dY hp (G)) - ((k) - ((i) - (dY hp (G))))))), (7, .int (gI (k))), (6, .int (gI ((i) - (dY hp (G))))), (5, .ref (qb)), (4, .int (gI (0))), (3, .int (gI (i))), (0, .ref (s)), (1, .ref (qa)), (2, .ref (qb))]) dX7_fill_90 (by decide) rfl ?_
            refine g_iload 0 dX7_fill_92 rfl ?_
            refine g_if_lt (tgt := 107) dX7_fill_94 rfl (by first | assumption | (unfold gW; omega) | (unfold gW; split <;> omega)) (fun c307 => ?_) (fun c307 => ?_)
            · skip
              refine g_aload_n 6 dX7_fill_107 rfl ?_
              refine g_iload_n 5 dX7_fill_108 rfl ?_
              refine g_iload 1 dX7_fill_109 rfl ?_
              have hb309 := ix_bd (sz := dY hp F + dY hp G) (show 0 ≤ i by omega) (show i < dY hp F + dY hp G by omega) (show 0 ≤ k by omega) (show k < dY hp F + dY hp G by omega) (by omega)
              refine g_callV (nc2 := 2) (ns2 := 86) (ci := 7) (As := [.int (gI (i)), .int (gI (k))]) (st := []) rfl dX7_fill_111 okX7_cell lX7_55 itX7_cell seX7_cell rfl cf_l2_0 (by decide) (by decide) rfl (Nat.le_of_ble_eq_true rfl) (sS_cellA N _ B s (dY hp F + dY hp G) (i) (k) (gk) hb309 (Nat.le_trans hlo (fr_l2).1) cf_l2_0 (cr_l2_0).1) (by omega) (by omega) (fun v308 hc308 q308 => ?_)
              obtain ⟨r309, g309, rfl, za309, zb309, zc309, zd309, ze309⟩ := q308
              have fs309 : FSf s h g0 hc308 g309 := FSf.tr wf fr_l2 (FSf.cell ze309 za309 zb309 (by rcases zc309 with y | y; exact Or.inl y.1; exact Or.inr y.2.1))
              have ld309 : LSd hp s hc308 g309 (dY hp F + dY hp G) (eyI hp F G) (i) (k) := LSd.cell cr_l2_0 (by omega) (by omega) ze309 zb309 zd309
              have so309 : hc308.2 s = some (oB 7 [.ref (B + 1), .ref (B + 7), .ref (s + 1), .ref (s + 2), .ref (s + 4), .ref (s + 6), .int (gI ((dY hp (F)) + (dY hp (G))))]) := ze309.2 _ _ cf_l2_0 (by omega)
              have pqa309 : PP hp hc308 qa F := PP.of cr_l2_1 (fun x e hx he => ze309.2 x e he (by unfold AP at ap_qa; omega))
              have pqb309 : PP hp hc308 qb G := PP.of cr_l2_2 (fun x e hx he => ze309.2 x e he (by unfold AP at ap_qb; omega))
              have rr309 := zd309.2.1 _ _ za309
              have lr309 := rr309.1
              refine Go.nf (h' := hc308) (st' := [.ref (r309)]) rfl rfl (Nat.le_refl _) (Nat.le_refl _) ?_
              refine g_lconst0 dX7_fill_114 ?_
              refine g_callV (nc2 := 0) (ns2 := 0) (ci := 5) (As := [.long (gJ (0))]) (st := []) rfl dX7_fill_115 okX5_become lX7_38 itX5_become seX5_become rfl (Classical.choose_spec (RA.o rr309.2)) (by decide) (by decide) rfl (Nat.le_of_ble_eq_true rfl) (sP_become N _ (r309) 84 p hp hp2 (0) (by omega) (by omega) rr309.2) (by omega) (by omega) (fun v310 hc310 q310 => ?_)
              obtain ⟨rfl, fw309, rp309⟩ := q310
              have ft309 : FSf s h g0 hc310 g309 := FSf.tr wf fs309 (FSf.wr fw309 za309)
              have lp309 : LSd hp s hc310 g309 (dY hp F + dY hp G) (eyI hp F G) (i) (k + 1) := LSd.put ld309 fw309 za309 (by omega) (by omega) (by
                                                                      have e9 : eyI hp F G (i) (k) = cz hp (zi hp 0) := by
                                                                        unfold eyI
                                                                        rw [if_neg (show ¬ i < dY hp G by omega), if_neg (by omega)]; exact (cz_z0 hp).symm
                                                                      rw [e9]; exact rp309)
              have sp309 : hc310.2 s = some (oB 7 [.ref (B + 1), .ref (B + 7), .ref (s + 1), .ref (s + 2), .ref (s + 4), .ref (s + 6), .int (gI ((dY hp (F)) + (dY hp (G))))]) := Fr.at0 fw309 (Ni.c ⟨by unfold NE; omega, by unfold NE; omega⟩ (Ni.n _)) so309
              have tqa309 : PP hp hc310 qa F := (pqa309).fr fw309 (Ai.c (AP_ty (by omega) (pqa309).ra rr309.2) (Ai.n _))
              have tqb309 : PP hp hc310 qb G := (pqb309).fr fw309 (Ai.c (AP_ty (by omega) (pqb309).ra rr309.2) (Ai.n _))
              refine Go.nf (h' := hc310) (st' := []) rfl rfl (Nat.le_refl _) (Nat.le_refl _) ?_
              refine g_goto (tgt := 135) dX7_fill_118 rfl ?_
              refine g_iinc 1 (ls2 := [(7, .int (gI (k + 1))), (8, .int (gI ((dY hp (G)) - ((k) - ((i) - (dY hp (G))))))), (6, .int (gI ((i) - (dY hp (G))))), (5, .ref (qb)), (4, .int (gI (0))), (3, .int (gI (i))), (0, .ref (s)), (1, .ref (qa)), (2, .ref (qb))]) dX7_fill_135 rfl (by decide) rfl ?_
              refine g_goto (tgt := 70) dX7_fill_138 rfl ?_
              refine Go.sub [0, 2, 3, 4, 5, 6, 7, 8] rfl ?_
              exact Go.imp (by omega) (by omega) (ih_l2 _ (by omega) (k + 1) (g309) hc310 rfl ft309 sp309 lp309 tqa309 tqb309 (by omega))
            · skip
              refine g_iload 0 dX7_fill_97 rfl ?_
              refine g_aload 3 dX7_fill_99 rfl ?_
              refine g_getf 2 dX7_fill_101 kX4 (by decide) fX7_50 (cr_l2_2).o rfl ?_
              refine g_icmp_le (tgt := 121) dX7_fill_104 rfl (by first | assumption | (unfold gW; omega) | (unfold gW; split <;> omega)) (by first | assumption | (unfold gW; omega) | (unfold gW; split <;> omega)) (fun c311 => ?_) (fun c311 => ?_)
              · skip
                refine g_aload 3 dX7_fill_121 rfl ?_
                refine g_iload 0 dX7_fill_123 rfl ?_
                refine g_aload_n 6 dX7_fill_125 rfl ?_
                refine g_iload_n 5 dX7_fill_126 rfl ?_
                refine g_iload 1 dX7_fill_127 rfl ?_
                have hb313 := ix_bd (sz := dY hp F + dY hp G) (show 0 ≤ i by omega) (show i < dY hp F + dY hp G by omega) (show 0 ≤ k by omega) (show k < dY hp F + dY hp G by omega) (by omega)
                refine g_callV (nc2 := 2) (ns2 := 86) (ci := 7) (As := [.int (gI (i)), .int (gI (k))]) (st := [.int (gI ((dY hp (G)) - ((k) - ((i) - (dY hp (G)))))), .ref (qb)]) rfl dX7_fill_129 okX7_cell lX7_55 itX7_cell seX7_cell rfl cf_l2_0 (by decide) (by decide) rfl (Nat.le_of_ble_eq_true rfl) (sS_cellA N _ B s (dY hp F + dY hp G) (i) (k) (gk) hb313 (Nat.le_trans hlo (fr_l2).1) cf_l2_0 (cr_l2_0).1) (by omega) (by omega) (fun v312 hc312 q312 => ?_)
                obtain ⟨r313, g313, rfl, za313, zb313, zc313, zd313, ze313⟩ := q312
                have fs313 : FSf s h g0 hc312 g313 := FSf.tr wf fr_l2 (FSf.cell ze313 za313 zb313 (by rcases zc313 with y | y; exact Or.inl y.1; exact Or.inr y.2.1))
                have ld313 : LSd hp s hc312 g313 (dY hp F + dY hp G) (eyI hp F G) (i) (k) := LSd.cell cr_l2_0 (by omega) (by omega) ze313 zb313 zd313
                have so313 : hc312.2 s = some (oB 7 [.ref (B + 1), .ref (B + 7), .ref (s + 1), .ref (s + 2), .ref (s + 4), .ref (s + 6), .int (gI ((dY hp (F)) + (dY hp (G))))]) := ze313.2 _ _ cf_l2_0 (by omega)
                have pqa313 : PP hp hc312 qa F := PP.of cr_l2_1 (fun x e hx he => ze313.2 x e he (by unfold AP at ap_qa; omega))
                have pqb313 : PP hp hc312 qb G := PP.of cr_l2_2 (fun x e hx he => ze313.2 x e he (by unfold AP at ap_qb; omega))
                have rr313 := zd313.2.1 _ _ za313
                have lr313 := rr313.1
                refine Go.nf (h' := hc312) (st' := [.ref (r313), .int (gI ((dY hp (G)) - ((k) - ((i) - (dY hp (G)))))), .ref (qb)]) rfl rfl (Nat.le_refl _) (Nat.le_refl _) ?_
                refine g_callV (nc2 := 0) (ns2 := 0) (ci := 4) (As := [.int (gI ((dY hp (G)) - ((k) - ((i) - (dY hp (G)))))), .ref (r313)]) (st := []) rfl dX7_fill_132 okX4_sliceTo lX7_59 itX4_sliceTo seX4_sliceTo rfl (pqb313).o (by decide) (by decide) rfl (Nat.le_of_ble_eq_true rfl) (sQ_sliceTo N _ qb (r313) p hp hp2 ((dY hp (G)) - ((k) - ((i) - (dY hp (G))))) (by omega) (by omega) G pqb313 rr313.2 (AP_ty (by omega) (pqb313).ra rr313.2)) (by omega) (by omega) (fun v314 hc314 q314 => ?_)
                obtain ⟨rfl, fw313, rp313⟩ := q314
                have ft313 : FSf s h g0 hc314 g313 := FSf.tr wf fs313 (FSf.wr fw313 za313)
                have lp313 : LSd hp s hc314 g313 (dY hp F + dY hp G) (eyI hp F G) (i) (k + 1) := LSd.put ld313 fw313 za313 (by omega) (by omega) (by
                                                                      have e9 : eyI hp F G (i) (k) = G ((dY hp (G)) - ((k) - ((i) - (dY hp (G))))).toNat := by
                                                                        unfold eyI
                                                                        rw [if_neg (show ¬ i < dY hp G by omega), if_pos (by omega)]
                                                                      rw [e9]; exact rp313)
                have sp313 : hc314.2 s = some (oB 7 [.ref (B + 1), .ref (B + 7), .ref (s + 1), .ref (s + 2), .ref (s + 4), .ref (s + 6), .int (gI ((dY hp (F)) + (dY hp (G))))]) := Fr.at0 fw313 (Ni.c ⟨by unfold NE; omega, by unfold NE; omega⟩ (Ni.n _)) so313
                have tqa313 : PP hp hc314 qa F := (pqa313).fr fw313 (Ai.c (AP_ty (by omega) (pqa313).ra rr313.2) (Ai.n _))
                have tqb313 : PP hp hc314 qb G := (pqb313).fr fw313 (Ai.c (AP_ty (by omega) (pqb313).ra rr313.2) (Ai.n _))
                refine Go.nf (h' := hc314) (st' := []) rfl rfl (Nat.le_refl _) (Nat.le_refl _) ?_
                refine g_iinc 1 (ls2 := [(7, .int (gI (k + 1))), (8, .int (gI ((dY hp (G)) - ((k) - ((i) - (dY hp (G))))))), (6, .int (gI ((i) - (dY hp (G))))), (5, .ref (qb)), (4, .int (gI (0))), (3, .int (gI (i))), (0, .ref (s)), (1, .ref (qa)), (2, .ref (qb))]) dX7_fill_135 rfl (by decide) rfl ?_
                refine g_goto (tgt := 70) dX7_fill_138 rfl ?_
                refine Go.sub [0, 2, 3, 4, 5, 6, 7, 8] rfl ?_
                exact Go.imp (by omega) (by omega) (ih_l2 _ (by omega) (k + 1) (g313) hc314 rfl ft313 sp313 lp313 tqa313 tqb313 (by omega))
              · skip
                refine g_aload_n 6 dX7_fill_107 rfl ?_
                refine g_iload_n 5 dX7_fill_108 rfl ?_
                refine g_iload 1 dX7_fill_109 rfl ?_
                have hb316 := ix_bd (sz := dY hp F + dY hp G) (show 0 ≤ i by omega) (show i < dY hp F + dY hp G by omega) (show 0 ≤ k by omega) (show k < dY hp F + dY hp G by omega) (by omega)
                refine g_callV (nc2 := 2) (ns2 := 86) (ci := 7) (As := [.int (gI (i)), .int (gI (k))]) (st := []) rfl dX7_fill_111 okX7_cell lX7_55 itX7_cell seX7_cell rfl cf_l2_0 (by decide) (by decide) rfl (Nat.le_of_ble_eq_true rfl) (sS_cellA N _ B s (dY hp F + dY hp G) (i) (k) (gk) hb316 (Nat.le_trans hlo (fr_l2).1) cf_l2_0 (cr_l2_0).1) (by omega) (by omega) (fun v315 hc315 q315 => ?_)
                obtain ⟨r316, g316, rfl, za316, zb316, zc316, zd316, ze316⟩ := q315
                have fs316 : FSf s h g0 hc315 g316 := FSf.tr wf fr_l2 (FSf.cell ze316 za316 zb316 (by rcases zc316 with y | y; exact Or.inl y.1; exact Or.inr y.2.1))
                have ld316 : LSd hp s hc315 g316 (dY hp F + dY hp G) (eyI hp F G) (i) (k) := LSd.cell cr_l2_0 (by omega) (by omega) ze316 zb316 zd316
                have so316 : hc315.2 s = some (oB 7 [.ref (B + 1), .ref (B + 7), .ref (s + 1), .ref (s + 2), .ref (s + 4), .ref (s + 6), .int (gI ((dY hp (F)) + (dY hp (G))))]) := ze316.2 _ _ cf_l2_0 (by omega)
                have pqa316 : PP hp hc315 qa F := PP.of cr_l2_1 (fun x e hx he => ze316.2 x e he (by unfold AP at ap_qa; omega))
                have pqb316 : PP hp hc315 qb G := PP.of cr_l2_2 (fun x e hx he => ze316.2 x e he (by unfold AP at ap_qb; omega))
                have rr316 := zd316.2.1 _ _ za316
                have lr316 := rr316.1
                refine Go.nf (h' := hc315) (st' := [.ref (r316)]) rfl rfl (Nat.le_refl _) (Nat.le_refl _) ?_
                refine g_lconst0 dX7_fill_114 ?_
                refine g_callV (nc2 := 0) (ns2 := 0) (ci := 5) (As := [.long (gJ (0))]) (st := []) rfl dX7_fill_115 okX5_become lX7_38 itX5_become seX5_become rfl (Classical.choose_spec (RA.o rr316.2)) (by decide) (by decide) rfl (Nat.le_of_ble_eq_true rfl) (sP_become N _ (r316) 84 p hp hp2 (0) (by omega) (by omega) rr316.2) (by omega) (by omega) (fun v317 hc317 q317 => ?_)
                obtain ⟨rfl, fw316, rp316⟩ := q317
                have ft316 : FSf s h g0 hc317 g316 := FSf.tr wf fs316 (FSf.wr fw316 za316)
                have lp316 : LSd hp s hc317 g316 (dY hp F + dY hp G) (eyI hp F G) (i) (k + 1) := LSd.put ld316 fw316 za316 (by omega) (by omega) (by
                                                                      have e9 : eyI hp F G (i) (k) = cz hp (zi hp 0) := by
                                                                        unfold eyI
                                                                        rw [if_neg (show ¬ i < dY hp G by omega), if_neg (by omega)]; exact (cz_z0 hp).symm
                                                                      rw [e9]; exact rp316)
                have sp316 : hc317.2 s = some (oB 7 [.ref (B + 1), .ref (B + 7), .ref (s + 1), .ref (s + 2), .ref (s + 4), .ref (s + 6), .int (gI ((dY hp (F)) + (dY hp (G))))]) := Fr.at0 fw316 (Ni.c ⟨by unfold NE; omega, by unfold NE; omega⟩ (Ni.n _)) so316
                have tqa316 : PP hp hc317 qa F := (pqa316).fr fw316 (Ai.c (AP_ty (by omega) (pqa316).ra rr316.2) (Ai.n _))
                have tqb316 : PP hp hc317 qb G := (pqb316).fr fw316 (Ai.c (AP_ty (by omega) (pqb316).ra rr316.2) (Ai.n _))
                refine Go.nf (h' := hc317) (st' := []) rfl rfl (Nat.le_refl _) (Nat.le_refl _) ?_
                refine g_goto (tgt := 135) dX7_fill_118 rfl ?_
                refine g_iinc 1 (ls2 := [(7, .int (gI (k + 1))), (8, .int (gI ((dY hp (G)) - ((k) - ((i) - (dY hp (G))))))), (6, .int (gI ((i) - (dY hp (G))))), (5, .ref (qb)), (4, .int (gI (0))), (3, .int (gI (i))), (0, .ref (s)), (1, .ref (qa)), (2, .ref (qb))]) dX7_fill_135 rfl (by decide) rfl ?_
                refine g_goto (tgt := 70) dX7_fill_138 rfl ?_
                refine Go.sub [0, 2, 3, 4, 5, 6, 7, 8] rfl ?_
                exact Go.imp (by omega) (by omega) (ih_l2 _ (by omega) (k + 1) (g316) hc317 rfl ft316 sp316 lp316 tqa316 tqb316 (by omega))
        exact Go.imp (by omega) (by omega) (l2 _ (0) (g) hl1 rfl fr_l1 cf_l1_0 cr_l1_0 cr_l1_1 cr_l1_2 (by omega))
      · skip
        refine g_iconst dX7_fill_31 ?_
        refine g_goto (tgt := 36) dX7_fill_32 rfl ?_
        refine g_istore (ls2 := [(4, .int (gI (1))), (3, .int (gI (i))), (0, .ref (s)), (1, .ref (qa)), (2, .ref (qb))]) dX7_fill_36 (by decide) rfl ?_
        refine g_iload 0 dX7_fill_38 rfl ?_
        refine g_if_eq (tgt := 47) dX7_fill_40 rfl (by first | assumption | (unfold gW; omega) | (unfold gW; split <;> omega)) (fun c418 => absurd c418 (by omega)) (fun c418 => ?_)
        refine g_aload_n 3 dX7_fill_43 rfl ?_
        refine g_goto (tgt := 48) dX7_fill_44 rfl ?_
        refine g_astore (ls2 := [(5, .ref (qa)), (4, .int (gI (1))), (3, .int (gI (i))), (0, .ref (s)), (1, .ref (qa)), (2, .ref (qb))]) dX7_fill_48 (by decide) rfl ?_
        refine g_iload 1 dX7_fill_50 rfl ?_
        refine g_if_eq (tgt := 59) dX7_fill_52 rfl (by first | assumption | (unfold gW; omega) | (unfold gW; split <;> omega)) (fun c419 => absurd c419 (by omega)) (fun c419 => ?_)
        refine g_iload_n 2 dX7_fill_55 rfl ?_
        refine g_goto (tgt := 65) dX7_fill_56 rfl ?_
        refine g_istore (ls2 := [(6, .int (gI (i))), (5, .ref (qa)), (4, .int (gI (1))), (3, .int (gI (i))), (0, .ref (s)), (1, .ref (qa)), (2, .ref (qb))]) dX7_fill_65 (by decide) rfl ?_
        refine g_iconst dX7_fill_67 ?_
        refine g_istore (ls2 := [(7, .int (gI (0))), (6, .int (gI (i))), (5, .ref (qa)), (4, .int (gI (1))), (3, .int (gI (i))), (0, .ref (s)), (1, .ref (qa)), (2, .ref (qb))]) dX7_fill_68 (by decide) rfl ?_
        have l2 : ∀ (kk : Nat) (k : Int) (gk : Int → Option Nat) (hl2 : GH), kk = (12 - k).toNat → FSf s h g0 hl2 gk → hl2.2 (s) = some (oB 7 [.ref (B + 1), .ref (B + 7), .ref (s + 1), .ref (s + 2), .ref (s + 4), .ref (s + 6), .int (gI ((dY hp (F)) + (dY hp (G))))]) → LSd hp s hl2 (gk) (dY hp F + dY hp G) (eyI hp F G) (i) (k) → PP hp hl2 (qa) (F) → PP hp hl2 (qb) (G) → (0 ≤ k ∧ k ≤ dY hp F + dY hp G) → Go N mX7_fill (fun v h1 => v = none ∧ ∃ g, FSf s h g0 h1 g ∧ LSq hp s h1 g (dY hp F + dY hp G) (eyI hp F G) ∧ h1.2 s = some (sO B s (dY hp F + dY hp G)) ∧ PP hp h1 qa F ∧ PP hp h1 qb G) (24 * (11 - i).toNat + 2 * (12 - k).toNat) (1032 * (11 - i).toNat + 86 * (12 - k).toNat) hl2 70 [(7, .int (gI (k))), (6, .int (gI (i))), (5, .ref (qa)), (4, .int (gI (1))), (3, .int (gI (i))), (0, .ref (s)), (1, .ref (qa)), (2, .ref (qb))] [] := by
          refine Go.ind (fun kk ih_l2 => ?_)
          intro k gk hl2 hkk_l2 fr_l2 cf_l2_0 cr_l2_0 cr_l2_1 cr_l2_2 hk
          refine g_iload 0 dX7_fill_70 rfl ?_
          refine g_aload_n 5 dX7_fill_72 rfl ?_
          refine g_getf 6 dX7_fill_73 kX7 (by decide) fX7_42 cf_l2_0 rfl ?_
          refine g_icmp_ge (tgt := 141) dX7_fill_76 rfl (by first | assumption | (unfold gW; omega) | (unfold gW; split <;> omega)) (by first | assumption | (unfold gW; omega) | (unfold gW; split <;> omega)) (fun c520 => ?_) (fun c520 => ?_)
          · skip
            refine g_iinc 4 (ls2 := [(3, .int (gI (i + 1))), (7, .int (gI (k))), (6, .int (gI (i))), (5, .ref (qa)), (4, .int (gI (1))), (0, .ref (s)), (1, .ref (qa)), (2, .ref (qb))]) dX7_fill_141 rfl (by decide) rfl ?_
            refine g_goto (tgt := 15) dX7_fill_144 rfl ?_
            refine Go.sub [0, 5, 6, 7] rfl ?_
            exact Go.imp (by omega) (by omega) (ih_l1 _ (by omega) (i + 1) (gk) hl2 rfl fr_l2 cf_l2_0 ((cr_l2_0).row (by omega)) cr_l2_1 cr_l2_2 (by omega))
          · skip
            refine g_aload 2 dX7_fill_79 rfl ?_
            refine g_getf 2 dX7_fill_81 kX4 (by decide) fX7_50 (cr_l2_1).o rfl ?_
            refine g_iload 0 dX7_fill_84 rfl ?_
            refine g_iload 1 dX7_fill_86 rfl ?_
            refine g_isub dX7_fill_88 ?_
            refine g_isub dX7_fill_89 ?_
            refine g_istore (ls2 := [(8, .int (gI ((dY hp (F)) - ((k) - (i))))), (7, .int (gI (k))), (6, .int (gI (i))), (5, .ref (qa)), (4, .int (gI (1))), (3, .int (gI (i))), (0, .ref (s)), (1, .ref (qa)), (2, .ref (qb))]) dX7_fill_90 (by decide) rfl ?_
            refine g_iload 0 dX7_fill_92 rfl ?_
            refine g_if_lt (tgt := 107) dX7_fill_94 rfl (by first | assumption | (unfold gW; omega) | (unfold gW; split <;> omega)) (fun c521 => ?_) (fun c521 => ?_)
            · skip
              refine g_aload_n 6 dX7_fill_107 rfl ?_
              refine g_iload_n 5 dX7_fill_108 rfl ?_
              refine g_iload 1 dX7_fill_109 rfl ?_
              have hb523 := ix_bd (sz := dY hp F + dY hp G) (show 0 ≤ i by omega) (show i < dY hp F + dY hp G by omega) (show 0 ≤ k by omega) (show k < dY hp F + dY hp G by omega) (by omega)
              refine g_callV (nc2 := 2) (ns2 := 86) (ci := 7) (As := [.int (gI (i)), .int (gI (k))]) (st := []) rfl dX7_fill_111 okX7_cell lX7_55 itX7_cell seX7_cell rfl cf_l2_0 (by decide) (by decide) rfl (Nat.le_of_ble_eq_true rfl) (sS_cellA N _ B s (dY hp F + dY hp G) (i) (k) (gk) hb523 (Nat.le_trans hlo (fr_l2).1) cf_l2_0 (cr_l2_0).1) (by omega) (by omega) (fun v522 hc522 q522 => ?_)
              obtain ⟨r523, g523, rfl, za523, zb523, zc523, zd523, ze523⟩ := q522
              have fs523 : FSf s h g0 hc522 g523 := FSf.tr wf fr_l2 (FSf.cell ze523 za523 zb523 (by rcases zc523 with y | y; exact Or.inl y.1; exact Or.inr y.2.1))
              have ld523 : LSd hp s hc522 g523 (dY hp F + dY hp G) (eyI hp F G) (i) (k) := LSd.cell cr_l2_0 (by omega) (by omega) ze523 zb523 zd523
              have so523 : hc522.2 s = some (oB 7 [.ref (B + 1), .ref (B + 7), .ref (s + 1), .ref (s + 2), .ref (s + 4), .ref (s + 6), .int (gI ((dY hp (F)) + (dY hp (G))))]) := ze523.2 _ _ cf_l2_0 (by omega)
              have pqa523 : PP hp hc522 qa F := PP.of cr_l2_1 (fun x e hx he => ze523.2 x e he (by unfold AP at ap_qa; omega))
              have pqb523 : PP hp hc522 qb G := PP.of cr_l2_2 (fun x e hx he => ze523.2 x e he (by unfold AP at ap_qb; omega))
              have rr523 := zd523.2.1 _ _ za523
              have lr523 := rr523.1
              refine Go.nf (h' := hc522) (st' := [.ref (r523)]) rfl rfl (Nat.le_refl _) (Nat.le_refl _) ?_
              refine g_lconst0 dX7_fill_114 ?_
              refine g_callV (nc2 := 0) (ns2 := 0) (ci := 5) (As := [.long (gJ (0))]) (st := []) rfl dX7_fill_115 okX5_become lX7_38 itX5_become seX5_become rfl (Classical.choose_spec (RA.o rr523.2)) (by decide) (by decide) rfl (Nat.le_of_ble_eq_true rfl) (sP_become N _ (r523) 84 p hp hp2 (0) (by omega) (by omega) rr523.2) (by omega) (by omega) (fun v524 hc524 q524 => ?_)
              obtain ⟨rfl, fw523, rp523⟩ := q524
              have ft523 : FSf s h g0 hc524 g523 := FSf.tr wf fs523 (FSf.wr fw523 za523)
              have lp523 : LSd hp s hc524 g523 (dY hp F + dY hp G) (eyI hp F G) (i) (k + 1) := LSd.put ld523 fw523 za523 (by omega) (by omega) (by
                                                                      have e9 : eyI hp F G (i) (k) = cz hp (zi hp 0) := by
                                                                        unfold eyI
                                                                        rw [if_pos (show i < dY hp G by omega), if_neg (by omega)]; exact (cz_z0 hp).symm
                                                                      rw [e9]; exact rp523)
              have sp523 : hc524.2 s = some (oB 7 [.ref (B + 1), .ref (B + 7), .ref (s + 1), .ref (s + 2), .ref (s + 4), .ref (s + 6), .int (gI ((dY hp (F)) + (dY hp (G))))]) := Fr.at0 fw523 (Ni.c ⟨by unfold NE; omega, by unfold NE; omega⟩ (Ni.n _)) so523
              have tqa523 : PP hp hc524 qa F := (pqa523).fr fw523 (Ai.c (AP_ty (by omega) (pqa523).ra rr523.2) (Ai.n _))
              have tqb523 : PP hp hc524 qb G := (pqb523).fr fw523 (Ai.c (AP_ty (by omega) (pqb523).ra rr523.2) (Ai.n _))
              refine Go.nf (h' := hc524) (st' := []) rfl rfl (Nat.le_refl _) (Nat.le_refl _) ?_
              refine g_goto (tgt := 135) dX7_fill_118 rfl ?_
              refine g_iinc 1 (ls2 := [(7, .int (gI (k + 1))), (8, .int (gI ((dY hp (F)) - ((k) - (i))))), (6, .int (gI (i))), (5, .ref (qa)), (4, .int (gI (1))), (3, .int (gI (i))), (0, .ref (s)), (1, .ref (qa)), (2, .ref (qb))]) dX7_fill_135 rfl (by decide) rfl ?_
              refine g_goto (tgt := 70) dX7_fill_138 rfl ?_
              refine Go.sub [0, 2, 3, 4, 5, 6, 7, 8] rfl ?_
              exact Go.imp (by omega) (by omega) (ih_l2 _ (by omega) (k + 1) (g523) hc524 rfl ft523 sp523 lp523 tqa523 tqb523 (by omega))
            · skip
              refine g_iload 0 dX7_fill_97 rfl ?_
              refine g_aload 3 dX7_fill_99 rfl ?_
              refine g_getf 2 dX7_fill_101 kX4 (by decide) fX7_50 (cr_l2_1).o rfl ?_
              refine g_icmp_le (tgt := 121) dX7_fill_104 rfl (by first | assumption | (unfold gW; omega) | (unfold gW; split <;> omega)) (by first | assumption | (unfold gW; omega) | (unfold gW; split <;> omega)) (fun c525 => ?_) (fun c525 => ?_)
              · skip
                refine g_aload 3 dX7_fill_121 rfl ?_
                refine g_iload 0 dX7_fill_123 rfl ?_
                refine g_aload_n 6 dX7_fill_125 rfl ?_
                refine g_iload_n 5 dX7_fill_126 rfl ?_
                refine g_iload 1 dX7_fill_127 rfl ?_
                have hb527 := ix_bd (sz := dY hp F + dY hp G) (show 0 ≤ i by omega) (show i < dY hp F + dY hp G by omega) (show 0 ≤ k by omega) (show k < dY hp F + dY hp G by omega) (by omega)
                refine g_callV (nc2 := 2) (ns2 := 86) (ci := 7) (As := [.int (gI (i)), .int (gI (k))]) (st := [.int (gI ((dY hp (F)) - ((k) - (i)))), .ref (qa)]) rfl dX7_fill_129 okX7_cell lX7_55 itX7_cell seX7_cell rfl cf_l2_0 (by decide) (by decide) rfl (Nat.le_of_ble_eq_true rfl) (sS_cellA N _ B s (dY hp F + dY hp G) (i) (k) (gk) hb527 (Nat.le_trans hlo (fr_l2).1) cf_l2_0 (cr_l2_0).1) (by omega) (by omega) (fun v526 hc526 q526 => ?_)
                obtain ⟨r527, g527, rfl, za527, zb527, zc527, zd527, ze527⟩ := q526
                have fs527 : FSf s h g0 hc526 g527 := FSf.tr wf fr_l2 (FSf.cell ze527 za527 zb527 (by rcases zc527 with y | y; exact Or.inl y.1; exact Or.inr y.2.1))
                have ld527 : LSd hp s hc526 g527 (dY hp F + dY hp G) (eyI hp F G) (i) (k) := LSd.cell cr_l2_0 (by omega) (by omega) ze527 zb527 zd527
                have so527 : hc526.2 s = some (oB 7 [.ref (B + 1), .ref (B + 7), .ref (s + 1), .ref (s + 2), .ref (s + 4), .ref (s + 6), .int (gI ((dY hp (F)) + (dY hp (G))))]) := ze527.2 _ _ cf_l2_0 (by omega)
                have pqa527 : PP hp hc526 qa F := PP.of cr_l2_1 (fun x e hx he => ze527.2 x e he (by unfold AP at ap_qa; omega))
                have pqb527 : PP hp hc526 qb G := PP.of cr_l2_2 (fun x e hx he => ze527.2 x e he (by unfold AP at ap_qb; omega))
                have rr527 := zd527.2.1 _ _ za527
                have lr527 := rr527.1
                refine Go.nf (h' := hc526) (st' := [.ref (r527), .int (gI ((dY hp (F)) - ((k) - (i)))), .ref (qa)]) rfl rfl (Nat.le_refl _) (Nat.le_refl _) ?_
                refine g_callV (nc2 := 0) (ns2 := 0) (ci := 4) (As := [.int (gI ((dY hp (F)) - ((k) - (i)))), .ref (r527)]) (st := []) rfl dX7_fill_132 okX4_sliceTo lX7_59 itX4_sliceTo seX4_sliceTo rfl (pqa527).o (by decide) (by decide) rfl (Nat.le_of_ble_eq_true rfl) (sQ_sliceTo N _ qa (r527) p hp hp2 ((dY hp (F)) - ((k) - (i))) (by omega) (by omega) F pqa527 rr527.2 (AP_ty (by omega) (pqa527).ra rr527.2)) (by omega) (by omega) (fun v528 hc528 q528 => ?_)
                obtain ⟨rfl, fw527, rp527⟩ := q528
                have ft527 : FSf s h g0 hc528 g527 := FSf.tr wf fs527 (FSf.wr fw527 za527)
                have lp527 : LSd hp s hc528 g527 (dY hp F + dY hp G) (eyI hp F G) (i) (k + 1) := LSd.put ld527 fw527 za527 (by omega) (by omega) (by
                                                                      have e9 : eyI hp F G (i) (k) = F ((dY hp (F)) - ((k) - (i))).toNat := by
                                                                        unfold eyI
                                                                        rw [if_pos (show i < dY hp G by omega), if_pos (by omega)]
                                                                      rw [e9]; exact rp527)
                have sp527 : hc528.2 s = some (oB 7 [.ref (B + 1), .ref (B + 7), .ref (s + 1), .ref (s + 2), .ref (s + 4), .ref (s + 6), .int (gI ((dY hp (F)) + (dY hp (G))))]) := Fr.at0 fw527 (Ni.c ⟨by unfold NE; omega, by unfold NE; omega⟩ (Ni.n _)) so527
                have tqa527 : PP hp hc528 qa F := (pqa527).fr fw527 (Ai.c (AP_ty (by omega) (pqa527).ra rr527.2) (Ai.n _))
                have tqb527 : PP hp hc528 qb G := (pqb527).fr fw527 (Ai.c (AP_ty (by omega) (pqb527).ra rr527.2) (Ai.n _))
                refine Go.nf (h' := hc528) (st' := []) rfl rfl (Nat.le_refl _) (Nat.le_refl _) ?_
                refine g_iinc 1 (ls2 := [(7, .int (gI (k + 1))), (8, .int (gI ((dY hp (F)) - ((k) - (i))))), (6, .int (gI (i))), (5, .ref (qa)), (4, .int (gI (1))), (3, .int (gI (i))), (0, .ref (s)), (1, .ref (qa)), (2, .ref (qb))]) dX7_fill_135 rfl (by decide) rfl ?_
                refine g_goto (tgt := 70) dX7_fill_138 rfl ?_
                refine Go.sub [0, 2, 3, 4, 5, 6, 7, 8] rfl ?_
                exact Go.imp (by omega) (by omega) (ih_l2 _ (by omega) (k + 1) (g527) hc528 rfl ft527 sp527 lp527 tqa527 tqb527 (by omega))
              · skip
                refine g_aload_n 6 dX7_fill_107 rfl ?_
                refine g_iload_n 5 dX7_fill_108 rfl ?_
                refine g_iload 1 dX7_fill_109 rfl ?_
                have hb530 := ix_bd (sz := dY hp F + dY hp G) (show 0 ≤ i by omega) (show i < dY hp F + dY hp G by omega) (show 0 ≤ k by omega) (show k < dY hp F + dY hp G by omega) (by omega)
                refine g_callV (nc2 := 2) (ns2 := 86) (ci := 7) (As := [.int (gI (i)), .int (gI (k))]) (st := []) rfl dX7_fill_111 okX7_cell lX7_55 itX7_cell seX7_cell rfl cf_l2_0 (by decide) (by decide) rfl (Nat.le_of_ble_eq_true rfl) (sS_cellA N _ B s (dY hp F + dY hp G) (i) (k) (gk) hb530 (Nat.le_trans hlo (fr_l2).1) cf_l2_0 (cr_l2_0).1) (by omega) (by omega) (fun v529 hc529 q529 => ?_)
                obtain ⟨r530, g530, rfl, za530, zb530, zc530, zd530, ze530⟩ := q529
                have fs530 : FSf s h g0 hc529 g530 := FSf.tr wf fr_l2 (FSf.cell ze530 za530 zb530 (by rcases zc530 with y | y; exact Or.inl y.1; exact Or.inr y.2.1))
                have ld530 : LSd hp s hc529 g530 (dY hp F + dY hp G) (eyI hp F G) (i) (k) := LSd.cell cr_l2_0 (by omega) (by omega) ze530 zb530 zd530
                have so530 : hc529.2 s = some (oB 7 [.ref (B + 1), .ref (B + 7), .ref (s + 1), .ref (s + 2), .ref (s + 4), .ref (s + 6), .int (gI ((dY hp (F)) + (dY hp (G))))]) := ze530.2 _ _ cf_l2_0 (by omega)
                have pqa530 : PP hp hc529 qa F := PP.of cr_l2_1 (fun x e hx he => ze530.2 x e he (by unfold AP at ap_qa; omega))
                have pqb530 : PP hp hc529 qb G := PP.of cr_l2_2 (fun x e hx he => ze530.2 x e he (by unfold AP at ap_qb; omega))
                have rr530 := zd530.2.1 _ _ za530
                have lr530 := rr530.1
                refine Go.nf (h' := hc529) (st' := [.ref (r530)]) rfl rfl (Nat.le_refl _) (Nat.le_refl _) ?_
                refine g_lconst0 dX7_fill_114 ?_
                refine g_callV (nc2 := 0) (ns2 := 0) (ci := 5) (As := [.long (gJ (0))]) (st := []) rfl dX7_fill_115 okX5_become lX7_38 itX5_become seX5_become rfl (Classical.choose_spec (RA.o rr530.2)) (by decide) (by decide) rfl (Nat.le_of_ble_eq_true rfl) (sP_become N _ (r530) 84 p hp hp2 (0) (by omega) (by omega) rr530.2) (by omega) (by omega) (fun v531 hc531 q531 => ?_)
                obtain ⟨rfl, fw530, rp530⟩ := q531
                have ft530 : FSf s h g0 hc531 g530 := FSf.tr wf fs530 (FSf.wr fw530 za530)
                have lp530 : LSd hp s hc531 g530 (dY hp F + dY hp G) (eyI hp F G) (i) (k + 1) := LSd.put ld530 fw530 za530 (by omega) (by omega) (by
                                                                      have e9 : eyI hp F G (i) (k) = cz hp (zi hp 0) := by
                                                                        unfold eyI
                                                                        rw [if_pos (show i < dY hp G by omega), if_neg (by omega)]; exact (cz_z0 hp).symm
                                                                      rw [e9]; exact rp530)
                have sp530 : hc531.2 s = some (oB 7 [.ref (B + 1), .ref (B + 7), .ref (s + 1), .ref (s + 2), .ref (s + 4), .ref (s + 6), .int (gI ((dY hp (F)) + (dY hp (G))))]) := Fr.at0 fw530 (Ni.c ⟨by unfold NE; omega, by unfold NE; omega⟩ (Ni.n _)) so530
                have tqa530 : PP hp hc531 qa F := (pqa530).fr fw530 (Ai.c (AP_ty (by omega) (pqa530).ra rr530.2) (Ai.n _))
                have tqb530 : PP hp hc531 qb G := (pqb530).fr fw530 (Ai.c (AP_ty (by omega) (pqb530).ra rr530.2) (Ai.n _))
                refine Go.nf (h' := hc531) (st' := []) rfl rfl (Nat.le_refl _) (Nat.le_refl _) ?_
                refine g_goto (tgt := 135) dX7_fill_118 rfl ?_
                refine g_iinc 1 (ls2 := [(7, .int (gI (k + 1))), (8, .int (gI ((dY hp (F)) - ((k) - (i))))), (6, .int (gI (i))), (5, .ref (qa)), (4, .int (gI (1))), (3, .int (gI (i))), (0, .ref (s)), (1, .ref (qa)), (2, .ref (qb))]) dX7_fill_135 rfl (by decide) rfl ?_
                refine g_goto (tgt := 70) dX7_fill_138 rfl ?_
                refine Go.sub [0, 2, 3, 4, 5, 6, 7, 8] rfl ?_
                exact Go.imp (by omega) (by omega) (ih_l2 _ (by omega) (k + 1) (g530) hc531 rfl ft530 sp530 lp530 tqa530 tqb530 (by omega))
        exact Go.imp (by omega) (by omega) (l2 _ (0) (g) hl1 rfl fr_l1 cf_l1_0 cr_l1_0 cr_l1_1 cr_l1_2 (by omega))
  exact Go.imp (by omega) (by omega) (l1 _ (0) (g0) hh1 rfl fs0 fh1_0 ld0 pzqa pzqb (by omega))
