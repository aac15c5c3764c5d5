section
variable {p : Nat}
/-- the row that is 1, whatever p is -/
def RO (h : GH) (r : Nat) : Prop := ∃ g, RW 1 h r 0 g ∧ g 0 = 1
theorem RO.rp {h : GH} {r : Nat} (w : RO h r) (hp : prm p) : RP hp 1 h r (cz hp (zi hp 1)) := by
  obtain ⟨g, a, b⟩ := w
  have hp1 := hp.1
  have z := PO_cz (h := hp) (g := g) (c := 1) (by omega) (by omega) b
  rw [if_neg (by omega)] at z
  exact ⟨g, by rw [z.dgi]; exact a, by rw [z.dgi]; exact z⟩
theorem RP.ro {h : GH} {r : Nat} {hp : prm p} (w : RP hp 1 h r (cz hp (zi hp 1))) : RO h r := by
  obtain ⟨g, a, b⟩ := w
  have hp1 := hp.1
  have z := PO_cz (h := hp) (g := fun _ => 1) (c := 1) (by omega) (by omega) rfl
  rw [if_neg (by omega)] at z
  rw [z.dgi] at a b
  exact ⟨g, a, (PO_cf b (k := 0) (by omega) (by omega)).trans (PO_cf z (k := 0) (by omega) (by omega)).symm⟩
theorem RO.of1 {h h1 : GH} {r : Nat} (w : RO h r) (f : ∀ (x : Nat) (e : GE), x = r ∨ x = r + 1 → h.2 x = some e → h1.2 x = some e) : RO h1 r := by
  obtain ⟨g, ⟨a, b, c⟩, d⟩ := w
  exact ⟨g, ⟨f _ _ (Or.inl rfl) a, f _ _ (Or.inr rfl) b, c⟩, d⟩
end
set_option maxHeartbeats 4000000 in
set_option maxRecDepth 100000 in
theorem sS_init (N : GN) (h : GH) (B s p : Nat) (hp : prm p) (hp2 : p ≤ 65536) (hn : h.1 = s + 1) (ho : h.2 s = some (oB 7 [.null, .null, .null, .null, .null, .null, .int (gI 0)])) : Sp N yX7_init mX7_init 7 478 [.ref (s), .ref (B + 1), .ref (B + 7)] h (fun v h1 => v = none ∧ h1.1 = s + 8 ∧ (∀ x, x < s → h1.2 x = h.2 x) ∧ h1.2 s = some (sO B s 0) ∧ h1.2 (s + 1) = some (aR "PolyWork$Row" 144 (fun _ => none)) ∧ RA 160 h1 (s + 2) ∧ RA 160 h1 (s + 4) ∧ RO h1 (s + 6)) := by
  refine Sp.of (by decide) rfl rfl (Nat.le_of_ble_eq_true rfl) ?_
  show Go N mX7_init _ 7 478 h 0 [(0, .ref (s)), (1, .ref (B + 1)), (2, .ref (B + 7))] []
  have hbl : ∀ x, x < s → h.2 x = h.2 x := fun _ _ => rfl
  have hp1 := hp.1
  refine g_aload_n 0 dX7_init_0 rfl ?_
  refine g_objInit dX7_init_1 lX7_3 (by decide) (Nat.le_of_ble_eq_true rfl) ?_
  refine g_aload_n 0 dX7_init_4 rfl ?_
  refine g_sipush dX7_init_5 (by decide) ?_
  refine g_anewarr (n := 144) dX7_init_8 (by decide) (by decide) cX7_9 (by decide) (by omega) (by omega) ?_
  obtain ⟨hh1, eh1⟩ : ∃ z : GH, z = hnew h (aR "PolyWork$Row" 144 (fun _ => none)) := ⟨_, rfl⟩
  refine Go.hp eh1.symm ?_
  rw [hn]
  have fh1_0 : hh1.2 (s) = some (oB 7 [.null, .null, .null, .null, .null, .null, .int (gI (0))]) := by rw [eh1, hnew_n _ _ (by omega)]; exact ho
  have fq1 : hh1.2 (s + 1) = some (aR "PolyWork$Row" 144 (fun _ => none)) := by
                                                                      have e9 := hnew_s h (aR "PolyWork$Row" 144 (fun _ => none))
                                                                      rw [hn] at e9
                                                                      rw [eh1]; exact e9
  have bl1 : ∀ x, x < s → hh1.2 x = h.2 x := fun x hx => (show hh1.2 x = h.2 x by rw [eh1, hnew_n _ _ (by omega)]).trans (hbl x hx)
  have nk1 : hh1.1 = s + 2 := by rw [eh1]; show h.1 + 1 = _; omega
  refine g_putF 2 dX7_init_11 kX7 (by decide) fX7_11 rfl rfl rfl fh1_0 (Nat.le_of_ble_eq_true rfl) rfl rfl ?_
  obtain ⟨hh2, eh2⟩ : ∃ z : GH, z = hset hh1 (s) (oB 7 [.null, .null, .ref (s + 1), .null, .null, .null, .int (gI (0))]) := ⟨_, rfl⟩
  refine Go.hp eh2.symm ?_
  have fh2_0 : hh2.2 (s) = some (oB 7 [.null, .null, .ref (s + 1), .null, .null, .null, .int (gI (0))]) := hs_s eh2
  have fh2_1 : hh2.2 (s + 1) = some (aR "PolyWork$Row" 144 (fun _ => none)) := hs_n eh2 (show NE (s + 1) (s) by unfold NE; omega) fq1
  have bl2 : ∀ x, x < s → hh2.2 x = h.2 x := fun x hx => by rw [eh2, hset_n _ _ (by omega)]; exact bl1 x hx
  have nk2 : hh2.1 = s + 2 := by rw [eh2]; exact nk1
  refine g_aload_n 0 dX7_init_14 rfl ?_
  refine g_new (fs := [.null, .int (gI (0))]) dX7_init_15 kX5 cX7_9 niX5 nzX5 (by decide) (by omega) (by omega) ?_
  obtain ⟨hh3, eh3⟩ : ∃ z : GH, z = hnew hh2 (oB 5 [.null, .int (gI (0))]) := ⟨_, rfl⟩
  refine Go.hp eh3.symm ?_
  rw [nk2]
  have fh3_0 : hh3.2 (s) = some (oB 7 [.null, .null, .ref (s + 1), .null, .null, .null, .int (gI (0))]) := by rw [eh3, hnew_n _ _ (by omega)]; exact fh2_0
  have fh3_1 : hh3.2 (s + 1) = some (aR "PolyWork$Row" 144 (fun _ => none)) := by rw [eh3, hnew_n _ _ (by omega)]; exact fh2_1
  have fq3 : hh3.2 (s + 2) = some (oB 5 [.null, .int (gI (0))]) := by
                                                                      have e9 := hnew_s hh2 (oB 5 [.null, .int (gI (0))])
                                                                      rw [nk2] at e9
                                                                      rw [eh3]; exact e9
  have bl3 : ∀ x, x < s → hh3.2 x = h.2 x := fun x hx => (show hh3.2 x = hh2.2 x by rw [eh3, hnew_n _ _ (by omega)]).trans (bl2 x hx)
  have nk3 : hh3.1 = s + 3 := by rw [eh3]; show hh2.1 + 1 = _; omega
  refine g_dup dX7_init_18 rfl ?_
  refine g_sipush dX7_init_19 (by decide) ?_
  refine g_callI (nc2 := 1) (ns2 := 160) (As := [.int (gI (160))]) (st := [.ref (s + 2), .ref (s)]) rfl dX7_init_22 okX5_init rfl lX7_17 itX5_init rfl (by decide) (by decide) rfl (Nat.le_of_ble_eq_true rfl) (sX5_initG160 N _ (s + 2) (by omega) fq3) (by omega) (by omega) (fun v4 hc4 q4 => ?_)
  obtain ⟨rfl, hq5⟩ := q4
  rw [nk3] at hq5
  have fi5_0 : hc4.2 (s) = some (oB 7 [.null, .null, .ref (s + 1), .null, .null, .null, .int (gI (0))]) := by rw [hq5, hset_n _ _ (by omega), hnew_n _ _ (by omega)]; exact fh3_0
  have fi5_1 : hc4.2 (s + 1) = some (aR "PolyWork$Row" 144 (fun _ => none)) := by rw [hq5, hset_n _ _ (by omega), hnew_n _ _ (by omega)]; exact fh3_1
  have fi5_2 : hc4.2 (s + 2) = some (oB 5 [.ref (s + 3), .int (gI (-1))]) := by rw [hq5]; exact hset_s _ _ _
  have fin5 : hc4.2 (s + 3) = some (aJ 160 (fun _ => 0)) := by
                                                                      have e9 := hnew_s hh3 (aJ 160 (fun _ => 0))
                                                                      rw [nk3] at e9
                                                                      rw [hq5, hset_n _ _ (by omega)]; exact e9
  have bl5 : ∀ x, x < s → hc4.2 x = h.2 x := fun x hx => by rw [hq5, hset_n _ _ (by omega), hnew_n _ _ (by omega)]; exact bl3 x hx
  have nk5 : hc4.1 = s + 4 := by rw [hq5]; show hh3.1 + 1 = _; omega
  refine Go.nf (h' := hc4) (st' := [.ref (s + 2), .ref (s)]) rfl rfl (Nat.le_refl _) (Nat.le_refl _) ?_
  refine g_putF 3 dX7_init_25 kX7 (by decide) fX7_20 rfl rfl rfl fi5_0 (Nat.le_of_ble_eq_true rfl) rfl rfl ?_
  obtain ⟨hh6, eh6⟩ : ∃ z : GH, z = hset hc4 (s) (oB 7 [.null, .null, .ref (s + 1), .ref (s + 2), .null, .null, .int (gI (0))]) := ⟨_, rfl⟩
  refine Go.hp eh6.symm ?_
  have fh6_0 : hh6.2 (s) = some (oB 7 [.null, .null, .ref (s + 1), .ref (s + 2), .null, .null, .int (gI (0))]) := hs_s eh6
  have fh6_1 : hh6.2 (s + 1) = some (aR "PolyWork$Row" 144 (fun _ => none)) := hs_n eh6 (show NE (s + 1) (s) by unfold NE; omega) fi5_1
  have fh6_2 : hh6.2 (s + 2) = some (oB 5 [.ref (s + 3), .int (gI (-1))]) := hs_n eh6 (show NE (s + 2) (s) by unfold NE; omega) fi5_2
  have fh6_3 : hh6.2 (s + 3) = some (aJ 160 (fun _ => 0)) := hs_n eh6 (show NE (s + 3) (s) by unfold NE; omega) fin5
  have bl6 : ∀ x, x < s → hh6.2 x = h.2 x := fun x hx => by rw [eh6, hset_n _ _ (by omega)]; exact bl5 x hx
  have nk6 : hh6.1 = s + 4 := by rw [eh6]; exact nk5
  refine g_aload_n 0 dX7_init_28 rfl ?_
  refine g_new (fs := [.null, .int (gI (0))]) dX7_init_29 kX5 cX7_9 niX5 nzX5 (by decide) (by omega) (by omega) ?_
  obtain ⟨hh7, eh7⟩ : ∃ z : GH, z = hnew hh6 (oB 5 [.null, .int (gI (0))]) := ⟨_, rfl⟩
  refine Go.hp eh7.symm ?_
  rw [nk6]
  have fh7_0 : hh7.2 (s) = some (oB 7 [.null, .null, .ref (s + 1), .ref (s + 2), .null, .null, .int (gI (0))]) := by rw [eh7, hnew_n _ _ (by omega)]; exact fh6_0
  have fh7_1 : hh7.2 (s + 1) = some (aR "PolyWork$Row" 144 (fun _ => none)) := by rw [eh7, hnew_n _ _ (by omega)]; exact fh6_1
  have fh7_2 : hh7.2 (s + 2) = some (oB 5 [.ref (s + 3), .int (gI (-1))]) := by rw [eh7, hnew_n _ _ (by omega)]; exact fh6_2
  have fh7_3 : hh7.2 (s + 3) = some (aJ 160 (fun _ => 0)) := by rw [eh7, hnew_n _ _ (by omega)]; exact fh6_3
  have fq7 : hh7.2 (s + 4) = some (oB 5 [.null, .int (gI (0))]) := by
                                                                      have e9 := hnew_s hh6 (oB 5 [.null, .int (gI (0))])
                                                                      rw [nk6] at e9
                                                                      rw [eh7]; exact e9
  have bl7 : ∀ x, x < s → hh7.2 x = h.2 x := fun x hx => (show hh7.2 x = hh6.2 x by rw [eh7, hnew_n _ _ (by omega)]).trans (bl6 x hx)
  have nk7 : hh7.1 = s + 5 := by rw [eh7]; show hh6.1 + 1 = _; omega
  refine g_dup dX7_init_32 rfl ?_
  refine g_sipush dX7_init_33 (by decide) ?_
  refine g_callI (nc2 := 1) (ns2 := 160) (As := [.int (gI (160))]) (st := [.ref (s + 4), .ref (s)]) rfl dX7_init_36 okX5_init rfl lX7_17 itX5_init rfl (by decide) (by decide) rfl (Nat.le_of_ble_eq_true rfl) (sX5_initG160 N _ (s + 4) (by omega) fq7) (by omega) (by omega) (fun v8 hc8 q8 => ?_)
  obtain ⟨rfl, hq9⟩ := q8
  rw [nk7] at hq9
  have fi9_0 : hc8.2 (s) = some (oB 7 [.null, .null, .ref (s + 1), .ref (s + 2), .null, .null, .int (gI (0))]) := by rw [hq9, hset_n _ _ (by omega), hnew_n _ _ (by omega)]; exact fh7_0
  have fi9_1 : hc8.2 (s + 1) = some (aR "PolyWork$Row" 144 (fun _ => none)) := by rw [hq9, hset_n _ _ (by omega), hnew_n _ _ (by omega)]; exact fh7_1
  have fi9_2 : hc8.2 (s + 2) = some (oB 5 [.ref (s + 3), .int (gI (-1))]) := by rw [hq9, hset_n _ _ (by omega), hnew_n _ _ (by omega)]; exact fh7_2
  have fi9_3 : hc8.2 (s + 3) = some (aJ 160 (fun _ => 0)) := by rw [hq9, hset_n _ _ (by omega), hnew_n _ _ (by omega)]; exact fh7_3
  have fi9_4 : hc8.2 (s + 4) = some (oB 5 [.ref (s + 5), .int (gI (-1))]) := by rw [hq9]; exact hset_s _ _ _
  have fin9 : hc8.2 (s + 5) = some (aJ 160 (fun _ => 0)) := by
                                                                      have e9 := hnew_s hh7 (aJ 160 (fun _ => 0))
                                                                      rw [nk7] at e9
                                                                      rw [hq9, hset_n _ _ (by omega)]; exact e9
  have bl9 : ∀ x, x < s → hc8.2 x = h.2 x := fun x hx => by rw [hq9, hset_n _ _ (by omega), hnew_n _ _ (by omega)]; exact bl7 x hx
  have nk9 : hc8.1 = s + 6 := by rw [hq9]; show hh7.1 + 1 = _; omega
  refine Go.nf (h' := hc8) (st' := [.ref (s + 4), .ref (s)]) rfl rfl (Nat.le_refl _) (Nat.le_refl _) ?_
  refine g_putF 4 dX7_init_39 kX7 (by decide) fX7_24 rfl rfl rfl fi9_0 (Nat.le_of_ble_eq_true rfl) rfl rfl ?_
  obtain ⟨hh10, eh10⟩ : ∃ z : GH, z = hset hc8 (s) (oB 7 [.null, .null, .ref (s + 1), .ref (s + 2), .ref (s + 4), .null, .int (gI (0))]) := ⟨_, rfl⟩
  refine Go.hp eh10.symm ?_
  have fh10_0 : hh10.2 (s) = some (oB 7 [.null, .null, .ref (s + 1), .ref (s + 2), .ref (s + 4), .null, .int (gI (0))]) := hs_s eh10
  have fh10_1 : hh10.2 (s + 1) = some (aR "PolyWork$Row" 144 (fun _ => none)) := hs_n eh10 (show NE (s + 1) (s) by unfold NE; omega) fi9_1
  have fh10_2 : hh10.2 (s + 2) = some (oB 5 [.ref (s + 3), .int (gI (-1))]) := hs_n eh10 (show NE (s + 2) (s) by unfold NE; omega) fi9_2
  have fh10_3 : hh10.2 (s + 3) = some (aJ 160 (fun _ => 0)) := hs_n eh10 (show NE (s + 3) (s) by unfold NE; omega) fi9_3
  have fh10_4 : hh10.2 (s + 4) = some (oB 5 [.ref (s + 5), .int (gI (-1))]) := hs_n eh10 (show NE (s + 4) (s) by unfold NE; omega) fi9_4
  have fh10_5 : hh10.2 (s + 5) = some (aJ 160 (fun _ => 0)) := hs_n eh10 (show NE (s + 5) (s) by unfold NE; omega) fin9
  have bl10 : ∀ x, x < s → hh10.2 x = h.2 x := fun x hx => by rw [eh10, hset_n _ _ (by omega)]; exact bl9 x hx
  have nk10 : hh10.1 = s + 6 := by rw [eh10]; exact nk9
  refine g_aload_n 0 dX7_init_42 rfl ?_
  refine g_new (fs := [.null, .int (gI (0))]) dX7_init_43 kX5 cX7_9 niX5 nzX5 (by decide) (by omega) (by omega) ?_
  obtain ⟨hh11, eh11⟩ : ∃ z : GH, z = hnew hh10 (oB 5 [.null, .int (gI (0))]) := ⟨_, rfl⟩
  refine Go.hp eh11.symm ?_
  rw [nk10]
  have fh11_0 : hh11.2 (s) = some (oB 7 [.null, .null, .ref (s + 1), .ref (s + 2), .ref (s + 4), .null, .int (gI (0))]) := by rw [eh11, hnew_n _ _ (by omega)]; exact fh10_0
  have fh11_1 : hh11.2 (s + 1) = some (aR "PolyWork$Row" 144 (fun _ => none)) := by rw [eh11, hnew_n _ _ (by omega)]; exact fh10_1
  have fh11_2 : hh11.2 (s + 2) = some (oB 5 [.ref (s + 3), .int (gI (-1))]) := by rw [eh11, hnew_n _ _ (by omega)]; exact fh10_2
  have fh11_3 : hh11.2 (s + 3) = some (aJ 160 (fun _ => 0)) := by rw [eh11, hnew_n _ _ (by omega)]; exact fh10_3
  have fh11_4 : hh11.2 (s + 4) = some (oB 5 [.ref (s + 5), .int (gI (-1))]) := by rw [eh11, hnew_n _ _ (by omega)]; exact fh10_4
  have fh11_5 : hh11.2 (s + 5) = some (aJ 160 (fun _ => 0)) := by rw [eh11, hnew_n _ _ (by omega)]; exact fh10_5
  have fq11 : hh11.2 (s + 6) = some (oB 5 [.null, .int (gI (0))]) := by
                                                                      have e9 := hnew_s hh10 (oB 5 [.null, .int (gI (0))])
                                                                      rw [nk10] at e9
                                                                      rw [eh11]; exact e9
  have bl11 : ∀ x, x < s → hh11.2 x = h.2 x := fun x hx => (show hh11.2 x = hh10.2 x by rw [eh11, hnew_n _ _ (by omega)]).trans (bl10 x hx)
  have nk11 : hh11.1 = s + 7 := by rw [eh11]; show hh10.1 + 1 = _; omega
  refine g_dup dX7_init_46 rfl ?_
  refine g_iconst dX7_init_47 ?_
  refine g_callI (nc2 := 1) (ns2 := 1) (As := [.int (gI (1))]) (st := [.ref (s + 6), .ref (s)]) rfl dX7_init_48 okX5_init rfl lX7_17 itX5_init rfl (by decide) (by decide) rfl (Nat.le_of_ble_eq_true rfl) (sX5_initG1 N _ (s + 6) (by omega) fq11) (by omega) (by omega) (fun v12 hc12 q12 => ?_)
  obtain ⟨rfl, hq13⟩ := q12
  rw [nk11] at hq13
  have fi13_0 : hc12.2 (s) = some (oB 7 [.null, .null, .ref (s + 1), .ref (s + 2), .ref (s + 4), .null, .int (gI (0))]) := by rw [hq13, hset_n _ _ (by omega), hnew_n _ _ (by omega)]; exact fh11_0
  have fi13_1 : hc12.2 (s + 1) = some (aR "PolyWork$Row" 144 (fun _ => none)) := by rw [hq13, hset_n _ _ (by omega), hnew_n _ _ (by omega)]; exact fh11_1
  have fi13_2 : hc12.2 (s + 2) = some (oB 5 [.ref (s + 3), .int (gI (-1))]) := by rw [hq13, hset_n _ _ (by omega), hnew_n _ _ (by omega)]; exact fh11_2
  have fi13_3 : hc12.2 (s + 3) = some (aJ 160 (fun _ => 0)) := by rw [hq13, hset_n _ _ (by omega), hnew_n _ _ (by omega)]; exact fh11_3
  have fi13_4 : hc12.2 (s + 4) = some (oB 5 [.ref (s + 5), .int (gI (-1))]) := by rw [hq13, hset_n _ _ (by omega), hnew_n _ _ (by omega)]; exact fh11_4
  have fi13_5 : hc12.2 (s + 5) = some (aJ 160 (fun _ => 0)) := by rw [hq13, hset_n _ _ (by omega), hnew_n _ _ (by omega)]; exact fh11_5
  have fi13_6 : hc12.2 (s + 6) = some (oB 5 [.ref (s + 7), .int (gI (-1))]) := by rw [hq13]; exact hset_s _ _ _
  have fin13 : hc12.2 (s + 7) = some (aJ 1 (fun _ => 0)) := by
                                                                      have e9 := hnew_s hh11 (aJ 1 (fun _ => 0))
                                                                      rw [nk11] at e9
                                                                      rw [hq13, hset_n _ _ (by omega)]; exact e9
  have bl13 : ∀ x, x < s → hc12.2 x = h.2 x := fun x hx => by rw [hq13, hset_n _ _ (by omega), hnew_n _ _ (by omega)]; exact bl11 x hx
  have nk13 : hc12.1 = s + 8 := by rw [hq13]; show hh11.1 + 1 = _; omega
  refine Go.nf (h' := hc12) (st' := [.ref (s + 6), .ref (s)]) rfl rfl (Nat.le_refl _) (Nat.le_refl _) ?_
  refine g_putF 5 dX7_init_51 kX7 (by decide) fX7_27 rfl rfl rfl fi13_0 (Nat.le_of_ble_eq_true rfl) rfl rfl ?_
  obtain ⟨hh14, eh14⟩ : ∃ z : GH, z = hset hc12 (s) (oB 7 [.null, .null, .ref (s + 1), .ref (s + 2), .ref (s + 4), .ref (s + 6), .int (gI (0))]) := ⟨_, rfl⟩
  refine Go.hp eh14.symm ?_
  have fh14_0 : hh14.2 (s) = some (oB 7 [.null, .null, .ref (s + 1), .ref (s + 2), .ref (s + 4), .ref (s + 6), .int (gI (0))]) := hs_s eh14
  have fh14_1 : hh14.2 (s + 1) = some (aR "PolyWork$Row" 144 (fun _ => none)) := hs_n eh14 (show NE (s + 1) (s) by unfold NE; omega) fi13_1
  have fh14_2 : hh14.2 (s + 2) = some (oB 5 [.ref (s + 3), .int (gI (-1))]) := hs_n eh14 (show NE (s + 2) (s) by unfold NE; omega) fi13_2
  have fh14_3 : hh14.2 (s + 3) = some (aJ 160 (fun _ => 0)) := hs_n eh14 (show NE (s + 3) (s) by unfold NE; omega) fi13_3
  have fh14_4 : hh14.2 (s + 4) = some (oB 5 [.ref (s + 5), .int (gI (-1))]) := hs_n eh14 (show NE (s + 4) (s) by unfold NE; omega) fi13_4
  have fh14_5 : hh14.2 (s + 5) = some (aJ 160 (fun _ => 0)) := hs_n eh14 (show NE (s + 5) (s) by unfold NE; omega) fi13_5
  have fh14_6 : hh14.2 (s + 6) = some (oB 5 [.ref (s + 7), .int (gI (-1))]) := hs_n eh14 (show NE (s + 6) (s) by unfold NE; omega) fi13_6
  have fh14_7 : hh14.2 (s + 7) = some (aJ 1 (fun _ => 0)) := hs_n eh14 (show NE (s + 7) (s) by unfold NE; omega) fin13
  have bl14 : ∀ x, x < s → hh14.2 x = h.2 x := fun x hx => by rw [eh14, hset_n _ _ (by omega)]; exact bl13 x hx
  have nk14 : hh14.1 = s + 8 := by rw [eh14]; exact nk13
  refine g_aload_n 0 dX7_init_54 rfl ?_
  refine g_aload_n 1 dX7_init_55 rfl ?_
  refine g_putF 0 dX7_init_56 kX7 (by decide) fX7_30 rfl rfl rfl fh14_0 (Nat.le_of_ble_eq_true rfl) rfl rfl ?_
  obtain ⟨hh15, eh15⟩ : ∃ z : GH, z = hset hh14 (s) (oB 7 [.ref (B + 1), .null, .ref (s + 1), .ref (s + 2), .ref (s + 4), .ref (s + 6), .int (gI (0))]) := ⟨_, rfl⟩
  refine Go.hp eh15.symm ?_
  have fh15_0 : hh15.2 (s) = some (oB 7 [.ref (B + 1), .null, .ref (s + 1), .ref (s + 2), .ref (s + 4), .ref (s + 6), .int (gI (0))]) := hs_s eh15
  have fh15_1 : hh15.2 (s + 1) = some (aR "PolyWork$Row" 144 (fun _ => none)) := hs_n eh15 (show NE (s + 1) (s) by unfold NE; omega) fh14_1
  have fh15_2 : hh15.2 (s + 2) = some (oB 5 [.ref (s + 3), .int (gI (-1))]) := hs_n eh15 (show NE (s + 2) (s) by unfold NE; omega) fh14_2
  have fh15_3 : hh15.2 (s + 3) = some (aJ 160 (fun _ => 0)) := hs_n eh15 (show NE (s + 3) (s) by unfold NE; omega) fh14_3
  have fh15_4 : hh15.2 (s + 4) = some (oB 5 [.ref (s + 5), .int (gI (-1))]) := hs_n eh15 (show NE (s + 4) (s) by unfold NE; omega) fh14_4
  have fh15_5 : hh15.2 (s + 5) = some (aJ 160 (fun _ => 0)) := hs_n eh15 (show NE (s + 5) (s) by unfold NE; omega) fh14_5
  have fh15_6 : hh15.2 (s + 6) = some (oB 5 [.ref (s + 7), .int (gI (-1))]) := hs_n eh15 (show NE (s + 6) (s) by unfold NE; omega) fh14_6
  have fh15_7 : hh15.2 (s + 7) = some (aJ 1 (fun _ => 0)) := hs_n eh15 (show NE (s + 7) (s) by unfold NE; omega) fh14_7
  have bl15 : ∀ x, x < s → hh15.2 x = h.2 x := fun x hx => by rw [eh15, hset_n _ _ (by omega)]; exact bl14 x hx
  have nk15 : hh15.1 = s + 8 := by rw [eh15]; exact nk14
  refine g_aload_n 0 dX7_init_59 rfl ?_
  refine g_aload_n 2 dX7_init_60 rfl ?_
  refine g_putF 1 dX7_init_61 kX7 (by decide) fX7_34 rfl rfl rfl fh15_0 (Nat.le_of_ble_eq_true rfl) rfl rfl ?_
  obtain ⟨hh16, eh16⟩ : ∃ z : GH, z = hset hh15 (s) (oB 7 [.ref (B + 1), .ref (B + 7), .ref (s + 1), .ref (s + 2), .ref (s + 4), .ref (s + 6), .int (gI (0))]) := ⟨_, rfl⟩
  refine Go.hp eh16.symm ?_
  have fh16_0 : hh16.2 (s) = some (oB 7 [.ref (B + 1), .ref (B + 7), .ref (s + 1), .ref (s + 2), .ref (s + 4), .ref (s + 6), .int (gI (0))]) := hs_s eh16
  have fh16_1 : hh16.2 (s + 1) = some (aR "PolyWork$Row" 144 (fun _ => none)) := hs_n eh16 (show NE (s + 1) (s) by unfold NE; omega) fh15_1
  have fh16_2 : hh16.2 (s + 2) = some (oB 5 [.ref (s + 3), .int (gI (-1))]) := hs_n eh16 (show NE (s + 2) (s) by unfold NE; omega) fh15_2
  have fh16_3 : hh16.2 (s + 3) = some (aJ 160 (fun _ => 0)) := hs_n eh16 (show NE (s + 3) (s) by unfold NE; omega) fh15_3
  have fh16_4 : hh16.2 (s + 4) = some (oB 5 [.ref (s + 5), .int (gI (-1))]) := hs_n eh16 (show NE (s + 4) (s) by unfold NE; omega) fh15_4
  have fh16_5 : hh16.2 (s + 5) = some (aJ 160 (fun _ => 0)) := hs_n eh16 (show NE (s + 5) (s) by unfold NE; omega) fh15_5
  have fh16_6 : hh16.2 (s + 6) = some (oB 5 [.ref (s + 7), .int (gI (-1))]) := hs_n eh16 (show NE (s + 6) (s) by unfold NE; omega) fh15_6
  have fh16_7 : hh16.2 (s + 7) = some (aJ 1 (fun _ => 0)) := hs_n eh16 (show NE (s + 7) (s) by unfold NE; omega) fh15_7
  have bl16 : ∀ x, x < s → hh16.2 x = h.2 x := fun x hx => by rw [eh16, hset_n _ _ (by omega)]; exact bl15 x hx
  have nk16 : hh16.1 = s + 8 := by rw [eh16]; exact nk15
  refine g_aload_n 0 dX7_init_64 rfl ?_
  refine g_getf 5 dX7_init_65 kX7 (by decide) fX7_27 fh16_0 rfl ?_
  refine g_lconst1 dX7_init_68 ?_
  refine g_callV (nc2 := 0) (ns2 := 0) (ci := 5) (As := [.long (gJ (1))]) (st := []) rfl dX7_init_69 okX5_become lX7_38 itX5_become seX5_become rfl fh16_6 (by decide) (by decide) rfl (Nat.le_of_ble_eq_true rfl) (sP_become N _ (s + 6) 1 p hp hp2 (1) (by omega) (by omega) ⟨-1, fun _ => 0, fh16_6, fh16_7, fun _ => by show gX 0; unfold gX; omega, by omega, by omega, by omega, by omega⟩) (by omega) (by omega) (fun v17 hc17 q17 => ?_)
  obtain ⟨rfl, fc, rn⟩ := q17
  have fe18_0 : hc17.2 (s) = some (oB 7 [.ref (B + 1), .ref (B + 7), .ref (s + 1), .ref (s + 2), .ref (s + 4), .ref (s + 6), .int (gI (0))]) := Fr.at0 fc (Ni.c ⟨show NE (s) (s + 6) by unfold NE; omega, show NE (s) (s + 6 + 1) by unfold NE; omega⟩ (Ni.n _)) fh16_0
  have fe18_1 : hc17.2 (s + 1) = some (aR "PolyWork$Row" 144 (fun _ => none)) := Fr.at0 fc (Ni.c ⟨show NE (s + 1) (s + 6) by unfold NE; omega, show NE (s + 1) (s + 6 + 1) by unfold NE; omega⟩ (Ni.n _)) fh16_1
  have fe18_2 : hc17.2 (s + 2) = some (oB 5 [.ref (s + 3), .int (gI (-1))]) := Fr.at0 fc (Ni.c ⟨show NE (s + 2) (s + 6) by unfold NE; omega, show NE (s + 2) (s + 6 + 1) by unfold NE; omega⟩ (Ni.n _)) fh16_2
  have fe18_3 : hc17.2 (s + 3) = some (aJ 160 (fun _ => 0)) := Fr.at0 fc (Ni.c ⟨show NE (s + 3) (s + 6) by unfold NE; omega, show NE (s + 3) (s + 6 + 1) by unfold NE; omega⟩ (Ni.n _)) fh16_3
  have fe18_4 : hc17.2 (s + 4) = some (oB 5 [.ref (s + 5), .int (gI (-1))]) := Fr.at0 fc (Ni.c ⟨show NE (s + 4) (s + 6) by unfold NE; omega, show NE (s + 4) (s + 6 + 1) by unfold NE; omega⟩ (Ni.n _)) fh16_4
  have fe18_5 : hc17.2 (s + 5) = some (aJ 160 (fun _ => 0)) := Fr.at0 fc (Ni.c ⟨show NE (s + 5) (s + 6) by unfold NE; omega, show NE (s + 5) (s + 6 + 1) by unfold NE; omega⟩ (Ni.n _)) fh16_5
  have blz : ∀ x, x < s → hc17.2 x = h.2 x := fun x hx => by rw [fc.2 x (Ni.c ⟨show NE x (s + 6) by unfold NE; omega, show NE x (s + 6 + 1) by unfold NE; omega⟩ (Ni.n _))]; exact bl16 x hx
  have nkz : hc17.1 = s + 8 := by rw [fc.1]; exact nk16
  refine Go.nf (h' := hc17) (st' := []) rfl rfl (Nat.le_refl _) (Nat.le_refl _) ?_
  exact g_vret dX7_init_72 rfl ⟨rfl, nkz, blz, fe18_0, fe18_1, ⟨-1, fun _ => 0, fe18_2, fe18_3, fun _ => by show gX 0; unfold gX; omega, by omega, by omega, by omega, by omega⟩, ⟨-1, fun _ => 0, fe18_4, fe18_5, fun _ => by show gX 0; unfold gX; omega, by omega, by omega, by omega, by omega⟩, rn.ro⟩
