set_option maxHeartbeats 4000000 in
set_option maxRecDepth 100000 in
theorem sF_init6 (N : GN) (h : GH) (B s : Nat) (hn : h.1 = s + 1) (ho : h.2 s = some (oB 6 [.null, .null, .null, .null, .null, .null, .null, .int (gI 0)])) : Sp N yX6_init mX6_init 8 1900 [.ref (s), .ref (B + 1), .ref (B + 7)] h (fun v h1 => v = none ∧ h1.1 = s + 9 ∧ (∀ x, x < s → h1.2 x = h.2 x) ∧ h1.2 s = some (oB 6 [.ref (B + 1), .ref (B + 7), .ref (s + 1), .ref (s + 2), .ref (s + 3), .ref (s + 5), .ref (s + 7), .int (gI 0)]) ∧ h1.2 (s + 1) = some (aJ 1600 (fun _ => 0)) ∧ h1.2 (s + 2) = some (aI 40 (fun _ => 0)) ∧ RA 84 h1 (s + 3) ∧ RA 84 h1 (s + 5) ∧ RA 84 h1 (s + 7)) := by
  refine Sp.of (by decide) rfl rfl (Nat.le_of_ble_eq_true rfl) ?_
  show Go N mX6_init _ 8 1900 h 0 [(0, .ref (s)), (1, .ref (B + 1)), (2, .ref (B + 7))] []
  have hbl : ∀ x, x < s → h.2 x = h.2 x := fun _ _ => rfl
  refine g_aload_n 0 dX6_init_0 rfl ?_
  refine g_objInit dX6_init_1 lX6_3 (by decide) (Nat.le_of_ble_eq_true rfl) ?_
  refine g_aload_n 0 dX6_init_4 rfl ?_
  refine g_sipush dX6_init_5 (by decide) ?_
  refine g_newarr (n := 1600) (ty := .long) dX6_init_8 rfl rfl (by decide) ac_long (by decide) (by decide) (by omega) (by omega) ?_
  obtain ⟨hh1, eh1⟩ : ∃ z : GH, z = hnew h (aJ 1600 (fun _ => 0)) := ⟨_, rfl⟩
  refine Go.hp eh1.symm ?_
  rw [hn]
  have fh1_0 : hh1.2 (s) = some (oB 6 [.null, .null, .null, .null, .null, .null, .null, .int (gI (0))]) := by rw [eh1, hnew_n _ _ (by omega)]; exact ho
  have fq1 : hh1.2 (s + 1) = some (aJ 1600 (fun _ => 0)) := by
                                                                      have e9 := hnew_s h (aJ 1600 (fun _ => 0))
                                                                      rw [hn] at e9
                                                                      rw [eh1]; exact e9
  have bl1 : ∀ x, x < s → hh1.2 x = h.2 x := fun x hx => (show hh1.2 x = h.2 x by rw [eh1, hnew_n _ _ (by omega)]).trans (hbl x hx)
  have nk1 : hh1.1 = s + 2 := by rw [eh1]; show h.1 + 1 = _; omega
  refine g_putF 2 dX6_init_10 kX6 (by decide) fX6_9 rfl rfl rfl fh1_0 (Nat.le_of_ble_eq_true rfl) rfl rfl ?_
  obtain ⟨hh2, eh2⟩ : ∃ z : GH, z = hset hh1 (s) (oB 6 [.null, .null, .ref (s + 1), .null, .null, .null, .null, .int (gI (0))]) := ⟨_, rfl⟩
  refine Go.hp eh2.symm ?_
  have fh2_0 : hh2.2 (s) = some (oB 6 [.null, .null, .ref (s + 1), .null, .null, .null, .null, .int (gI (0))]) := hs_s eh2
  have fh2_1 : hh2.2 (s + 1) = some (aJ 1600 (fun _ => 0)) := hs_n eh2 (show NE (s + 1) (s) by unfold NE; omega) fq1
  have bl2 : ∀ x, x < s → hh2.2 x = h.2 x := fun x hx => by rw [eh2, hset_n _ _ (by omega)]; exact bl1 x hx
  have nk2 : hh2.1 = s + 2 := by rw [eh2]; exact nk1
  clear fh1_0 fq1 bl1 nk1
  refine g_aload_n 0 dX6_init_13 rfl ?_
  refine g_bipush dX6_init_14 (by decide) ?_
  refine g_newarr (n := 40) (ty := .int) dX6_init_16 rfl rfl (by decide) ac_int (by decide) (by decide) (by omega) (by omega) ?_
  obtain ⟨hh3, eh3⟩ : ∃ z : GH, z = hnew hh2 (aI 40 (fun _ => 0)) := ⟨_, rfl⟩
  refine Go.hp eh3.symm ?_
  rw [nk2]
  have fh3_0 : hh3.2 (s) = some (oB 6 [.null, .null, .ref (s + 1), .null, .null, .null, .null, .int (gI (0))]) := by rw [eh3, hnew_n _ _ (by omega)]; exact fh2_0
  have fh3_1 : hh3.2 (s + 1) = some (aJ 1600 (fun _ => 0)) := by rw [eh3, hnew_n _ _ (by omega)]; exact fh2_1
  have fq3 : hh3.2 (s + 2) = some (aI 40 (fun _ => 0)) := by
                                                                      have e9 := hnew_s hh2 (aI 40 (fun _ => 0))
                                                                      rw [nk2] at e9
                                                                      rw [eh3]; exact e9
  have bl3 : ∀ x, x < s → hh3.2 x = h.2 x := fun x hx => (show hh3.2 x = hh2.2 x by rw [eh3, hnew_n _ _ (by omega)]).trans (bl2 x hx)
  have nk3 : hh3.1 = s + 3 := by rw [eh3]; show hh2.1 + 1 = _; omega
  clear fh2_0 fh2_1 bl2 nk2
  refine g_putF 3 dX6_init_18 kX6 (by decide) fX6_15 rfl rfl rfl fh3_0 (Nat.le_of_ble_eq_true rfl) rfl rfl ?_
  obtain ⟨hh4, eh4⟩ : ∃ z : GH, z = hset hh3 (s) (oB 6 [.null, .null, .ref (s + 1), .ref (s + 2), .null, .null, .null, .int (gI (0))]) := ⟨_, rfl⟩
  refine Go.hp eh4.symm ?_
  have fh4_0 : hh4.2 (s) = some (oB 6 [.null, .null, .ref (s + 1), .ref (s + 2), .null, .null, .null, .int (gI (0))]) := hs_s eh4
  have fh4_1 : hh4.2 (s + 1) = some (aJ 1600 (fun _ => 0)) := hs_n eh4 (show NE (s + 1) (s) by unfold NE; omega) fh3_1
  have fh4_2 : hh4.2 (s + 2) = some (aI 40 (fun _ => 0)) := hs_n eh4 (show NE (s + 2) (s) by unfold NE; omega) fq3
  have bl4 : ∀ x, x < s → hh4.2 x = h.2 x := fun x hx => by rw [eh4, hset_n _ _ (by omega)]; exact bl3 x hx
  have nk4 : hh4.1 = s + 3 := by rw [eh4]; exact nk3
  clear fh3_0 fh3_1 fq3 bl3 nk3
  refine g_aload_n 0 dX6_init_21 rfl ?_
  refine g_new (fs := [.null, .int (gI (0))]) dX6_init_22 kX5 cX6_19 niX5 nzX5 (by decide) (by omega) (by omega) ?_
  obtain ⟨hh5, eh5⟩ : ∃ z : GH, z = hnew hh4 (oB 5 [.null, .int (gI (0))]) := ⟨_, rfl⟩
  refine Go.hp eh5.symm ?_
  rw [nk4]
  have fh5_0 : hh5.2 (s) = some (oB 6 [.null, .null, .ref (s + 1), .ref (s + 2), .null, .null, .null, .int (gI (0))]) := by rw [eh5, hnew_n _ _ (by omega)]; exact fh4_0
  have fh5_1 : hh5.2 (s + 1) = some (aJ 1600 (fun _ => 0)) := by rw [eh5, hnew_n _ _ (by omega)]; exact fh4_1
  have fh5_2 : hh5.2 (s + 2) = some (aI 40 (fun _ => 0)) := by rw [eh5, hnew_n _ _ (by omega)]; exact fh4_2
  have fq5 : hh5.2 (s + 3) = some (oB 5 [.null, .int (gI (0))]) := by
                                                                      have e9 := hnew_s hh4 (oB 5 [.null, .int (gI (0))])
                                                                      rw [nk4] at e9
                                                                      rw [eh5]; exact e9
  have bl5 : ∀ x, x < s → hh5.2 x = h.2 x := fun x hx => (show hh5.2 x = hh4.2 x by rw [eh5, hnew_n _ _ (by omega)]).trans (bl4 x hx)
  have nk5 : hh5.1 = s + 4 := by rw [eh5]; show hh4.1 + 1 = _; omega
  clear fh4_0 fh4_1 fh4_2 bl4 nk4
  refine g_dup dX6_init_25 rfl ?_
  refine g_bipush dX6_init_26 (by decide) ?_
  refine g_callI (nc2 := 1) (ns2 := 84) (As := [.int (gI (84))]) (st := [.ref (s + 3), .ref (s)]) rfl dX6_init_28 okX5_init rfl lX6_21 itX5_init rfl (by decide) (by decide) rfl (Nat.le_of_ble_eq_true rfl) (sX5_initG84 N _ (s + 3) (by omega) fq5) (by omega) (by omega) (fun v6 hc6 q6 => ?_)
  obtain ⟨rfl, hq7⟩ := q6
  rw [nk5] at hq7
  have fi7_0 : hc6.2 (s) = some (oB 6 [.null, .null, .ref (s + 1), .ref (s + 2), .null, .null, .null, .int (gI (0))]) := by rw [hq7, hset_n _ _ (by omega), hnew_n _ _ (by omega)]; exact fh5_0
  have fi7_1 : hc6.2 (s + 1) = some (aJ 1600 (fun _ => 0)) := by rw [hq7, hset_n _ _ (by omega), hnew_n _ _ (by omega)]; exact fh5_1
  have fi7_2 : hc6.2 (s + 2) = some (aI 40 (fun _ => 0)) := by rw [hq7, hset_n _ _ (by omega), hnew_n _ _ (by omega)]; exact fh5_2
  have fi7_3 : hc6.2 (s + 3) = some (oB 5 [.ref (s + 4), .int (gI (-1))]) := by rw [hq7]; exact hset_s _ _ _
  have fin7 : hc6.2 (s + 4) = some (aJ 84 (fun _ => 0)) := by
                                                                      have e9 := hnew_s hh5 (aJ 84 (fun _ => 0))
                                                                      rw [nk5] at e9
                                                                      rw [hq7, hset_n _ _ (by omega)]; exact e9
  have bl7 : ∀ x, x < s → hc6.2 x = h.2 x := fun x hx => by rw [hq7, hset_n _ _ (by omega), hnew_n _ _ (by omega)]; exact bl5 x hx
  have nk7 : hc6.1 = s + 5 := by rw [hq7]; show hh5.1 + 1 = _; omega
  refine Go.nf (h' := hc6) (st' := [.ref (s + 3), .ref (s)]) rfl rfl (Nat.le_refl _) (Nat.le_refl _) ?_
  clear fh5_0 fh5_1 fh5_2 fq5 bl5 nk5
  refine g_putF 4 dX6_init_31 kX6 (by decide) fX6_24 rfl rfl rfl fi7_0 (Nat.le_of_ble_eq_true rfl) rfl rfl ?_
  obtain ⟨hh8, eh8⟩ : ∃ z : GH, z = hset hc6 (s) (oB 6 [.null, .null, .ref (s + 1), .ref (s + 2), .ref (s + 3), .null, .null, .int (gI (0))]) := ⟨_, rfl⟩
  refine Go.hp eh8.symm ?_
  have fh8_0 : hh8.2 (s) = some (oB 6 [.null, .null, .ref (s + 1), .ref (s + 2), .ref (s + 3), .null, .null, .int (gI (0))]) := hs_s eh8
  have fh8_1 : hh8.2 (s + 1) = some (aJ 1600 (fun _ => 0)) := hs_n eh8 (show NE (s + 1) (s) by unfold NE; omega) fi7_1
  have fh8_2 : hh8.2 (s + 2) = some (aI 40 (fun _ => 0)) := hs_n eh8 (show NE (s + 2) (s) by unfold NE; omega) fi7_2
  have fh8_3 : hh8.2 (s + 3) = some (oB 5 [.ref (s + 4), .int (gI (-1))]) := hs_n eh8 (show NE (s + 3) (s) by unfold NE; omega) fi7_3
  have fh8_4 : hh8.2 (s + 4) = some (aJ 84 (fun _ => 0)) := hs_n eh8 (show NE (s + 4) (s) by unfold NE; omega) fin7
  have bl8 : ∀ x, x < s → hh8.2 x = h.2 x := fun x hx => by rw [eh8, hset_n _ _ (by omega)]; exact bl7 x hx
  have nk8 : hh8.1 = s + 5 := by rw [eh8]; exact nk7
  clear fi7_0 fi7_1 fi7_2 fi7_3 fin7 bl7 nk7
  refine g_aload_n 0 dX6_init_34 rfl ?_
  refine g_new (fs := [.null, .int (gI (0))]) dX6_init_35 kX5 cX6_19 niX5 nzX5 (by decide) (by omega) (by omega) ?_
  obtain ⟨hh9, eh9⟩ : ∃ z : GH, z = hnew hh8 (oB 5 [.null, .int (gI (0))]) := ⟨_, rfl⟩
  refine Go.hp eh9.symm ?_
  rw [nk8]
  have fh9_0 : hh9.2 (s) = some (oB 6 [.null, .null, .ref (s + 1), .ref (s + 2), .ref (s + 3), .null, .null, .int (gI (0))]) := by rw [eh9, hnew_n _ _ (by omega)]; exact fh8_0
  have fh9_1 : hh9.2 (s + 1) = some (aJ 1600 (fun _ => 0)) := by rw [eh9, hnew_n _ _ (by omega)]; exact fh8_1
  have fh9_2 : hh9.2 (s + 2) = some (aI 40 (fun _ => 0)) := by rw [eh9, hnew_n _ _ (by omega)]; exact fh8_2
  have fh9_3 : hh9.2 (s + 3) = some (oB 5 [.ref (s + 4), .int (gI (-1))]) := by rw [eh9, hnew_n _ _ (by omega)]; exact fh8_3
  have fh9_4 : hh9.2 (s + 4) = some (aJ 84 (fun _ => 0)) := by rw [eh9, hnew_n _ _ (by omega)]; exact fh8_4
  have fq9 : hh9.2 (s + 5) = some (oB 5 [.null, .int (gI (0))]) := by
                                                                      have e9 := hnew_s hh8 (oB 5 [.null, .int (gI (0))])
                                                                      rw [nk8] at e9
                                                                      rw [eh9]; exact e9
  have bl9 : ∀ x, x < s → hh9.2 x = h.2 x := fun x hx => (show hh9.2 x = hh8.2 x by rw [eh9, hnew_n _ _ (by omega)]).trans (bl8 x hx)
  have nk9 : hh9.1 = s + 6 := by rw [eh9]; show hh8.1 + 1 = _; omega
  clear fh8_0 fh8_1 fh8_2 fh8_3 fh8_4 bl8 nk8
  refine g_dup dX6_init_38 rfl ?_
  refine g_bipush dX6_init_39 (by decide) ?_
  refine g_callI (nc2 := 1) (ns2 := 84) (As := [.int (gI (84))]) (st := [.ref (s + 5), .ref (s)]) rfl dX6_init_41 okX5_init rfl lX6_21 itX5_init rfl (by decide) (by decide) rfl (Nat.le_of_ble_eq_true rfl) (sX5_initG84 N _ (s + 5) (by omega) fq9) (by omega) (by omega) (fun v10 hc10 q10 => ?_)
  obtain ⟨rfl, hq11⟩ := q10
  rw [nk9] at hq11
  have fi11_0 : hc10.2 (s) = some (oB 6 [.null, .null, .ref (s + 1), .ref (s + 2), .ref (s + 3), .null, .null, .int (gI (0))]) := by rw [hq11, hset_n _ _ (by omega), hnew_n _ _ (by omega)]; exact fh9_0
  have fi11_1 : hc10.2 (s + 1) = some (aJ 1600 (fun _ => 0)) := by rw [hq11, hset_n _ _ (by omega), hnew_n _ _ (by omega)]; exact fh9_1
  have fi11_2 : hc10.2 (s + 2) = some (aI 40 (fun _ => 0)) := by rw [hq11, hset_n _ _ (by omega), hnew_n _ _ (by omega)]; exact fh9_2
  have fi11_3 : hc10.2 (s + 3) = some (oB 5 [.ref (s + 4), .int (gI (-1))]) := by rw [hq11, hset_n _ _ (by omega), hnew_n _ _ (by omega)]; exact fh9_3
  have fi11_4 : hc10.2 (s + 4) = some (aJ 84 (fun _ => 0)) := by rw [hq11, hset_n _ _ (by omega), hnew_n _ _ (by omega)]; exact fh9_4
  have fi11_5 : hc10.2 (s + 5) = some (oB 5 [.ref (s + 6), .int (gI (-1))]) := by rw [hq11]; exact hset_s _ _ _
  have fin11 : hc10.2 (s + 6) = some (aJ 84 (fun _ => 0)) := by
                                                                      have e9 := hnew_s hh9 (aJ 84 (fun _ => 0))
                                                                      rw [nk9] at e9
                                                                      rw [hq11, hset_n _ _ (by omega)]; exact e9
  have bl11 : ∀ x, x < s → hc10.2 x = h.2 x := fun x hx => by rw [hq11, hset_n _ _ (by omega), hnew_n _ _ (by omega)]; exact bl9 x hx
  have nk11 : hc10.1 = s + 7 := by rw [hq11]; show hh9.1 + 1 = _; omega
  refine Go.nf (h' := hc10) (st' := [.ref (s + 5), .ref (s)]) rfl rfl (Nat.le_refl _) (Nat.le_refl _) ?_
  clear fh9_0 fh9_1 fh9_2 fh9_3 fh9_4 fq9 bl9 nk9
  refine g_putF 5 dX6_init_44 kX6 (by decide) fX6_28 rfl rfl rfl fi11_0 (Nat.le_of_ble_eq_true rfl) rfl rfl ?_
  obtain ⟨hh12, eh12⟩ : ∃ z : GH, z = hset hc10 (s) (oB 6 [.null, .null, .ref (s + 1), .ref (s + 2), .ref (s + 3), .ref (s + 5), .null, .int (gI (0))]) := ⟨_, rfl⟩
  refine Go.hp eh12.symm ?_
  have fh12_0 : hh12.2 (s) = some (oB 6 [.null, .null, .ref (s + 1), .ref (s + 2), .ref (s + 3), .ref (s + 5), .null, .int (gI (0))]) := hs_s eh12
  have fh12_1 : hh12.2 (s + 1) = some (aJ 1600 (fun _ => 0)) := hs_n eh12 (show NE (s + 1) (s) by unfold NE; omega) fi11_1
  have fh12_2 : hh12.2 (s + 2) = some (aI 40 (fun _ => 0)) := hs_n eh12 (show NE (s + 2) (s) by unfold NE; omega) fi11_2
  have fh12_3 : hh12.2 (s + 3) = some (oB 5 [.ref (s + 4), .int (gI (-1))]) := hs_n eh12 (show NE (s + 3) (s) by unfold NE; omega) fi11_3
  have fh12_4 : hh12.2 (s + 4) = some (aJ 84 (fun _ => 0)) := hs_n eh12 (show NE (s + 4) (s) by unfold NE; omega) fi11_4
  have fh12_5 : hh12.2 (s + 5) = some (oB 5 [.ref (s + 6), .int (gI (-1))]) := hs_n eh12 (show NE (s + 5) (s) by unfold NE; omega) fi11_5
  have fh12_6 : hh12.2 (s + 6) = some (aJ 84 (fun _ => 0)) := hs_n eh12 (show NE (s + 6) (s) by unfold NE; omega) fin11
  have bl12 : ∀ x, x < s → hh12.2 x = h.2 x := fun x hx => by rw [eh12, hset_n _ _ (by omega)]; exact bl11 x hx
  have nk12 : hh12.1 = s + 7 := by rw [eh12]; exact nk11
  clear fi11_0 fi11_1 fi11_2 fi11_3 fi11_4 fi11_5 fin11 bl11 nk11
  refine g_aload_n 0 dX6_init_47 rfl ?_
  refine g_new (fs := [.null, .int (gI (0))]) dX6_init_48 kX5 cX6_19 niX5 nzX5 (by decide) (by omega) (by omega) ?_
  obtain ⟨hh13, eh13⟩ : ∃ z : GH, z = hnew hh12 (oB 5 [.null, .int (gI (0))]) := ⟨_, rfl⟩
  refine Go.hp eh13.symm ?_
  rw [nk12]
  have fh13_0 : hh13.2 (s) = some (oB 6 [.null, .null, .ref (s + 1), .ref (s + 2), .ref (s + 3), .ref (s + 5), .null, .int (gI (0))]) := by rw [eh13, hnew_n _ _ (by omega)]; exact fh12_0
  have fh13_1 : hh13.2 (s + 1) = some (aJ 1600 (fun _ => 0)) := by rw [eh13, hnew_n _ _ (by omega)]; exact fh12_1
  have fh13_2 : hh13.2 (s + 2) = some (aI 40 (fun _ => 0)) := by rw [eh13, hnew_n _ _ (by omega)]; exact fh12_2
  have fh13_3 : hh13.2 (s + 3) = some (oB 5 [.ref (s + 4), .int (gI (-1))]) := by rw [eh13, hnew_n _ _ (by omega)]; exact fh12_3
  have fh13_4 : hh13.2 (s + 4) = some (aJ 84 (fun _ => 0)) := by rw [eh13, hnew_n _ _ (by omega)]; exact fh12_4
  have fh13_5 : hh13.2 (s + 5) = some (oB 5 [.ref (s + 6), .int (gI (-1))]) := by rw [eh13, hnew_n _ _ (by omega)]; exact fh12_5
  have fh13_6 : hh13.2 (s + 6) = some (aJ 84 (fun _ => 0)) := by rw [eh13, hnew_n _ _ (by omega)]; exact fh12_6
  have fq13 : hh13.2 (s + 7) = some (oB 5 [.null, .int (gI (0))]) := by
                                                                      have e9 := hnew_s hh12 (oB 5 [.null, .int (gI (0))])
                                                                      rw [nk12] at e9
                                                                      rw [eh13]; exact e9
  have bl13 : ∀ x, x < s → hh13.2 x = h.2 x := fun x hx => (show hh13.2 x = hh12.2 x by rw [eh13, hnew_n _ _ (by omega)]).trans (bl12 x hx)
  have nk13 : hh13.1 = s + 8 := by rw [eh13]; show hh12.1 + 1 = _; omega
  clear fh12_0 fh12_1 fh12_2 fh12_3 fh12_4 fh12_5 fh12_6 bl12 nk12
  refine g_dup dX6_init_51 rfl ?_
  refine g_bipush dX6_init_52 (by decide) ?_
  refine g_callI (nc2 := 1) (ns2 := 84) (As := [.int (gI (84))]) (st := [.ref (s + 7), .ref (s)]) rfl dX6_init_54 okX5_init rfl lX6_21 itX5_init rfl (by decide) (by decide) rfl (Nat.le_of_ble_eq_true rfl) (sX5_initG84 N _ (s + 7) (by omega) fq13) (by omega) (by omega) (fun v14 hc14 q14 => ?_)
  obtain ⟨rfl, hq15⟩ := q14
  rw [nk13] at hq15
  have fi15_0 : hc14.2 (s) = some (oB 6 [.null, .null, .ref (s + 1), .ref (s + 2), .ref (s + 3), .ref (s + 5), .null, .int (gI (0))]) := by rw [hq15, hset_n _ _ (by omega), hnew_n _ _ (by omega)]; exact fh13_0
  have fi15_1 : hc14.2 (s + 1) = some (aJ 1600 (fun _ => 0)) := by rw [hq15, hset_n _ _ (by omega), hnew_n _ _ (by omega)]; exact fh13_1
  have fi15_2 : hc14.2 (s + 2) = some (aI 40 (fun _ => 0)) := by rw [hq15, hset_n _ _ (by omega), hnew_n _ _ (by omega)]; exact fh13_2
  have fi15_3 : hc14.2 (s + 3) = some (oB 5 [.ref (s + 4), .int (gI (-1))]) := by rw [hq15, hset_n _ _ (by omega), hnew_n _ _ (by omega)]; exact fh13_3
  have fi15_4 : hc14.2 (s + 4) = some (aJ 84 (fun _ => 0)) := by rw [hq15, hset_n _ _ (by omega), hnew_n _ _ (by omega)]; exact fh13_4
  have fi15_5 : hc14.2 (s + 5) = some (oB 5 [.ref (s + 6), .int (gI (-1))]) := by rw [hq15, hset_n _ _ (by omega), hnew_n _ _ (by omega)]; exact fh13_5
  have fi15_6 : hc14.2 (s + 6) = some (aJ 84 (fun _ => 0)) := by rw [hq15, hset_n _ _ (by omega), hnew_n _ _ (by omega)]; exact fh13_6
  have fi15_7 : hc14.2 (s + 7) = some (oB 5 [.ref (s + 8), .int (gI (-1))]) := by rw [hq15]; exact hset_s _ _ _
  have fin15 : hc14.2 (s + 8) = some (aJ 84 (fun _ => 0)) := by
                                                                      have e9 := hnew_s hh13 (aJ 84 (fun _ => 0))
                                                                      rw [nk13] at e9
                                                                      rw [hq15, hset_n _ _ (by omega)]; exact e9
  have bl15 : ∀ x, x < s → hc14.2 x = h.2 x := fun x hx => by rw [hq15, hset_n _ _ (by omega), hnew_n _ _ (by omega)]; exact bl13 x hx
  have nk15 : hc14.1 = s + 9 := by rw [hq15]; show hh13.1 + 1 = _; omega
  refine Go.nf (h' := hc14) (st' := [.ref (s + 7), .ref (s)]) rfl rfl (Nat.le_refl _) (Nat.le_refl _) ?_
  clear fh13_0 fh13_1 fh13_2 fh13_3 fh13_4 fh13_5 fh13_6 fq13 bl13 nk13
  refine g_putF 6 dX6_init_57 kX6 (by decide) fX6_31 rfl rfl rfl fi15_0 (Nat.le_of_ble_eq_true rfl) rfl rfl ?_
  obtain ⟨hh16, eh16⟩ : ∃ z : GH, z = hset hc14 (s) (oB 6 [.null, .null, .ref (s + 1), .ref (s + 2), .ref (s + 3), .ref (s + 5), .ref (s + 7), .int (gI (0))]) := ⟨_, rfl⟩
  refine Go.hp eh16.symm ?_
  have fh16_0 : hh16.2 (s) = some (oB 6 [.null, .null, .ref (s + 1), .ref (s + 2), .ref (s + 3), .ref (s + 5), .ref (s + 7), .int (gI (0))]) := hs_s eh16
  have fh16_1 : hh16.2 (s + 1) = some (aJ 1600 (fun _ => 0)) := hs_n eh16 (show NE (s + 1) (s) by unfold NE; omega) fi15_1
  have fh16_2 : hh16.2 (s + 2) = some (aI 40 (fun _ => 0)) := hs_n eh16 (show NE (s + 2) (s) by unfold NE; omega) fi15_2
  have fh16_3 : hh16.2 (s + 3) = some (oB 5 [.ref (s + 4), .int (gI (-1))]) := hs_n eh16 (show NE (s + 3) (s) by unfold NE; omega) fi15_3
  have fh16_4 : hh16.2 (s + 4) = some (aJ 84 (fun _ => 0)) := hs_n eh16 (show NE (s + 4) (s) by unfold NE; omega) fi15_4
  have fh16_5 : hh16.2 (s + 5) = some (oB 5 [.ref (s + 6), .int (gI (-1))]) := hs_n eh16 (show NE (s + 5) (s) by unfold NE; omega) fi15_5
  have fh16_6 : hh16.2 (s + 6) = some (aJ 84 (fun _ => 0)) := hs_n eh16 (show NE (s + 6) (s) by unfold NE; omega) fi15_6
  have fh16_7 : hh16.2 (s + 7) = some (oB 5 [.ref (s + 8), .int (gI (-1))]) := hs_n eh16 (show NE (s + 7) (s) by unfold NE; omega) fi15_7
  have fh16_8 : hh16.2 (s + 8) = some (aJ 84 (fun _ => 0)) := hs_n eh16 (show NE (s + 8) (s) by unfold NE; omega) fin15
  have bl16 : ∀ x, x < s → hh16.2 x = h.2 x := fun x hx => by rw [eh16, hset_n _ _ (by omega)]; exact bl15 x hx
  have nk16 : hh16.1 = s + 9 := by rw [eh16]; exact nk15
  clear fi15_0 fi15_1 fi15_2 fi15_3 fi15_4 fi15_5 fi15_6 fi15_7 fin15 bl15 nk15
  refine g_aload_n 0 dX6_init_60 rfl ?_
  refine g_aload_n 1 dX6_init_61 rfl ?_
  refine g_putF 0 dX6_init_62 kX6 (by decide) fX6_34 rfl rfl rfl fh16_0 (Nat.le_of_ble_eq_true rfl) rfl rfl ?_
  obtain ⟨hh17, eh17⟩ : ∃ z : GH, z = hset hh16 (s) (oB 6 [.ref (B + 1), .null, .ref (s + 1), .ref (s + 2), .ref (s + 3), .ref (s + 5), .ref (s + 7), .int (gI (0))]) := ⟨_, rfl⟩
  refine Go.hp eh17.symm ?_
  have fh17_0 : hh17.2 (s) = some (oB 6 [.ref (B + 1), .null, .ref (s + 1), .ref (s + 2), .ref (s + 3), .ref (s + 5), .ref (s + 7), .int (gI (0))]) := hs_s eh17
  have fh17_1 : hh17.2 (s + 1) = some (aJ 1600 (fun _ => 0)) := hs_n eh17 (show NE (s + 1) (s) by unfold NE; omega) fh16_1
  have fh17_2 : hh17.2 (s + 2) = some (aI 40 (fun _ => 0)) := hs_n eh17 (show NE (s + 2) (s) by unfold NE; omega) fh16_2
  have fh17_3 : hh17.2 (s + 3) = some (oB 5 [.ref (s + 4), .int (gI (-1))]) := hs_n eh17 (show NE (s + 3) (s) by unfold NE; omega) fh16_3
  have fh17_4 : hh17.2 (s + 4) = some (aJ 84 (fun _ => 0)) := hs_n eh17 (show NE (s + 4) (s) by unfold NE; omega) fh16_4
  have fh17_5 : hh17.2 (s + 5) = some (oB 5 [.ref (s + 6), .int (gI (-1))]) := hs_n eh17 (show NE (s + 5) (s) by unfold NE; omega) fh16_5
  have fh17_6 : hh17.2 (s + 6) = some (aJ 84 (fun _ => 0)) := hs_n eh17 (show NE (s + 6) (s) by unfold NE; omega) fh16_6
  have fh17_7 : hh17.2 (s + 7) = some (oB 5 [.ref (s + 8), .int (gI (-1))]) := hs_n eh17 (show NE (s + 7) (s) by unfold NE; omega) fh16_7
  have fh17_8 : hh17.2 (s + 8) = some (aJ 84 (fun _ => 0)) := hs_n eh17 (show NE (s + 8) (s) by unfold NE; omega) fh16_8
  have bl17 : ∀ x, x < s → hh17.2 x = h.2 x := fun x hx => by rw [eh17, hset_n _ _ (by omega)]; exact bl16 x hx
  have nk17 : hh17.1 = s + 9 := by rw [eh17]; exact nk16
  clear fh16_0 fh16_1 fh16_2 fh16_3 fh16_4 fh16_5 fh16_6 fh16_7 fh16_8 bl16 nk16
  refine g_aload_n 0 dX6_init_65 rfl ?_
  refine g_aload_n 2 dX6_init_66 rfl ?_
  refine g_putF 1 dX6_init_67 kX6 (by decide) fX6_38 rfl rfl rfl fh17_0 (Nat.le_of_ble_eq_true rfl) rfl rfl ?_
  obtain ⟨hh18, eh18⟩ : ∃ z : GH, z = hset hh17 (s) (oB 6 [.ref (B + 1), .ref (B + 7), .ref (s + 1), .ref (s + 2), .ref (s + 3), .ref (s + 5), .ref (s + 7), .int (gI (0))]) := ⟨_, rfl⟩
  refine Go.hp eh18.symm ?_
  have fh18_0 : hh18.2 (s) = some (oB 6 [.ref (B + 1), .ref (B + 7), .ref (s + 1), .ref (s + 2), .ref (s + 3), .ref (s + 5), .ref (s + 7), .int (gI (0))]) := hs_s eh18
  have fh18_1 : hh18.2 (s + 1) = some (aJ 1600 (fun _ => 0)) := hs_n eh18 (show NE (s + 1) (s) by unfold NE; omega) fh17_1
  have fh18_2 : hh18.2 (s + 2) = some (aI 40 (fun _ => 0)) := hs_n eh18 (show NE (s + 2) (s) by unfold NE; omega) fh17_2
  have fh18_3 : hh18.2 (s + 3) = some (oB 5 [.ref (s + 4), .int (gI (-1))]) := hs_n eh18 (show NE (s + 3) (s) by unfold NE; omega) fh17_3
  have fh18_4 : hh18.2 (s + 4) = some (aJ 84 (fun _ => 0)) := hs_n eh18 (show NE (s + 4) (s) by unfold NE; omega) fh17_4
  have fh18_5 : hh18.2 (s + 5) = some (oB 5 [.ref (s + 6), .int (gI (-1))]) := hs_n eh18 (show NE (s + 5) (s) by unfold NE; omega) fh17_5
  have fh18_6 : hh18.2 (s + 6) = some (aJ 84 (fun _ => 0)) := hs_n eh18 (show NE (s + 6) (s) by unfold NE; omega) fh17_6
  have fh18_7 : hh18.2 (s + 7) = some (oB 5 [.ref (s + 8), .int (gI (-1))]) := hs_n eh18 (show NE (s + 7) (s) by unfold NE; omega) fh17_7
  have fh18_8 : hh18.2 (s + 8) = some (aJ 84 (fun _ => 0)) := hs_n eh18 (show NE (s + 8) (s) by unfold NE; omega) fh17_8
  have bl18 : ∀ x, x < s → hh18.2 x = h.2 x := fun x hx => by rw [eh18, hset_n _ _ (by omega)]; exact bl17 x hx
  have nk18 : hh18.1 = s + 9 := by rw [eh18]; exact nk17
  clear fh17_0 fh17_1 fh17_2 fh17_3 fh17_4 fh17_5 fh17_6 fh17_7 fh17_8 bl17 nk17
  exact g_vret dX6_init_70 rfl ⟨rfl, nk18, bl18, fh18_0, fh18_1, fh18_2, ⟨-1, fun _ => 0, fh18_3, fh18_4, fun _ => by show gX 0; unfold gX; omega, by omega, by omega, by omega, by omega⟩, ⟨-1, fun _ => 0, fh18_5, fh18_6, fun _ => by show gX 0; unfold gX; omega, by omega, by omega, by omega, by omega⟩, ⟨-1, fun _ => 0, fh18_7, fh18_8, fun _ => by show gX 0; unfold gX; omega, by omega, by omega, by omega, by omega⟩⟩
set_option maxHeartbeats 4000000 in
set_option maxRecDepth 100000 in
theorem sF_init (N : GN) (h : GH) (B s : Nat) (hBs : B + 58 ≤ s) (hn : h.1 = s + 1) (ho : h.2 s = some (oB 0 [.null, .null, .null, .null, .null, .null, .null, .null, .null, .null, .null, .int (gI 0), .int (gI 0), .int (gI 0), .int (gI 0), .long (gJ 0)])) : Sp N yX0_init mX0_init 20 2400 [.ref (s), .ref (B + 1), .ref (B + 7)] h (fun v h1 => v = none ∧ h1.1 = s + 21 ∧ (∀ x, x < s → h1.2 x = h.2 x) ∧ FAs B h1 s (fun _ => none) (fun _ => none) (fun _ => 0) (fun _ => 0) (fun _ => 0) 0 0 0 0 0 0) := by
  refine Sp.of (by decide) rfl rfl (Nat.le_of_ble_eq_true rfl) ?_
  show Go N mX0_init _ 20 2400 h 0 [(0, .ref (s)), (1, .ref (B + 1)), (2, .ref (B + 7))] []
  have hbl : ∀ x, x < s → h.2 x = h.2 x := fun _ _ => rfl
  refine g_aload_n 0 dX0_init_0 rfl ?_
  refine g_objInit dX0_init_1 lX0_3 (by decide) (Nat.le_of_ble_eq_true rfl) ?_
  refine g_aload_n 0 dX0_init_4 rfl ?_
  refine g_bipush dX0_init_5 (by decide) ?_
  refine g_anewarr (n := 40) dX0_init_7 (by decide) (by decide) cX0_9 (by decide) (by omega) (by omega) ?_
  obtain ⟨hh1, eh1⟩ : ∃ z : GH, z = hnew h (aR "PolyWork$Row" 40 (fun _ => none)) := ⟨_, rfl⟩
  refine Go.hp eh1.symm ?_
  rw [hn]
  have fh1_0 : hh1.2 (s) = some (oB 0 [.null, .null, .null, .null, .null, .null, .null, .null, .null, .null, .null, .int (gI (0)), .int (gI (0)), .int (gI (0)), .int (gI (0)), .long (gJ (0))]) := by rw [eh1, hnew_n _ _ (by omega)]; exact ho
  have fq1 : hh1.2 (s + 1) = some (aR "PolyWork$Row" 40 (fun _ => none)) := by
                                                                      have e9 := hnew_s h (aR "PolyWork$Row" 40 (fun _ => none))
                                                                      rw [hn] at e9
                                                                      rw [eh1]; exact e9
  have bl1 : ∀ x, x < s → hh1.2 x = h.2 x := fun x hx => (show hh1.2 x = h.2 x by rw [eh1, hnew_n _ _ (by omega)]).trans (hbl x hx)
  have nk1 : hh1.1 = s + 2 := by rw [eh1]; show h.1 + 1 = _; omega
  refine g_putF 3 dX0_init_10 kX0 (by decide) fX0_11 rfl rfl rfl fh1_0 (Nat.le_of_ble_eq_true rfl) rfl rfl ?_
  obtain ⟨hh2, eh2⟩ : ∃ z : GH, z = hset hh1 (s) (oB 0 [.null, .null, .null, .ref (s + 1), .null, .null, .null, .null, .null, .null, .null, .int (gI (0)), .int (gI (0)), .int (gI (0)), .int (gI (0)), .long (gJ (0))]) := ⟨_, rfl⟩
  refine Go.hp eh2.symm ?_
  have fh2_0 : hh2.2 (s) = some (oB 0 [.null, .null, .null, .ref (s + 1), .null, .null, .null, .null, .null, .null, .null, .int (gI (0)), .int (gI (0)), .int (gI (0)), .int (gI (0)), .long (gJ (0))]) := hs_s eh2
  have fh2_1 : hh2.2 (s + 1) = some (aR "PolyWork$Row" 40 (fun _ => none)) := hs_n eh2 (show NE (s + 1) (s) by unfold NE; omega) fq1
  have bl2 : ∀ x, x < s → hh2.2 x = h.2 x := fun x hx => by rw [eh2, hset_n _ _ (by omega)]; exact bl1 x hx
  have nk2 : hh2.1 = s + 2 := by rw [eh2]; exact nk1
  clear fh1_0 fq1 bl1 nk1
  refine g_aload_n 0 dX0_init_13 rfl ?_
  refine g_bipush dX0_init_14 (by decide) ?_
  refine g_newarr (n := 40) (ty := .int) dX0_init_16 rfl rfl (by decide) ac_int (by decide) (by decide) (by omega) (by omega) ?_
  obtain ⟨hh3, eh3⟩ : ∃ z : GH, z = hnew hh2 (aI 40 (fun _ => 0)) := ⟨_, rfl⟩
  refine Go.hp eh3.symm ?_
  rw [nk2]
  have fh3_0 : hh3.2 (s) = some (oB 0 [.null, .null, .null, .ref (s + 1), .null, .null, .null, .null, .null, .null, .null, .int (gI (0)), .int (gI (0)), .int (gI (0)), .int (gI (0)), .long (gJ (0))]) := by rw [eh3, hnew_n _ _ (by omega)]; exact fh2_0
  have fh3_1 : hh3.2 (s + 1) = some (aR "PolyWork$Row" 40 (fun _ => none)) := by rw [eh3, hnew_n _ _ (by omega)]; exact fh2_1
  have fq3 : hh3.2 (s + 2) = some (aI 40 (fun _ => 0)) := by
                                                                      have e9 := hnew_s hh2 (aI 40 (fun _ => 0))
                                                                      rw [nk2] at e9
                                                                      rw [eh3]; exact e9
  have bl3 : ∀ x, x < s → hh3.2 x = h.2 x := fun x hx => (show hh3.2 x = hh2.2 x by rw [eh3, hnew_n _ _ (by omega)]).trans (bl2 x hx)
  have nk3 : hh3.1 = s + 3 := by rw [eh3]; show hh2.1 + 1 = _; omega
  clear fh2_0 fh2_1 bl2 nk2
  refine g_putF 4 dX0_init_18 kX0 (by decide) fX0_17 rfl rfl rfl fh3_0 (Nat.le_of_ble_eq_true rfl) rfl rfl ?_
  obtain ⟨hh4, eh4⟩ : ∃ z : GH, z = hset hh3 (s) (oB 0 [.null, .null, .null, .ref (s + 1), .ref (s + 2), .null, .null, .null, .null, .null, .null, .int (gI (0)), .int (gI (0)), .int (gI (0)), .int (gI (0)), .long (gJ (0))]) := ⟨_, rfl⟩
  refine Go.hp eh4.symm ?_
  have fh4_0 : hh4.2 (s) = some (oB 0 [.null, .null, .null, .ref (s + 1), .ref (s + 2), .null, .null, .null, .null, .null, .null, .int (gI (0)), .int (gI (0)), .int (gI (0)), .int (gI (0)), .long (gJ (0))]) := hs_s eh4
  have fh4_1 : hh4.2 (s + 1) = some (aR "PolyWork$Row" 40 (fun _ => none)) := hs_n eh4 (show NE (s + 1) (s) by unfold NE; omega) fh3_1
  have fh4_2 : hh4.2 (s + 2) = some (aI 40 (fun _ => 0)) := hs_n eh4 (show NE (s + 2) (s) by unfold NE; omega) fq3
  have bl4 : ∀ x, x < s → hh4.2 x = h.2 x := fun x hx => by rw [eh4, hset_n _ _ (by omega)]; exact bl3 x hx
  have nk4 : hh4.1 = s + 3 := by rw [eh4]; exact nk3
  clear fh3_0 fh3_1 fq3 bl3 nk3
  refine g_aload_n 0 dX0_init_21 rfl ?_
  refine g_bipush dX0_init_22 (by decide) ?_
  refine g_anewarr (n := 8) dX0_init_24 (by decide) (by decide) cX0_9 (by decide) (by omega) (by omega) ?_
  obtain ⟨hh5, eh5⟩ : ∃ z : GH, z = hnew hh4 (aR "PolyWork$Row" 8 (fun _ => none)) := ⟨_, rfl⟩
  refine Go.hp eh5.symm ?_
  rw [nk4]
  have fh5_0 : hh5.2 (s) = some (oB 0 [.null, .null, .null, .ref (s + 1), .ref (s + 2), .null, .null, .null, .null, .null, .null, .int (gI (0)), .int (gI (0)), .int (gI (0)), .int (gI (0)), .long (gJ (0))]) := by rw [eh5, hnew_n _ _ (by omega)]; exact fh4_0
  have fh5_1 : hh5.2 (s + 1) = some (aR "PolyWork$Row" 40 (fun _ => none)) := by rw [eh5, hnew_n _ _ (by omega)]; exact fh4_1
  have fh5_2 : hh5.2 (s + 2) = some (aI 40 (fun _ => 0)) := by rw [eh5, hnew_n _ _ (by omega)]; exact fh4_2
  have fq5 : hh5.2 (s + 3) = some (aR "PolyWork$Row" 8 (fun _ => none)) := by
                                                                      have e9 := hnew_s hh4 (aR "PolyWork$Row" 8 (fun _ => none))
                                                                      rw [nk4] at e9
                                                                      rw [eh5]; exact e9
  have bl5 : ∀ x, x < s → hh5.2 x = h.2 x := fun x hx => (show hh5.2 x = hh4.2 x by rw [eh5, hnew_n _ _ (by omega)]).trans (bl4 x hx)
  have nk5 : hh5.1 = s + 4 := by rw [eh5]; show hh4.1 + 1 = _; omega
  clear fh4_0 fh4_1 fh4_2 bl4 nk4
  refine g_putF 5 dX0_init_27 kX0 (by decide) fX0_21 rfl rfl rfl fh5_0 (Nat.le_of_ble_eq_true rfl) rfl rfl ?_
  obtain ⟨hh6, eh6⟩ : ∃ z : GH, z = hset hh5 (s) (oB 0 [.null, .null, .null, .ref (s + 1), .ref (s + 2), .ref (s + 3), .null, .null, .null, .null, .null, .int (gI (0)), .int (gI (0)), .int (gI (0)), .int (gI (0)), .long (gJ (0))]) := ⟨_, rfl⟩
  refine Go.hp eh6.symm ?_
  have fh6_0 : hh6.2 (s) = some (oB 0 [.null, .null, .null, .ref (s + 1), .ref (s + 2), .ref (s + 3), .null, .null, .null, .null, .null, .int (gI (0)), .int (gI (0)), .int (gI (0)), .int (gI (0)), .long (gJ (0))]) := hs_s eh6
  have fh6_1 : hh6.2 (s + 1) = some (aR "PolyWork$Row" 40 (fun _ => none)) := hs_n eh6 (show NE (s + 1) (s) by unfold NE; omega) fh5_1
  have fh6_2 : hh6.2 (s + 2) = some (aI 40 (fun _ => 0)) := hs_n eh6 (show NE (s + 2) (s) by unfold NE; omega) fh5_2
  have fh6_3 : hh6.2 (s + 3) = some (aR "PolyWork$Row" 8 (fun _ => none)) := hs_n eh6 (show NE (s + 3) (s) by unfold NE; omega) fq5
  have bl6 : ∀ x, x < s → hh6.2 x = h.2 x := fun x hx => by rw [eh6, hset_n _ _ (by omega)]; exact bl5 x hx
  have nk6 : hh6.1 = s + 4 := by rw [eh6]; exact nk5
  clear fh5_0 fh5_1 fh5_2 fq5 bl5 nk5
  refine g_aload_n 0 dX0_init_30 rfl ?_
  refine g_bipush dX0_init_31 (by decide) ?_
  refine g_newarr (n := 8) (ty := .int) dX0_init_33 rfl rfl (by decide) ac_int (by decide) (by decide) (by omega) (by omega) ?_
  obtain ⟨hh7, eh7⟩ : ∃ z : GH, z = hnew hh6 (aI 8 (fun _ => 0)) := ⟨_, rfl⟩
  refine Go.hp eh7.symm ?_
  rw [nk6]
  have fh7_0 : hh7.2 (s) = some (oB 0 [.null, .null, .null, .ref (s + 1), .ref (s + 2), .ref (s + 3), .null, .null, .null, .null, .null, .int (gI (0)), .int (gI (0)), .int (gI (0)), .int (gI (0)), .long (gJ (0))]) := by rw [eh7, hnew_n _ _ (by omega)]; exact fh6_0
  have fh7_1 : hh7.2 (s + 1) = some (aR "PolyWork$Row" 40 (fun _ => none)) := by rw [eh7, hnew_n _ _ (by omega)]; exact fh6_1
  have fh7_2 : hh7.2 (s + 2) = some (aI 40 (fun _ => 0)) := by rw [eh7, hnew_n _ _ (by omega)]; exact fh6_2
  have fh7_3 : hh7.2 (s + 3) = some (aR "PolyWork$Row" 8 (fun _ => none)) := by rw [eh7, hnew_n _ _ (by omega)]; exact fh6_3
  have fq7 : hh7.2 (s + 4) = some (aI 8 (fun _ => 0)) := by
                                                                      have e9 := hnew_s hh6 (aI 8 (fun _ => 0))
                                                                      rw [nk6] at e9
                                                                      rw [eh7]; exact e9
  have bl7 : ∀ x, x < s → hh7.2 x = h.2 x := fun x hx => (show hh7.2 x = hh6.2 x by rw [eh7, hnew_n _ _ (by omega)]).trans (bl6 x hx)
  have nk7 : hh7.1 = s + 5 := by rw [eh7]; show hh6.1 + 1 = _; omega
  clear fh6_0 fh6_1 fh6_2 fh6_3 bl6 nk6
  refine g_putF 6 dX0_init_35 kX0 (by decide) fX0_24 rfl rfl rfl fh7_0 (Nat.le_of_ble_eq_true rfl) rfl rfl ?_
  obtain ⟨hh8, eh8⟩ : ∃ z : GH, z = hset hh7 (s) (oB 0 [.null, .null, .null, .ref (s + 1), .ref (s + 2), .ref (s + 3), .ref (s + 4), .null, .null, .null, .null, .int (gI (0)), .int (gI (0)), .int (gI (0)), .int (gI (0)), .long (gJ (0))]) := ⟨_, rfl⟩
  refine Go.hp eh8.symm ?_
  have fh8_0 : hh8.2 (s) = some (oB 0 [.null, .null, .null, .ref (s + 1), .ref (s + 2), .ref (s + 3), .ref (s + 4), .null, .null, .null, .null, .int (gI (0)), .int (gI (0)), .int (gI (0)), .int (gI (0)), .long (gJ (0))]) := hs_s eh8
  have fh8_1 : hh8.2 (s + 1) = some (aR "PolyWork$Row" 40 (fun _ => none)) := hs_n eh8 (show NE (s + 1) (s) by unfold NE; omega) fh7_1
  have fh8_2 : hh8.2 (s + 2) = some (aI 40 (fun _ => 0)) := hs_n eh8 (show NE (s + 2) (s) by unfold NE; omega) fh7_2
  have fh8_3 : hh8.2 (s + 3) = some (aR "PolyWork$Row" 8 (fun _ => none)) := hs_n eh8 (show NE (s + 3) (s) by unfold NE; omega) fh7_3
  have fh8_4 : hh8.2 (s + 4) = some (aI 8 (fun _ => 0)) := hs_n eh8 (show NE (s + 4) (s) by unfold NE; omega) fq7
  have bl8 : ∀ x, x < s → hh8.2 x = h.2 x := fun x hx => by rw [eh8, hset_n _ _ (by omega)]; exact bl7 x hx
  have nk8 : hh8.1 = s + 5 := by rw [eh8]; exact nk7
  clear fh7_0 fh7_1 fh7_2 fh7_3 fq7 bl7 nk7
  refine g_aload_n 0 dX0_init_38 rfl ?_
  refine g_bipush dX0_init_39 (by decide) ?_
  refine g_newarr (n := 40) (ty := .long) dX0_init_41 rfl rfl (by decide) ac_long (by decide) (by decide) (by omega) (by omega) ?_
  obtain ⟨hh9, eh9⟩ : ∃ z : GH, z = hnew hh8 (aJ 40 (fun _ => 0)) := ⟨_, rfl⟩
  refine Go.hp eh9.symm ?_
  rw [nk8]
  have fh9_0 : hh9.2 (s) = some (oB 0 [.null, .null, .null, .ref (s + 1), .ref (s + 2), .ref (s + 3), .ref (s + 4), .null, .null, .null, .null, .int (gI (0)), .int (gI (0)), .int (gI (0)), .int (gI (0)), .long (gJ (0))]) := by rw [eh9, hnew_n _ _ (by omega)]; exact fh8_0
  have fh9_1 : hh9.2 (s + 1) = some (aR "PolyWork$Row" 40 (fun _ => none)) := by rw [eh9, hnew_n _ _ (by omega)]; exact fh8_1
  have fh9_2 : hh9.2 (s + 2) = some (aI 40 (fun _ => 0)) := by rw [eh9, hnew_n _ _ (by omega)]; exact fh8_2
  have fh9_3 : hh9.2 (s + 3) = some (aR "PolyWork$Row" 8 (fun _ => none)) := by rw [eh9, hnew_n _ _ (by omega)]; exact fh8_3
  have fh9_4 : hh9.2 (s + 4) = some (aI 8 (fun _ => 0)) := by rw [eh9, hnew_n _ _ (by omega)]; exact fh8_4
  have fq9 : hh9.2 (s + 5) = some (aJ 40 (fun _ => 0)) := by
                                                                      have e9 := hnew_s hh8 (aJ 40 (fun _ => 0))
                                                                      rw [nk8] at e9
                                                                      rw [eh9]; exact e9
  have bl9 : ∀ x, x < s → hh9.2 x = h.2 x := fun x hx => (show hh9.2 x = hh8.2 x by rw [eh9, hnew_n _ _ (by omega)]).trans (bl8 x hx)
  have nk9 : hh9.1 = s + 6 := by rw [eh9]; show hh8.1 + 1 = _; omega
  clear fh8_0 fh8_1 fh8_2 fh8_3 fh8_4 bl8 nk8
  refine g_putF 7 dX0_init_43 kX0 (by decide) fX0_27 rfl rfl rfl fh9_0 (Nat.le_of_ble_eq_true rfl) rfl rfl ?_
  obtain ⟨hh10, eh10⟩ : ∃ z : GH, z = hset hh9 (s) (oB 0 [.null, .null, .null, .ref (s + 1), .ref (s + 2), .ref (s + 3), .ref (s + 4), .ref (s + 5), .null, .null, .null, .int (gI (0)), .int (gI (0)), .int (gI (0)), .int (gI (0)), .long (gJ (0))]) := ⟨_, rfl⟩
  refine Go.hp eh10.symm ?_
  have fh10_0 : hh10.2 (s) = some (oB 0 [.null, .null, .null, .ref (s + 1), .ref (s + 2), .ref (s + 3), .ref (s + 4), .ref (s + 5), .null, .null, .null, .int (gI (0)), .int (gI (0)), .int (gI (0)), .int (gI (0)), .long (gJ (0))]) := hs_s eh10
  have fh10_1 : hh10.2 (s + 1) = some (aR "PolyWork$Row" 40 (fun _ => none)) := hs_n eh10 (show NE (s + 1) (s) by unfold NE; omega) fh9_1
  have fh10_2 : hh10.2 (s + 2) = some (aI 40 (fun _ => 0)) := hs_n eh10 (show NE (s + 2) (s) by unfold NE; omega) fh9_2
  have fh10_3 : hh10.2 (s + 3) = some (aR "PolyWork$Row" 8 (fun _ => none)) := hs_n eh10 (show NE (s + 3) (s) by unfold NE; omega) fh9_3
  have fh10_4 : hh10.2 (s + 4) = some (aI 8 (fun _ => 0)) := hs_n eh10 (show NE (s + 4) (s) by unfold NE; omega) fh9_4
  have fh10_5 : hh10.2 (s + 5) = some (aJ 40 (fun _ => 0)) := hs_n eh10 (show NE (s + 5) (s) by unfold NE; omega) fq9
  have bl10 : ∀ x, x < s → hh10.2 x = h.2 x := fun x hx => by rw [eh10, hset_n _ _ (by omega)]; exact bl9 x hx
  have nk10 : hh10.1 = s + 6 := by rw [eh10]; exact nk9
  clear fh9_0 fh9_1 fh9_2 fh9_3 fh9_4 fq9 bl9 nk9
  refine g_aload_n 0 dX0_init_46 rfl ?_
  refine g_new (fs := [.null, .int (gI (0))]) dX0_init_47 kX5 cX0_9 niX5 nzX5 (by decide) (by omega) (by omega) ?_
  obtain ⟨hh11, eh11⟩ : ∃ z : GH, z = hnew hh10 (oB 5 [.null, .int (gI (0))]) := ⟨_, rfl⟩
  refine Go.hp eh11.symm ?_
  rw [nk10]
  have fh11_0 : hh11.2 (s) = some (oB 0 [.null, .null, .null, .ref (s + 1), .ref (s + 2), .ref (s + 3), .ref (s + 4), .ref (s + 5), .null, .null, .null, .int (gI (0)), .int (gI (0)), .int (gI (0)), .int (gI (0)), .long (gJ (0))]) := by rw [eh11, hnew_n _ _ (by omega)]; exact fh10_0
  have fh11_1 : hh11.2 (s + 1) = some (aR "PolyWork$Row" 40 (fun _ => none)) := by rw [eh11, hnew_n _ _ (by omega)]; exact fh10_1
  have fh11_2 : hh11.2 (s + 2) = some (aI 40 (fun _ => 0)) := by rw [eh11, hnew_n _ _ (by omega)]; exact fh10_2
  have fh11_3 : hh11.2 (s + 3) = some (aR "PolyWork$Row" 8 (fun _ => none)) := by rw [eh11, hnew_n _ _ (by omega)]; exact fh10_3
  have fh11_4 : hh11.2 (s + 4) = some (aI 8 (fun _ => 0)) := by rw [eh11, hnew_n _ _ (by omega)]; exact fh10_4
  have fh11_5 : hh11.2 (s + 5) = some (aJ 40 (fun _ => 0)) := by rw [eh11, hnew_n _ _ (by omega)]; exact fh10_5
  have fq11 : hh11.2 (s + 6) = some (oB 5 [.null, .int (gI (0))]) := by
                                                                      have e9 := hnew_s hh10 (oB 5 [.null, .int (gI (0))])
                                                                      rw [nk10] at e9
                                                                      rw [eh11]; exact e9
  have bl11 : ∀ x, x < s → hh11.2 x = h.2 x := fun x hx => (show hh11.2 x = hh10.2 x by rw [eh11, hnew_n _ _ (by omega)]).trans (bl10 x hx)
  have nk11 : hh11.1 = s + 7 := by rw [eh11]; show hh10.1 + 1 = _; omega
  clear fh10_0 fh10_1 fh10_2 fh10_3 fh10_4 fh10_5 bl10 nk10
  refine g_dup dX0_init_50 rfl ?_
  refine g_bipush dX0_init_51 (by decide) ?_
  refine g_callI (nc2 := 1) (ns2 := 84) (As := [.int (gI (84))]) (st := [.ref (s + 6), .ref (s)]) rfl dX0_init_53 okX5_init rfl lX0_31 itX5_init rfl (by decide) (by decide) rfl (Nat.le_of_ble_eq_true rfl) (sX5_initG84 N _ (s + 6) (by omega) fq11) (by omega) (by omega) (fun v12 hc12 q12 => ?_)
  obtain ⟨rfl, hq13⟩ := q12
  rw [nk11] at hq13
  have fi13_0 : hc12.2 (s) = some (oB 0 [.null, .null, .null, .ref (s + 1), .ref (s + 2), .ref (s + 3), .ref (s + 4), .ref (s + 5), .null, .null, .null, .int (gI (0)), .int (gI (0)), .int (gI (0)), .int (gI (0)), .long (gJ (0))]) := by rw [hq13, hset_n _ _ (by omega), hnew_n _ _ (by omega)]; exact fh11_0
  have fi13_1 : hc12.2 (s + 1) = some (aR "PolyWork$Row" 40 (fun _ => none)) := by rw [hq13, hset_n _ _ (by omega), hnew_n _ _ (by omega)]; exact fh11_1
  have fi13_2 : hc12.2 (s + 2) = some (aI 40 (fun _ => 0)) := by rw [hq13, hset_n _ _ (by omega), hnew_n _ _ (by omega)]; exact fh11_2
  have fi13_3 : hc12.2 (s + 3) = some (aR "PolyWork$Row" 8 (fun _ => none)) := by rw [hq13, hset_n _ _ (by omega), hnew_n _ _ (by omega)]; exact fh11_3
  have fi13_4 : hc12.2 (s + 4) = some (aI 8 (fun _ => 0)) := by rw [hq13, hset_n _ _ (by omega), hnew_n _ _ (by omega)]; exact fh11_4
  have fi13_5 : hc12.2 (s + 5) = some (aJ 40 (fun _ => 0)) := by rw [hq13, hset_n _ _ (by omega), hnew_n _ _ (by omega)]; exact fh11_5
  have fi13_6 : hc12.2 (s + 6) = some (oB 5 [.ref (s + 7), .int (gI (-1))]) := by rw [hq13]; exact hset_s _ _ _
  have fin13 : hc12.2 (s + 7) = some (aJ 84 (fun _ => 0)) := by
                                                                      have e9 := hnew_s hh11 (aJ 84 (fun _ => 0))
                                                                      rw [nk11] at e9
                                                                      rw [hq13, hset_n _ _ (by omega)]; exact e9
  have bl13 : ∀ x, x < s → hc12.2 x = h.2 x := fun x hx => by rw [hq13, hset_n _ _ (by omega), hnew_n _ _ (by omega)]; exact bl11 x hx
  have nk13 : hc12.1 = s + 8 := by rw [hq13]; show hh11.1 + 1 = _; omega
  refine Go.nf (h' := hc12) (st' := [.ref (s + 6), .ref (s)]) rfl rfl (Nat.le_refl _) (Nat.le_refl _) ?_
  clear fh11_0 fh11_1 fh11_2 fh11_3 fh11_4 fh11_5 fq11 bl11 nk11
  refine g_putF 8 dX0_init_56 kX0 (by decide) fX0_34 rfl rfl rfl fi13_0 (Nat.le_of_ble_eq_true rfl) rfl rfl ?_
  obtain ⟨hh14, eh14⟩ : ∃ z : GH, z = hset hc12 (s) (oB 0 [.null, .null, .null, .ref (s + 1), .ref (s + 2), .ref (s + 3), .ref (s + 4), .ref (s + 5), .ref (s + 6), .null, .null, .int (gI (0)), .int (gI (0)), .int (gI (0)), .int (gI (0)), .long (gJ (0))]) := ⟨_, rfl⟩
  refine Go.hp eh14.symm ?_
  have fh14_0 : hh14.2 (s) = some (oB 0 [.null, .null, .null, .ref (s + 1), .ref (s + 2), .ref (s + 3), .ref (s + 4), .ref (s + 5), .ref (s + 6), .null, .null, .int (gI (0)), .int (gI (0)), .int (gI (0)), .int (gI (0)), .long (gJ (0))]) := hs_s eh14
  have fh14_1 : hh14.2 (s + 1) = some (aR "PolyWork$Row" 40 (fun _ => none)) := hs_n eh14 (show NE (s + 1) (s) by unfold NE; omega) fi13_1
  have fh14_2 : hh14.2 (s + 2) = some (aI 40 (fun _ => 0)) := hs_n eh14 (show NE (s + 2) (s) by unfold NE; omega) fi13_2
  have fh14_3 : hh14.2 (s + 3) = some (aR "PolyWork$Row" 8 (fun _ => none)) := hs_n eh14 (show NE (s + 3) (s) by unfold NE; omega) fi13_3
  have fh14_4 : hh14.2 (s + 4) = some (aI 8 (fun _ => 0)) := hs_n eh14 (show NE (s + 4) (s) by unfold NE; omega) fi13_4
  have fh14_5 : hh14.2 (s + 5) = some (aJ 40 (fun _ => 0)) := hs_n eh14 (show NE (s + 5) (s) by unfold NE; omega) fi13_5
  have fh14_6 : hh14.2 (s + 6) = some (oB 5 [.ref (s + 7), .int (gI (-1))]) := hs_n eh14 (show NE (s + 6) (s) by unfold NE; omega) fi13_6
  have fh14_7 : hh14.2 (s + 7) = some (aJ 84 (fun _ => 0)) := hs_n eh14 (show NE (s + 7) (s) by unfold NE; omega) fin13
  have bl14 : ∀ x, x < s → hh14.2 x = h.2 x := fun x hx => by rw [eh14, hset_n _ _ (by omega)]; exact bl13 x hx
  have nk14 : hh14.1 = s + 8 := by rw [eh14]; exact nk13
  clear fi13_0 fi13_1 fi13_2 fi13_3 fi13_4 fi13_5 fi13_6 fin13 bl13 nk13
  refine g_aload_n 0 dX0_init_59 rfl ?_
  refine g_new (fs := [.null, .int (gI (0))]) dX0_init_60 kX5 cX0_9 niX5 nzX5 (by decide) (by omega) (by omega) ?_
  obtain ⟨hh15, eh15⟩ : ∃ z : GH, z = hnew hh14 (oB 5 [.null, .int (gI (0))]) := ⟨_, rfl⟩
  refine Go.hp eh15.symm ?_
  rw [nk14]
  have fh15_0 : hh15.2 (s) = some (oB 0 [.null, .null, .null, .ref (s + 1), .ref (s + 2), .ref (s + 3), .ref (s + 4), .ref (s + 5), .ref (s + 6), .null, .null, .int (gI (0)), .int (gI (0)), .int (gI (0)), .int (gI (0)), .long (gJ (0))]) := by rw [eh15, hnew_n _ _ (by omega)]; exact fh14_0
  have fh15_1 : hh15.2 (s + 1) = some (aR "PolyWork$Row" 40 (fun _ => none)) := by rw [eh15, hnew_n _ _ (by omega)]; exact fh14_1
  have fh15_2 : hh15.2 (s + 2) = some (aI 40 (fun _ => 0)) := by rw [eh15, hnew_n _ _ (by omega)]; exact fh14_2
  have fh15_3 : hh15.2 (s + 3) = some (aR "PolyWork$Row" 8 (fun _ => none)) := by rw [eh15, hnew_n _ _ (by omega)]; exact fh14_3
  have fh15_4 : hh15.2 (s + 4) = some (aI 8 (fun _ => 0)) := by rw [eh15, hnew_n _ _ (by omega)]; exact fh14_4
  have fh15_5 : hh15.2 (s + 5) = some (aJ 40 (fun _ => 0)) := by rw [eh15, hnew_n _ _ (by omega)]; exact fh14_5
  have fh15_6 : hh15.2 (s + 6) = some (oB 5 [.ref (s + 7), .int (gI (-1))]) := by rw [eh15, hnew_n _ _ (by omega)]; exact fh14_6
  have fh15_7 : hh15.2 (s + 7) = some (aJ 84 (fun _ => 0)) := by rw [eh15, hnew_n _ _ (by omega)]; exact fh14_7
  have fq15 : hh15.2 (s + 8) = some (oB 5 [.null, .int (gI (0))]) := by
                                                                      have e9 := hnew_s hh14 (oB 5 [.null, .int (gI (0))])
                                                                      rw [nk14] at e9
                                                                      rw [eh15]; exact e9
  have bl15 : ∀ x, x < s → hh15.2 x = h.2 x := fun x hx => (show hh15.2 x = hh14.2 x by rw [eh15, hnew_n _ _ (by omega)]).trans (bl14 x hx)
  have nk15 : hh15.1 = s + 9 := by rw [eh15]; show hh14.1 + 1 = _; omega
  clear fh14_0 fh14_1 fh14_2 fh14_3 fh14_4 fh14_5 fh14_6 fh14_7 bl14 nk14
  refine g_dup dX0_init_63 rfl ?_
  refine g_bipush dX0_init_64 (by decide) ?_
  refine g_callI (nc2 := 1) (ns2 := 84) (As := [.int (gI (84))]) (st := [.ref (s + 8), .ref (s)]) rfl dX0_init_66 okX5_init rfl lX0_31 itX5_init rfl (by decide) (by decide) rfl (Nat.le_of_ble_eq_true rfl) (sX5_initG84 N _ (s + 8) (by omega) fq15) (by omega) (by omega) (fun v16 hc16 q16 => ?_)
  obtain ⟨rfl, hq17⟩ := q16
  rw [nk15] at hq17
  have fi17_0 : hc16.2 (s) = some (oB 0 [.null, .null, .null, .ref (s + 1), .ref (s + 2), .ref (s + 3), .ref (s + 4), .ref (s + 5), .ref (s + 6), .null, .null, .int (gI (0)), .int (gI (0)), .int (gI (0)), .int (gI (0)), .long (gJ (0))]) := by rw [hq17, hset_n _ _ (by omega), hnew_n _ _ (by omega)]; exact fh15_0
  have fi17_1 : hc16.2 (s + 1) = some (aR "PolyWork$Row" 40 (fun _ => none)) := by rw [hq17, hset_n _ _ (by omega), hnew_n _ _ (by omega)]; exact fh15_1
  have fi17_2 : hc16.2 (s + 2) = some (aI 40 (fun _ => 0)) := by rw [hq17, hset_n _ _ (by omega), hnew_n _ _ (by omega)]; exact fh15_2
  have fi17_3 : hc16.2 (s + 3) = some (aR "PolyWork$Row" 8 (fun _ => none)) := by rw [hq17, hset_n _ _ (by omega), hnew_n _ _ (by omega)]; exact fh15_3
  have fi17_4 : hc16.2 (s + 4) = some (aI 8 (fun _ => 0)) := by rw [hq17, hset_n _ _ (by omega), hnew_n _ _ (by omega)]; exact fh15_4
  have fi17_5 : hc16.2 (s + 5) = some (aJ 40 (fun _ => 0)) := by rw [hq17, hset_n _ _ (by omega), hnew_n _ _ (by omega)]; exact fh15_5
  have fi17_6 : hc16.2 (s + 6) = some (oB 5 [.ref (s + 7), .int (gI (-1))]) := by rw [hq17, hset_n _ _ (by omega), hnew_n _ _ (by omega)]; exact fh15_6
  have fi17_7 : hc16.2 (s + 7) = some (aJ 84 (fun _ => 0)) := by rw [hq17, hset_n _ _ (by omega), hnew_n _ _ (by omega)]; exact fh15_7
  have fi17_8 : hc16.2 (s + 8) = some (oB 5 [.ref (s + 9), .int (gI (-1))]) := by rw [hq17]; exact hset_s _ _ _
  have fin17 : hc16.2 (s + 9) = some (aJ 84 (fun _ => 0)) := by
                                                                      have e9 := hnew_s hh15 (aJ 84 (fun _ => 0))
                                                                      rw [nk15] at e9
                                                                      rw [hq17, hset_n _ _ (by omega)]; exact e9
  have bl17 : ∀ x, x < s → hc16.2 x = h.2 x := fun x hx => by rw [hq17, hset_n _ _ (by omega), hnew_n _ _ (by omega)]; exact bl15 x hx
  have nk17 : hc16.1 = s + 10 := by rw [hq17]; show hh15.1 + 1 = _; omega
  refine Go.nf (h' := hc16) (st' := [.ref (s + 8), .ref (s)]) rfl rfl (Nat.le_refl _) (Nat.le_refl _) ?_
  clear fh15_0 fh15_1 fh15_2 fh15_3 fh15_4 fh15_5 fh15_6 fh15_7 fq15 bl15 nk15
  refine g_putF 9 dX0_init_69 kX0 (by decide) fX0_38 rfl rfl rfl fi17_0 (Nat.le_of_ble_eq_true rfl) rfl rfl ?_
  obtain ⟨hh18, eh18⟩ : ∃ z : GH, z = hset hc16 (s) (oB 0 [.null, .null, .null, .ref (s + 1), .ref (s + 2), .ref (s + 3), .ref (s + 4), .ref (s + 5), .ref (s + 6), .ref (s + 8), .null, .int (gI (0)), .int (gI (0)), .int (gI (0)), .int (gI (0)), .long (gJ (0))]) := ⟨_, rfl⟩
  refine Go.hp eh18.symm ?_
  have fh18_0 : hh18.2 (s) = some (oB 0 [.null, .null, .null, .ref (s + 1), .ref (s + 2), .ref (s + 3), .ref (s + 4), .ref (s + 5), .ref (s + 6), .ref (s + 8), .null, .int (gI (0)), .int (gI (0)), .int (gI (0)), .int (gI (0)), .long (gJ (0))]) := hs_s eh18
  have fh18_1 : hh18.2 (s + 1) = some (aR "PolyWork$Row" 40 (fun _ => none)) := hs_n eh18 (show NE (s + 1) (s) by unfold NE; omega) fi17_1
  have fh18_2 : hh18.2 (s + 2) = some (aI 40 (fun _ => 0)) := hs_n eh18 (show NE (s + 2) (s) by unfold NE; omega) fi17_2
  have fh18_3 : hh18.2 (s + 3) = some (aR "PolyWork$Row" 8 (fun _ => none)) := hs_n eh18 (show NE (s + 3) (s) by unfold NE; omega) fi17_3
  have fh18_4 : hh18.2 (s + 4) = some (aI 8 (fun _ => 0)) := hs_n eh18 (show NE (s + 4) (s) by unfold NE; omega) fi17_4
  have fh18_5 : hh18.2 (s + 5) = some (aJ 40 (fun _ => 0)) := hs_n eh18 (show NE (s + 5) (s) by unfold NE; omega) fi17_5
  have fh18_6 : hh18.2 (s + 6) = some (oB 5 [.ref (s + 7), .int (gI (-1))]) := hs_n eh18 (show NE (s + 6) (s) by unfold NE; omega) fi17_6
  have fh18_7 : hh18.2 (s + 7) = some (aJ 84 (fun _ => 0)) := hs_n eh18 (show NE (s + 7) (s) by unfold NE; omega) fi17_7
  have fh18_8 : hh18.2 (s + 8) = some (oB 5 [.ref (s + 9), .int (gI (-1))]) := hs_n eh18 (show NE (s + 8) (s) by unfold NE; omega) fi17_8
  have fh18_9 : hh18.2 (s + 9) = some (aJ 84 (fun _ => 0)) := hs_n eh18 (show NE (s + 9) (s) by unfold NE; omega) fin17
  have bl18 : ∀ x, x < s → hh18.2 x = h.2 x := fun x hx => by rw [eh18, hset_n _ _ (by omega)]; exact bl17 x hx
  have nk18 : hh18.1 = s + 10 := by rw [eh18]; exact nk17
  clear fi17_0 fi17_1 fi17_2 fi17_3 fi17_4 fi17_5 fi17_6 fi17_7 fi17_8 fin17 bl17 nk17
  refine g_aload_n 0 dX0_init_72 rfl ?_
  refine g_new (fs := [.null, .int (gI (0))]) dX0_init_73 kX5 cX0_9 niX5 nzX5 (by decide) (by omega) (by omega) ?_
  obtain ⟨hh19, eh19⟩ : ∃ z : GH, z = hnew hh18 (oB 5 [.null, .int (gI (0))]) := ⟨_, rfl⟩
  refine Go.hp eh19.symm ?_
  rw [nk18]
  have fh19_0 : hh19.2 (s) = some (oB 0 [.null, .null, .null, .ref (s + 1), .ref (s + 2), .ref (s + 3), .ref (s + 4), .ref (s + 5), .ref (s + 6), .ref (s + 8), .null, .int (gI (0)), .int (gI (0)), .int (gI (0)), .int (gI (0)), .long (gJ (0))]) := by rw [eh19, hnew_n _ _ (by omega)]; exact fh18_0
  have fh19_1 : hh19.2 (s + 1) = some (aR "PolyWork$Row" 40 (fun _ => none)) := by rw [eh19, hnew_n _ _ (by omega)]; exact fh18_1
  have fh19_2 : hh19.2 (s + 2) = some (aI 40 (fun _ => 0)) := by rw [eh19, hnew_n _ _ (by omega)]; exact fh18_2
  have fh19_3 : hh19.2 (s + 3) = some (aR "PolyWork$Row" 8 (fun _ => none)) := by rw [eh19, hnew_n _ _ (by omega)]; exact fh18_3
  have fh19_4 : hh19.2 (s + 4) = some (aI 8 (fun _ => 0)) := by rw [eh19, hnew_n _ _ (by omega)]; exact fh18_4
  have fh19_5 : hh19.2 (s + 5) = some (aJ 40 (fun _ => 0)) := by rw [eh19, hnew_n _ _ (by omega)]; exact fh18_5
  have fh19_6 : hh19.2 (s + 6) = some (oB 5 [.ref (s + 7), .int (gI (-1))]) := by rw [eh19, hnew_n _ _ (by omega)]; exact fh18_6
  have fh19_7 : hh19.2 (s + 7) = some (aJ 84 (fun _ => 0)) := by rw [eh19, hnew_n _ _ (by omega)]; exact fh18_7
  have fh19_8 : hh19.2 (s + 8) = some (oB 5 [.ref (s + 9), .int (gI (-1))]) := by rw [eh19, hnew_n _ _ (by omega)]; exact fh18_8
  have fh19_9 : hh19.2 (s + 9) = some (aJ 84 (fun _ => 0)) := by rw [eh19, hnew_n _ _ (by omega)]; exact fh18_9
  have fq19 : hh19.2 (s + 10) = some (oB 5 [.null, .int (gI (0))]) := by
                                                                      have e9 := hnew_s hh18 (oB 5 [.null, .int (gI (0))])
                                                                      rw [nk18] at e9
                                                                      rw [eh19]; exact e9
  have bl19 : ∀ x, x < s → hh19.2 x = h.2 x := fun x hx => (show hh19.2 x = hh18.2 x by rw [eh19, hnew_n _ _ (by omega)]).trans (bl18 x hx)
  have nk19 : hh19.1 = s + 11 := by rw [eh19]; show hh18.1 + 1 = _; omega
  clear fh18_0 fh18_1 fh18_2 fh18_3 fh18_4 fh18_5 fh18_6 fh18_7 fh18_8 fh18_9 bl18 nk18
  refine g_dup dX0_init_76 rfl ?_
  refine g_bipush dX0_init_77 (by decide) ?_
  refine g_callI (nc2 := 1) (ns2 := 84) (As := [.int (gI (84))]) (st := [.ref (s + 10), .ref (s)]) rfl dX0_init_79 okX5_init rfl lX0_31 itX5_init rfl (by decide) (by decide) rfl (Nat.le_of_ble_eq_true rfl) (sX5_initG84 N _ (s + 10) (by omega) fq19) (by omega) (by omega) (fun v20 hc20 q20 => ?_)
  obtain ⟨rfl, hq21⟩ := q20
  rw [nk19] at hq21
  have fi21_0 : hc20.2 (s) = some (oB 0 [.null, .null, .null, .ref (s + 1), .ref (s + 2), .ref (s + 3), .ref (s + 4), .ref (s + 5), .ref (s + 6), .ref (s + 8), .null, .int (gI (0)), .int (gI (0)), .int (gI (0)), .int (gI (0)), .long (gJ (0))]) := by rw [hq21, hset_n _ _ (by omega), hnew_n _ _ (by omega)]; exact fh19_0
  have fi21_1 : hc20.2 (s + 1) = some (aR "PolyWork$Row" 40 (fun _ => none)) := by rw [hq21, hset_n _ _ (by omega), hnew_n _ _ (by omega)]; exact fh19_1
  have fi21_2 : hc20.2 (s + 2) = some (aI 40 (fun _ => 0)) := by rw [hq21, hset_n _ _ (by omega), hnew_n _ _ (by omega)]; exact fh19_2
  have fi21_3 : hc20.2 (s + 3) = some (aR "PolyWork$Row" 8 (fun _ => none)) := by rw [hq21, hset_n _ _ (by omega), hnew_n _ _ (by omega)]; exact fh19_3
  have fi21_4 : hc20.2 (s + 4) = some (aI 8 (fun _ => 0)) := by rw [hq21, hset_n _ _ (by omega), hnew_n _ _ (by omega)]; exact fh19_4
  have fi21_5 : hc20.2 (s + 5) = some (aJ 40 (fun _ => 0)) := by rw [hq21, hset_n _ _ (by omega), hnew_n _ _ (by omega)]; exact fh19_5
  have fi21_6 : hc20.2 (s + 6) = some (oB 5 [.ref (s + 7), .int (gI (-1))]) := by rw [hq21, hset_n _ _ (by omega), hnew_n _ _ (by omega)]; exact fh19_6
  have fi21_7 : hc20.2 (s + 7) = some (aJ 84 (fun _ => 0)) := by rw [hq21, hset_n _ _ (by omega), hnew_n _ _ (by omega)]; exact fh19_7
  have fi21_8 : hc20.2 (s + 8) = some (oB 5 [.ref (s + 9), .int (gI (-1))]) := by rw [hq21, hset_n _ _ (by omega), hnew_n _ _ (by omega)]; exact fh19_8
  have fi21_9 : hc20.2 (s + 9) = some (aJ 84 (fun _ => 0)) := by rw [hq21, hset_n _ _ (by omega), hnew_n _ _ (by omega)]; exact fh19_9
  have fi21_10 : hc20.2 (s + 10) = some (oB 5 [.ref (s + 11), .int (gI (-1))]) := by rw [hq21]; exact hset_s _ _ _
  have fin21 : hc20.2 (s + 11) = some (aJ 84 (fun _ => 0)) := by
                                                                      have e9 := hnew_s hh19 (aJ 84 (fun _ => 0))
                                                                      rw [nk19] at e9
                                                                      rw [hq21, hset_n _ _ (by omega)]; exact e9
  have bl21 : ∀ x, x < s → hc20.2 x = h.2 x := fun x hx => by rw [hq21, hset_n _ _ (by omega), hnew_n _ _ (by omega)]; exact bl19 x hx
  have nk21 : hc20.1 = s + 12 := by rw [hq21]; show hh19.1 + 1 = _; omega
  refine Go.nf (h' := hc20) (st' := [.ref (s + 10), .ref (s)]) rfl rfl (Nat.le_refl _) (Nat.le_refl _) ?_
  clear fh19_0 fh19_1 fh19_2 fh19_3 fh19_4 fh19_5 fh19_6 fh19_7 fh19_8 fh19_9 fq19 bl19 nk19
  refine g_putF 10 dX0_init_82 kX0 (by decide) fX0_41 rfl rfl rfl fi21_0 (Nat.le_of_ble_eq_true rfl) rfl rfl ?_
  obtain ⟨hh22, eh22⟩ : ∃ z : GH, z = hset hc20 (s) (oB 0 [.null, .null, .null, .ref (s + 1), .ref (s + 2), .ref (s + 3), .ref (s + 4), .ref (s + 5), .ref (s + 6), .ref (s + 8), .ref (s + 10), .int (gI (0)), .int (gI (0)), .int (gI (0)), .int (gI (0)), .long (gJ (0))]) := ⟨_, rfl⟩
  refine Go.hp eh22.symm ?_
  have fh22_0 : hh22.2 (s) = some (oB 0 [.null, .null, .null, .ref (s + 1), .ref (s + 2), .ref (s + 3), .ref (s + 4), .ref (s + 5), .ref (s + 6), .ref (s + 8), .ref (s + 10), .int (gI (0)), .int (gI (0)), .int (gI (0)), .int (gI (0)), .long (gJ (0))]) := hs_s eh22
  have fh22_1 : hh22.2 (s + 1) = some (aR "PolyWork$Row" 40 (fun _ => none)) := hs_n eh22 (show NE (s + 1) (s) by unfold NE; omega) fi21_1
  have fh22_2 : hh22.2 (s + 2) = some (aI 40 (fun _ => 0)) := hs_n eh22 (show NE (s + 2) (s) by unfold NE; omega) fi21_2
  have fh22_3 : hh22.2 (s + 3) = some (aR "PolyWork$Row" 8 (fun _ => none)) := hs_n eh22 (show NE (s + 3) (s) by unfold NE; omega) fi21_3
  have fh22_4 : hh22.2 (s + 4) = some (aI 8 (fun _ => 0)) := hs_n eh22 (show NE (s + 4) (s) by unfold NE; omega) fi21_4
  have fh22_5 : hh22.2 (s + 5) = some (aJ 40 (fun _ => 0)) := hs_n eh22 (show NE (s + 5) (s) by unfold NE; omega) fi21_5
  have fh22_6 : hh22.2 (s + 6) = some (oB 5 [.ref (s + 7), .int (gI (-1))]) := hs_n eh22 (show NE (s + 6) (s) by unfold NE; omega) fi21_6
  have fh22_7 : hh22.2 (s + 7) = some (aJ 84 (fun _ => 0)) := hs_n eh22 (show NE (s + 7) (s) by unfold NE; omega) fi21_7
  have fh22_8 : hh22.2 (s + 8) = some (oB 5 [.ref (s + 9), .int (gI (-1))]) := hs_n eh22 (show NE (s + 8) (s) by unfold NE; omega) fi21_8
  have fh22_9 : hh22.2 (s + 9) = some (aJ 84 (fun _ => 0)) := hs_n eh22 (show NE (s + 9) (s) by unfold NE; omega) fi21_9
  have fh22_10 : hh22.2 (s + 10) = some (oB 5 [.ref (s + 11), .int (gI (-1))]) := hs_n eh22 (show NE (s + 10) (s) by unfold NE; omega) fi21_10
  have fh22_11 : hh22.2 (s + 11) = some (aJ 84 (fun _ => 0)) := hs_n eh22 (show NE (s + 11) (s) by unfold NE; omega) fin21
  have bl22 : ∀ x, x < s → hh22.2 x = h.2 x := fun x hx => by rw [eh22, hset_n _ _ (by omega)]; exact bl21 x hx
  have nk22 : hh22.1 = s + 12 := by rw [eh22]; exact nk21
  clear fi21_0 fi21_1 fi21_2 fi21_3 fi21_4 fi21_5 fi21_6 fi21_7 fi21_8 fi21_9 fi21_10 fin21 bl21 nk21
  refine g_aload_n 0 dX0_init_85 rfl ?_
  refine g_aload_n 1 dX0_init_86 rfl ?_
  refine g_putF 0 dX0_init_87 kX0 (by decide) fX0_44 rfl rfl rfl fh22_0 (Nat.le_of_ble_eq_true rfl) rfl rfl ?_
  obtain ⟨hh23, eh23⟩ : ∃ z : GH, z = hset hh22 (s) (oB 0 [.ref (B + 1), .null, .null, .ref (s + 1), .ref (s + 2), .ref (s + 3), .ref (s + 4), .ref (s + 5), .ref (s + 6), .ref (s + 8), .ref (s + 10), .int (gI (0)), .int (gI (0)), .int (gI (0)), .int (gI (0)), .long (gJ (0))]) := ⟨_, rfl⟩
  refine Go.hp eh23.symm ?_
  have fh23_0 : hh23.2 (s) = some (oB 0 [.ref (B + 1), .null, .null, .ref (s + 1), .ref (s + 2), .ref (s + 3), .ref (s + 4), .ref (s + 5), .ref (s + 6), .ref (s + 8), .ref (s + 10), .int (gI (0)), .int (gI (0)), .int (gI (0)), .int (gI (0)), .long (gJ (0))]) := hs_s eh23
  have fh23_1 : hh23.2 (s + 1) = some (aR "PolyWork$Row" 40 (fun _ => none)) := hs_n eh23 (show NE (s + 1) (s) by unfold NE; omega) fh22_1
  have fh23_2 : hh23.2 (s + 2) = some (aI 40 (fun _ => 0)) := hs_n eh23 (show NE (s + 2) (s) by unfold NE; omega) fh22_2
  have fh23_3 : hh23.2 (s + 3) = some (aR "PolyWork$Row" 8 (fun _ => none)) := hs_n eh23 (show NE (s + 3) (s) by unfold NE; omega) fh22_3
  have fh23_4 : hh23.2 (s + 4) = some (aI 8 (fun _ => 0)) := hs_n eh23 (show NE (s + 4) (s) by unfold NE; omega) fh22_4
  have fh23_5 : hh23.2 (s + 5) = some (aJ 40 (fun _ => 0)) := hs_n eh23 (show NE (s + 5) (s) by unfold NE; omega) fh22_5
  have fh23_6 : hh23.2 (s + 6) = some (oB 5 [.ref (s + 7), .int (gI (-1))]) := hs_n eh23 (show NE (s + 6) (s) by unfold NE; omega) fh22_6
  have fh23_7 : hh23.2 (s + 7) = some (aJ 84 (fun _ => 0)) := hs_n eh23 (show NE (s + 7) (s) by unfold NE; omega) fh22_7
  have fh23_8 : hh23.2 (s + 8) = some (oB 5 [.ref (s + 9), .int (gI (-1))]) := hs_n eh23 (show NE (s + 8) (s) by unfold NE; omega) fh22_8
  have fh23_9 : hh23.2 (s + 9) = some (aJ 84 (fun _ => 0)) := hs_n eh23 (show NE (s + 9) (s) by unfold NE; omega) fh22_9
  have fh23_10 : hh23.2 (s + 10) = some (oB 5 [.ref (s + 11), .int (gI (-1))]) := hs_n eh23 (show NE (s + 10) (s) by unfold NE; omega) fh22_10
  have fh23_11 : hh23.2 (s + 11) = some (aJ 84 (fun _ => 0)) := hs_n eh23 (show NE (s + 11) (s) by unfold NE; omega) fh22_11
  have bl23 : ∀ x, x < s → hh23.2 x = h.2 x := fun x hx => by rw [eh23, hset_n _ _ (by omega)]; exact bl22 x hx
  have nk23 : hh23.1 = s + 12 := by rw [eh23]; exact nk22
  clear fh22_0 fh22_1 fh22_2 fh22_3 fh22_4 fh22_5 fh22_6 fh22_7 fh22_8 fh22_9 fh22_10 fh22_11 bl22 nk22
  refine g_aload_n 0 dX0_init_90 rfl ?_
  refine g_aload_n 2 dX0_init_91 rfl ?_
  refine g_putF 1 dX0_init_92 kX0 (by decide) fX0_48 rfl rfl rfl fh23_0 (Nat.le_of_ble_eq_true rfl) rfl rfl ?_
  obtain ⟨hh24, eh24⟩ : ∃ z : GH, z = hset hh23 (s) (oB 0 [.ref (B + 1), .ref (B + 7), .null, .ref (s + 1), .ref (s + 2), .ref (s + 3), .ref (s + 4), .ref (s + 5), .ref (s + 6), .ref (s + 8), .ref (s + 10), .int (gI (0)), .int (gI (0)), .int (gI (0)), .int (gI (0)), .long (gJ (0))]) := ⟨_, rfl⟩
  refine Go.hp eh24.symm ?_
  have fh24_0 : hh24.2 (s) = some (oB 0 [.ref (B + 1), .ref (B + 7), .null, .ref (s + 1), .ref (s + 2), .ref (s + 3), .ref (s + 4), .ref (s + 5), .ref (s + 6), .ref (s + 8), .ref (s + 10), .int (gI (0)), .int (gI (0)), .int (gI (0)), .int (gI (0)), .long (gJ (0))]) := hs_s eh24
  have fh24_1 : hh24.2 (s + 1) = some (aR "PolyWork$Row" 40 (fun _ => none)) := hs_n eh24 (show NE (s + 1) (s) by unfold NE; omega) fh23_1
  have fh24_2 : hh24.2 (s + 2) = some (aI 40 (fun _ => 0)) := hs_n eh24 (show NE (s + 2) (s) by unfold NE; omega) fh23_2
  have fh24_3 : hh24.2 (s + 3) = some (aR "PolyWork$Row" 8 (fun _ => none)) := hs_n eh24 (show NE (s + 3) (s) by unfold NE; omega) fh23_3
  have fh24_4 : hh24.2 (s + 4) = some (aI 8 (fun _ => 0)) := hs_n eh24 (show NE (s + 4) (s) by unfold NE; omega) fh23_4
  have fh24_5 : hh24.2 (s + 5) = some (aJ 40 (fun _ => 0)) := hs_n eh24 (show NE (s + 5) (s) by unfold NE; omega) fh23_5
  have fh24_6 : hh24.2 (s + 6) = some (oB 5 [.ref (s + 7), .int (gI (-1))]) := hs_n eh24 (show NE (s + 6) (s) by unfold NE; omega) fh23_6
  have fh24_7 : hh24.2 (s + 7) = some (aJ 84 (fun _ => 0)) := hs_n eh24 (show NE (s + 7) (s) by unfold NE; omega) fh23_7
  have fh24_8 : hh24.2 (s + 8) = some (oB 5 [.ref (s + 9), .int (gI (-1))]) := hs_n eh24 (show NE (s + 8) (s) by unfold NE; omega) fh23_8
  have fh24_9 : hh24.2 (s + 9) = some (aJ 84 (fun _ => 0)) := hs_n eh24 (show NE (s + 9) (s) by unfold NE; omega) fh23_9
  have fh24_10 : hh24.2 (s + 10) = some (oB 5 [.ref (s + 11), .int (gI (-1))]) := hs_n eh24 (show NE (s + 10) (s) by unfold NE; omega) fh23_10
  have fh24_11 : hh24.2 (s + 11) = some (aJ 84 (fun _ => 0)) := hs_n eh24 (show NE (s + 11) (s) by unfold NE; omega) fh23_11
  have bl24 : ∀ x, x < s → hh24.2 x = h.2 x := fun x hx => by rw [eh24, hset_n _ _ (by omega)]; exact bl23 x hx
  have nk24 : hh24.1 = s + 12 := by rw [eh24]; exact nk23
  clear fh23_0 fh23_1 fh23_2 fh23_3 fh23_4 fh23_5 fh23_6 fh23_7 fh23_8 fh23_9 fh23_10 fh23_11 bl23 nk23
  refine g_aload_n 0 dX0_init_95 rfl ?_
  refine g_new (fs := [.null, .null, .null, .null, .null, .null, .null, .int (gI (0))]) dX0_init_96 kX6 cX0_52 niX6 nzX6 (by decide) (by omega) (by omega) ?_
  obtain ⟨hh25, eh25⟩ : ∃ z : GH, z = hnew hh24 (oB 6 [.null, .null, .null, .null, .null, .null, .null, .int (gI (0))]) := ⟨_, rfl⟩
  refine Go.hp eh25.symm ?_
  rw [nk24]
  have fh25_0 : hh25.2 (s) = some (oB 0 [.ref (B + 1), .ref (B + 7), .null, .ref (s + 1), .ref (s + 2), .ref (s + 3), .ref (s + 4), .ref (s + 5), .ref (s + 6), .ref (s + 8), .ref (s + 10), .int (gI (0)), .int (gI (0)), .int (gI (0)), .int (gI (0)), .long (gJ (0))]) := by rw [eh25, hnew_n _ _ (by omega)]; exact fh24_0
  have fh25_1 : hh25.2 (s + 1) = some (aR "PolyWork$Row" 40 (fun _ => none)) := by rw [eh25, hnew_n _ _ (by omega)]; exact fh24_1
  have fh25_2 : hh25.2 (s + 2) = some (aI 40 (fun _ => 0)) := by rw [eh25, hnew_n _ _ (by omega)]; exact fh24_2
  have fh25_3 : hh25.2 (s + 3) = some (aR "PolyWork$Row" 8 (fun _ => none)) := by rw [eh25, hnew_n _ _ (by omega)]; exact fh24_3
  have fh25_4 : hh25.2 (s + 4) = some (aI 8 (fun _ => 0)) := by rw [eh25, hnew_n _ _ (by omega)]; exact fh24_4
  have fh25_5 : hh25.2 (s + 5) = some (aJ 40 (fun _ => 0)) := by rw [eh25, hnew_n _ _ (by omega)]; exact fh24_5
  have fh25_6 : hh25.2 (s + 6) = some (oB 5 [.ref (s + 7), .int (gI (-1))]) := by rw [eh25, hnew_n _ _ (by omega)]; exact fh24_6
  have fh25_7 : hh25.2 (s + 7) = some (aJ 84 (fun _ => 0)) := by rw [eh25, hnew_n _ _ (by omega)]; exact fh24_7
  have fh25_8 : hh25.2 (s + 8) = some (oB 5 [.ref (s + 9), .int (gI (-1))]) := by rw [eh25, hnew_n _ _ (by omega)]; exact fh24_8
  have fh25_9 : hh25.2 (s + 9) = some (aJ 84 (fun _ => 0)) := by rw [eh25, hnew_n _ _ (by omega)]; exact fh24_9
  have fh25_10 : hh25.2 (s + 10) = some (oB 5 [.ref (s + 11), .int (gI (-1))]) := by rw [eh25, hnew_n _ _ (by omega)]; exact fh24_10
  have fh25_11 : hh25.2 (s + 11) = some (aJ 84 (fun _ => 0)) := by rw [eh25, hnew_n _ _ (by omega)]; exact fh24_11
  have fq25 : hh25.2 (s + 12) = some (oB 6 [.null, .null, .null, .null, .null, .null, .null, .int (gI (0))]) := by
                                                                      have e9 := hnew_s hh24 (oB 6 [.null, .null, .null, .null, .null, .null, .null, .int (gI (0))])
                                                                      rw [nk24] at e9
                                                                      rw [eh25]; exact e9
  have bl25 : ∀ x, x < s → hh25.2 x = h.2 x := fun x hx => (show hh25.2 x = hh24.2 x by rw [eh25, hnew_n _ _ (by omega)]).trans (bl24 x hx)
  have nk25 : hh25.1 = s + 13 := by rw [eh25]; show hh24.1 + 1 = _; omega
  clear fh24_0 fh24_1 fh24_2 fh24_3 fh24_4 fh24_5 fh24_6 fh24_7 fh24_8 fh24_9 fh24_10 fh24_11 bl24 nk24
  refine g_dup dX0_init_99 rfl ?_
  refine g_aload_n 1 dX0_init_100 rfl ?_
  refine g_aload_n 2 dX0_init_101 rfl ?_
  refine g_callI (nc2 := 8) (ns2 := 1900) (As := [.ref (B + 1), .ref (B + 7)]) (st := [.ref (s + 12), .ref (s)]) rfl dX0_init_102 okX6_init rfl lX0_54 itX6_init rfl (by decide) (by decide) rfl (Nat.le_of_ble_eq_true rfl) (sF_init6 N _ B (s + 12) (by rw [nk25]) fq25) (by omega) (by omega) (fun v26 hc26 q26 => ?_)
  obtain ⟨rfl, kn, bl6, o6, g6, v6, r6a, r6b, r6c⟩ := q26
  have fz27_0 : hc26.2 (s) = some (oB 0 [.ref (B + 1), .ref (B + 7), .null, .ref (s + 1), .ref (s + 2), .ref (s + 3), .ref (s + 4), .ref (s + 5), .ref (s + 6), .ref (s + 8), .ref (s + 10), .int (gI (0)), .int (gI (0)), .int (gI (0)), .int (gI (0)), .long (gJ (0))]) := by rw [bl6 _ (by omega)]; exact fh25_0
  have fz27_1 : hc26.2 (s + 1) = some (aR "PolyWork$Row" 40 (fun _ => none)) := by rw [bl6 _ (by omega)]; exact fh25_1
  have fz27_2 : hc26.2 (s + 2) = some (aI 40 (fun _ => 0)) := by rw [bl6 _ (by omega)]; exact fh25_2
  have fz27_3 : hc26.2 (s + 3) = some (aR "PolyWork$Row" 8 (fun _ => none)) := by rw [bl6 _ (by omega)]; exact fh25_3
  have fz27_4 : hc26.2 (s + 4) = some (aI 8 (fun _ => 0)) := by rw [bl6 _ (by omega)]; exact fh25_4
  have fz27_5 : hc26.2 (s + 5) = some (aJ 40 (fun _ => 0)) := by rw [bl6 _ (by omega)]; exact fh25_5
  have fz27_6 : hc26.2 (s + 6) = some (oB 5 [.ref (s + 7), .int (gI (-1))]) := by rw [bl6 _ (by omega)]; exact fh25_6
  have fz27_7 : hc26.2 (s + 7) = some (aJ 84 (fun _ => 0)) := by rw [bl6 _ (by omega)]; exact fh25_7
  have fz27_8 : hc26.2 (s + 8) = some (oB 5 [.ref (s + 9), .int (gI (-1))]) := by rw [bl6 _ (by omega)]; exact fh25_8
  have fz27_9 : hc26.2 (s + 9) = some (aJ 84 (fun _ => 0)) := by rw [bl6 _ (by omega)]; exact fh25_9
  have fz27_10 : hc26.2 (s + 10) = some (oB 5 [.ref (s + 11), .int (gI (-1))]) := by rw [bl6 _ (by omega)]; exact fh25_10
  have fz27_11 : hc26.2 (s + 11) = some (aJ 84 (fun _ => 0)) := by rw [bl6 _ (by omega)]; exact fh25_11
  have blz : ∀ x, x < s → hc26.2 x = h.2 x := fun x hx => (bl6 x (by omega)).trans (bl25 x hx)
  have nkz : hc26.1 = s + 21 := kn
  have oz : hc26.2 (s + 12) = some (oB 6 [.ref (B + 1), .ref (B + 7), .ref (s + 13), .ref (s + 14), .ref (s + 15), .ref (s + 17), .ref (s + 19), .int (gI (0))]) := o6
  refine Go.nf (h' := hc26) (st' := [.ref (s + 12), .ref (s)]) rfl rfl (Nat.le_refl _) (Nat.le_refl _) ?_
  refine g_putF 2 dX0_init_105 kX0 (by decide) fX0_57 rfl rfl rfl fz27_0 (Nat.le_of_ble_eq_true rfl) rfl rfl ?_
  obtain ⟨hh28, eh28⟩ : ∃ z : GH, z = hset hc26 (s) (oB 0 [.ref (B + 1), .ref (B + 7), .ref (s + 12), .ref (s + 1), .ref (s + 2), .ref (s + 3), .ref (s + 4), .ref (s + 5), .ref (s + 6), .ref (s + 8), .ref (s + 10), .int (gI (0)), .int (gI (0)), .int (gI (0)), .int (gI (0)), .long (gJ (0))]) := ⟨_, rfl⟩
  refine Go.hp eh28.symm ?_
  have fh28_0 : hh28.2 (s) = some (oB 0 [.ref (B + 1), .ref (B + 7), .ref (s + 12), .ref (s + 1), .ref (s + 2), .ref (s + 3), .ref (s + 4), .ref (s + 5), .ref (s + 6), .ref (s + 8), .ref (s + 10), .int (gI (0)), .int (gI (0)), .int (gI (0)), .int (gI (0)), .long (gJ (0))]) := hs_s eh28
  have fh28_1 : hh28.2 (s + 1) = some (aR "PolyWork$Row" 40 (fun _ => none)) := hs_n eh28 (show NE (s + 1) (s) by unfold NE; omega) fz27_1
  have fh28_2 : hh28.2 (s + 2) = some (aI 40 (fun _ => 0)) := hs_n eh28 (show NE (s + 2) (s) by unfold NE; omega) fz27_2
  have fh28_3 : hh28.2 (s + 3) = some (aR "PolyWork$Row" 8 (fun _ => none)) := hs_n eh28 (show NE (s + 3) (s) by unfold NE; omega) fz27_3
  have fh28_4 : hh28.2 (s + 4) = some (aI 8 (fun _ => 0)) := hs_n eh28 (show NE (s + 4) (s) by unfold NE; omega) fz27_4
  have fh28_5 : hh28.2 (s + 5) = some (aJ 40 (fun _ => 0)) := hs_n eh28 (show NE (s + 5) (s) by unfold NE; omega) fz27_5
  have fh28_6 : hh28.2 (s + 6) = some (oB 5 [.ref (s + 7), .int (gI (-1))]) := hs_n eh28 (show NE (s + 6) (s) by unfold NE; omega) fz27_6
  have fh28_7 : hh28.2 (s + 7) = some (aJ 84 (fun _ => 0)) := hs_n eh28 (show NE (s + 7) (s) by unfold NE; omega) fz27_7
  have fh28_8 : hh28.2 (s + 8) = some (oB 5 [.ref (s + 9), .int (gI (-1))]) := hs_n eh28 (show NE (s + 8) (s) by unfold NE; omega) fz27_8
  have fh28_9 : hh28.2 (s + 9) = some (aJ 84 (fun _ => 0)) := hs_n eh28 (show NE (s + 9) (s) by unfold NE; omega) fz27_9
  have fh28_10 : hh28.2 (s + 10) = some (oB 5 [.ref (s + 11), .int (gI (-1))]) := hs_n eh28 (show NE (s + 10) (s) by unfold NE; omega) fz27_10
  have fh28_11 : hh28.2 (s + 11) = some (aJ 84 (fun _ => 0)) := hs_n eh28 (show NE (s + 11) (s) by unfold NE; omega) fz27_11
  have fh28_12 : hh28.2 (s + 12) = some (oB 6 [.ref (B + 1), .ref (B + 7), .ref (s + 13), .ref (s + 14), .ref (s + 15), .ref (s + 17), .ref (s + 19), .int (gI (0))]) := hs_n eh28 (show NE (s + 12) (s) by unfold NE; omega) oz
  have bl28 : ∀ x, x < s → hh28.2 x = h.2 x := fun x hx => by rw [eh28, hset_n _ _ (by omega)]; exact blz x hx
  have nk28 : hh28.1 = s + 21 := by rw [eh28]; exact nkz
  clear fz27_0 fz27_1 fz27_2 fz27_3 fz27_4 fz27_5 fz27_6 fz27_7 fz27_8 fz27_9 fz27_10 fz27_11
  have g6x : hh28.2 (s + 13) = some (aJ 1600 (fun _ => 0)) := hs_n eh28 (show NE (s + 13) (s) by unfold NE; omega) g6
  have v6x : hh28.2 (s + 14) = some (aI 40 (fun _ => 0)) := hs_n eh28 (show NE (s + 14) (s) by unfold NE; omega) v6
  have r6ax : RA 84 hh28 (s + 15) := r6a.of1 (fun x e hx he => by rw [eh28, hset_n _ _ (by omega)]; exact he)
  have r6bx : RA 84 hh28 (s + 17) := r6b.of1 (fun x e hx he => by rw [eh28, hset_n _ _ (by omega)]; exact he)
  have r6cx : RA 84 hh28 (s + 19) := r6c.of1 (fun x e hx he => by rw [eh28, hset_n _ _ (by omega)]; exact he)
  refine g_vret dX0_init_108 rfl ⟨rfl, nk28, bl28, hBs, Nat.le_of_eq (nk28).symm, fh28_0, ⟨fh28_1, (fun _ _ e => by cases e), (fun _ _ _ _ _ e => by cases e)⟩, fh28_2, ⟨fh28_3, (fun _ _ e => by cases e), (fun _ _ _ _ _ e => by cases e)⟩, fh28_4, fh28_5, ?_, fh28_12, ⟨_, g6x⟩, ⟨_, v6x⟩, (fun _ _ _ _ e => by cases e)⟩
  intro k hk
  rcases hk with hk | hk | hk | hk | hk | hk <;> subst hk
  · exact ⟨-1, fun _ => 0, fh28_6, fh28_7, fun _ => by show gX 0; unfold gX; omega, by omega, by omega, by omega, by omega⟩
  · exact ⟨-1, fun _ => 0, fh28_8, fh28_9, fun _ => by show gX 0; unfold gX; omega, by omega, by omega, by omega, by omega⟩
  · exact ⟨-1, fun _ => 0, fh28_10, fh28_11, fun _ => by show gX 0; unfold gX; omega, by omega, by omega, by omega, by omega⟩
  · exact r6ax
  · exact r6bx
  · exact r6cx
