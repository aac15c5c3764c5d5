set_option maxHeartbeats 4000000 in
set_option maxRecDepth 100000 in
theorem xput (N : GN) (B : Nat) (h : GH) (x v : Int) (s24 : h.2 (B + 24) = some (oB 3 [.ref (B + 1), .ref (B + 25), .ref (B + 26), .int (gI (0))])) (s25 : h.2 (B + 25) = some (aJ 41 (fun _ => 0))) (s26 : h.2 (B + 26) = some (aJ 41 (fun _ => 0))) : Sp N yX3_put mX3_put 0 0 [.ref (B + 24), .long (gJ (x)), .long (gJ (v))] h (fun r h1 => r = some (.int (gI 1)) ∧ h1 = hset (hset (hset h (B + 25) (aJ 41 (gup (fun _ => 0) 0 x))) (B + 26) (aJ 41 (gup (fun _ => 0) 0 v))) (B + 24) (oB 3 [.ref (B + 1), .ref (B + 25), .ref (B + 26), .int (gI (0 + 1))])) := by
  refine Sp.of (by decide) rfl rfl (Nat.le_of_ble_eq_true rfl) ?_
  show Go N mX3_put _ 0 0 h 0 [(0, .ref (B + 24)), (1, .long (gJ (x))), (3, .long (gJ (v)))] []
  refine g_aload_n 0 dX3_put_0 rfl ?_
  refine g_getf 3 dX3_put_1 kX3 (by decide) fX3_22 s24 rfl ?_
  refine g_bipush dX3_put_4 (by decide) ?_
  refine g_icmp_lt (tgt := 11) dX3_put_6 rfl (by unfold gW at *; omega) (by unfold gW at *; omega) (fun c1 => ?_) (fun c1 => absurd c1 (by omega))
  refine g_iconst dX3_put_11 ?_
  refine g_istore (ls2 := [(5, .int (gI (0))), (0, .ref (B + 24)), (1, .long (gJ (x))), (3, .long (gJ (v)))]) dX3_put_12 (by decide) rfl ?_
  refine g_iload 0 dX3_put_14 rfl ?_
  refine g_aload_n 1 dX3_put_16 rfl ?_
  refine g_getf 3 dX3_put_17 kX3 (by decide) fX3_22 s24 rfl ?_
  refine g_icmp_ge (tgt := 43) dX3_put_20 rfl (by unfold gW at *; omega) (by unfold gW at *; omega) (fun c2 => ?_) (fun c2 => absurd c2 (by omega))
  refine g_aload_n 1 dX3_put_43 rfl ?_
  refine g_getf 1 dX3_put_44 kX3 (by decide) fX3_9 s24 rfl ?_
  refine g_aload_n 1 dX3_put_47 rfl ?_
  refine g_getf 3 dX3_put_48 kX3 (by decide) fX3_22 s24 rfl ?_
  refine g_lload_n 2 dX3_put_51 rfl ?_
  refine g_lastore dX3_put_52 s25 (by omega) (by omega) (by decide) ?_
  obtain ⟨hh3, eh3⟩ : ∃ z : GH, z = hset h (B + 25) (aJ 41 (gup (fun _ => 0) (0) (x))) := ⟨_, rfl⟩
  refine Go.hp eh3.symm ?_
  have fh3_0 : hh3.2 (B + 24) = some (oB 3 [.ref (B + 1), .ref (B + 25), .ref (B + 26), .int (gI (0))]) := by rw [eh3, hset_n _ _ (by omega)]; exact s24
  have fh3_1 : hh3.2 (B + 25) = some (aJ 41 (gup (fun _ => 0) (0) (x))) := by rw [eh3]; exact hset_s _ _ _
  have fh3_2 : hh3.2 (B + 26) = some (aJ 41 (fun _ => 0)) := by rw [eh3, hset_n _ _ (by omega)]; exact s26
  refine g_aload_n 1 dX3_put_53 rfl ?_
  refine g_getf 2 dX3_put_54 kX3 (by decide) fX3_15 fh3_0 rfl ?_
  refine g_aload_n 1 dX3_put_57 rfl ?_
  refine g_getf 3 dX3_put_58 kX3 (by decide) fX3_22 fh3_0 rfl ?_
  refine g_lload_n 3 dX3_put_61 rfl ?_
  refine g_lastore dX3_put_62 fh3_2 (by omega) (by omega) (by decide) ?_
  obtain ⟨hh4, eh4⟩ : ∃ z : GH, z = hset hh3 (B + 26) (aJ 41 (gup (fun _ => 0) (0) (v))) := ⟨_, rfl⟩
  refine Go.hp eh4.symm ?_
  have fh4_0 : hh4.2 (B + 24) = some (oB 3 [.ref (B + 1), .ref (B + 25), .ref (B + 26), .int (gI (0))]) := by rw [eh4, hset_n _ _ (by omega)]; exact fh3_0
  have fh4_1 : hh4.2 (B + 25) = some (aJ 41 (gup (fun _ => 0) (0) (x))) := by rw [eh4, hset_n _ _ (by omega)]; exact fh3_1
  have fh4_2 : hh4.2 (B + 26) = some (aJ 41 (gup (fun _ => 0) (0) (v))) := by rw [eh4]; exact hset_s _ _ _
  refine g_aload_n 1 dX3_put_63 rfl ?_
  refine g_dup dX3_put_64 rfl ?_
  refine g_getf 3 dX3_put_65 kX3 (by decide) fX3_22 fh4_0 rfl ?_
  refine g_iconst dX3_put_68 ?_
  refine g_iadd dX3_put_69 ?_
  refine g_putf 3 dX3_put_70 kX3 (by decide) fX3_22 rfl fh4_0 (Nat.le_of_ble_eq_true rfl) rfl rfl ?_
  obtain ⟨hh5, eh5⟩ : ∃ z : GH, z = hset hh4 (B + 24) (oB 3 [.ref (B + 1), .ref (B + 25), .ref (B + 26), .int (gI ((0) + (1)))]) := ⟨_, rfl⟩
  refine Go.hp eh5.symm ?_
  have fh5_0 : hh5.2 (B + 24) = some (oB 3 [.ref (B + 1), .ref (B + 25), .ref (B + 26), .int (gI ((0) + (1)))]) := by rw [eh5]; exact hset_s _ _ _
  have fh5_1 : hh5.2 (B + 25) = some (aJ 41 (gup (fun _ => 0) (0) (x))) := by rw [eh5, hset_n _ _ (by omega)]; exact fh4_1
  have fh5_2 : hh5.2 (B + 26) = some (aJ 41 (gup (fun _ => 0) (0) (v))) := by rw [eh5, hset_n _ _ (by omega)]; exact fh4_2
  refine g_iconst dX3_put_73 ?_
  exact g_zret dX3_put_74 rfl (by omega) ⟨rfl, by rw [eh5, eh4, eh3]⟩
set_option maxHeartbeats 4000000 in
set_option maxRecDepth 100000 in
theorem xpoint (N : GN) (B : Nat) (h : GH) (hs : h = hL B (cS B)) (c : Int) (h_c : gX c) (d : Int) (h_d : gX d) : Sp N yX9_point mX9_point 0 0 [.ref (B + 0), .long (gJ (c)), .long (gJ (d))] h (fun r h1 => r = some (.int (gI (1))) ∧ Mo B h1) := by
  refine Sp.of (by decide) rfl rfl (Nat.le_of_ble_eq_true rfl) ?_
  show Go N mX9_point _ 0 0 h 0 [(0, .ref (B + 0)), (1, .long (gJ (c))), (3, .long (gJ (d)))] []
  have s0 : h.2 (B + 0) = some (oB 9 [.ref (B + 1), .ref (B + 2), .ref (B + 3), .ref (B + 4), .ref (B + 7), .ref (B + 24), .ref (B + 27), .ref (B + 29), .ref (B + 31), .ref (B + 33), .null, .null]) := by rw [hs]; exact hL_get rfl
  have s1 : h.2 (B + 1) = some (oB 1 [.int (gI (2))]) := by rw [hs]; exact hL_get rfl
  have s24 : h.2 (B + 24) = some (oB 3 [.ref (B + 1), .ref (B + 25), .ref (B + 26), .int (gI (0))]) := by rw [hs]; exact hL_get rfl
  have s25 : h.2 (B + 25) = some (aJ 41 (fun _ => 0)) := by rw [hs]; exact hL_get rfl
  have s26 : h.2 (B + 26) = some (aJ 41 (fun _ => 0)) := by rw [hs]; exact hL_get rfl
  have hMo : Mo B h := by rw [hs]; exact Mo_of rfl
  refine g_aload_n 0 dX9_point_0 rfl ?_
  refine g_getf 5 dX9_point_1 kX9 (by decide) fX9_45 s0 rfl ?_
  refine g_aload_n 0 dX9_point_4 rfl ?_
  refine g_getf 0 dX9_point_5 kX9 (by decide) fX9_10 s0 rfl ?_
  refine g_lload_n 1 dX9_point_8 rfl ?_
  refine g_callV (nc2 := 0) (ns2 := 0) (ci := 1) (As := [.long (gJ (c))]) (st := [.ref (B + 24)]) rfl dX9_point_9 okX1_mod lX9_96 itX1_mod seX1_mod rfl s1 (by decide) (by decide) rfl (Nat.le_of_ble_eq_true rfl) (sX1_mod N _ (B + 1) 2 (c) (by assumption) (by omega) (by omega) s1) (by omega) (by omega) (fun v1 hc1 q1 => ?_)
  obtain ⟨hqm2, rfl⟩ := q1
  refine Go.nf (h' := h) (st' := [.long (gJ (gMod (c) 2)), .ref (B + 24)]) hqm2 rfl (Nat.le_refl _) (Nat.le_refl _) ?_
  refine g_aload_n 0 dX9_point_12 rfl ?_
  refine g_getf 0 dX9_point_13 kX9 (by decide) fX9_10 s0 rfl ?_
  refine g_lload_n 2 dX9_point_16 rfl ?_
  refine g_callV (nc2 := 0) (ns2 := 0) (ci := 1) (As := [.long (gJ (d))]) (st := [.long (gJ (gMod (c) 2)), .ref (B + 24)]) rfl dX9_point_17 okX1_mod lX9_96 itX1_mod seX1_mod rfl s1 (by decide) (by decide) rfl (Nat.le_of_ble_eq_true rfl) (sX1_mod N _ (B + 1) 2 (d) (by assumption) (by omega) (by omega) s1) (by omega) (by omega) (fun v3 hc3 q3 => ?_)
  obtain ⟨hqm4, rfl⟩ := q3
  refine Go.nf (h' := h) (st' := [.long (gJ (gMod (d) 2)), .long (gJ (gMod (c) 2)), .ref (B + 24)]) hqm4 rfl (Nat.le_refl _) (Nat.le_refl _) ?_
  refine g_callV (nc2 := 0) (ns2 := 0) (ci := 3) (As := [.long (gJ (gMod (c) 2)), .long (gJ (gMod (d) 2))]) (st := []) rfl dX9_point_20 okX3_put lX9_209 itX3_put seX3_put rfl s24 (by decide) (by decide) rfl (Nat.le_of_ble_eq_true rfl) (xput N B _ (gMod (c) 2) (gMod (d) 2) s24 s25 s26) (by omega) (by omega) (fun v5 hc5 q5 => ?_)
  obtain ⟨rfl, hqp⟩ := q5
  have fk6_0 : hc5.2 (B + 0) = some (oB 9 [.ref (B + 1), .ref (B + 2), .ref (B + 3), .ref (B + 4), .ref (B + 7), .ref (B + 24), .ref (B + 27), .ref (B + 29), .ref (B + 31), .ref (B + 33), .null, .null]) := by rw [hqp, hset_n _ _ (by omega), hset_n _ _ (by omega), hset_n _ _ (by omega)]; exact s0
  have fk6_1 : hc5.2 (B + 1) = some (oB 1 [.int (gI (2))]) := by rw [hqp, hset_n _ _ (by omega), hset_n _ _ (by omega), hset_n _ _ (by omega)]; exact s1
  have fk6_2 : hc5.2 (B + 24) = some (oB 3 [.ref (B + 1), .ref (B + 25), .ref (B + 26), .int (gI (0 + 1))]) := by rw [hqp]; exact hset_s _ _ _
  have fk6_3 : hc5.2 (B + 25) = some (aJ 41 (gup (fun _ => 0) 0 (gMod (c) 2))) := by rw [hqp]; rw [hset_n _ _ (by omega)]; rw [hset_n _ _ (by omega)]; exact hset_s _ _ _
  have fk6_4 : hc5.2 (B + 26) = some (aJ 41 (gup (fun _ => 0) 0 (gMod (d) 2))) := by rw [hqp]; rw [hset_n _ _ (by omega)]; exact hset_s _ _ _
  refine Go.nf (h' := hc5) (st' := [.int (gI (1))]) rfl rfl (Nat.le_refl _) (Nat.le_refl _) ?_
  refine g_if_eq (tgt := 36) dX9_point_23 rfl (by unfold gW at *; omega) (fun c7 => absurd c7 (by omega)) (fun c7 => ?_)
  refine g_aload_n 0 dX9_point_26 rfl ?_
  refine g_getf 5 dX9_point_27 kX9 (by decide) fX9_45 fk6_0 rfl ?_
  refine g_getf 3 dX9_point_30 kX3 (by decide) fX9_76 fk6_2 rfl ?_
  refine g_goto (tgt := 37) dX9_point_33 rfl ?_
  exact g_iret dX9_point_37 rfl ⟨rfl, by rw [hqp]; exact Mo_set (by omega) (Mo_set (by omega) (Mo_set (by omega) hMo))⟩
set_option maxHeartbeats 4000000 in
set_option maxRecDepth 100000 in
theorem sX5_become (N : GN) (h : GH) (r na : Nat) (v1 : Value) (n : Int) (g : Int → Int) (hw : gX n) (hne : r ≠ na) (hr : h.2 r = some (oB 5 [.ref na, v1])) (hn : h.2 na = some (aJ 84 g)) : Sp N yX5_become mX5_become 0 0 [.ref r, .long (gJ n)] h (fun r1 h1 => r1 = none ∧ h1 = hset (hset h na (aJ 84 (gup g 0 n))) r (oB 5 [.ref na, .int (gI (if n = 0 then -1 else 0))])) := by
  refine Sp.of (by decide) rfl rfl (Nat.le_of_ble_eq_true rfl) ?_
  show Go N mX5_become _ 0 0 h 0 [(0, .ref (r)), (1, .long (gJ (n)))] []
  refine g_aload_n 0 dX5_become_0 rfl ?_
  refine g_getf 0 dX5_become_1 kX5 (by decide) fX5_15 hr rfl ?_
  refine g_iconst dX5_become_4 ?_
  refine g_lload_n 1 dX5_become_5 rfl ?_
  refine g_lastore dX5_become_6 hn (by omega) (by omega) (by decide) ?_
  obtain ⟨hh1, eh1⟩ : ∃ z : GH, z = hset h (na) (aJ 84 (gup (g) (0) (n))) := ⟨_, rfl⟩
  refine Go.hp eh1.symm ?_
  have fh1_0 : hh1.2 (r) = some (oB 5 [.ref (na), v1]) := by rw [eh1, hset_n _ _ (by omega)]; exact hr
  have fh1_1 : hh1.2 (na) = some (aJ 84 (gup (g) (0) (n))) := by rw [eh1]; exact hset_s _ _ _
  refine g_aload_n 0 dX5_become_7 rfl ?_
  refine g_lload_n 1 dX5_become_8 rfl ?_
  refine g_lconst0 dX5_become_9 ?_
  refine g_lcmp dX5_become_10 (by assumption) (by unfold gX at *; omega) ?_
  refine g_if_ne (tgt := 18) dX5_become_11 rfl (gW_cmp _ _) (fun c2 => ?_) (fun c2 => ?_)
  · skip
    have hz := fun z => c2 (gcmp_eq.mpr z)
    refine g_iconst dX5_become_18 ?_
    refine g_putf 1 dX5_become_19 kX5 (by decide) fX5_9 rfl fh1_0 (Nat.le_of_ble_eq_true rfl) rfl rfl ?_
    obtain ⟨hh3, eh3⟩ : ∃ z : GH, z = hset hh1 (r) (oB 5 [.ref (na), .int (gI (0))]) := ⟨_, rfl⟩
    refine Go.hp eh3.symm ?_
    have fh3_0 : hh3.2 (r) = some (oB 5 [.ref (na), .int (gI (0))]) := by rw [eh3]; exact hset_s _ _ _
    have fh3_1 : hh3.2 (na) = some (aJ 84 (gup (g) (0) (n))) := by rw [eh3, hset_n _ _ (by omega)]; exact fh1_1
    exact g_vret dX5_become_22 rfl ⟨rfl, by rw [eh3, eh1, if_neg hz]⟩
  · skip
    have hz := gcmp_eq.mp c2
    refine g_iconst dX5_become_14 ?_
    refine g_goto (tgt := 19) dX5_become_15 rfl ?_
    refine g_putf 1 dX5_become_19 kX5 (by decide) fX5_9 rfl fh1_0 (Nat.le_of_ble_eq_true rfl) rfl rfl ?_
    obtain ⟨hh4, eh4⟩ : ∃ z : GH, z = hset hh1 (r) (oB 5 [.ref (na), .int (gI (-1))]) := ⟨_, rfl⟩
    refine Go.hp eh4.symm ?_
    have fh4_0 : hh4.2 (r) = some (oB 5 [.ref (na), .int (gI (-1))]) := by rw [eh4]; exact hset_s _ _ _
    have fh4_1 : hh4.2 (na) = some (aJ 84 (gup (g) (0) (n))) := by rw [eh4, hset_n _ _ (by omega)]; exact fh1_1
    exact g_vret dX5_become_22 rfl ⟨rfl, by rw [eh4, eh1, if_pos hz]⟩
set_option maxHeartbeats 4000000 in
set_option maxRecDepth 100000 in
theorem xmeet (N : GN) (B : Nat) (h : GH) (s24 : h.2 (B + 24) = some (oB 3 [.ref (B + 1), .ref (B + 25), .ref (B + 26), .int (gI (0))])) (s29 : h.2 (B + 29) = some (oB 5 [.ref (B + 30), .int (gI (-1))])) (s30 : h.2 (B + 30) = some (aJ 84 (fun _ => 0))) (s33 : h.2 (B + 33) = some (oB 5 [.ref (B + 34), .int (gI (-1))])) (s34 : h.2 (B + 34) = some (aJ 84 (fun _ => 0))) : Sp N yX3_meet mX3_meet 0 0 [.ref (B + 24), .ref (B + 33), .ref (B + 29)] h (fun r h1 => r = none ∧ h1 = hset (hset (hset (hset h (B + 34) (aJ 84 (gup (fun _ => 0) 0 0))) (B + 33) (oB 5 [.ref (B + 34), .int (gI (if (0 : Int) = 0 then -1 else 0))])) (B + 30) (aJ 84 (gup (fun _ => 0) 0 1))) (B + 29) (oB 5 [.ref (B + 30), .int (gI (if (1 : Int) = 0 then -1 else 0))])) := by
  refine Sp.of (by decide) rfl rfl (Nat.le_of_ble_eq_true rfl) ?_
  show Go N mX3_meet _ 0 0 h 0 [(0, .ref (B + 24)), (1, .ref (B + 33)), (2, .ref (B + 29))] []
  refine g_aload_n 1 dX3_meet_0 rfl ?_
  refine g_lconst0 dX3_meet_1 ?_
  refine g_callV (nc2 := 0) (ns2 := 0) (ci := 5) (As := [.long (gJ (0))]) (st := []) rfl dX3_meet_2 okX5_become lX3_26 itX5_become seX5_become rfl s33 (by decide) (by decide) rfl (Nat.le_of_ble_eq_true rfl) (sX5_become N _ (B + 33) (B + 34) _ (0) _ (by unfold gX; omega) (by omega) s33 s34) (by omega) (by omega) (fun v1 hc1 q1 => ?_)
  obtain ⟨rfl, hqr2⟩ := q1
  have fk3_0 : hc1.2 (B + 24) = some (oB 3 [.ref (B + 1), .ref (B + 25), .ref (B + 26), .int (gI (0))]) := by rw [hqr2, hset_n _ _ (by omega), hset_n _ _ (by omega)]; exact s24
  have fk3_1 : hc1.2 (B + 29) = some (oB 5 [.ref (B + 30), .int (gI (-1))]) := by rw [hqr2, hset_n _ _ (by omega), hset_n _ _ (by omega)]; exact s29
  have fk3_2 : hc1.2 (B + 30) = some (aJ 84 (fun _ => 0)) := by rw [hqr2, hset_n _ _ (by omega), hset_n _ _ (by omega)]; exact s30
  have fk3_3 : hc1.2 (B + 33) = some (oB 5 [.ref (B + 34), .int (gI (if (0 : Int) = 0 then -1 else 0))]) := by rw [hqr2]; exact hset_s _ _ _
  have fk3_4 : hc1.2 (B + 34) = some (aJ 84 (gup (fun _ => 0) 0 (0))) := by rw [hqr2]; rw [hset_n _ _ (by omega)]; exact hset_s _ _ _
  refine Go.nf (h' := hc1) (st' := []) rfl rfl (Nat.le_refl _) (Nat.le_refl _) ?_
  refine g_aload_n 2 dX3_meet_5 rfl ?_
  refine g_lconst1 dX3_meet_6 ?_
  refine g_callV (nc2 := 0) (ns2 := 0) (ci := 5) (As := [.long (gJ (1))]) (st := []) rfl dX3_meet_7 okX5_become lX3_26 itX5_become seX5_become rfl fk3_1 (by decide) (by decide) rfl (Nat.le_of_ble_eq_true rfl) (sX5_become N _ (B + 29) (B + 30) _ (1) _ (by unfold gX; omega) (by omega) fk3_1 fk3_2) (by omega) (by omega) (fun v4 hc4 q4 => ?_)
  obtain ⟨rfl, hqr5⟩ := q4
  have fk6_0 : hc4.2 (B + 24) = some (oB 3 [.ref (B + 1), .ref (B + 25), .ref (B + 26), .int (gI (0))]) := by rw [hqr5, hset_n _ _ (by omega), hset_n _ _ (by omega)]; exact fk3_0
  have fk6_1 : hc4.2 (B + 29) = some (oB 5 [.ref (B + 30), .int (gI (if (1 : Int) = 0 then -1 else 0))]) := by rw [hqr5]; exact hset_s _ _ _
  have fk6_2 : hc4.2 (B + 30) = some (aJ 84 (gup (fun _ => 0) 0 (1))) := by rw [hqr5]; rw [hset_n _ _ (by omega)]; exact hset_s _ _ _
  have fk6_3 : hc4.2 (B + 33) = some (oB 5 [.ref (B + 34), .int (gI (if (0 : Int) = 0 then -1 else 0))]) := by rw [hqr5, hset_n _ _ (by omega), hset_n _ _ (by omega)]; exact fk3_3
  have fk6_4 : hc4.2 (B + 34) = some (aJ 84 (gup (fun _ => 0) 0 (0))) := by rw [hqr5, hset_n _ _ (by omega), hset_n _ _ (by omega)]; exact fk3_4
  refine Go.nf (h' := hc4) (st' := []) rfl rfl (Nat.le_refl _) (Nat.le_refl _) ?_
  refine g_iconst dX3_meet_10 ?_
  refine g_istore_n (ls2 := [(3, .int (gI (0))), (0, .ref (B + 24)), (1, .ref (B + 33)), (2, .ref (B + 29))]) dX3_meet_11 rfl (by decide) rfl ?_
  refine g_iload_n 0 dX3_meet_12 rfl ?_
  refine g_aload_n 1 dX3_meet_13 rfl ?_
  refine g_getf 3 dX3_meet_14 kX3 (by decide) fX3_22 fk6_0 rfl ?_
  refine g_icmp_ge (tgt := 151) dX3_meet_17 rfl (by unfold gW at *; omega) (by unfold gW at *; omega) (fun c7 => ?_) (fun c7 => absurd c7 (by omega))
  exact g_vret dX3_meet_151 rfl ⟨rfl, by rw [hqr5, hqr2]⟩
set_option maxHeartbeats 4000000 in
set_option maxRecDepth 100000 in
theorem xfromRow (N : GN) (B : Nat) (h : GH) (s27 : h.2 (B + 27) = some (oB 4 [.ref (B + 28), .int (gI (-1)), .int (gI (-1))])) (s28 : h.2 (B + 28) = some (aJ 287 (fun _ => 0))) (s33 : h.2 (B + 33) = some (oB 5 [.ref (B + 34), .int (gI (if (0 : Int) = 0 then -1 else 0))])) : Sp N yX4_fromRow mX4_fromRow 0 0 [.ref (B + 27), .ref (B + 33)] h (fun r h1 => r = none ∧ h1 = hset (hset h (B + 28) (aJ 287 (gF (fun _ => 0) (fun _ => 0) 287))) (B + 27) (oB 4 [.ref (B + 28), .int (gI (-1)), .int (gI (-1))])) := by
  refine Sp.of (by decide) rfl rfl (Nat.le_of_ble_eq_true rfl) ?_
  show Go N mX4_fromRow _ 0 0 h 0 [(0, .ref (B + 27)), (1, .ref (B + 33))] []
  refine g_aload_n 0 dX4_fromRow_0 rfl ?_
  refine g_callV (nc2 := 0) (ns2 := 0) (ci := 4) (As := []) (st := []) rfl dX4_fromRow_1 okX4_clear lX4_45 itX4_clear seX4_clear rfl s27 (by decide) (by decide) rfl (Nat.le_of_ble_eq_true rfl) (sX4_clear N _ (B + 27) (B + 28) _ _ _ (by omega) s27 s28) (by omega) (by omega) (fun v1 hc1 q1 => ?_)
  obtain ⟨rfl, hqc⟩ := q1
  have fk2_0 : hc1.2 (B + 27) = some (oB 4 [.ref (B + 28), .int (gI (-1)), .int (gI (-1))]) := by rw [hqc]; exact hset_s _ _ _
  have fk2_1 : hc1.2 (B + 28) = some (aJ 287 (gF (fun _ => 0) (fun _ => 0) 287)) := by rw [hqc]; rw [hset_n _ _ (by omega)]; exact hset_s _ _ _
  have fk2_2 : hc1.2 (B + 33) = some (oB 5 [.ref (B + 34), .int (gI (if (0 : Int) = 0 then -1 else 0))]) := by rw [hqc, hset_n _ _ (by omega), hset_n _ _ (by omega)]; exact s33
  refine Go.nf (h' := hc1) (st' := []) rfl rfl (Nat.le_refl _) (Nat.le_refl _) ?_
  refine g_aload_n 1 dX4_fromRow_4 rfl ?_
  refine g_getf 1 dX4_fromRow_5 kX5 (by decide) fX4_48 fk2_2 rfl ?_
  refine g_bipush dX4_fromRow_8 (by decide) ?_
  refine g_min dX4_fromRow_10 lX4_51 (by unfold gW at *; omega) (by unfold gW at *; omega) (by decide) (Nat.le_of_ble_eq_true rfl) ?_
  rw [show (if (40 : Int) < (if (0 : Int) = 0 then -1 else 0) then (40 : Int) else (if (0 : Int) = 0 then -1 else 0)) = -1 from rfl]
  refine g_istore_n (ls2 := [(2, .int (gI (-1))), (0, .ref (B + 27)), (1, .ref (B + 33))]) dX4_fromRow_13 rfl (by decide) rfl ?_
  refine g_iconst dX4_fromRow_14 ?_
  refine g_istore_n (ls2 := [(3, .int (gI (0))), (2, .int (gI (-1))), (0, .ref (B + 27)), (1, .ref (B + 33))]) dX4_fromRow_15 rfl (by decide) rfl ?_
  refine g_iload_n 0 dX4_fromRow_16 rfl ?_
  refine g_iload_n 1 dX4_fromRow_17 rfl ?_
  refine g_icmp_gt (tgt := 39) dX4_fromRow_18 rfl (by unfold gW at *; omega) (by unfold gW at *; omega) (fun c3 => ?_) (fun c3 => absurd c3 (by omega))
  refine g_aload_n 2 dX4_fromRow_39 rfl ?_
  refine g_iload_n 1 dX4_fromRow_40 rfl ?_
  refine g_putf 1 dX4_fromRow_41 kX4 (by decide) fX4_15 rfl fk2_0 (Nat.le_of_ble_eq_true rfl) rfl rfl ?_
  obtain ⟨hh4, eh4⟩ : ∃ z : GH, z = hset hc1 (B + 27) (oB 4 [.ref (B + 28), .int (gI (-1)), .int (gI (-1))]) := ⟨_, rfl⟩
  refine Go.hp eh4.symm ?_
  have fh4_0 : hh4.2 (B + 27) = some (oB 4 [.ref (B + 28), .int (gI (-1)), .int (gI (-1))]) := by rw [eh4]; exact hset_s _ _ _
  have fh4_1 : hh4.2 (B + 28) = some (aJ 287 (gF (fun _ => 0) (fun _ => 0) 287)) := by rw [eh4, hset_n _ _ (by omega)]; exact fk2_1
  have fh4_2 : hh4.2 (B + 33) = some (oB 5 [.ref (B + 34), .int (gI (if (0 : Int) = 0 then -1 else 0))]) := by rw [eh4, hset_n _ _ (by omega)]; exact fk2_2
  refine g_aload_n 2 dX4_fromRow_44 rfl ?_
  refine g_iload_n 1 dX4_fromRow_45 rfl ?_
  refine g_if_ge (tgt := 53) dX4_fromRow_46 rfl (by unfold gW at *; omega) (fun c5 => absurd c5 (by omega)) (fun c5 => ?_)
  refine g_iconst dX4_fromRow_49 ?_
  refine g_goto (tgt := 54) dX4_fromRow_50 rfl ?_
  refine g_putf 2 dX4_fromRow_54 kX4 (by decide) fX4_19 rfl fh4_0 (Nat.le_of_ble_eq_true rfl) rfl rfl ?_
  obtain ⟨hh6, eh6⟩ : ∃ z : GH, z = hset hh4 (B + 27) (oB 4 [.ref (B + 28), .int (gI (-1)), .int (gI (-1))]) := ⟨_, rfl⟩
  refine Go.hp eh6.symm ?_
  have fh6_0 : hh6.2 (B + 27) = some (oB 4 [.ref (B + 28), .int (gI (-1)), .int (gI (-1))]) := by rw [eh6]; exact hset_s _ _ _
  have fh6_1 : hh6.2 (B + 28) = some (aJ 287 (gF (fun _ => 0) (fun _ => 0) 287)) := by rw [eh6, hset_n _ _ (by omega)]; exact fh4_1
  have fh6_2 : hh6.2 (B + 33) = some (oB 5 [.ref (B + 34), .int (gI (if (0 : Int) = 0 then -1 else 0))]) := by rw [eh6, hset_n _ _ (by omega)]; exact fh4_2
  exact g_vret dX4_fromRow_57 rfl ⟨rfl, by rw [eh6, eh4, hqc, hset_hset, hset_hset]⟩
set_option maxHeartbeats 4000000 in
set_option maxRecDepth 100000 in
theorem xinterpolate (N : GN) (B : Nat) (h : GH) (hs : h = hL B (cS B)) : Sp N yX9_interpolate mX9_interpolate 2 290 [.ref (B + 0)] h (fun r h1 => r = some (.int (gI (0))) ∧ Mo B h1) := by
  refine Sp.of (by decide) rfl rfl (Nat.le_of_ble_eq_true rfl) ?_
  show Go N mX9_interpolate _ 2 290 h 0 [(0, .ref (B + 0))] []
  have s0 : h.2 (B + 0) = some (oB 9 [.ref (B + 1), .ref (B + 2), .ref (B + 3), .ref (B + 4), .ref (B + 7), .ref (B + 24), .ref (B + 27), .ref (B + 29), .ref (B + 31), .ref (B + 33), .null, .null]) := by rw [hs]; exact hL_get rfl
  have s2 : h.2 (B + 2) = some (aR "PolyWork$Poly" 100 (fun _ => none)) := by rw [hs]; exact hL_get rfl
  have s3 : h.2 (B + 3) = some (aZ 100 (fun _ => 0)) := by rw [hs]; exact hL_get rfl
  have s24 : h.2 (B + 24) = some (oB 3 [.ref (B + 1), .ref (B + 25), .ref (B + 26), .int (gI (0))]) := by rw [hs]; exact hL_get rfl
  have s27 : h.2 (B + 27) = some (oB 4 [.ref (B + 28), .int (gI (-1)), .int (gI (-1))]) := by rw [hs]; exact hL_get rfl
  have s28 : h.2 (B + 28) = some (aJ 287 (fun _ => 0)) := by rw [hs]; exact hL_get rfl
  have s29 : h.2 (B + 29) = some (oB 5 [.ref (B + 30), .int (gI (-1))]) := by rw [hs]; exact hL_get rfl
  have s30 : h.2 (B + 30) = some (aJ 84 (fun _ => 0)) := by rw [hs]; exact hL_get rfl
  have s33 : h.2 (B + 33) = some (oB 5 [.ref (B + 34), .int (gI (-1))]) := by rw [hs]; exact hL_get rfl
  have s34 : h.2 (B + 34) = some (aJ 84 (fun _ => 0)) := by rw [hs]; exact hL_get rfl
  have hMo : Mo B h := by rw [hs]; exact Mo_of rfl
  refine g_aload_n 0 dX9_interpolate_0 rfl ?_
  refine g_getf 5 dX9_interpolate_1 kX9 (by decide) fX9_45 s0 rfl ?_
  refine g_aload_n 0 dX9_interpolate_4 rfl ?_
  refine g_getf 9 dX9_interpolate_5 kX9 (by decide) fX9_66 s0 rfl ?_
  refine g_aload_n 0 dX9_interpolate_8 rfl ?_
  refine g_getf 7 dX9_interpolate_9 kX9 (by decide) fX9_59 s0 rfl ?_
  refine g_callV (nc2 := 0) (ns2 := 0) (ci := 3) (As := [.ref (B + 33), .ref (B + 29)]) (st := []) rfl dX9_interpolate_12 okX3_meet lX9_213 itX3_meet seX3_meet rfl s24 (by decide) (by decide) rfl (Nat.le_of_ble_eq_true rfl) (xmeet N B _ s24 s29 s30 s33 s34) (by omega) (by omega) (fun v1 hc1 q1 => ?_)
  obtain ⟨rfl, hqt⟩ := q1
  have fk2_0 : hc1.2 (B + 0) = some (oB 9 [.ref (B + 1), .ref (B + 2), .ref (B + 3), .ref (B + 4), .ref (B + 7), .ref (B + 24), .ref (B + 27), .ref (B + 29), .ref (B + 31), .ref (B + 33), .null, .null]) := by rw [hqt, hset_n _ _ (by omega), hset_n _ _ (by omega), hset_n _ _ (by omega), hset_n _ _ (by omega)]; exact s0
  have fk2_1 : hc1.2 (B + 2) = some (aR "PolyWork$Poly" 100 (fun _ => none)) := by rw [hqt, hset_n _ _ (by omega), hset_n _ _ (by omega), hset_n _ _ (by omega), hset_n _ _ (by omega)]; exact s2
  have fk2_2 : hc1.2 (B + 3) = some (aZ 100 (fun _ => 0)) := by rw [hqt, hset_n _ _ (by omega), hset_n _ _ (by omega), hset_n _ _ (by omega), hset_n _ _ (by omega)]; exact s3
  have fk2_3 : hc1.2 (B + 24) = some (oB 3 [.ref (B + 1), .ref (B + 25), .ref (B + 26), .int (gI (0))]) := by rw [hqt, hset_n _ _ (by omega), hset_n _ _ (by omega), hset_n _ _ (by omega), hset_n _ _ (by omega)]; exact s24
  have fk2_4 : hc1.2 (B + 27) = some (oB 4 [.ref (B + 28), .int (gI (-1)), .int (gI (-1))]) := by rw [hqt, hset_n _ _ (by omega), hset_n _ _ (by omega), hset_n _ _ (by omega), hset_n _ _ (by omega)]; exact s27
  have fk2_5 : hc1.2 (B + 28) = some (aJ 287 (fun _ => 0)) := by rw [hqt, hset_n _ _ (by omega), hset_n _ _ (by omega), hset_n _ _ (by omega), hset_n _ _ (by omega)]; exact s28
  have fk2_6 : hc1.2 (B + 29) = some (oB 5 [.ref (B + 30), .int (gI (if (1 : Int) = 0 then -1 else 0))]) := by rw [hqt]; exact hset_s _ _ _
  have fk2_7 : hc1.2 (B + 30) = some (aJ 84 (gup (fun _ => 0) 0 1)) := by rw [hqt]; rw [hset_n _ _ (by omega)]; exact hset_s _ _ _
  have fk2_8 : hc1.2 (B + 33) = some (oB 5 [.ref (B + 34), .int (gI (if (0 : Int) = 0 then -1 else 0))]) := by rw [hqt]; rw [hset_n _ _ (by omega)]; rw [hset_n _ _ (by omega)]; exact hset_s _ _ _
  have fk2_9 : hc1.2 (B + 34) = some (aJ 84 (gup (fun _ => 0) 0 0)) := by rw [hqt]; rw [hset_n _ _ (by omega)]; rw [hset_n _ _ (by omega)]; rw [hset_n _ _ (by omega)]; exact hset_s _ _ _
  refine Go.nf (h' := hc1) (st' := []) rfl rfl (Nat.le_refl _) (Nat.le_refl _) ?_
  refine g_aload_n 0 dX9_interpolate_15 rfl ?_
  refine g_getf 5 dX9_interpolate_16 kX9 (by decide) fX9_45 fk2_0 rfl ?_
  refine g_iconst dX9_interpolate_19 ?_
  refine g_putf 3 dX9_interpolate_20 kX3 (by decide) fX9_76 rfl fk2_3 (Nat.le_of_ble_eq_true rfl) rfl rfl ?_
  obtain ⟨hh3, eh3⟩ : ∃ z : GH, z = hset hc1 (B + 24) (oB 3 [.ref (B + 1), .ref (B + 25), .ref (B + 26), .int (gI (0))]) := ⟨_, rfl⟩
  refine Go.hp eh3.symm ?_
  have fh3_0 : hh3.2 (B + 0) = some (oB 9 [.ref (B + 1), .ref (B + 2), .ref (B + 3), .ref (B + 4), .ref (B + 7), .ref (B + 24), .ref (B + 27), .ref (B + 29), .ref (B + 31), .ref (B + 33), .null, .null]) := by rw [eh3, hset_n _ _ (by omega)]; exact fk2_0
  have fh3_1 : hh3.2 (B + 2) = some (aR "PolyWork$Poly" 100 (fun _ => none)) := by rw [eh3, hset_n _ _ (by omega)]; exact fk2_1
  have fh3_2 : hh3.2 (B + 3) = some (aZ 100 (fun _ => 0)) := by rw [eh3, hset_n _ _ (by omega)]; exact fk2_2
  have fh3_3 : hh3.2 (B + 24) = some (oB 3 [.ref (B + 1), .ref (B + 25), .ref (B + 26), .int (gI (0))]) := by rw [eh3]; exact hset_s _ _ _
  have fh3_4 : hh3.2 (B + 27) = some (oB 4 [.ref (B + 28), .int (gI (-1)), .int (gI (-1))]) := by rw [eh3, hset_n _ _ (by omega)]; exact fk2_4
  have fh3_5 : hh3.2 (B + 28) = some (aJ 287 (fun _ => 0)) := by rw [eh3, hset_n _ _ (by omega)]; exact fk2_5
  have fh3_6 : hh3.2 (B + 29) = some (oB 5 [.ref (B + 30), .int (gI (if (1 : Int) = 0 then -1 else 0))]) := by rw [eh3, hset_n _ _ (by omega)]; exact fk2_6
  have fh3_7 : hh3.2 (B + 30) = some (aJ 84 (gup (fun _ => 0) 0 1)) := by rw [eh3, hset_n _ _ (by omega)]; exact fk2_7
  have fh3_8 : hh3.2 (B + 33) = some (oB 5 [.ref (B + 34), .int (gI (if (0 : Int) = 0 then -1 else 0))]) := by rw [eh3, hset_n _ _ (by omega)]; exact fk2_8
  have fh3_9 : hh3.2 (B + 34) = some (aJ 84 (gup (fun _ => 0) 0 0)) := by rw [eh3, hset_n _ _ (by omega)]; exact fk2_9
  refine g_aload_n 0 dX9_interpolate_23 rfl ?_
  refine g_getf 6 dX9_interpolate_24 kX9 (by decide) fX9_50 fh3_0 rfl ?_
  refine g_aload_n 0 dX9_interpolate_27 rfl ?_
  refine g_getf 9 dX9_interpolate_28 kX9 (by decide) fX9_66 fh3_0 rfl ?_
  refine g_callV (nc2 := 0) (ns2 := 0) (ci := 4) (As := [.ref (B + 33)]) (st := []) rfl dX9_interpolate_31 okX4_fromRow lX9_146 itX4_fromRow seX4_fromRow rfl fh3_4 (by decide) (by decide) rfl (Nat.le_of_ble_eq_true rfl) (xfromRow N B _ fh3_4 fh3_5 fh3_8) (by omega) (by omega) (fun v4 hc4 q4 => ?_)
  obtain ⟨rfl, hqf⟩ := q4
  have fk5_0 : hc4.2 (B + 0) = some (oB 9 [.ref (B + 1), .ref (B + 2), .ref (B + 3), .ref (B + 4), .ref (B + 7), .ref (B + 24), .ref (B + 27), .ref (B + 29), .ref (B + 31), .ref (B + 33), .null, .null]) := by rw [hqf, hset_n _ _ (by omega), hset_n _ _ (by omega)]; exact fh3_0
  have fk5_1 : hc4.2 (B + 2) = some (aR "PolyWork$Poly" 100 (fun _ => none)) := by rw [hqf, hset_n _ _ (by omega), hset_n _ _ (by omega)]; exact fh3_1
  have fk5_2 : hc4.2 (B + 3) = some (aZ 100 (fun _ => 0)) := by rw [hqf, hset_n _ _ (by omega), hset_n _ _ (by omega)]; exact fh3_2
  have fk5_3 : hc4.2 (B + 24) = some (oB 3 [.ref (B + 1), .ref (B + 25), .ref (B + 26), .int (gI (0))]) := by rw [hqf, hset_n _ _ (by omega), hset_n _ _ (by omega)]; exact fh3_3
  have fk5_4 : hc4.2 (B + 27) = some (oB 4 [.ref (B + 28), .int (gI (-1)), .int (gI (-1))]) := by rw [hqf]; exact hset_s _ _ _
  have fk5_5 : hc4.2 (B + 28) = some (aJ 287 (gF (fun _ => 0) (fun _ => 0) 287)) := by rw [hqf]; rw [hset_n _ _ (by omega)]; exact hset_s _ _ _
  have fk5_6 : hc4.2 (B + 29) = some (oB 5 [.ref (B + 30), .int (gI (if (1 : Int) = 0 then -1 else 0))]) := by rw [hqf, hset_n _ _ (by omega), hset_n _ _ (by omega)]; exact fh3_6
  have fk5_7 : hc4.2 (B + 30) = some (aJ 84 (gup (fun _ => 0) 0 1)) := by rw [hqf, hset_n _ _ (by omega), hset_n _ _ (by omega)]; exact fh3_7
  have fk5_8 : hc4.2 (B + 33) = some (oB 5 [.ref (B + 34), .int (gI (if (0 : Int) = 0 then -1 else 0))]) := by rw [hqf, hset_n _ _ (by omega), hset_n _ _ (by omega)]; exact fh3_8
  have fk5_9 : hc4.2 (B + 34) = some (aJ 84 (gup (fun _ => 0) 0 0)) := by rw [hqf, hset_n _ _ (by omega), hset_n _ _ (by omega)]; exact fh3_9
  refine Go.nf (h' := hc4) (st' := []) rfl rfl (Nat.le_refl _) (Nat.le_refl _) ?_
  refine g_aload_n 0 dX9_interpolate_34 rfl ?_
  refine g_aload_n 0 dX9_interpolate_35 rfl ?_
  refine g_getf 6 dX9_interpolate_36 kX9 (by decide) fX9_50 fk5_0 rfl ?_
  refine g_callV (nc2 := 2) (ns2 := 290) (ci := 9) (As := [.ref (B + 27)]) (st := []) rfl dX9_interpolate_39 okX9_keep lX9_103 itX9_keep seX9_keep rfl fk5_0 (by decide) (by decide) rfl (Nat.le_of_ble_eq_true rfl) (xkeep N B _ _ _ _ (by rw [hqf, eh3, hqt]; exact Mo_set (by omega) (Mo_set (by omega) (Mo_set (by omega) (Mo_set (by omega) (Mo_set (by omega) (Mo_set (by omega) (Mo_set (by omega) (hMo)))))))) fk5_0 fk5_1 fk5_2 fk5_4 fk5_5) (by omega) (by omega) (fun v6 hc6 q6 => ?_)
  obtain ⟨rfl, hMo2⟩ := q6
  refine Go.nf (h' := hc6) (st' := [.int (gI (0))]) rfl rfl (Nat.le_refl _) (Nat.le_refl _) ?_
  exact g_iret dX9_interpolate_42 rfl ⟨rfl, hMo2⟩
