theorem dX10_part__0 : decode cX10_part_ 0 = .ok (.iload_n 1, 1) := by decide +kernel
theorem dX10_part__1 : decode cX10_part_ 1 = .ok (.ifCond .lt 21, 3) := by decide +kernel
theorem dX10_part__4 : decode cX10_part_ 4 = .ok (.iload_n 1, 1) := by decide +kernel
theorem dX10_part__5 : decode cX10_part_ 5 = .ok (.aload_n 0, 1) := by decide +kernel
theorem dX10_part__6 : decode cX10_part_ 6 = .ok (.getfield 93, 3) := by decide +kernel
theorem dX10_part__9 : decode cX10_part_ 9 = .ok (.if_icmp .ge 13, 3) := by decide +kernel
theorem dX10_part__12 : decode cX10_part_ 12 = .ok (.iload_n 2, 1) := by decide +kernel
theorem dX10_part__13 : decode cX10_part_ 13 = .ok (.ifCond .lt 9, 3) := by decide +kernel
theorem dX10_part__16 : decode cX10_part_ 16 = .ok (.iload_n 2, 1) := by decide +kernel
theorem dX10_part__17 : decode cX10_part_ 17 = .ok (.bipush 42, 2) := by decide +kernel
theorem dX10_part__19 : decode cX10_part_ 19 = .ok (.if_icmp .le 5, 3) := by decide +kernel
theorem dX10_part__22 : decode cX10_part_ 22 = .ok (.iconst (-1), 1) := by decide +kernel
theorem dX10_part__23 : decode cX10_part_ 23 = .ok (.ireturn, 1) := by decide +kernel
theorem dX10_part__24 : decode cX10_part_ 24 = .ok (.iload_n 2, 1) := by decide +kernel
theorem dX10_part__25 : decode cX10_part_ 25 = .ok (.ifCond .ne 12, 3) := by decide +kernel
theorem dX10_part__28 : decode cX10_part_ 28 = .ok (.aload_n 0, 1) := by decide +kernel
theorem dX10_part__29 : decode cX10_part_ 29 = .ok (.getfield 45, 3) := by decide +kernel
theorem dX10_part__32 : decode cX10_part_ 32 = .ok (.iload_n 1, 1) := by decide +kernel
theorem dX10_part__33 : decode cX10_part_ 33 = .ok (.iaload, 1) := by decide +kernel
theorem dX10_part__34 : decode cX10_part_ 34 = .ok (.goto 30, 3) := by decide +kernel
theorem dX10_part__37 : decode cX10_part_ 37 = .ok (.iload_n 2, 1) := by decide +kernel
theorem dX10_part__38 : decode cX10_part_ 38 = .ok (.iconst 1, 1) := by decide +kernel
theorem dX10_part__39 : decode cX10_part_ 39 = .ok (.if_icmp .ne 12, 3) := by decide +kernel
theorem dX10_part__42 : decode cX10_part_ 42 = .ok (.aload_n 0, 1) := by decide +kernel
theorem dX10_part__43 : decode cX10_part_ 43 = .ok (.getfield 48, 3) := by decide +kernel
theorem dX10_part__46 : decode cX10_part_ 46 = .ok (.iload_n 1, 1) := by decide +kernel
theorem dX10_part__47 : decode cX10_part_ 47 = .ok (.iaload, 1) := by decide +kernel
theorem dX10_part__48 : decode cX10_part_ 48 = .ok (.goto 16, 3) := by decide +kernel
theorem dX10_part__51 : decode cX10_part_ 51 = .ok (.aload_n 0, 1) := by decide +kernel
theorem dX10_part__52 : decode cX10_part_ 52 = .ok (.getfield 51, 3) := by decide +kernel
theorem dX10_part__55 : decode cX10_part_ 55 = .ok (.bipush 41, 2) := by decide +kernel
theorem dX10_part__57 : decode cX10_part_ 57 = .ok (.iload_n 1, 1) := by decide +kernel
theorem dX10_part__58 : decode cX10_part_ 58 = .ok (.imul, 1) := by decide +kernel
theorem dX10_part__59 : decode cX10_part_ 59 = .ok (.iload_n 2, 1) := by decide +kernel
theorem dX10_part__60 : decode cX10_part_ 60 = .ok (.iadd, 1) := by decide +kernel
theorem dX10_part__61 : decode cX10_part_ 61 = .ok (.iconst 2, 1) := by decide +kernel
theorem dX10_part__62 : decode cX10_part_ 62 = .ok (.isub, 1) := by decide +kernel
theorem dX10_part__63 : decode cX10_part_ 63 = .ok (.iaload, 1) := by decide +kernel
theorem dX10_part__64 : decode cX10_part_ 64 = .ok (.ireturn, 1) := by decide +kernel
set_option maxHeartbeats 4000000 in
set_option maxRecDepth 100000 in
theorem misPlace (N : GN) (B : Nat) (h : GH) (hM : Mo B h) (a : Int) (h_a : gW a) : Sp N yX10_isPlace mX10_isPlace 0 0 [.ref (B + 35), .int (gI (a))] h (fun r h1 => r = some (.int (gI (0))) ∧ h1 = h) := by
  refine Sp.of (by decide) rfl rfl (Nat.le_of_ble_eq_true rfl) ?_
  show Go N mX10_isPlace _ 0 0 h 0 [(0, .ref (B + 35)), (1, .int (gI (a)))] []
  have s35 : h.2 (B + 35) = some (oB 10 [.int (gI (2)), .ref (B + 36), .ref (B + 37), .ref (B + 38), .ref (B + 39), .ref (B + 40), .ref (B + 41), .ref (B + 42), .ref (B + 43), .int (gI (0)), .int (gI (0)), .int (gI (0)), .ref (B + 44), .ref (B + 45), .ref (B + 46), .int (gI (0)), .ref (B + 47), .ref (B + 48), .ref (B + 49), .int (gI (0)), .ref (B + 50), .int (gI (0)), .ref (B + 51), .ref (B + 52), .ref (B + 53), .ref (B + 54), .ref (B + 55), .int (gI (0)), .ref (B + 56), .ref (B + 57)]) := hM 35 _ (by omega) rfl
  have s36 : h.2 (B + 36) = some (aZ 100 (fun _ => 0)) := hM 36 _ (by omega) rfl
  refine g_iload_n 1 dX10_isPlace_0 rfl ?_
  refine g_if_lt (tgt := 23) dX10_isPlace_1 rfl (by unfold gW at *; omega) (fun c1 => ?_) (fun c1 => ?_)
  · skip
    refine g_iconst dX10_isPlace_23 ?_
    exact g_zret dX10_isPlace_24 rfl (by omega) ⟨rfl, rfl⟩
  · skip
    refine g_iload_n 1 dX10_isPlace_4 rfl ?_
    refine g_bipush dX10_isPlace_5 (by decide) ?_
    refine g_icmp_ge (tgt := 23) dX10_isPlace_7 rfl (by unfold gW at *; omega) (by unfold gW at *; omega) (fun c2 => ?_) (fun c2 => ?_)
    · skip
      refine g_iconst dX10_isPlace_23 ?_
      exact g_zret dX10_isPlace_24 rfl (by omega) ⟨rfl, rfl⟩
    · skip
      refine g_aload_n 0 dX10_isPlace_10 rfl ?_
      refine g_getf 1 dX10_isPlace_11 kX10 (by decide) fX10_7 s35 rfl ?_
      refine g_iload_n 1 dX10_isPlace_14 rfl ?_
      refine g_baload dX10_isPlace_15 s36 (by omega) (by omega) (by decide) ?_
      refine g_if_eq (tgt := 23) dX10_isPlace_16 rfl (by unfold gW at *; omega) (fun c3 => ?_) (fun c3 => absurd c3 (by omega))
      refine g_iconst dX10_isPlace_23 ?_
      exact g_zret dX10_isPlace_24 rfl (by omega) ⟨rfl, rfl⟩
set_option maxHeartbeats 4000000 in
set_option maxRecDepth 100000 in
theorem mplus (N : GN) (B : Nat) (h : GH) (hM : Mo B h) (a : Int) (h_a : gW a) (c : Int) (h_c : gX c) (i : Int) (h_i : gW i) (j : Int) (h_j : gW j) : Sp N yX10_plus mX10_plus 0 0 [.ref (B + 35), .int (gI (a)), .long (gJ (c)), .int (gI (i)), .int (gI (j))] h (fun r h1 => r = some (.int (gI (-1)))) := by
  refine Sp.of (by decide) rfl rfl (Nat.le_of_ble_eq_true rfl) ?_
  show Go N mX10_plus _ 0 0 h 0 [(0, .ref (B + 35)), (1, .int (gI (a))), (2, .long (gJ (c))), (4, .int (gI (i))), (5, .int (gI (j)))] []
  have s35 : h.2 (B + 35) = some (oB 10 [.int (gI (2)), .ref (B + 36), .ref (B + 37), .ref (B + 38), .ref (B + 39), .ref (B + 40), .ref (B + 41), .ref (B + 42), .ref (B + 43), .int (gI (0)), .int (gI (0)), .int (gI (0)), .ref (B + 44), .ref (B + 45), .ref (B + 46), .int (gI (0)), .ref (B + 47), .ref (B + 48), .ref (B + 49), .int (gI (0)), .ref (B + 50), .int (gI (0)), .ref (B + 51), .ref (B + 52), .ref (B + 53), .ref (B + 54), .ref (B + 55), .int (gI (0)), .ref (B + 56), .ref (B + 57)]) := hM 35 _ (by omega) rfl
  refine g_aload_n 0 dX10_plus_0 rfl ?_
  refine g_iload_n 1 dX10_plus_1 rfl ?_
  refine g_callV (nc2 := 0) (ns2 := 0) (ci := 10) (As := [.int (gI (a))]) (st := []) rfl dX10_plus_2 okX10_isPlace lX10_118 itX10_isPlace seX10_isPlace rfl s35 (by decide) (by decide) rfl (Nat.le_of_ble_eq_true rfl) (misPlace N B _ hM (a) (by assumption)) (by omega) (by omega) (fun v1 hc1 q1 => ?_)
  obtain ⟨rfl, hq2⟩ := q1
  refine Go.nf (h' := h) (st' := [.int (gI (0))]) hq2 rfl (Nat.le_refl _) (Nat.le_refl _) ?_
  refine g_if_ne (tgt := 10) dX10_plus_5 rfl (by unfold gW at *; omega) (fun c3 => absurd c3 (by omega)) (fun c3 => ?_)
  refine g_iconst dX10_plus_8 ?_
  exact g_iret dX10_plus_9 rfl rfl
set_option maxHeartbeats 4000000 in
set_option maxRecDepth 100000 in
theorem mpower (N : GN) (B : Nat) (h : GH) (hM : Mo B h) (a : Int) (h_a : gW a) (n : Int) (h_n : gX n) (b : Int) (h_b : gW b) : Sp N yX10_power mX10_power 0 0 [.ref (B + 35), .int (gI (a)), .long (gJ (n)), .int (gI (b))] h (fun r h1 => r = some (.int (gI (-1)))) := by
  refine Sp.of (by decide) rfl rfl (Nat.le_of_ble_eq_true rfl) ?_
  show Go N mX10_power _ 0 0 h 0 [(0, .ref (B + 35)), (1, .int (gI (a))), (2, .long (gJ (n))), (4, .int (gI (b)))] []
  have s35 : h.2 (B + 35) = some (oB 10 [.int (gI (2)), .ref (B + 36), .ref (B + 37), .ref (B + 38), .ref (B + 39), .ref (B + 40), .ref (B + 41), .ref (B + 42), .ref (B + 43), .int (gI (0)), .int (gI (0)), .int (gI (0)), .ref (B + 44), .ref (B + 45), .ref (B + 46), .int (gI (0)), .ref (B + 47), .ref (B + 48), .ref (B + 49), .int (gI (0)), .ref (B + 50), .int (gI (0)), .ref (B + 51), .ref (B + 52), .ref (B + 53), .ref (B + 54), .ref (B + 55), .int (gI (0)), .ref (B + 56), .ref (B + 57)]) := hM 35 _ (by omega) rfl
  refine g_aload_n 0 dX10_power_0 rfl ?_
  refine g_iload_n 1 dX10_power_1 rfl ?_
  refine g_callV (nc2 := 0) (ns2 := 0) (ci := 10) (As := [.int (gI (a))]) (st := []) rfl dX10_power_2 okX10_isPlace lX10_118 itX10_isPlace seX10_isPlace rfl s35 (by decide) (by decide) rfl (Nat.le_of_ble_eq_true rfl) (misPlace N B _ hM (a) (by assumption)) (by omega) (by omega) (fun v1 hc1 q1 => ?_)
  obtain ⟨rfl, hq2⟩ := q1
  refine Go.nf (h' := h) (st' := [.int (gI (0))]) hq2 rfl (Nat.le_refl _) (Nat.le_refl _) ?_
  refine g_if_eq (tgt := 17) dX10_power_5 rfl (by unfold gW at *; omega) (fun c3 => ?_) (fun c3 => absurd c3 (by omega))
  refine g_iconst dX10_power_17 ?_
  exact g_iret dX10_power_18 rfl rfl
set_option maxHeartbeats 4000000 in
set_option maxRecDepth 100000 in
theorem mat (N : GN) (B : Nat) (h : GH) (hM : Mo B h) (a : Int) (h_a : gW a) (i : Int) (h_i : gW i) (j : Int) (h_j : gW j) : Sp N yX10_at mX10_at 0 0 [.ref (B + 35), .int (gI (a)), .int (gI (i)), .int (gI (j))] h (fun r h1 => r = some (.int (gI (-1)))) := by
  refine Sp.of (by decide) rfl rfl (Nat.le_of_ble_eq_true rfl) ?_
  show Go N mX10_at _ 0 0 h 0 [(0, .ref (B + 35)), (1, .int (gI (a))), (2, .int (gI (i))), (3, .int (gI (j)))] []
  have s35 : h.2 (B + 35) = some (oB 10 [.int (gI (2)), .ref (B + 36), .ref (B + 37), .ref (B + 38), .ref (B + 39), .ref (B + 40), .ref (B + 41), .ref (B + 42), .ref (B + 43), .int (gI (0)), .int (gI (0)), .int (gI (0)), .ref (B + 44), .ref (B + 45), .ref (B + 46), .int (gI (0)), .ref (B + 47), .ref (B + 48), .ref (B + 49), .int (gI (0)), .ref (B + 50), .int (gI (0)), .ref (B + 51), .ref (B + 52), .ref (B + 53), .ref (B + 54), .ref (B + 55), .int (gI (0)), .ref (B + 56), .ref (B + 57)]) := hM 35 _ (by omega) rfl
  refine g_aload_n 0 dX10_at_0 rfl ?_
  refine g_iload_n 1 dX10_at_1 rfl ?_
  refine g_callV (nc2 := 0) (ns2 := 0) (ci := 10) (As := [.int (gI (a))]) (st := []) rfl dX10_at_2 okX10_isPlace lX10_118 itX10_isPlace seX10_isPlace rfl s35 (by decide) (by decide) rfl (Nat.le_of_ble_eq_true rfl) (misPlace N B _ hM (a) (by assumption)) (by omega) (by omega) (fun v1 hc1 q1 => ?_)
  obtain ⟨rfl, hq2⟩ := q1
  refine Go.nf (h' := h) (st' := [.int (gI (0))]) hq2 rfl (Nat.le_refl _) (Nat.le_refl _) ?_
  refine g_if_eq (tgt := 28) dX10_at_5 rfl (by unfold gW at *; omega) (fun c3 => ?_) (fun c3 => absurd c3 (by omega))
  refine g_iconst dX10_at_28 ?_
  refine g_goto (tgt := 43) dX10_at_29 rfl ?_
  exact g_iret dX10_at_43 rfl rfl
set_option maxHeartbeats 4000000 in
set_option maxRecDepth 100000 in
theorem mdegree (N : GN) (B : Nat) (h : GH) (hM : Mo B h) (a : Int) (h_a : gW a) (b : Int) (h_b : gW b) : Sp N yX10_degree mX10_degree 0 0 [.ref (B + 35), .int (gI (a)), .int (gI (b))] h (fun r h1 => r = some (.int (gI (-2)))) := by
  refine Sp.of (by decide) rfl rfl (Nat.le_of_ble_eq_true rfl) ?_
  show Go N mX10_degree _ 0 0 h 0 [(0, .ref (B + 35)), (1, .int (gI (a))), (2, .int (gI (b)))] []
  have s35 : h.2 (B + 35) = some (oB 10 [.int (gI (2)), .ref (B + 36), .ref (B + 37), .ref (B + 38), .ref (B + 39), .ref (B + 40), .ref (B + 41), .ref (B + 42), .ref (B + 43), .int (gI (0)), .int (gI (0)), .int (gI (0)), .ref (B + 44), .ref (B + 45), .ref (B + 46), .int (gI (0)), .ref (B + 47), .ref (B + 48), .ref (B + 49), .int (gI (0)), .ref (B + 50), .int (gI (0)), .ref (B + 51), .ref (B + 52), .ref (B + 53), .ref (B + 54), .ref (B + 55), .int (gI (0)), .ref (B + 56), .ref (B + 57)]) := hM 35 _ (by omega) rfl
  refine g_aload_n 0 dX10_degree_0 rfl ?_
  refine g_iload_n 1 dX10_degree_1 rfl ?_
  refine g_callV (nc2 := 0) (ns2 := 0) (ci := 10) (As := [.int (gI (a))]) (st := []) rfl dX10_degree_2 okX10_isPlace lX10_118 itX10_isPlace seX10_isPlace rfl s35 (by decide) (by decide) rfl (Nat.le_of_ble_eq_true rfl) (misPlace N B _ hM (a) (by assumption)) (by omega) (by omega) (fun v1 hc1 q1 => ?_)
  obtain ⟨rfl, hq2⟩ := q1
  refine Go.nf (h' := h) (st' := [.int (gI (0))]) hq2 rfl (Nat.le_refl _) (Nat.le_refl _) ?_
  refine g_if_eq (tgt := 17) dX10_degree_5 rfl (by unfold gW at *; omega) (fun c3 => ?_) (fun c3 => absurd c3 (by omega))
  refine g_bipush dX10_degree_17 (by decide) ?_
  exact g_iret dX10_degree_19 rfl rfl
set_option maxHeartbeats 4000000 in
set_option maxRecDepth 100000 in
theorem mvalue (N : GN) (B : Nat) (h : GH) (hM : Mo B h) (a : Int) (h_a : gW a) (c : Int) (h_c : gX c) (d : Int) (h_d : gX d) : Sp N yX10_value mX10_value 0 0 [.ref (B + 35), .int (gI (a)), .long (gJ (c)), .long (gJ (d))] h (fun r h1 => r = some (.int (gI (-1)))) := by
  refine Sp.of (by decide) rfl rfl (Nat.le_of_ble_eq_true rfl) ?_
  show Go N mX10_value _ 0 0 h 0 [(0, .ref (B + 35)), (1, .int (gI (a))), (2, .long (gJ (c))), (4, .long (gJ (d)))] []
  have s35 : h.2 (B + 35) = some (oB 10 [.int (gI (2)), .ref (B + 36), .ref (B + 37), .ref (B + 38), .ref (B + 39), .ref (B + 40), .ref (B + 41), .ref (B + 42), .ref (B + 43), .int (gI (0)), .int (gI (0)), .int (gI (0)), .ref (B + 44), .ref (B + 45), .ref (B + 46), .int (gI (0)), .ref (B + 47), .ref (B + 48), .ref (B + 49), .int (gI (0)), .ref (B + 50), .int (gI (0)), .ref (B + 51), .ref (B + 52), .ref (B + 53), .ref (B + 54), .ref (B + 55), .int (gI (0)), .ref (B + 56), .ref (B + 57)]) := hM 35 _ (by omega) rfl
  refine g_aload_n 0 dX10_value_0 rfl ?_
  refine g_iload_n 1 dX10_value_1 rfl ?_
  refine g_callV (nc2 := 0) (ns2 := 0) (ci := 10) (As := [.int (gI (a))]) (st := []) rfl dX10_value_2 okX10_isPlace lX10_118 itX10_isPlace seX10_isPlace rfl s35 (by decide) (by decide) rfl (Nat.le_of_ble_eq_true rfl) (misPlace N B _ hM (a) (by assumption)) (by omega) (by omega) (fun v1 hc1 q1 => ?_)
  obtain ⟨rfl, hq2⟩ := q1
  refine Go.nf (h' := h) (st' := [.int (gI (0))]) hq2 rfl (Nat.le_refl _) (Nat.le_refl _) ?_
  refine g_if_ne (tgt := 10) dX10_value_5 rfl (by unfold gW at *; omega) (fun c3 => absurd c3 (by omega)) (fun c3 => ?_)
  refine g_iconst dX10_value_8 ?_
  exact g_iret dX10_value_9 rfl rfl
set_option maxHeartbeats 4000000 in
set_option maxRecDepth 100000 in
theorem msame (N : GN) (B : Nat) (h : GH) (hM : Mo B h) (a : Int) (h_a : gW a) (b : Int) (h_b : gW b) : Sp N yX10_same mX10_same 0 0 [.ref (B + 35), .int (gI (a)), .int (gI (b))] h (fun r h1 => r = some (.int (gI (0)))) := by
  refine Sp.of (by decide) rfl rfl (Nat.le_of_ble_eq_true rfl) ?_
  show Go N mX10_same _ 0 0 h 0 [(0, .ref (B + 35)), (1, .int (gI (a))), (2, .int (gI (b)))] []
  have s35 : h.2 (B + 35) = some (oB 10 [.int (gI (2)), .ref (B + 36), .ref (B + 37), .ref (B + 38), .ref (B + 39), .ref (B + 40), .ref (B + 41), .ref (B + 42), .ref (B + 43), .int (gI (0)), .int (gI (0)), .int (gI (0)), .ref (B + 44), .ref (B + 45), .ref (B + 46), .int (gI (0)), .ref (B + 47), .ref (B + 48), .ref (B + 49), .int (gI (0)), .ref (B + 50), .int (gI (0)), .ref (B + 51), .ref (B + 52), .ref (B + 53), .ref (B + 54), .ref (B + 55), .int (gI (0)), .ref (B + 56), .ref (B + 57)]) := hM 35 _ (by omega) rfl
  refine g_aload_n 0 dX10_same_0 rfl ?_
  refine g_iload_n 1 dX10_same_1 rfl ?_
  refine g_callV (nc2 := 0) (ns2 := 0) (ci := 10) (As := [.int (gI (a))]) (st := []) rfl dX10_same_2 okX10_isPlace lX10_118 itX10_isPlace seX10_isPlace rfl s35 (by decide) (by decide) rfl (Nat.le_of_ble_eq_true rfl) (misPlace N B _ hM (a) (by assumption)) (by omega) (by omega) (fun v1 hc1 q1 => ?_)
  obtain ⟨rfl, hq2⟩ := q1
  refine Go.nf (h' := h) (st' := [.int (gI (0))]) hq2 rfl (Nat.le_refl _) (Nat.le_refl _) ?_
  refine g_if_eq (tgt := 16) dX10_same_5 rfl (by unfold gW at *; omega) (fun c3 => ?_) (fun c3 => absurd c3 (by omega))
  refine g_iconst dX10_same_16 ?_
  exact g_zret dX10_same_17 rfl (by omega) rfl
set_option maxHeartbeats 4000000 in
set_option maxRecDepth 100000 in
theorem mdrop (N : GN) (B : Nat) (h : GH) (hM : Mo B h) (a : Int) (h_a : gW a) : Sp N yX10_drop mX10_drop 0 0 [.ref (B + 35), .int (gI (a))] h (fun r h1 => r = some (.int (gI (0)))) := by
  refine Sp.of (by decide) rfl rfl (Nat.le_of_ble_eq_true rfl) ?_
  show Go N mX10_drop _ 0 0 h 0 [(0, .ref (B + 35)), (1, .int (gI (a)))] []
  have s35 : h.2 (B + 35) = some (oB 10 [.int (gI (2)), .ref (B + 36), .ref (B + 37), .ref (B + 38), .ref (B + 39), .ref (B + 40), .ref (B + 41), .ref (B + 42), .ref (B + 43), .int (gI (0)), .int (gI (0)), .int (gI (0)), .ref (B + 44), .ref (B + 45), .ref (B + 46), .int (gI (0)), .ref (B + 47), .ref (B + 48), .ref (B + 49), .int (gI (0)), .ref (B + 50), .int (gI (0)), .ref (B + 51), .ref (B + 52), .ref (B + 53), .ref (B + 54), .ref (B + 55), .int (gI (0)), .ref (B + 56), .ref (B + 57)]) := hM 35 _ (by omega) rfl
  refine g_aload_n 0 dX10_drop_0 rfl ?_
  refine g_iload_n 1 dX10_drop_1 rfl ?_
  refine g_callV (nc2 := 0) (ns2 := 0) (ci := 10) (As := [.int (gI (a))]) (st := []) rfl dX10_drop_2 okX10_isPlace lX10_118 itX10_isPlace seX10_isPlace rfl s35 (by decide) (by decide) rfl (Nat.le_of_ble_eq_true rfl) (misPlace N B _ hM (a) (by assumption)) (by omega) (by omega) (fun v1 hc1 q1 => ?_)
  obtain ⟨rfl, hq2⟩ := q1
  refine Go.nf (h' := h) (st' := [.int (gI (0))]) hq2 rfl (Nat.le_refl _) (Nat.le_refl _) ?_
  refine g_if_ne (tgt := 10) dX10_drop_5 rfl (by unfold gW at *; omega) (fun c3 => absurd c3 (by omega)) (fun c3 => ?_)
  refine g_iconst dX10_drop_8 ?_
  exact g_zret dX10_drop_9 rfl (by omega) rfl
set_option maxHeartbeats 4000000 in
set_option maxRecDepth 100000 in
theorem mfactor (N : GN) (B : Nat) (h : GH) (hM : Mo B h) (a : Int) (h_a : gW a) : Sp N yX10_factor mX10_factor 0 0 [.ref (B + 35), .int (gI (a))] h (fun r h1 => r = some (.int (gI (-1)))) := by
  refine Sp.of (by decide) rfl rfl (Nat.le_of_ble_eq_true rfl) ?_
  show Go N mX10_factor _ 0 0 h 0 [(0, .ref (B + 35)), (1, .int (gI (a)))] []
  have s35 : h.2 (B + 35) = some (oB 10 [.int (gI (2)), .ref (B + 36), .ref (B + 37), .ref (B + 38), .ref (B + 39), .ref (B + 40), .ref (B + 41), .ref (B + 42), .ref (B + 43), .int (gI (0)), .int (gI (0)), .int (gI (0)), .ref (B + 44), .ref (B + 45), .ref (B + 46), .int (gI (0)), .ref (B + 47), .ref (B + 48), .ref (B + 49), .int (gI (0)), .ref (B + 50), .int (gI (0)), .ref (B + 51), .ref (B + 52), .ref (B + 53), .ref (B + 54), .ref (B + 55), .int (gI (0)), .ref (B + 56), .ref (B + 57)]) := hM 35 _ (by omega) rfl
  refine g_aload_n 0 dX10_factor_0 rfl ?_
  refine g_iload_n 1 dX10_factor_1 rfl ?_
  refine g_callV (nc2 := 0) (ns2 := 0) (ci := 10) (As := [.int (gI (a))]) (st := []) rfl dX10_factor_2 okX10_isPlace lX10_118 itX10_isPlace seX10_isPlace rfl s35 (by decide) (by decide) rfl (Nat.le_of_ble_eq_true rfl) (misPlace N B _ hM (a) (by assumption)) (by omega) (by omega) (fun v1 hc1 q1 => ?_)
  obtain ⟨rfl, hq2⟩ := q1
  refine Go.nf (h' := h) (st' := [.int (gI (0))]) hq2 rfl (Nat.le_refl _) (Nat.le_refl _) ?_
  refine g_if_ne (tgt := 10) dX10_factor_5 rfl (by unfold gW at *; omega) (fun c3 => absurd c3 (by omega)) (fun c3 => ?_)
  refine g_iconst dX10_factor_8 ?_
  exact g_iret dX10_factor_9 rfl rfl
set_option maxHeartbeats 4000000 in
set_option maxRecDepth 100000 in
theorem mapply (N : GN) (B : Nat) (h : GH) (hM : Mo B h) (t : Int) (h_t : gW t) (a : Int) (h_a : gW a) (b : Int) (h_b : gW b) : Sp N yX10_apply mX10_apply 0 0 [.ref (B + 35), .int (gI (t)), .int (gI (a)), .int (gI (b))] h (fun r h1 => r = some (.int (gI (if t < 0 ∨ 13 < t then -2 else -1)))) := by
  refine Sp.of (by decide) rfl rfl (Nat.le_of_ble_eq_true rfl) ?_
  show Go N mX10_apply _ 0 0 h 0 [(0, .ref (B + 35)), (1, .int (gI (t))), (2, .int (gI (a))), (3, .int (gI (b)))] []
  have s35 : h.2 (B + 35) = some (oB 10 [.int (gI (2)), .ref (B + 36), .ref (B + 37), .ref (B + 38), .ref (B + 39), .ref (B + 40), .ref (B + 41), .ref (B + 42), .ref (B + 43), .int (gI (0)), .int (gI (0)), .int (gI (0)), .ref (B + 44), .ref (B + 45), .ref (B + 46), .int (gI (0)), .ref (B + 47), .ref (B + 48), .ref (B + 49), .int (gI (0)), .ref (B + 50), .int (gI (0)), .ref (B + 51), .ref (B + 52), .ref (B + 53), .ref (B + 54), .ref (B + 55), .int (gI (0)), .ref (B + 56), .ref (B + 57)]) := hM 35 _ (by omega) rfl
  refine g_iload_n 1 dX10_apply_0 rfl ?_
  refine g_if_lt (tgt := 10) dX10_apply_1 rfl (by unfold gW at *; omega) (fun c1 => ?_) (fun c1 => ?_)
  · skip
    refine g_bipush dX10_apply_10 (by decide) ?_
    exact g_iret dX10_apply_12 rfl (by rw [if_pos (by omega)])
  · skip
    refine g_iload_n 1 dX10_apply_4 rfl ?_
    refine g_bipush dX10_apply_5 (by decide) ?_
    refine g_icmp_le (tgt := 13) dX10_apply_7 rfl (by unfold gW at *; omega) (by unfold gW at *; omega) (fun c2 => ?_) (fun c2 => ?_)
    · skip
      refine g_iload_n 1 dX10_apply_13 rfl ?_
      refine g_iconst dX10_apply_14 ?_
      refine g_icmp_eq (tgt := 30) dX10_apply_15 rfl (by unfold gW at *; omega) (by unfold gW at *; omega) (fun c3 => ?_) (fun c3 => ?_)
      · skip
        refine g_iconst dX10_apply_30 ?_
        refine g_goto (tgt := 35) dX10_apply_31 rfl ?_
        refine g_istore (ls2 := [(4, .int (gI (1))), (0, .ref (B + 35)), (1, .int (gI (t))), (2, .int (gI (a))), (3, .int (gI (b)))]) dX10_apply_35 (by decide) rfl ?_
        refine g_aload_n 1 dX10_apply_37 rfl ?_
        refine g_iload_n 3 dX10_apply_38 rfl ?_
        refine g_callV (nc2 := 0) (ns2 := 0) (ci := 10) (As := [.int (gI (a))]) (st := []) rfl dX10_apply_39 okX10_isPlace lX10_118 itX10_isPlace seX10_isPlace rfl s35 (by decide) (by decide) rfl (Nat.le_of_ble_eq_true rfl) (misPlace N B _ hM (a) (by assumption)) (by omega) (by omega) (fun v4 hc4 q4 => ?_)
        obtain ⟨rfl, hq5⟩ := q4
        refine Go.nf (h' := h) (st' := [.int (gI (0))]) hq5 rfl (Nat.le_refl _) (Nat.le_refl _) ?_
        refine g_if_eq (tgt := 58) dX10_apply_42 rfl (by unfold gW at *; omega) (fun c6 => ?_) (fun c6 => absurd c6 (by omega))
        refine g_iconst dX10_apply_58 ?_
        exact g_iret dX10_apply_59 rfl (by rw [if_neg (by omega)])
      · skip
        refine g_iload_n 1 dX10_apply_18 rfl ?_
        refine g_bipush dX10_apply_19 (by decide) ?_
        refine g_icmp_eq (tgt := 30) dX10_apply_21 rfl (by unfold gW at *; omega) (by unfold gW at *; omega) (fun c7 => ?_) (fun c7 => ?_)
        · skip
          refine g_iconst dX10_apply_30 ?_
          refine g_goto (tgt := 35) dX10_apply_31 rfl ?_
          refine g_istore (ls2 := [(4, .int (gI (1))), (0, .ref (B + 35)), (1, .int (gI (t))), (2, .int (gI (a))), (3, .int (gI (b)))]) dX10_apply_35 (by decide) rfl ?_
          refine g_aload_n 1 dX10_apply_37 rfl ?_
          refine g_iload_n 3 dX10_apply_38 rfl ?_
          refine g_callV (nc2 := 0) (ns2 := 0) (ci := 10) (As := [.int (gI (a))]) (st := []) rfl dX10_apply_39 okX10_isPlace lX10_118 itX10_isPlace seX10_isPlace rfl s35 (by decide) (by decide) rfl (Nat.le_of_ble_eq_true rfl) (misPlace N B _ hM (a) (by assumption)) (by omega) (by omega) (fun v8 hc8 q8 => ?_)
          obtain ⟨rfl, hq9⟩ := q8
          refine Go.nf (h' := h) (st' := [.int (gI (0))]) hq9 rfl (Nat.le_refl _) (Nat.le_refl _) ?_
          refine g_if_eq (tgt := 58) dX10_apply_42 rfl (by unfold gW at *; omega) (fun c10 => ?_) (fun c10 => absurd c10 (by omega))
          refine g_iconst dX10_apply_58 ?_
          exact g_iret dX10_apply_59 rfl (by rw [if_neg (by omega)])
        · skip
          refine g_iload_n 1 dX10_apply_24 rfl ?_
          refine g_bipush dX10_apply_25 (by decide) ?_
          refine g_icmp_ne (tgt := 34) dX10_apply_27 rfl (by unfold gW at *; omega) (by unfold gW at *; omega) (fun c11 => ?_) (fun c11 => ?_)
          · skip
            refine g_iconst dX10_apply_34 ?_
            refine g_istore (ls2 := [(4, .int (gI (0))), (0, .ref (B + 35)), (1, .int (gI (t))), (2, .int (gI (a))), (3, .int (gI (b)))]) dX10_apply_35 (by decide) rfl ?_
            refine g_aload_n 1 dX10_apply_37 rfl ?_
            refine g_iload_n 3 dX10_apply_38 rfl ?_
            refine g_callV (nc2 := 0) (ns2 := 0) (ci := 10) (As := [.int (gI (a))]) (st := []) rfl dX10_apply_39 okX10_isPlace lX10_118 itX10_isPlace seX10_isPlace rfl s35 (by decide) (by decide) rfl (Nat.le_of_ble_eq_true rfl) (misPlace N B _ hM (a) (by assumption)) (by omega) (by omega) (fun v12 hc12 q12 => ?_)
            obtain ⟨rfl, hq13⟩ := q12
            refine Go.nf (h' := h) (st' := [.int (gI (0))]) hq13 rfl (Nat.le_refl _) (Nat.le_refl _) ?_
            refine g_if_eq (tgt := 58) dX10_apply_42 rfl (by unfold gW at *; omega) (fun c14 => ?_) (fun c14 => absurd c14 (by omega))
            refine g_iconst dX10_apply_58 ?_
            exact g_iret dX10_apply_59 rfl (by rw [if_neg (by omega)])
          · skip
            refine g_iconst dX10_apply_30 ?_
            refine g_goto (tgt := 35) dX10_apply_31 rfl ?_
            refine g_istore (ls2 := [(4, .int (gI (1))), (0, .ref (B + 35)), (1, .int (gI (t))), (2, .int (gI (a))), (3, .int (gI (b)))]) dX10_apply_35 (by decide) rfl ?_
            refine g_aload_n 1 dX10_apply_37 rfl ?_
            refine g_iload_n 3 dX10_apply_38 rfl ?_
            refine g_callV (nc2 := 0) (ns2 := 0) (ci := 10) (As := [.int (gI (a))]) (st := []) rfl dX10_apply_39 okX10_isPlace lX10_118 itX10_isPlace seX10_isPlace rfl s35 (by decide) (by decide) rfl (Nat.le_of_ble_eq_true rfl) (misPlace N B _ hM (a) (by assumption)) (by omega) (by omega) (fun v15 hc15 q15 => ?_)
            obtain ⟨rfl, hq16⟩ := q15
            refine Go.nf (h' := h) (st' := [.int (gI (0))]) hq16 rfl (Nat.le_refl _) (Nat.le_refl _) ?_
            refine g_if_eq (tgt := 58) dX10_apply_42 rfl (by unfold gW at *; omega) (fun c17 => ?_) (fun c17 => absurd c17 (by omega))
            refine g_iconst dX10_apply_58 ?_
            exact g_iret dX10_apply_59 rfl (by rw [if_neg (by omega)])
    · skip
      refine g_bipush dX10_apply_10 (by decide) ?_
      exact g_iret dX10_apply_12 rfl (by rw [if_pos (by omega)])
set_option maxHeartbeats 4000000 in
set_option maxRecDepth 100000 in
theorem mfactorOf (N : GN) (B : Nat) (h : GH) (hM : Mo B h) (a : Int) (h_a : gW a) (b : Int) (h_b : gW b) : Sp N yX10_factorOf mX10_factorOf 0 0 [.ref (B + 35), .int (gI (a)), .int (gI (b))] h (fun r h1 => r = some (.int (gI (-1)))) := by
  refine Sp.of (by decide) rfl rfl (Nat.le_of_ble_eq_true rfl) ?_
  show Go N mX10_factorOf _ 0 0 h 0 [(0, .ref (B + 35)), (1, .int (gI (a))), (2, .int (gI (b)))] []
  have s35 : h.2 (B + 35) = some (oB 10 [.int (gI (2)), .ref (B + 36), .ref (B + 37), .ref (B + 38), .ref (B + 39), .ref (B + 40), .ref (B + 41), .ref (B + 42), .ref (B + 43), .int (gI (0)), .int (gI (0)), .int (gI (0)), .ref (B + 44), .ref (B + 45), .ref (B + 46), .int (gI (0)), .ref (B + 47), .ref (B + 48), .ref (B + 49), .int (gI (0)), .ref (B + 50), .int (gI (0)), .ref (B + 51), .ref (B + 52), .ref (B + 53), .ref (B + 54), .ref (B + 55), .int (gI (0)), .ref (B + 56), .ref (B + 57)]) := hM 35 _ (by omega) rfl
  refine g_iload_n 1 dX10_factorOf_0 rfl ?_
  refine g_if_lt (tgt := 21) dX10_factorOf_1 rfl (by unfold gW at *; omega) (fun c1 => ?_) (fun c1 => ?_)
  · skip
    refine g_iconst dX10_factorOf_21 ?_
    exact g_iret dX10_factorOf_22 rfl rfl
  · skip
    refine g_iload_n 1 dX10_factorOf_4 rfl ?_
    refine g_aload_n 0 dX10_factorOf_5 rfl ?_
    refine g_getf 11 dX10_factorOf_6 kX10 (by decide) fX10_90 s35 rfl ?_
    refine g_icmp_ge (tgt := 21) dX10_factorOf_9 rfl (by unfold gW at *; omega) (by unfold gW at *; omega) (fun c2 => ?_) (fun c2 => absurd c2 (by omega))
    refine g_iconst dX10_factorOf_21 ?_
    exact g_iret dX10_factorOf_22 rfl rfl
set_option maxHeartbeats 4000000 in
set_option maxRecDepth 100000 in
theorem mfactorAt (N : GN) (B : Nat) (h : GH) (hM : Mo B h) (a : Int) (h_a : gW a) (b : Int) (h_b : gW b) : Sp N yX10_factorAt mX10_factorAt 0 0 [.ref (B + 35), .int (gI (a)), .int (gI (b))] h (fun r h1 => r = some (.int (gI (-1)))) := by
  refine Sp.of (by decide) rfl rfl (Nat.le_of_ble_eq_true rfl) ?_
  show Go N mX10_factorAt _ 0 0 h 0 [(0, .ref (B + 35)), (1, .int (gI (a))), (2, .int (gI (b)))] []
  have s35 : h.2 (B + 35) = some (oB 10 [.int (gI (2)), .ref (B + 36), .ref (B + 37), .ref (B + 38), .ref (B + 39), .ref (B + 40), .ref (B + 41), .ref (B + 42), .ref (B + 43), .int (gI (0)), .int (gI (0)), .int (gI (0)), .ref (B + 44), .ref (B + 45), .ref (B + 46), .int (gI (0)), .ref (B + 47), .ref (B + 48), .ref (B + 49), .int (gI (0)), .ref (B + 50), .int (gI (0)), .ref (B + 51), .ref (B + 52), .ref (B + 53), .ref (B + 54), .ref (B + 55), .int (gI (0)), .ref (B + 56), .ref (B + 57)]) := hM 35 _ (by omega) rfl
  refine g_iload_n 1 dX10_factorAt_0 rfl ?_
  refine g_if_lt (tgt := 22) dX10_factorAt_1 rfl (by unfold gW at *; omega) (fun c1 => ?_) (fun c1 => ?_)
  · skip
    refine g_iconst dX10_factorAt_22 ?_
    refine g_goto (tgt := 37) dX10_factorAt_23 rfl ?_
    exact g_iret dX10_factorAt_37 rfl rfl
  · skip
    refine g_iload_n 1 dX10_factorAt_4 rfl ?_
    refine g_aload_n 0 dX10_factorAt_5 rfl ?_
    refine g_getf 11 dX10_factorAt_6 kX10 (by decide) fX10_90 s35 rfl ?_
    refine g_icmp_ge (tgt := 22) dX10_factorAt_9 rfl (by unfold gW at *; omega) (by unfold gW at *; omega) (fun c2 => ?_) (fun c2 => absurd c2 (by omega))
    refine g_iconst dX10_factorAt_22 ?_
    refine g_goto (tgt := 37) dX10_factorAt_23 rfl ?_
    exact g_iret dX10_factorAt_37 rfl rfl
set_option maxHeartbeats 4000000 in
set_option maxRecDepth 100000 in
theorem mtake (N : GN) (B : Nat) (h : GH) (hM : Mo B h) (a : Int) (h_a : gW a) : Sp N yX10_take mX10_take 0 0 [.ref (B + 35), .int (gI (a))] h (fun r h1 => r = some (.int (gI (-1)))) := by
  refine Sp.of (by decide) rfl rfl (Nat.le_of_ble_eq_true rfl) ?_
  show Go N mX10_take _ 0 0 h 0 [(0, .ref (B + 35)), (1, .int (gI (a)))] []
  have s35 : h.2 (B + 35) = some (oB 10 [.int (gI (2)), .ref (B + 36), .ref (B + 37), .ref (B + 38), .ref (B + 39), .ref (B + 40), .ref (B + 41), .ref (B + 42), .ref (B + 43), .int (gI (0)), .int (gI (0)), .int (gI (0)), .ref (B + 44), .ref (B + 45), .ref (B + 46), .int (gI (0)), .ref (B + 47), .ref (B + 48), .ref (B + 49), .int (gI (0)), .ref (B + 50), .int (gI (0)), .ref (B + 51), .ref (B + 52), .ref (B + 53), .ref (B + 54), .ref (B + 55), .int (gI (0)), .ref (B + 56), .ref (B + 57)]) := hM 35 _ (by omega) rfl
  refine g_iload_n 1 dX10_take_0 rfl ?_
  refine g_if_lt (tgt := 12) dX10_take_1 rfl (by unfold gW at *; omega) (fun c1 => ?_) (fun c1 => ?_)
  · skip
    refine g_iconst dX10_take_12 ?_
    exact g_iret dX10_take_13 rfl rfl
  · skip
    refine g_iload_n 1 dX10_take_4 rfl ?_
    refine g_aload_n 0 dX10_take_5 rfl ?_
    refine g_getf 11 dX10_take_6 kX10 (by decide) fX10_90 s35 rfl ?_
    refine g_icmp_lt (tgt := 14) dX10_take_9 rfl (by unfold gW at *; omega) (by unfold gW at *; omega) (fun c2 => absurd c2 (by omega)) (fun c2 => ?_)
    refine g_iconst dX10_take_12 ?_
    exact g_iret dX10_take_13 rfl rfl
set_option maxHeartbeats 4000000 in
set_option maxRecDepth 100000 in
theorem mtold (N : GN) (B : Nat) (h : GH) (hM : Mo B h) (a : Int) (h_a : gW a) : Sp N yX10_told mX10_told 0 0 [.ref (B + 35), .int (gI (a))] h (fun r h1 => r = some (.int (gI (-1)))) := by
  refine Sp.of (by decide) rfl rfl (Nat.le_of_ble_eq_true rfl) ?_
  show Go N mX10_told _ 0 0 h 0 [(0, .ref (B + 35)), (1, .int (gI (a)))] []
  have s35 : h.2 (B + 35) = some (oB 10 [.int (gI (2)), .ref (B + 36), .ref (B + 37), .ref (B + 38), .ref (B + 39), .ref (B + 40), .ref (B + 41), .ref (B + 42), .ref (B + 43), .int (gI (0)), .int (gI (0)), .int (gI (0)), .ref (B + 44), .ref (B + 45), .ref (B + 46), .int (gI (0)), .ref (B + 47), .ref (B + 48), .ref (B + 49), .int (gI (0)), .ref (B + 50), .int (gI (0)), .ref (B + 51), .ref (B + 52), .ref (B + 53), .ref (B + 54), .ref (B + 55), .int (gI (0)), .ref (B + 56), .ref (B + 57)]) := hM 35 _ (by omega) rfl
  refine g_aload_n 0 dX10_told_0 rfl ?_
  refine g_getf 9 dX10_told_1 kX10 (by decide) fX10_86 s35 rfl ?_
  refine g_if_eq (tgt := 16) dX10_told_4 rfl (by unfold gW at *; omega) (fun c1 => ?_) (fun c1 => absurd c1 (by omega))
  refine g_iconst dX10_told_16 ?_
  exact g_iret dX10_told_17 rfl rfl
set_option maxHeartbeats 4000000 in
set_option maxRecDepth 100000 in
theorem mpart (N : GN) (B : Nat) (h : GH) (hM : Mo B h) (a : Int) (h_a : gW a) (b : Int) (h_b : gW b) : Sp N yX10_part_ mX10_part_ 0 0 [.ref (B + 35), .int (gI (a)), .int (gI (b))] h (fun r h1 => r = some (.int (gI (-1)))) := by
  refine Sp.of (by decide) rfl rfl (Nat.le_of_ble_eq_true rfl) ?_
  show Go N mX10_part_ _ 0 0 h 0 [(0, .ref (B + 35)), (1, .int (gI (a))), (2, .int (gI (b)))] []
  have s35 : h.2 (B + 35) = some (oB 10 [.int (gI (2)), .ref (B + 36), .ref (B + 37), .ref (B + 38), .ref (B + 39), .ref (B + 40), .ref (B + 41), .ref (B + 42), .ref (B + 43), .int (gI (0)), .int (gI (0)), .int (gI (0)), .ref (B + 44), .ref (B + 45), .ref (B + 46), .int (gI (0)), .ref (B + 47), .ref (B + 48), .ref (B + 49), .int (gI (0)), .ref (B + 50), .int (gI (0)), .ref (B + 51), .ref (B + 52), .ref (B + 53), .ref (B + 54), .ref (B + 55), .int (gI (0)), .ref (B + 56), .ref (B + 57)]) := hM 35 _ (by omega) rfl
  refine g_iload_n 1 dX10_part__0 rfl ?_
  refine g_if_lt (tgt := 22) dX10_part__1 rfl (by unfold gW at *; omega) (fun c1 => ?_) (fun c1 => ?_)
  · skip
    refine g_iconst dX10_part__22 ?_
    exact g_iret dX10_part__23 rfl rfl
  · skip
    refine g_iload_n 1 dX10_part__4 rfl ?_
    refine g_aload_n 0 dX10_part__5 rfl ?_
    refine g_getf 15 dX10_part__6 kX10 (by decide) fX10_93 s35 rfl ?_
    refine g_icmp_ge (tgt := 22) dX10_part__9 rfl (by unfold gW at *; omega) (by unfold gW at *; omega) (fun c2 => ?_) (fun c2 => absurd c2 (by omega))
    refine g_iconst dX10_part__22 ?_
    exact g_iret dX10_part__23 rfl rfl
set_option maxHeartbeats 4000000 in
set_option maxRecDepth 100000 in
theorem mroot (N : GN) (B : Nat) (h : GH) (hM : Mo B h) (a : Int) (h_a : gW a) : Sp N yX10_root mX10_root 0 0 [.ref (B + 35), .int (gI (a))] h (fun r h1 => r = some (.int (gI (-1)))) := by
  refine Sp.of (by decide) rfl rfl (Nat.le_of_ble_eq_true rfl) ?_
  show Go N mX10_root _ 0 0 h 0 [(0, .ref (B + 35)), (1, .int (gI (a)))] []
  have s35 : h.2 (B + 35) = some (oB 10 [.int (gI (2)), .ref (B + 36), .ref (B + 37), .ref (B + 38), .ref (B + 39), .ref (B + 40), .ref (B + 41), .ref (B + 42), .ref (B + 43), .int (gI (0)), .int (gI (0)), .int (gI (0)), .ref (B + 44), .ref (B + 45), .ref (B + 46), .int (gI (0)), .ref (B + 47), .ref (B + 48), .ref (B + 49), .int (gI (0)), .ref (B + 50), .int (gI (0)), .ref (B + 51), .ref (B + 52), .ref (B + 53), .ref (B + 54), .ref (B + 55), .int (gI (0)), .ref (B + 56), .ref (B + 57)]) := hM 35 _ (by omega) rfl
  refine g_iload_n 1 dX10_root_0 rfl ?_
  refine g_if_lt (tgt := 12) dX10_root_1 rfl (by unfold gW at *; omega) (fun c1 => ?_) (fun c1 => ?_)
  · skip
    refine g_iconst dX10_root_12 ?_
    refine g_goto (tgt := 22) dX10_root_13 rfl ?_
    exact g_iret dX10_root_22 rfl rfl
  · skip
    refine g_iload_n 1 dX10_root_4 rfl ?_
    refine g_aload_n 0 dX10_root_5 rfl ?_
    refine g_getf 19 dX10_root_6 kX10 (by decide) fX10_96 s35 rfl ?_
    refine g_icmp_lt (tgt := 16) dX10_root_9 rfl (by unfold gW at *; omega) (by unfold gW at *; omega) (fun c2 => absurd c2 (by omega)) (fun c2 => ?_)
    refine g_iconst dX10_root_12 ?_
    refine g_goto (tgt := 22) dX10_root_13 rfl ?_
    exact g_iret dX10_root_22 rfl rfl
