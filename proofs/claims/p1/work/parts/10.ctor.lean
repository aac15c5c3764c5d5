set_option maxHeartbeats 4000000 in
set_option maxRecDepth 100000 in
theorem sX1_init (N : GN) (h : GH) (f : Nat) (v : Value) (hf : h.2 f = some (oB 1 [v])) : Sp N yX1_init mX1_init 0 0 [.ref f] h (fun r h1 => r = none ∧ h1 = hset h f (oB 1 [.int (gI 2)])) := by
  refine Sp.of (by decide) rfl rfl (Nat.le_of_ble_eq_true rfl) ?_
  show Go N mX1_init _ 0 0 h 0 [(0, .ref f)] []
  refine g_aload_n 0 dX1_init_0 rfl ?_
  refine g_objInit dX1_init_1 lX1_3 (by decide) (Nat.le_of_ble_eq_true rfl) ?_
  refine g_aload_n 0 dX1_init_4 rfl ?_
  refine g_iconst dX1_init_5 ?_
  refine g_putf 0 dX1_init_6 kX1 (by decide) fX1_9 rfl hf (Nat.le_of_ble_eq_true rfl) rfl rfl ?_
  obtain ⟨hh1, eh1⟩ : ∃ z : GH, z = hset h (f) (oB 1 [.int (gI (2))]) := ⟨_, rfl⟩
  refine Go.hp eh1.symm ?_
  have fh1_0 : hh1.2 (f) = some (oB 1 [.int (gI (2))]) := by rw [eh1]; exact hset_s _ _ _
  exact g_vret dX1_init_9 rfl ⟨rfl, by rw [eh1]⟩
set_option maxHeartbeats 4000000 in
set_option maxRecDepth 100000 in
theorem sX5_init (N : GN) (B : Nat) (cs : List GE) (i n : Nat) (hi : cs[i]? = some (oB 5 [.null, .int (gI 0)])) (h1 : 1 ≤ n) (h2 : n ≤ 1000) : Sp N yX5_init mX5_init 1 n [.ref (B + i), .int (gI n)] (hL B cs) (fun r h1 => r = none ∧ h1 = hL B (cs.set i (oB 5 [.ref (B + cs.length), .int (gI (-1))]) ++ [aJ n (fun _ => 0)])) := by
  refine Sp.of (by decide) rfl rfl (Nat.le_of_ble_eq_true rfl) ?_
  show Go N mX5_init _ 1 n (hL B cs) 0 [(0, .ref (B + i)), (1, .int (gI n))] []
  have hl : i < cs.length := (List.getElem?_eq_some_iff.mp hi).1
  refine g_aload_n 0 dX5_init_0 rfl ?_
  refine g_objInit dX5_init_1 lX5_3 (by decide) (Nat.le_of_ble_eq_true rfl) ?_
  refine g_aload_n 0 dX5_init_4 rfl ?_
  refine g_iconst dX5_init_5 ?_
  refine L_putf (i := i) 1 dX5_init_6 kX5 (by decide) fX5_9 rfl hi (Nat.le_of_ble_eq_true rfl) rfl rfl rfl ?_
  refine g_aload_n 0 dX5_init_9 rfl ?_
  refine g_iload_n 1 dX5_init_10 rfl ?_
  refine g_iconst dX5_init_11 ?_
  refine g_icmp_ge (tgt := 19) dX5_init_12 rfl (by unfold gW; omega) (by unfold gW; omega) (fun c => ?_) (fun c => absurd c (by omega))
  refine g_iload_n 1 dX5_init_19 rfl ?_
  refine L_newJ (q := cs.length) dX5_init_20 (by omega) (by omega) (by omega) (by simp) rfl ?_
  refine L_putF (i := i) 0 dX5_init_22 kX5 (by decide) fX5_15 rfl rfl rfl (fs := [.null, .int (gI (-1))]) (by rw [List.getElem?_append_left (by simp; exact hl), List.getElem?_set_self hl]; rfl) (Nat.le_of_ble_eq_true rfl) rfl rfl rfl ?_
  refine g_vret dX5_init_25 rfl ⟨rfl, ?_⟩
  congr 1
  rw [List.set_append_left _ _ (by simp; exact hl), List.set_set]
  rfl
set_option maxHeartbeats 4000000 in
set_option maxRecDepth 100000 in
theorem sX4_init (N : GN) (B : Nat) (cs : List GE) (i : Nat) (hi : cs[i]? = some (oB 4 [.null, .int (gI 0), .int (gI 0)])) : Sp N yX4_init mX4_init 1 287 [.ref (B + i)] (hL B cs) (fun r h1 => r = none ∧ h1 = hL B (cs.set i (oB 4 [.ref (B + cs.length), .int (gI (-1)), .int (gI (-1))]) ++ [aJ 287 (fun _ => 0)])) := by
  refine Sp.of (by decide) rfl rfl (Nat.le_of_ble_eq_true rfl) ?_
  show Go N mX4_init _ 1 287 (hL B cs) 0 [(0, .ref (B + i))] []
  have hl : i < cs.length := (List.getElem?_eq_some_iff.mp hi).1
  refine g_aload_n 0 dX4_init_0 rfl ?_
  refine g_objInit dX4_init_1 lX4_3 (by decide) (Nat.le_of_ble_eq_true rfl) ?_
  refine g_aload_n 0 dX4_init_4 rfl ?_
  refine g_sipush dX4_init_5 (by decide) ?_
  refine L_newJ (n := 287) (q := cs.length) dX4_init_8 (by omega) (by omega) (by omega) rfl rfl ?_
  refine L_putF (i := i) 0 dX4_init_10 kX4 (by decide) fX4_9 rfl rfl rfl (fs := [.null, .int (gI 0), .int (gI 0)]) (by rw [List.getElem?_append_left hl, hi]) (Nat.le_of_ble_eq_true rfl) rfl rfl rfl ?_
  refine g_aload_n 0 dX4_init_13 rfl ?_
  refine g_iconst dX4_init_14 ?_
  refine L_putf (i := i) 1 dX4_init_15 kX4 (by decide) fX4_15 rfl (fs := [.ref (B + cs.length), .int (gI 0), .int (gI 0)]) (List.getElem?_set_self (by simp; omega)) (Nat.le_of_ble_eq_true rfl) rfl rfl rfl ?_
  refine g_aload_n 0 dX4_init_18 rfl ?_
  refine g_iconst dX4_init_19 ?_
  refine L_putf (i := i) 2 dX4_init_20 kX4 (by decide) fX4_19 rfl (fs := [.ref (B + cs.length), .int (gI (-1)), .int (gI 0)]) (List.getElem?_set_self (by simp; omega)) (Nat.le_of_ble_eq_true rfl) rfl rfl rfl ?_
  refine g_vret dX4_init_23 rfl ⟨rfl, ?_⟩
  congr 1
  rw [List.set_set, List.set_set, List.set_append_left _ _ hl]
  rfl
