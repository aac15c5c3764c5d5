theorem dX1_raise_0 : decode cX1_raise 0 = .ok (.lconst 1, 1) := by decide +kernel
theorem dX1_raise_1 : decode cX1_raise 1 = .ok (.lstore 4, 2) := by decide +kernel
theorem dX1_raise_3 : decode cX1_raise 3 = .ok (.lload_n 1, 1) := by decide +kernel
theorem dX1_raise_4 : decode cX1_raise 4 = .ok (.lstore 6, 2) := by decide +kernel
theorem dX1_raise_6 : decode cX1_raise 6 = .ok (.iload_n 3, 1) := by decide +kernel
theorem dX1_raise_7 : decode cX1_raise 7 = .ok (.istore 8, 2) := by decide +kernel
theorem dX1_raise_9 : decode cX1_raise 9 = .ok (.iload 8, 2) := by decide +kernel
theorem dX1_raise_11 : decode cX1_raise 11 = .ok (.ifCond .le 46, 3) := by decide +kernel
theorem dX1_raise_14 : decode cX1_raise 14 = .ok (.iload 8, 2) := by decide +kernel
theorem dX1_raise_16 : decode cX1_raise 16 = .ok (.iconst 1, 1) := by decide +kernel
theorem dX1_raise_17 : decode cX1_raise 17 = .ok (.iand, 1) := by decide +kernel
theorem dX1_raise_18 : decode cX1_raise 18 = .ok (.iconst 1, 1) := by decide +kernel
theorem dX1_raise_19 : decode cX1_raise 19 = .ok (.if_icmp .ne 16, 3) := by decide +kernel
theorem dX1_raise_22 : decode cX1_raise 22 = .ok (.lload 4, 2) := by decide +kernel
theorem dX1_raise_24 : decode cX1_raise 24 = .ok (.lload 6, 2) := by decide +kernel
theorem dX1_raise_26 : decode cX1_raise 26 = .ok (.lmul, 1) := by decide +kernel
theorem dX1_raise_27 : decode cX1_raise 27 = .ok (.aload_n 0, 1) := by decide +kernel
theorem dX1_raise_28 : decode cX1_raise 28 = .ok (.getfield 9, 3) := by decide +kernel
theorem dX1_raise_31 : decode cX1_raise 31 = .ok (.i2l, 1) := by decide +kernel
theorem dX1_raise_32 : decode cX1_raise 32 = .ok (.lrem, 1) := by decide +kernel
theorem dX1_raise_33 : decode cX1_raise 33 = .ok (.lstore 4, 2) := by decide +kernel
theorem dX1_raise_35 : decode cX1_raise 35 = .ok (.lload 6, 2) := by decide +kernel
theorem dX1_raise_37 : decode cX1_raise 37 = .ok (.lload 6, 2) := by decide +kernel
theorem dX1_raise_39 : decode cX1_raise 39 = .ok (.lmul, 1) := by decide +kernel
theorem dX1_raise_40 : decode cX1_raise 40 = .ok (.aload_n 0, 1) := by decide +kernel
theorem dX1_raise_41 : decode cX1_raise 41 = .ok (.getfield 9, 3) := by decide +kernel
theorem dX1_raise_44 : decode cX1_raise 44 = .ok (.i2l, 1) := by decide +kernel
theorem dX1_raise_45 : decode cX1_raise 45 = .ok (.lrem, 1) := by decide +kernel
theorem dX1_raise_46 : decode cX1_raise 46 = .ok (.lstore 6, 2) := by decide +kernel
theorem dX1_raise_48 : decode cX1_raise 48 = .ok (.iload 8, 2) := by decide +kernel
theorem dX1_raise_50 : decode cX1_raise 50 = .ok (.iconst 1, 1) := by decide +kernel
theorem dX1_raise_51 : decode cX1_raise 51 = .ok (.ishr, 1) := by decide +kernel
theorem dX1_raise_52 : decode cX1_raise 52 = .ok (.istore 8, 2) := by decide +kernel
theorem dX1_raise_54 : decode cX1_raise 54 = .ok (.goto (-45), 3) := by decide +kernel
theorem dX1_raise_57 : decode cX1_raise 57 = .ok (.lload 4, 2) := by decide +kernel
theorem dX1_raise_59 : decode cX1_raise 59 = .ok (.lreturn, 1) := by decide +kernel
theorem dX1_inverse_0 : decode cX1_inverse 0 = .ok (.lload_n 1, 1) := by decide +kernel
theorem dX1_inverse_1 : decode cX1_inverse 1 = .ok (.lconst 1, 1) := by decide +kernel
theorem dX1_inverse_2 : decode cX1_inverse 2 = .ok (.lcmp, 1) := by decide +kernel
theorem dX1_inverse_3 : decode cX1_inverse 3 = .ok (.ifCond .ne 7, 3) := by decide +kernel
theorem dX1_inverse_6 : decode cX1_inverse 6 = .ok (.lconst 1, 1) := by decide +kernel
theorem dX1_inverse_7 : decode cX1_inverse 7 = .ok (.goto 14, 3) := by decide +kernel
theorem dX1_inverse_10 : decode cX1_inverse 10 = .ok (.aload_n 0, 1) := by decide +kernel
theorem dX1_inverse_11 : decode cX1_inverse 11 = .ok (.lload_n 1, 1) := by decide +kernel
theorem dX1_inverse_12 : decode cX1_inverse 12 = .ok (.aload_n 0, 1) := by decide +kernel
theorem dX1_inverse_13 : decode cX1_inverse 13 = .ok (.getfield 9, 3) := by decide +kernel
theorem dX1_inverse_16 : decode cX1_inverse 16 = .ok (.iconst 2, 1) := by decide +kernel
theorem dX1_inverse_17 : decode cX1_inverse 17 = .ok (.isub, 1) := by decide +kernel
theorem dX1_inverse_18 : decode cX1_inverse 18 = .ok (.invokevirtual 22, 3) := by decide +kernel
theorem dX1_inverse_21 : decode cX1_inverse 21 = .ok (.lreturn, 1) := by decide +kernel
theorem dX5_copy_0 : decode cX5_copy 0 = .ok (.aload_n 0, 1) := by decide +kernel
theorem dX5_copy_1 : decode cX5_copy 1 = .ok (.aload_n 1, 1) := by decide +kernel
theorem dX5_copy_2 : decode cX5_copy 2 = .ok (.getfield 9, 3) := by decide +kernel
theorem dX5_copy_5 : decode cX5_copy 5 = .ok (.aload_n 0, 1) := by decide +kernel
theorem dX5_copy_6 : decode cX5_copy 6 = .ok (.getfield 15, 3) := by decide +kernel
theorem dX5_copy_9 : decode cX5_copy 9 = .ok (.arraylength, 1) := by decide +kernel
theorem dX5_copy_10 : decode cX5_copy 10 = .ok (.iconst 1, 1) := by decide +kernel
theorem dX5_copy_11 : decode cX5_copy 11 = .ok (.isub, 1) := by decide +kernel
theorem dX5_copy_12 : decode cX5_copy 12 = .ok (.invokestatic 19, 3) := by decide +kernel
theorem dX5_copy_15 : decode cX5_copy 15 = .ok (.putfield 9, 3) := by decide +kernel
theorem dX5_copy_18 : decode cX5_copy 18 = .ok (.aload_n 0, 1) := by decide +kernel
theorem dX5_copy_19 : decode cX5_copy 19 = .ok (.getfield 9, 3) := by decide +kernel
theorem dX5_copy_22 : decode cX5_copy 22 = .ok (.ifCond .lt 22, 3) := by decide +kernel
theorem dX5_copy_25 : decode cX5_copy 25 = .ok (.aload_n 1, 1) := by decide +kernel
theorem dX5_copy_26 : decode cX5_copy 26 = .ok (.getfield 15, 3) := by decide +kernel
theorem dX5_copy_29 : decode cX5_copy 29 = .ok (.iconst 0, 1) := by decide +kernel
theorem dX5_copy_30 : decode cX5_copy 30 = .ok (.aload_n 0, 1) := by decide +kernel
theorem dX5_copy_31 : decode cX5_copy 31 = .ok (.getfield 15, 3) := by decide +kernel
theorem dX5_copy_34 : decode cX5_copy 34 = .ok (.iconst 0, 1) := by decide +kernel
theorem dX5_copy_35 : decode cX5_copy 35 = .ok (.aload_n 0, 1) := by decide +kernel
theorem dX5_copy_36 : decode cX5_copy 36 = .ok (.getfield 9, 3) := by decide +kernel
theorem dX5_copy_39 : decode cX5_copy 39 = .ok (.iconst 1, 1) := by decide +kernel
theorem dX5_copy_40 : decode cX5_copy 40 = .ok (.iadd, 1) := by decide +kernel
theorem dX5_copy_41 : decode cX5_copy 41 = .ok (.invokestatic 31, 3) := by decide +kernel
theorem dX5_copy_44 : decode cX5_copy 44 = .ok (.return_, 1) := by decide +kernel
theorem dX5_settle_0 : decode cX5_settle 0 = .ok (.iload_n 1, 1) := by decide +kernel
theorem dX5_settle_1 : decode cX5_settle 1 = .ok (.aload_n 0, 1) := by decide +kernel
theorem dX5_settle_2 : decode cX5_settle 2 = .ok (.getfield 15, 3) := by decide +kernel
theorem dX5_settle_5 : decode cX5_settle 5 = .ok (.arraylength, 1) := by decide +kernel
theorem dX5_settle_6 : decode cX5_settle 6 = .ok (.if_icmp .ge 7, 3) := by decide +kernel
theorem dX5_settle_9 : decode cX5_settle 9 = .ok (.iload_n 1, 1) := by decide +kernel
theorem dX5_settle_10 : decode cX5_settle 10 = .ok (.goto 10, 3) := by decide +kernel
theorem dX5_settle_13 : decode cX5_settle 13 = .ok (.aload_n 0, 1) := by decide +kernel
theorem dX5_settle_14 : decode cX5_settle 14 = .ok (.getfield 15, 3) := by decide +kernel
theorem dX5_settle_17 : decode cX5_settle 17 = .ok (.arraylength, 1) := by decide +kernel
theorem dX5_settle_18 : decode cX5_settle 18 = .ok (.iconst 1, 1) := by decide +kernel
theorem dX5_settle_19 : decode cX5_settle 19 = .ok (.isub, 1) := by decide +kernel
theorem dX5_settle_20 : decode cX5_settle 20 = .ok (.istore_n 2, 1) := by decide +kernel
theorem dX5_settle_21 : decode cX5_settle 21 = .ok (.iload_n 2, 1) := by decide +kernel
theorem dX5_settle_22 : decode cX5_settle 22 = .ok (.ifCond .lt 20, 3) := by decide +kernel
theorem dX5_settle_25 : decode cX5_settle 25 = .ok (.aload_n 0, 1) := by decide +kernel
theorem dX5_settle_26 : decode cX5_settle 26 = .ok (.getfield 15, 3) := by decide +kernel
theorem dX5_settle_29 : decode cX5_settle 29 = .ok (.iload_n 2, 1) := by decide +kernel
theorem dX5_settle_30 : decode cX5_settle 30 = .ok (.laload, 1) := by decide +kernel
theorem dX5_settle_31 : decode cX5_settle 31 = .ok (.lconst 0, 1) := by decide +kernel
theorem dX5_settle_32 : decode cX5_settle 32 = .ok (.lcmp, 1) := by decide +kernel
theorem dX5_settle_33 : decode cX5_settle 33 = .ok (.ifCond .ne 9, 3) := by decide +kernel
theorem dX5_settle_36 : decode cX5_settle 36 = .ok (.iinc 2 (-1), 3) := by decide +kernel
theorem dX5_settle_39 : decode cX5_settle 39 = .ok (.goto (-18), 3) := by decide +kernel
theorem dX5_settle_42 : decode cX5_settle 42 = .ok (.aload_n 0, 1) := by decide +kernel
theorem dX5_settle_43 : decode cX5_settle 43 = .ok (.iload_n 2, 1) := by decide +kernel
theorem dX5_settle_44 : decode cX5_settle 44 = .ok (.ifCond .ge 7, 3) := by decide +kernel
theorem dX5_settle_47 : decode cX5_settle 47 = .ok (.iconst (-1), 1) := by decide +kernel
theorem dX5_settle_48 : decode cX5_settle 48 = .ok (.goto 4, 3) := by decide +kernel
theorem dX5_settle_51 : decode cX5_settle 51 = .ok (.iload_n 2, 1) := by decide +kernel
theorem dX5_settle_52 : decode cX5_settle 52 = .ok (.putfield 9, 3) := by decide +kernel
theorem dX5_settle_55 : decode cX5_settle 55 = .ok (.return_, 1) := by decide +kernel
theorem dX5_number_0 : decode cX5_number 0 = .ok (.iload_n 1, 1) := by decide +kernel
theorem dX5_number_1 : decode cX5_number 1 = .ok (.ifCond .lt 20, 3) := by decide +kernel
theorem dX5_number_4 : decode cX5_number 4 = .ok (.iload_n 1, 1) := by decide +kernel
theorem dX5_number_5 : decode cX5_number 5 = .ok (.aload_n 0, 1) := by decide +kernel
theorem dX5_number_6 : decode cX5_number 6 = .ok (.getfield 9, 3) := by decide +kernel
theorem dX5_number_9 : decode cX5_number 9 = .ok (.if_icmp .gt 12, 3) := by decide +kernel
theorem dX5_number_12 : decode cX5_number 12 = .ok (.aload_n 0, 1) := by decide +kernel
theorem dX5_number_13 : decode cX5_number 13 = .ok (.getfield 15, 3) := by decide +kernel
theorem dX5_number_16 : decode cX5_number 16 = .ok (.iload_n 1, 1) := by decide +kernel
theorem dX5_number_17 : decode cX5_number 17 = .ok (.laload, 1) := by decide +kernel
theorem dX5_number_18 : decode cX5_number 18 = .ok (.goto 4, 3) := by decide +kernel
theorem dX5_number_21 : decode cX5_number 21 = .ok (.lconst 0, 1) := by decide +kernel
theorem dX5_number_22 : decode cX5_number 22 = .ok (.lreturn, 1) := by decide +kernel
theorem dX5_leading_0 : decode cX5_leading 0 = .ok (.aload_n 0, 1) := by decide +kernel
theorem dX5_leading_1 : decode cX5_leading 1 = .ok (.getfield 9, 3) := by decide +kernel
theorem dX5_leading_4 : decode cX5_leading 4 = .ok (.ifCond .ge 7, 3) := by decide +kernel
theorem dX5_leading_7 : decode cX5_leading 7 = .ok (.lconst 0, 1) := by decide +kernel
theorem dX5_leading_8 : decode cX5_leading 8 = .ok (.goto 12, 3) := by decide +kernel
theorem dX5_leading_11 : decode cX5_leading 11 = .ok (.aload_n 0, 1) := by decide +kernel
theorem dX5_leading_12 : decode cX5_leading 12 = .ok (.getfield 15, 3) := by decide +kernel
theorem dX5_leading_15 : decode cX5_leading 15 = .ok (.aload_n 0, 1) := by decide +kernel
theorem dX5_leading_16 : decode cX5_leading 16 = .ok (.getfield 9, 3) := by decide +kernel
theorem dX5_leading_19 : decode cX5_leading 19 = .ok (.laload, 1) := by decide +kernel
theorem dX5_leading_20 : decode cX5_leading 20 = .ok (.lreturn, 1) := by decide +kernel
set_option maxHeartbeats 4000000 in
set_option maxRecDepth 100000 in
theorem sX5_number (N : GN) (h : GH) (r na n : Nat) (d k : Int) (g : Int → Int) (hn1 : 1 ≤ n) (hn2 : n ≤ 1000) (hk : gW k) (hd1 : -1 ≤ d) (hd2 : d < n) (hr : h.2 r = some (oB 5 [.ref na, .int (gI d)])) (hn : h.2 na = some (aJ n g)) : Sp N yX5_number mX5_number 0 0 [.ref r, .int (gI k)] h (fun v h1 => h1 = h ∧ v = some (.long (gJ (if 0 ≤ k ∧ k ≤ d then g k else 0)))) := by
  refine Sp.of (by decide) rfl rfl (Nat.le_of_ble_eq_true rfl) ?_
  show Go N mX5_number _ 0 0 h 0 [(0, .ref (r)), (1, .int (gI (k)))] []
  refine g_iload_n 1 dX5_number_0 rfl ?_
  refine g_if_lt (tgt := 21) dX5_number_1 rfl (by unfold gW at *; omega) (fun c1 => ?_) (fun c1 => ?_)
  · skip
    refine g_lconst0 dX5_number_21 ?_
    exact g_lret dX5_number_22 rfl ⟨rfl, by rw [if_neg (by omega)]⟩
  · skip
    refine g_iload_n 1 dX5_number_4 rfl ?_
    refine g_aload_n 0 dX5_number_5 rfl ?_
    refine g_getf 1 dX5_number_6 kX5 (by decide) fX5_9 hr rfl ?_
    refine g_icmp_gt (tgt := 21) dX5_number_9 rfl (by unfold gW at *; omega) (by unfold gW at *; omega) (fun c2 => ?_) (fun c2 => ?_)
    · skip
      refine g_lconst0 dX5_number_21 ?_
      exact g_lret dX5_number_22 rfl ⟨rfl, by rw [if_neg (by omega)]⟩
    · skip
      refine g_aload_n 0 dX5_number_12 rfl ?_
      refine g_getf 0 dX5_number_13 kX5 (by decide) fX5_15 hr rfl ?_
      refine g_iload_n 1 dX5_number_16 rfl ?_
      refine g_laload dX5_number_17 hn (by omega) (by omega) (by omega) ?_
      refine g_goto (tgt := 22) dX5_number_18 rfl ?_
      exact g_lret dX5_number_22 rfl ⟨rfl, by rw [if_pos (by omega)]⟩
set_option maxHeartbeats 4000000 in
set_option maxRecDepth 100000 in
theorem sX5_leading (N : GN) (h : GH) (r na n : Nat) (d : Int) (g : Int → Int) (hn1 : 1 ≤ n) (hn2 : n ≤ 1000) (hd1 : -1 ≤ d) (hd2 : d < n) (hr : h.2 r = some (oB 5 [.ref na, .int (gI d)])) (hn : h.2 na = some (aJ n g)) : Sp N yX5_leading mX5_leading 0 0 [.ref r] h (fun v h1 => h1 = h ∧ v = some (.long (gJ (if d < 0 then 0 else g d)))) := by
  refine Sp.of (by decide) rfl rfl (Nat.le_of_ble_eq_true rfl) ?_
  show Go N mX5_leading _ 0 0 h 0 [(0, .ref (r))] []
  refine g_aload_n 0 dX5_leading_0 rfl ?_
  refine g_getf 1 dX5_leading_1 kX5 (by decide) fX5_9 hr rfl ?_
  refine g_if_ge (tgt := 11) dX5_leading_4 rfl (by unfold gW at *; omega) (fun c1 => ?_) (fun c1 => ?_)
  · skip
    refine g_aload_n 0 dX5_leading_11 rfl ?_
    refine g_getf 0 dX5_leading_12 kX5 (by decide) fX5_15 hr rfl ?_
    refine g_aload_n 0 dX5_leading_15 rfl ?_
    refine g_getf 1 dX5_leading_16 kX5 (by decide) fX5_9 hr rfl ?_
    refine g_laload dX5_leading_19 hn (by omega) (by omega) (by omega) ?_
    exact g_lret dX5_leading_20 rfl ⟨rfl, by rw [if_neg (by omega)]⟩
  · skip
    refine g_lconst0 dX5_leading_7 ?_
    refine g_goto (tgt := 20) dX5_leading_8 rfl ?_
    exact g_lret dX5_leading_20 rfl ⟨rfl, by rw [if_pos (by omega)]⟩
/-- the greatest place below m whose number is not 0, -1 if there is none -/
def tdg (g : Int → Int) : Nat → Int
  | 0 => -1
  | m + 1 => if g m = 0 then tdg g m else m
theorem tdg_in (g : Int → Int) : ∀ m : Nat, -1 ≤ tdg g m ∧ tdg g m < m
  | 0 => by show -1 ≤ (-1 : Int) ∧ (-1 : Int) < ((0 : Nat) : Int); omega
  | m + 1 => by
    have := tdg_in g m
    show -1 ≤ (if g m = 0 then tdg g m else (m : Int)) ∧ (if g m = 0 then tdg g m else (m : Int)) < ((m + 1 : Nat) : Int)
    split <;> omega
theorem tdg_ne (g : Int → Int) : ∀ m : Nat, 0 ≤ tdg g m → g (tdg g m) ≠ 0
  | 0, h => by have : (0 : Int) ≤ -1 := h; omega
  | m + 1, h => by
    have h : 0 ≤ (if g m = 0 then tdg g m else (m : Int)) := h
    show g (if g m = 0 then tdg g m else (m : Int)) ≠ 0
    by_cases z : g m = 0
    · rw [if_pos z] at h ⊢; exact tdg_ne g m h
    · rw [if_neg z]; exact z
theorem tdg_z (g : Int → Int) : ∀ (m : Nat) (k : Int), tdg g m < k → k < m → g k = 0
  | 0, k, h1, h2 => by have : (-1 : Int) < k := h1; have : k < ((0 : Nat) : Int) := h2; omega
  | m + 1, k, h1, h2 => by
    have h1 : (if g m = 0 then tdg g m else (m : Int)) < k := h1
    by_cases z : g m = 0
    · rw [if_pos z] at h1
      rcases Int.lt_or_eq_of_le (show k ≤ m by omega) with w | w
      · exact tdg_z g m k h1 w
      · rw [w]; exact z
    · rw [if_neg z] at h1
      omega
set_option maxHeartbeats 4000000 in
set_option maxRecDepth 100000 in
theorem sX5_settle (N : GN) (h : GH) (r na n : Nat) (d t : Int) (g : Int → Int) (hn1 : 1 ≤ n) (hn2 : n ≤ 1000) (hg : ∀ j, gX (g j)) (ht : gW t) (ht2 : -1000 ≤ t) (hr : h.2 r = some (oB 5 [.ref na, .int (gI d)])) (hn : h.2 na = some (aJ n g)) (hne : r ≠ na) : Sp N yX5_settle mX5_settle 0 0 [.ref r, .int (gI t)] h (fun v h1 => v = none ∧ h1 = hset h r (oB 5 [.ref na, .int (gI (tdg g (if t < n then t + 1 else n).toNat))])) := by
  refine Sp.of (by decide) rfl rfl (Nat.le_of_ble_eq_true rfl) ?_
  show Go N mX5_settle _ 0 0 h 0 [(0, .ref (r)), (1, .int (gI (t)))] []
  have loop : ∀ k : Int, (-1000 ≤ k ∧ k < n ∧ tdg g (k + 1).toNat = tdg g (if t < n then t + 1 else n).toNat) → Go N mX5_settle (fun v h1 => v = none ∧ h1 = hset h r (oB 5 [.ref na, .int (gI (tdg g (if t < n then t + 1 else n).toNat))])) 0 0 h 21 [(2, .int (gI (k))), (0, .ref (r)), (1, .int (gI (t)))] [] := by
    refine Go.loop _ (fun k : Int => Go N mX5_settle _ 0 0 h 21 [(2, .int (gI (k))), (0, .ref (r)), (1, .int (gI (t)))] []) (fun k => (k + 1).toNat) (fun k hk ih => ?_)
    obtain ⟨hk1, hk2, hk3⟩ := hk
    refine g_iload_n 0 dX5_settle_21 rfl ?_
    refine g_if_lt (tgt := 42) dX5_settle_22 rfl (by unfold gW at *; omega) (fun c1 => ?_) (fun c1 => ?_)
    · skip
      refine g_aload_n 1 dX5_settle_42 rfl ?_
      refine g_iload_n 0 dX5_settle_43 rfl ?_
      refine g_if_ge (tgt := 51) dX5_settle_44 rfl (by unfold gW at *; omega) (fun c2 => absurd c2 (by omega)) (fun c2 => ?_)
      refine g_iconst dX5_settle_47 ?_
      refine g_goto (tgt := 52) dX5_settle_48 rfl ?_
      refine g_putf 1 dX5_settle_52 kX5 (by decide) fX5_9 rfl hr (Nat.le_of_ble_eq_true rfl) rfl rfl ?_
      obtain ⟨hh3, eh3⟩ : ∃ z : GH, z = hset h (r) (oB 5 [.ref (na), .int (gI (-1))]) := ⟨_, rfl⟩
      refine Go.hp eh3.symm ?_
      have fh3_0 : hh3.2 (r) = some (oB 5 [.ref (na), .int (gI (-1))]) := by rw [eh3]; exact hset_s _ _ _
      have fh3_1 : hh3.2 (na) = some (aJ n (g)) := by rw [eh3, hset_n _ _ (by omega)]; exact hn
      exact g_vret dX5_settle_55 rfl ⟨rfl, by rw [eh3, ← hk3, show (k + 1).toNat = 0 by omega]; rfl⟩
    · skip
      refine g_aload_n 1 dX5_settle_25 rfl ?_
      refine g_getf 0 dX5_settle_26 kX5 (by decide) fX5_15 hr rfl ?_
      refine g_iload_n 0 dX5_settle_29 rfl ?_
      refine g_laload dX5_settle_30 hn (by omega) (by omega) (by omega) ?_
      refine g_lconst0 dX5_settle_31 ?_
      refine g_lcmp dX5_settle_32 (hg _) (by unfold gX at *; omega) ?_
      refine g_if_ne (tgt := 42) dX5_settle_33 rfl (gW_cmp _ _) (fun c4 => ?_) (fun c4 => ?_)
      · skip
        have hz := fun z => c4 (gcmp_eq.mpr z)
        refine g_aload_n 1 dX5_settle_42 rfl ?_
        refine g_iload_n 0 dX5_settle_43 rfl ?_
        refine g_if_ge (tgt := 51) dX5_settle_44 rfl (by unfold gW at *; omega) (fun c5 => ?_) (fun c5 => absurd c5 (by omega))
        refine g_iload_n 0 dX5_settle_51 rfl ?_
        refine g_putf 1 dX5_settle_52 kX5 (by decide) fX5_9 rfl hr (Nat.le_of_ble_eq_true rfl) rfl rfl ?_
        obtain ⟨hh6, eh6⟩ : ∃ z : GH, z = hset h (r) (oB 5 [.ref (na), .int (gI (k))]) := ⟨_, rfl⟩
        refine Go.hp eh6.symm ?_
        have fh6_0 : hh6.2 (r) = some (oB 5 [.ref (na), .int (gI (k))]) := by rw [eh6]; exact hset_s _ _ _
        have fh6_1 : hh6.2 (na) = some (aJ n (g)) := by rw [eh6, hset_n _ _ (by omega)]; exact hn
        exact g_vret dX5_settle_55 rfl ⟨rfl, by
      rw [eh6, ← hk3]
      have e9 : (k + 1).toNat = k.toNat + 1 := by omega
      rw [e9]
      show _ = hset h r (oB 5 [.ref na, .int (gI (if g ((k.toNat : Nat) : Int) = 0 then _ else _))])
      rw [show ((k.toNat : Nat) : Int) = k by omega, if_neg hz]⟩
      · skip
        have hz := gcmp_eq.mp c4
        refine g_iinc 0 (ls2 := [(2, .int (gI (k + (-1)))), (0, .ref (r)), (1, .int (gI (t)))]) dX5_settle_36 rfl (by decide) rfl ?_
        refine g_goto (tgt := 21) dX5_settle_39 rfl ?_
        exact ih (k + (-1)) ⟨by omega, by omega, by
            rw [← hk3]
            have e9 : (k + 1).toNat = (k + (-1) + 1).toNat + 1 := by omega
            rw [e9]
            show _ = if g (((k + (-1) + 1).toNat : Nat) : Int) = 0 then _ else _
            rw [show (((k + (-1) + 1).toNat : Nat) : Int) = k by omega, if_pos hz]⟩ (by omega)
  refine g_iload_n 1 dX5_settle_0 rfl ?_
  refine g_aload_n 0 dX5_settle_1 rfl ?_
  refine g_getf 0 dX5_settle_2 kX5 (by decide) fX5_15 hr rfl ?_
  refine g_alen (n := n) dX5_settle_5 (by decide) hn ?_
  refine g_icmp_ge (tgt := 13) dX5_settle_6 rfl (by unfold gW at *; omega) (by unfold gW at *; omega) (fun c1 => ?_) (fun c1 => ?_)
  · skip
    refine g_aload_n 0 dX5_settle_13 rfl ?_
    refine g_getf 0 dX5_settle_14 kX5 (by decide) fX5_15 hr rfl ?_
    refine g_alen (n := n) dX5_settle_17 (by decide) hn ?_
    refine g_iconst dX5_settle_18 ?_
    refine g_isub dX5_settle_19 ?_
    refine g_istore_n (ls2 := [(2, .int (gI ((n) - (1)))), (0, .ref (r)), (1, .int (gI (t)))]) dX5_settle_20 rfl (by decide) rfl ?_
    exact loop ((n) - (1)) ⟨by omega, by omega, by congr 2; split <;> omega⟩
  · skip
    refine g_iload_n 1 dX5_settle_9 rfl ?_
    refine g_goto (tgt := 20) dX5_settle_10 rfl ?_
    refine g_istore_n (ls2 := [(2, .int (gI (t))), (0, .ref (r)), (1, .int (gI (t)))]) dX5_settle_20 rfl (by decide) rfl ?_
    exact loop (t) ⟨by omega, by omega, by congr 2; split <;> omega⟩
