set_option maxHeartbeats 4000000 in
set_option maxRecDepth 100000 in
theorem xfind (N : GN) (B : Nat) (h : GH) (hs : h = hL B (cS B)) (a : Int) (ha : gW a) : Sp N yX9_find mX9_find 0 0 [.ref (B + 0), .int (gI a)] h (fun r h1 => r = some .null ∧ h1 = h) := by
  refine Sp.of (by decide) rfl rfl (Nat.le_of_ble_eq_true rfl) ?_
  show Go N mX9_find _ 0 0 h 0 [(0, .ref (B + 0)), (1, .int (gI (a)))] []
  have s0 : h.2 (B + 0) = some (oB 9 [.ref (B + 1), .ref (B + 2), .ref (B + 3), .ref (B + 4), .ref (B + 7), .ref (B + 24), .ref (B + 27), .ref (B + 29), .ref (B + 31), .ref (B + 33), .null, .null]) := by rw [hs]; exact hL_get rfl
  have s3 : h.2 (B + 3) = some (aZ 100 (fun _ => 0)) := by rw [hs]; exact hL_get rfl
  refine g_iload_n 1 dX9_find_0 rfl ?_
  refine g_if_lt (tgt := 28) dX9_find_1 rfl (by unfold gW at *; omega) (fun c1 => ?_) (fun c1 => ?_)
  · skip
    refine g_null dX9_find_28 ?_
    exact g_aret (a := none) dX9_find_29 rfl ⟨rfl, rfl⟩
  · skip
    refine g_iload_n 1 dX9_find_4 rfl ?_
    refine g_bipush dX9_find_5 (by decide) ?_
    refine g_icmp_ge (tgt := 28) dX9_find_7 rfl (by unfold gW at *; omega) (by unfold gW at *; omega) (fun c2 => ?_) (fun c2 => ?_)
    · skip
      refine g_null dX9_find_28 ?_
      exact g_aret (a := none) dX9_find_29 rfl ⟨rfl, rfl⟩
    · skip
      refine g_aload_n 0 dX9_find_10 rfl ?_
      refine g_getf 2 dX9_find_11 kX9 (by decide) fX9_22 s0 rfl ?_
      refine g_iload_n 1 dX9_find_14 rfl ?_
      refine g_baload dX9_find_15 s3 (by omega) (by omega) (by decide) ?_
      refine g_if_eq (tgt := 28) dX9_find_16 rfl (by unfold gW at *; omega) (fun c3 => ?_) (fun c3 => absurd c3 (by omega))
      refine g_null dX9_find_28 ?_
      exact g_aret (a := none) dX9_find_29 rfl ⟨rfl, rfl⟩
set_option maxHeartbeats 4000000 in
set_option maxRecDepth 100000 in
theorem xtold (N : GN) (B : Nat) (h : GH) (hs : h = hL B (cS B)) (a : Int) : Sp N yX9_toldFactor mX9_toldFactor 0 0 [.ref (B + 0), .int (gI a)] h (fun r h1 => r = some .null ∧ h1 = h) := by
  refine Sp.of (by decide) rfl rfl (Nat.le_of_ble_eq_true rfl) ?_
  show Go N mX9_toldFactor _ 0 0 h 0 [(0, .ref (B + 0)), (1, .int (gI (a)))] []
  have s0 : h.2 (B + 0) = some (oB 9 [.ref (B + 1), .ref (B + 2), .ref (B + 3), .ref (B + 4), .ref (B + 7), .ref (B + 24), .ref (B + 27), .ref (B + 29), .ref (B + 31), .ref (B + 33), .null, .null]) := by rw [hs]; exact hL_get rfl
  refine g_aload_n 0 dX9_toldFactor_0 rfl ?_
  refine g_getf 10 dX9_toldFactor_1 kX9 (by decide) fX9_80 s0 rfl ?_
  refine g_ifnullN (x := 0) (tgt := 36) dX9_toldFactor_4 rfl ?_
  refine g_null dX9_toldFactor_36 ?_
  exact g_aret (a := none) dX9_toldFactor_37 rfl ⟨rfl, rfl⟩
set_option maxHeartbeats 4000000 in
set_option maxRecDepth 100000 in
theorem xapply (N : GN) (B : Nat) (h : GH) (hs : h = hL B (cS B)) (t : Int) (h_t : gW t) (a : Int) (h_a : gW a) (b : Int) (h_b : gW b) : Sp N yX9_apply mX9_apply 0 0 [.ref (B + 0), .int (gI (t)), .int (gI (a)), .int (gI (b))] h (fun r h1 => r = some (.int (gI (if t < 0 ∨ 13 < t then -2 else -1))) ∧ Mo B h1) := by
  refine Sp.of (by decide) rfl rfl (Nat.le_of_ble_eq_true rfl) ?_
  show Go N mX9_apply _ 0 0 h 0 [(0, .ref (B + 0)), (1, .int (gI (t))), (2, .int (gI (a))), (3, .int (gI (b)))] []
  have s0 : h.2 (B + 0) = some (oB 9 [.ref (B + 1), .ref (B + 2), .ref (B + 3), .ref (B + 4), .ref (B + 7), .ref (B + 24), .ref (B + 27), .ref (B + 29), .ref (B + 31), .ref (B + 33), .null, .null]) := by rw [hs]; exact hL_get rfl
  have hMo : Mo B h := by rw [hs]; exact Mo_of rfl
  refine g_iload_n 1 dX9_apply_0 rfl ?_
  refine g_if_lt (tgt := 10) dX9_apply_1 rfl (by unfold gW at *; omega) (fun c1 => ?_) (fun c1 => ?_)
  · skip
    refine g_bipush dX9_apply_10 (by decide) ?_
    exact g_iret dX9_apply_12 rfl ⟨by rw [if_pos (by omega)], hMo⟩
  · skip
    refine g_iload_n 1 dX9_apply_4 rfl ?_
    refine g_bipush dX9_apply_5 (by decide) ?_
    refine g_icmp_le (tgt := 13) dX9_apply_7 rfl (by unfold gW at *; omega) (by unfold gW at *; omega) (fun c2 => ?_) (fun c2 => ?_)
    · skip
      refine g_iload_n 1 dX9_apply_13 rfl ?_
      refine g_iconst dX9_apply_14 ?_
      refine g_icmp_eq (tgt := 30) dX9_apply_15 rfl (by unfold gW at *; omega) (by unfold gW at *; omega) (fun c3 => ?_) (fun c3 => ?_)
      · skip
        refine g_iconst dX9_apply_30 ?_
        refine g_goto (tgt := 35) dX9_apply_31 rfl ?_
        refine g_istore (ls2 := [(4, .int (gI (1))), (0, .ref (B + 0)), (1, .int (gI (t))), (2, .int (gI (a))), (3, .int (gI (b)))]) dX9_apply_35 (by decide) rfl ?_
        refine g_aload_n 1 dX9_apply_37 rfl ?_
        refine g_iload_n 3 dX9_apply_38 rfl ?_
        refine g_callV (nc2 := 0) (ns2 := 0) (ci := 9) (As := [.int (gI (a))]) (st := []) rfl dX9_apply_39 okX9_find lX9_107 itX9_find seX9_find rfl s0 (by decide) (by decide) rfl (Nat.le_of_ble_eq_true rfl) (xfind N B _ hs (a) (by assumption)) (by omega) (by omega) (fun v4 hc4 q4 => ?_)
        obtain ⟨rfl, hq5⟩ := q4
        refine Go.nf (h' := h) (st' := [.null]) hq5 rfl (Nat.le_refl _) (Nat.le_refl _) ?_
        refine g_astoreN (ls2 := [(5, .null), (4, .int (gI (1))), (0, .ref (B + 0)), (1, .int (gI (t))), (2, .int (gI (a))), (3, .int (gI (b)))]) dX9_apply_42 (by decide) rfl ?_
        refine g_iload 1 dX9_apply_44 rfl ?_
        refine g_if_eq (tgt := 54) dX9_apply_46 rfl (by unfold gW at *; omega) (fun c6 => ?_) (fun c6 => ?_)
        · skip
          refine g_aload_n 2 dX9_apply_54 rfl ?_
          refine g_iload_n 5 dX9_apply_55 rfl ?_
          refine g_callV (nc2 := 0) (ns2 := 0) (ci := 9) (As := [.int (gI (b))]) (st := []) rfl dX9_apply_56 okX9_find lX9_107 itX9_find seX9_find rfl s0 (by decide) (by decide) rfl (Nat.le_of_ble_eq_true rfl) (xfind N B _ hs (b) (by assumption)) (by omega) (by omega) (fun v7 hc7 q7 => ?_)
          obtain ⟨rfl, hq8⟩ := q7
          refine Go.nf (h' := h) (st' := [.null]) hq8 rfl (Nat.le_refl _) (Nat.le_refl _) ?_
          refine g_astoreN (ls2 := [(6, .null), (5, .null), (4, .int (gI (1))), (0, .ref (B + 0)), (1, .int (gI (t))), (2, .int (gI (a))), (3, .int (gI (b)))]) dX9_apply_59 (by decide) rfl ?_
          refine g_aloadN 1 dX9_apply_61 rfl ?_
          refine g_ifnullN (x := 0) (tgt := 71) dX9_apply_63 rfl ?_
          refine g_iconst dX9_apply_71 ?_
          exact g_iret dX9_apply_72 rfl ⟨by rw [if_neg (by omega)], hMo⟩
        · skip
          refine g_aloadN 0 dX9_apply_49 rfl ?_
          refine g_goto (tgt := 59) dX9_apply_51 rfl ?_
          refine g_astoreN (ls2 := [(6, .null), (5, .null), (4, .int (gI (1))), (0, .ref (B + 0)), (1, .int (gI (t))), (2, .int (gI (a))), (3, .int (gI (b)))]) dX9_apply_59 (by decide) rfl ?_
          refine g_aloadN 1 dX9_apply_61 rfl ?_
          refine g_ifnullN (x := 0) (tgt := 71) dX9_apply_63 rfl ?_
          refine g_iconst dX9_apply_71 ?_
          exact g_iret dX9_apply_72 rfl ⟨by rw [if_neg (by omega)], hMo⟩
      · skip
        refine g_iload_n 1 dX9_apply_18 rfl ?_
        refine g_bipush dX9_apply_19 (by decide) ?_
        refine g_icmp_eq (tgt := 30) dX9_apply_21 rfl (by unfold gW at *; omega) (by unfold gW at *; omega) (fun c9 => ?_) (fun c9 => ?_)
        · skip
          refine g_iconst dX9_apply_30 ?_
          refine g_goto (tgt := 35) dX9_apply_31 rfl ?_
          refine g_istore (ls2 := [(4, .int (gI (1))), (0, .ref (B + 0)), (1, .int (gI (t))), (2, .int (gI (a))), (3, .int (gI (b)))]) dX9_apply_35 (by decide) rfl ?_
          refine g_aload_n 1 dX9_apply_37 rfl ?_
          refine g_iload_n 3 dX9_apply_38 rfl ?_
          refine g_callV (nc2 := 0) (ns2 := 0) (ci := 9) (As := [.int (gI (a))]) (st := []) rfl dX9_apply_39 okX9_find lX9_107 itX9_find seX9_find rfl s0 (by decide) (by decide) rfl (Nat.le_of_ble_eq_true rfl) (xfind N B _ hs (a) (by assumption)) (by omega) (by omega) (fun v10 hc10 q10 => ?_)
          obtain ⟨rfl, hq11⟩ := q10
          refine Go.nf (h' := h) (st' := [.null]) hq11 rfl (Nat.le_refl _) (Nat.le_refl _) ?_
          refine g_astoreN (ls2 := [(5, .null), (4, .int (gI (1))), (0, .ref (B + 0)), (1, .int (gI (t))), (2, .int (gI (a))), (3, .int (gI (b)))]) dX9_apply_42 (by decide) rfl ?_
          refine g_iload 1 dX9_apply_44 rfl ?_
          refine g_if_eq (tgt := 54) dX9_apply_46 rfl (by unfold gW at *; omega) (fun c12 => ?_) (fun c12 => ?_)
          · skip
            refine g_aload_n 2 dX9_apply_54 rfl ?_
            refine g_iload_n 5 dX9_apply_55 rfl ?_
            refine g_callV (nc2 := 0) (ns2 := 0) (ci := 9) (As := [.int (gI (b))]) (st := []) rfl dX9_apply_56 okX9_find lX9_107 itX9_find seX9_find rfl s0 (by decide) (by decide) rfl (Nat.le_of_ble_eq_true rfl) (xfind N B _ hs (b) (by assumption)) (by omega) (by omega) (fun v13 hc13 q13 => ?_)
            obtain ⟨rfl, hq14⟩ := q13
            refine Go.nf (h' := h) (st' := [.null]) hq14 rfl (Nat.le_refl _) (Nat.le_refl _) ?_
            refine g_astoreN (ls2 := [(6, .null), (5, .null), (4, .int (gI (1))), (0, .ref (B + 0)), (1, .int (gI (t))), (2, .int (gI (a))), (3, .int (gI (b)))]) dX9_apply_59 (by decide) rfl ?_
            refine g_aloadN 1 dX9_apply_61 rfl ?_
            refine g_ifnullN (x := 0) (tgt := 71) dX9_apply_63 rfl ?_
            refine g_iconst dX9_apply_71 ?_
            exact g_iret dX9_apply_72 rfl ⟨by rw [if_neg (by omega)], hMo⟩
          · skip
            refine g_aloadN 0 dX9_apply_49 rfl ?_
            refine g_goto (tgt := 59) dX9_apply_51 rfl ?_
            refine g_astoreN (ls2 := [(6, .null), (5, .null), (4, .int (gI (1))), (0, .ref (B + 0)), (1, .int (gI (t))), (2, .int (gI (a))), (3, .int (gI (b)))]) dX9_apply_59 (by decide) rfl ?_
            refine g_aloadN 1 dX9_apply_61 rfl ?_
            refine g_ifnullN (x := 0) (tgt := 71) dX9_apply_63 rfl ?_
            refine g_iconst dX9_apply_71 ?_
            exact g_iret dX9_apply_72 rfl ⟨by rw [if_neg (by omega)], hMo⟩
        · skip
          refine g_iload_n 1 dX9_apply_24 rfl ?_
          refine g_bipush dX9_apply_25 (by decide) ?_
          refine g_icmp_ne (tgt := 34) dX9_apply_27 rfl (by unfold gW at *; omega) (by unfold gW at *; omega) (fun c15 => ?_) (fun c15 => ?_)
          · skip
            refine g_iconst dX9_apply_34 ?_
            refine g_istore (ls2 := [(4, .int (gI (0))), (0, .ref (B + 0)), (1, .int (gI (t))), (2, .int (gI (a))), (3, .int (gI (b)))]) dX9_apply_35 (by decide) rfl ?_
            refine g_aload_n 1 dX9_apply_37 rfl ?_
            refine g_iload_n 3 dX9_apply_38 rfl ?_
            refine g_callV (nc2 := 0) (ns2 := 0) (ci := 9) (As := [.int (gI (a))]) (st := []) rfl dX9_apply_39 okX9_find lX9_107 itX9_find seX9_find rfl s0 (by decide) (by decide) rfl (Nat.le_of_ble_eq_true rfl) (xfind N B _ hs (a) (by assumption)) (by omega) (by omega) (fun v16 hc16 q16 => ?_)
            obtain ⟨rfl, hq17⟩ := q16
            refine Go.nf (h' := h) (st' := [.null]) hq17 rfl (Nat.le_refl _) (Nat.le_refl _) ?_
            refine g_astoreN (ls2 := [(5, .null), (4, .int (gI (0))), (0, .ref (B + 0)), (1, .int (gI (t))), (2, .int (gI (a))), (3, .int (gI (b)))]) dX9_apply_42 (by decide) rfl ?_
            refine g_iload 1 dX9_apply_44 rfl ?_
            refine g_if_eq (tgt := 54) dX9_apply_46 rfl (by unfold gW at *; omega) (fun c18 => ?_) (fun c18 => ?_)
            · skip
              refine g_aload_n 2 dX9_apply_54 rfl ?_
              refine g_iload_n 5 dX9_apply_55 rfl ?_
              refine g_callV (nc2 := 0) (ns2 := 0) (ci := 9) (As := [.int (gI (b))]) (st := []) rfl dX9_apply_56 okX9_find lX9_107 itX9_find seX9_find rfl s0 (by decide) (by decide) rfl (Nat.le_of_ble_eq_true rfl) (xfind N B _ hs (b) (by assumption)) (by omega) (by omega) (fun v19 hc19 q19 => ?_)
              obtain ⟨rfl, hq20⟩ := q19
              refine Go.nf (h' := h) (st' := [.null]) hq20 rfl (Nat.le_refl _) (Nat.le_refl _) ?_
              refine g_astoreN (ls2 := [(6, .null), (5, .null), (4, .int (gI (0))), (0, .ref (B + 0)), (1, .int (gI (t))), (2, .int (gI (a))), (3, .int (gI (b)))]) dX9_apply_59 (by decide) rfl ?_
              refine g_aloadN 1 dX9_apply_61 rfl ?_
              refine g_ifnullN (x := 0) (tgt := 71) dX9_apply_63 rfl ?_
              refine g_iconst dX9_apply_71 ?_
              exact g_iret dX9_apply_72 rfl ⟨by rw [if_neg (by omega)], hMo⟩
            · skip
              refine g_aloadN 0 dX9_apply_49 rfl ?_
              refine g_goto (tgt := 59) dX9_apply_51 rfl ?_
              refine g_astoreN (ls2 := [(6, .null), (5, .null), (4, .int (gI (0))), (0, .ref (B + 0)), (1, .int (gI (t))), (2, .int (gI (a))), (3, .int (gI (b)))]) dX9_apply_59 (by decide) rfl ?_
              refine g_aloadN 1 dX9_apply_61 rfl ?_
              refine g_ifnullN (x := 0) (tgt := 71) dX9_apply_63 rfl ?_
              refine g_iconst dX9_apply_71 ?_
              exact g_iret dX9_apply_72 rfl ⟨by rw [if_neg (by omega)], hMo⟩
          · skip
            refine g_iconst dX9_apply_30 ?_
            refine g_goto (tgt := 35) dX9_apply_31 rfl ?_
            refine g_istore (ls2 := [(4, .int (gI (1))), (0, .ref (B + 0)), (1, .int (gI (t))), (2, .int (gI (a))), (3, .int (gI (b)))]) dX9_apply_35 (by decide) rfl ?_
            refine g_aload_n 1 dX9_apply_37 rfl ?_
            refine g_iload_n 3 dX9_apply_38 rfl ?_
            refine g_callV (nc2 := 0) (ns2 := 0) (ci := 9) (As := [.int (gI (a))]) (st := []) rfl dX9_apply_39 okX9_find lX9_107 itX9_find seX9_find rfl s0 (by decide) (by decide) rfl (Nat.le_of_ble_eq_true rfl) (xfind N B _ hs (a) (by assumption)) (by omega) (by omega) (fun v21 hc21 q21 => ?_)
            obtain ⟨rfl, hq22⟩ := q21
            refine Go.nf (h' := h) (st' := [.null]) hq22 rfl (Nat.le_refl _) (Nat.le_refl _) ?_
            refine g_astoreN (ls2 := [(5, .null), (4, .int (gI (1))), (0, .ref (B + 0)), (1, .int (gI (t))), (2, .int (gI (a))), (3, .int (gI (b)))]) dX9_apply_42 (by decide) rfl ?_
            refine g_iload 1 dX9_apply_44 rfl ?_
            refine g_if_eq (tgt := 54) dX9_apply_46 rfl (by unfold gW at *; omega) (fun c23 => ?_) (fun c23 => ?_)
            · skip
              refine g_aload_n 2 dX9_apply_54 rfl ?_
              refine g_iload_n 5 dX9_apply_55 rfl ?_
              refine g_callV (nc2 := 0) (ns2 := 0) (ci := 9) (As := [.int (gI (b))]) (st := []) rfl dX9_apply_56 okX9_find lX9_107 itX9_find seX9_find rfl s0 (by decide) (by decide) rfl (Nat.le_of_ble_eq_true rfl) (xfind N B _ hs (b) (by assumption)) (by omega) (by omega) (fun v24 hc24 q24 => ?_)
              obtain ⟨rfl, hq25⟩ := q24
              refine Go.nf (h' := h) (st' := [.null]) hq25 rfl (Nat.le_refl _) (Nat.le_refl _) ?_
              refine g_astoreN (ls2 := [(6, .null), (5, .null), (4, .int (gI (1))), (0, .ref (B + 0)), (1, .int (gI (t))), (2, .int (gI (a))), (3, .int (gI (b)))]) dX9_apply_59 (by decide) rfl ?_
              refine g_aloadN 1 dX9_apply_61 rfl ?_
              refine g_ifnullN (x := 0) (tgt := 71) dX9_apply_63 rfl ?_
              refine g_iconst dX9_apply_71 ?_
              exact g_iret dX9_apply_72 rfl ⟨by rw [if_neg (by omega)], hMo⟩
            · skip
              refine g_aloadN 0 dX9_apply_49 rfl ?_
              refine g_goto (tgt := 59) dX9_apply_51 rfl ?_
              refine g_astoreN (ls2 := [(6, .null), (5, .null), (4, .int (gI (1))), (0, .ref (B + 0)), (1, .int (gI (t))), (2, .int (gI (a))), (3, .int (gI (b)))]) dX9_apply_59 (by decide) rfl ?_
              refine g_aloadN 1 dX9_apply_61 rfl ?_
              refine g_ifnullN (x := 0) (tgt := 71) dX9_apply_63 rfl ?_
              refine g_iconst dX9_apply_71 ?_
              exact g_iret dX9_apply_72 rfl ⟨by rw [if_neg (by omega)], hMo⟩
    · skip
      refine g_bipush dX9_apply_10 (by decide) ?_
      exact g_iret dX9_apply_12 rfl ⟨by rw [if_pos (by omega)], hMo⟩
set_option maxHeartbeats 4000000 in
set_option maxRecDepth 100000 in
theorem xplus (N : GN) (B : Nat) (h : GH) (hs : h = hL B (cS B)) (a : Int) (h_a : gW a) (c : Int) (h_c : gX c) (i : Int) (h_i : gW i) (j : Int) (h_j : gW j) : Sp N yX9_plus mX9_plus 0 0 [.ref (B + 0), .int (gI (a)), .long (gJ (c)), .int (gI (i)), .int (gI (j))] h (fun r h1 => r = some (.int (gI (-1))) ∧ Mo B h1) := by
  refine Sp.of (by decide) rfl rfl (Nat.le_of_ble_eq_true rfl) ?_
  show Go N mX9_plus _ 0 0 h 0 [(0, .ref (B + 0)), (1, .int (gI (a))), (2, .long (gJ (c))), (4, .int (gI (i))), (5, .int (gI (j)))] []
  have s0 : h.2 (B + 0) = some (oB 9 [.ref (B + 1), .ref (B + 2), .ref (B + 3), .ref (B + 4), .ref (B + 7), .ref (B + 24), .ref (B + 27), .ref (B + 29), .ref (B + 31), .ref (B + 33), .null, .null]) := by rw [hs]; exact hL_get rfl
  have hMo : Mo B h := by rw [hs]; exact Mo_of rfl
  refine g_aload_n 0 dX9_plus_0 rfl ?_
  refine g_iload_n 1 dX9_plus_1 rfl ?_
  refine g_callV (nc2 := 0) (ns2 := 0) (ci := 9) (As := [.int (gI (a))]) (st := []) rfl dX9_plus_2 okX9_find lX9_107 itX9_find seX9_find rfl s0 (by decide) (by decide) rfl (Nat.le_of_ble_eq_true rfl) (xfind N B _ hs (a) (by assumption)) (by omega) (by omega) (fun v1 hc1 q1 => ?_)
  obtain ⟨rfl, hq2⟩ := q1
  refine Go.nf (h' := h) (st' := [.null]) hq2 rfl (Nat.le_refl _) (Nat.le_refl _) ?_
  refine g_astoreN (ls2 := [(6, .null), (0, .ref (B + 0)), (1, .int (gI (a))), (2, .long (gJ (c))), (4, .int (gI (i))), (5, .int (gI (j)))]) dX9_plus_5 (by decide) rfl ?_
  refine g_aloadN 0 dX9_plus_7 rfl ?_
  refine g_ifnnN (x := 0) (tgt := 14) dX9_plus_9 rfl ?_
  refine g_iconst dX9_plus_12 ?_
  exact g_iret dX9_plus_13 rfl ⟨rfl, hMo⟩
set_option maxHeartbeats 4000000 in
set_option maxRecDepth 100000 in
theorem xpower (N : GN) (B : Nat) (h : GH) (hs : h = hL B (cS B)) (a : Int) (h_a : gW a) (n : Int) (h_n : gX n) (b : Int) (h_b : gW b) : Sp N yX9_power mX9_power 0 0 [.ref (B + 0), .int (gI (a)), .long (gJ (n)), .int (gI (b))] h (fun r h1 => r = some (.int (gI (-1))) ∧ Mo B h1) := by
  refine Sp.of (by decide) rfl rfl (Nat.le_of_ble_eq_true rfl) ?_
  show Go N mX9_power _ 0 0 h 0 [(0, .ref (B + 0)), (1, .int (gI (a))), (2, .long (gJ (n))), (4, .int (gI (b)))] []
  have s0 : h.2 (B + 0) = some (oB 9 [.ref (B + 1), .ref (B + 2), .ref (B + 3), .ref (B + 4), .ref (B + 7), .ref (B + 24), .ref (B + 27), .ref (B + 29), .ref (B + 31), .ref (B + 33), .null, .null]) := by rw [hs]; exact hL_get rfl
  have hMo : Mo B h := by rw [hs]; exact Mo_of rfl
  refine g_aload_n 0 dX9_power_0 rfl ?_
  refine g_iload_n 1 dX9_power_1 rfl ?_
  refine g_callV (nc2 := 0) (ns2 := 0) (ci := 9) (As := [.int (gI (a))]) (st := []) rfl dX9_power_2 okX9_find lX9_107 itX9_find seX9_find rfl s0 (by decide) (by decide) rfl (Nat.le_of_ble_eq_true rfl) (xfind N B _ hs (a) (by assumption)) (by omega) (by omega) (fun v1 hc1 q1 => ?_)
  obtain ⟨rfl, hq2⟩ := q1
  refine Go.nf (h' := h) (st' := [.null]) hq2 rfl (Nat.le_refl _) (Nat.le_refl _) ?_
  refine g_astoreN (ls2 := [(5, .null), (0, .ref (B + 0)), (1, .int (gI (a))), (2, .long (gJ (n))), (4, .int (gI (b)))]) dX9_power_5 (by decide) rfl ?_
  refine g_aload_n 1 dX9_power_7 rfl ?_
  refine g_iload 4 dX9_power_8 rfl ?_
  refine g_callV (nc2 := 0) (ns2 := 0) (ci := 9) (As := [.int (gI (b))]) (st := []) rfl dX9_power_10 okX9_find lX9_107 itX9_find seX9_find rfl s0 (by decide) (by decide) rfl (Nat.le_of_ble_eq_true rfl) (xfind N B _ hs (b) (by assumption)) (by omega) (by omega) (fun v3 hc3 q3 => ?_)
  obtain ⟨rfl, hq4⟩ := q3
  refine Go.nf (h' := h) (st' := [.null]) hq4 rfl (Nat.le_refl _) (Nat.le_refl _) ?_
  refine g_astoreN (ls2 := [(6, .null), (5, .null), (0, .ref (B + 0)), (1, .int (gI (a))), (2, .long (gJ (n))), (4, .int (gI (b)))]) dX9_power_13 (by decide) rfl ?_
  refine g_aloadN 1 dX9_power_15 rfl ?_
  refine g_ifnullN (x := 0) (tgt := 25) dX9_power_17 rfl ?_
  refine g_iconst dX9_power_25 ?_
  exact g_iret dX9_power_26 rfl ⟨rfl, hMo⟩
set_option maxHeartbeats 4000000 in
set_option maxRecDepth 100000 in
theorem xat (N : GN) (B : Nat) (h : GH) (hs : h = hL B (cS B)) (a : Int) (h_a : gW a) (i : Int) (h_i : gW i) (j : Int) (h_j : gW j) : Sp N yX9_at mX9_at 0 0 [.ref (B + 0), .int (gI (a)), .int (gI (i)), .int (gI (j))] h (fun r h1 => r = some (.int (gI (-1))) ∧ Mo B h1) := by
  refine Sp.of (by decide) rfl rfl (Nat.le_of_ble_eq_true rfl) ?_
  show Go N mX9_at _ 0 0 h 0 [(0, .ref (B + 0)), (1, .int (gI (a))), (2, .int (gI (i))), (3, .int (gI (j)))] []
  have s0 : h.2 (B + 0) = some (oB 9 [.ref (B + 1), .ref (B + 2), .ref (B + 3), .ref (B + 4), .ref (B + 7), .ref (B + 24), .ref (B + 27), .ref (B + 29), .ref (B + 31), .ref (B + 33), .null, .null]) := by rw [hs]; exact hL_get rfl
  have hMo : Mo B h := by rw [hs]; exact Mo_of rfl
  refine g_aload_n 0 dX9_at_0 rfl ?_
  refine g_iload_n 1 dX9_at_1 rfl ?_
  refine g_callV (nc2 := 0) (ns2 := 0) (ci := 9) (As := [.int (gI (a))]) (st := []) rfl dX9_at_2 okX9_find lX9_107 itX9_find seX9_find rfl s0 (by decide) (by decide) rfl (Nat.le_of_ble_eq_true rfl) (xfind N B _ hs (a) (by assumption)) (by omega) (by omega) (fun v1 hc1 q1 => ?_)
  obtain ⟨rfl, hq2⟩ := q1
  refine Go.nf (h' := h) (st' := [.null]) hq2 rfl (Nat.le_refl _) (Nat.le_refl _) ?_
  refine g_astoreN (ls2 := [(4, .null), (0, .ref (B + 0)), (1, .int (gI (a))), (2, .int (gI (i))), (3, .int (gI (j)))]) dX9_at_5 (by decide) rfl ?_
  refine g_aloadN 0 dX9_at_7 rfl ?_
  refine g_ifnullN (x := 0) (tgt := 20) dX9_at_9 rfl ?_
  refine g_iconst dX9_at_20 ?_
  exact g_iret dX9_at_21 rfl ⟨rfl, hMo⟩
set_option maxHeartbeats 4000000 in
set_option maxRecDepth 100000 in
theorem xdegree (N : GN) (B : Nat) (h : GH) (hs : h = hL B (cS B)) (a : Int) (h_a : gW a) (b : Int) (h_b : gW b) : Sp N yX9_degree mX9_degree 0 0 [.ref (B + 0), .int (gI (a)), .int (gI (b))] h (fun r h1 => r = some (.int (gI (-2))) ∧ Mo B h1) := by
  refine Sp.of (by decide) rfl rfl (Nat.le_of_ble_eq_true rfl) ?_
  show Go N mX9_degree _ 0 0 h 0 [(0, .ref (B + 0)), (1, .int (gI (a))), (2, .int (gI (b)))] []
  have s0 : h.2 (B + 0) = some (oB 9 [.ref (B + 1), .ref (B + 2), .ref (B + 3), .ref (B + 4), .ref (B + 7), .ref (B + 24), .ref (B + 27), .ref (B + 29), .ref (B + 31), .ref (B + 33), .null, .null]) := by rw [hs]; exact hL_get rfl
  have hMo : Mo B h := by rw [hs]; exact Mo_of rfl
  refine g_aload_n 0 dX9_degree_0 rfl ?_
  refine g_iload_n 1 dX9_degree_1 rfl ?_
  refine g_callV (nc2 := 0) (ns2 := 0) (ci := 9) (As := [.int (gI (a))]) (st := []) rfl dX9_degree_2 okX9_find lX9_107 itX9_find seX9_find rfl s0 (by decide) (by decide) rfl (Nat.le_of_ble_eq_true rfl) (xfind N B _ hs (a) (by assumption)) (by omega) (by omega) (fun v1 hc1 q1 => ?_)
  obtain ⟨rfl, hq2⟩ := q1
  refine Go.nf (h' := h) (st' := [.null]) hq2 rfl (Nat.le_refl _) (Nat.le_refl _) ?_
  refine g_astore_nN (ls2 := [(3, .null), (0, .ref (B + 0)), (1, .int (gI (a))), (2, .int (gI (b)))]) dX9_degree_5 rfl (by decide) rfl ?_
  refine g_aload_nN 0 dX9_degree_6 rfl ?_
  refine g_ifnullN (x := 0) (tgt := 19) dX9_degree_7 rfl ?_
  refine g_bipush dX9_degree_19 (by decide) ?_
  exact g_iret dX9_degree_21 rfl ⟨rfl, hMo⟩
set_option maxHeartbeats 4000000 in
set_option maxRecDepth 100000 in
theorem xvalue (N : GN) (B : Nat) (h : GH) (hs : h = hL B (cS B)) (a : Int) (h_a : gW a) (c : Int) (h_c : gX c) (d : Int) (h_d : gX d) : Sp N yX9_value mX9_value 0 0 [.ref (B + 0), .int (gI (a)), .long (gJ (c)), .long (gJ (d))] h (fun r h1 => r = some (.int (gI (-1))) ∧ Mo B h1) := by
  refine Sp.of (by decide) rfl rfl (Nat.le_of_ble_eq_true rfl) ?_
  show Go N mX9_value _ 0 0 h 0 [(0, .ref (B + 0)), (1, .int (gI (a))), (2, .long (gJ (c))), (4, .long (gJ (d)))] []
  have s0 : h.2 (B + 0) = some (oB 9 [.ref (B + 1), .ref (B + 2), .ref (B + 3), .ref (B + 4), .ref (B + 7), .ref (B + 24), .ref (B + 27), .ref (B + 29), .ref (B + 31), .ref (B + 33), .null, .null]) := by rw [hs]; exact hL_get rfl
  have hMo : Mo B h := by rw [hs]; exact Mo_of rfl
  refine g_aload_n 0 dX9_value_0 rfl ?_
  refine g_iload_n 1 dX9_value_1 rfl ?_
  refine g_callV (nc2 := 0) (ns2 := 0) (ci := 9) (As := [.int (gI (a))]) (st := []) rfl dX9_value_2 okX9_find lX9_107 itX9_find seX9_find rfl s0 (by decide) (by decide) rfl (Nat.le_of_ble_eq_true rfl) (xfind N B _ hs (a) (by assumption)) (by omega) (by omega) (fun v1 hc1 q1 => ?_)
  obtain ⟨rfl, hq2⟩ := q1
  refine Go.nf (h' := h) (st' := [.null]) hq2 rfl (Nat.le_refl _) (Nat.le_refl _) ?_
  refine g_astoreN (ls2 := [(6, .null), (0, .ref (B + 0)), (1, .int (gI (a))), (2, .long (gJ (c))), (4, .long (gJ (d)))]) dX9_value_5 (by decide) rfl ?_
  refine g_aloadN 0 dX9_value_7 rfl ?_
  refine g_ifnnN (x := 0) (tgt := 14) dX9_value_9 rfl ?_
  refine g_iconst dX9_value_12 ?_
  exact g_iret dX9_value_13 rfl ⟨rfl, hMo⟩
set_option maxHeartbeats 4000000 in
set_option maxRecDepth 100000 in
theorem xsame (N : GN) (B : Nat) (h : GH) (hs : h = hL B (cS B)) (a : Int) (h_a : gW a) (b : Int) (h_b : gW b) : Sp N yX9_same mX9_same 0 0 [.ref (B + 0), .int (gI (a)), .int (gI (b))] h (fun r h1 => r = some (.int (gI (0))) ∧ Mo B h1) := by
  refine Sp.of (by decide) rfl rfl (Nat.le_of_ble_eq_true rfl) ?_
  show Go N mX9_same _ 0 0 h 0 [(0, .ref (B + 0)), (1, .int (gI (a))), (2, .int (gI (b)))] []
  have s0 : h.2 (B + 0) = some (oB 9 [.ref (B + 1), .ref (B + 2), .ref (B + 3), .ref (B + 4), .ref (B + 7), .ref (B + 24), .ref (B + 27), .ref (B + 29), .ref (B + 31), .ref (B + 33), .null, .null]) := by rw [hs]; exact hL_get rfl
  have hMo : Mo B h := by rw [hs]; exact Mo_of rfl
  refine g_aload_n 0 dX9_same_0 rfl ?_
  refine g_iload_n 1 dX9_same_1 rfl ?_
  refine g_callV (nc2 := 0) (ns2 := 0) (ci := 9) (As := [.int (gI (a))]) (st := []) rfl dX9_same_2 okX9_find lX9_107 itX9_find seX9_find rfl s0 (by decide) (by decide) rfl (Nat.le_of_ble_eq_true rfl) (xfind N B _ hs (a) (by assumption)) (by omega) (by omega) (fun v1 hc1 q1 => ?_)
  obtain ⟨rfl, hq2⟩ := q1
  refine Go.nf (h' := h) (st' := [.null]) hq2 rfl (Nat.le_refl _) (Nat.le_refl _) ?_
  refine g_astore_nN (ls2 := [(3, .null), (0, .ref (B + 0)), (1, .int (gI (a))), (2, .int (gI (b)))]) dX9_same_5 rfl (by decide) rfl ?_
  refine g_aload_n 1 dX9_same_6 rfl ?_
  refine g_iload_n 3 dX9_same_7 rfl ?_
  refine g_callV (nc2 := 0) (ns2 := 0) (ci := 9) (As := [.int (gI (b))]) (st := []) rfl dX9_same_8 okX9_find lX9_107 itX9_find seX9_find rfl s0 (by decide) (by decide) rfl (Nat.le_of_ble_eq_true rfl) (xfind N B _ hs (b) (by assumption)) (by omega) (by omega) (fun v3 hc3 q3 => ?_)
  obtain ⟨rfl, hq4⟩ := q3
  refine Go.nf (h' := h) (st' := [.null]) hq4 rfl (Nat.le_refl _) (Nat.le_refl _) ?_
  refine g_astoreN (ls2 := [(4, .null), (3, .null), (0, .ref (B + 0)), (1, .int (gI (a))), (2, .int (gI (b)))]) dX9_same_11 (by decide) rfl ?_
  refine g_aload_nN 1 dX9_same_13 rfl ?_
  refine g_ifnullN (x := 0) (tgt := 35) dX9_same_14 rfl ?_
  refine g_iconst dX9_same_35 ?_
  exact g_zret dX9_same_36 rfl (by omega) ⟨rfl, hMo⟩
set_option maxHeartbeats 4000000 in
set_option maxRecDepth 100000 in
theorem xdrop (N : GN) (B : Nat) (h : GH) (hs : h = hL B (cS B)) (a : Int) (h_a : gW a) : Sp N yX9_drop mX9_drop 0 0 [.ref (B + 0), .int (gI (a))] h (fun r h1 => r = some (.int (gI (0))) ∧ Mo B h1) := by
  refine Sp.of (by decide) rfl rfl (Nat.le_of_ble_eq_true rfl) ?_
  show Go N mX9_drop _ 0 0 h 0 [(0, .ref (B + 0)), (1, .int (gI (a)))] []
  have s0 : h.2 (B + 0) = some (oB 9 [.ref (B + 1), .ref (B + 2), .ref (B + 3), .ref (B + 4), .ref (B + 7), .ref (B + 24), .ref (B + 27), .ref (B + 29), .ref (B + 31), .ref (B + 33), .null, .null]) := by rw [hs]; exact hL_get rfl
  have hMo : Mo B h := by rw [hs]; exact Mo_of rfl
  refine g_aload_n 0 dX9_drop_0 rfl ?_
  refine g_iload_n 1 dX9_drop_1 rfl ?_
  refine g_callV (nc2 := 0) (ns2 := 0) (ci := 9) (As := [.int (gI (a))]) (st := []) rfl dX9_drop_2 okX9_find lX9_107 itX9_find seX9_find rfl s0 (by decide) (by decide) rfl (Nat.le_of_ble_eq_true rfl) (xfind N B _ hs (a) (by assumption)) (by omega) (by omega) (fun v1 hc1 q1 => ?_)
  obtain ⟨rfl, hq2⟩ := q1
  refine Go.nf (h' := h) (st' := [.null]) hq2 rfl (Nat.le_refl _) (Nat.le_refl _) ?_
  refine g_ifnnN (x := 0) (tgt := 10) dX9_drop_5 rfl ?_
  refine g_iconst dX9_drop_8 ?_
  exact g_zret dX9_drop_9 rfl (by omega) ⟨rfl, hMo⟩
set_option maxHeartbeats 4000000 in
set_option maxRecDepth 100000 in
theorem xfactor (N : GN) (B : Nat) (h : GH) (hs : h = hL B (cS B)) (a : Int) (h_a : gW a) : Sp N yX9_factor mX9_factor 0 0 [.ref (B + 0), .int (gI (a))] h (fun r h1 => r = some (.int (gI (-1))) ∧ Mo B h1) := by
  refine Sp.of (by decide) rfl rfl (Nat.le_of_ble_eq_true rfl) ?_
  show Go N mX9_factor _ 0 0 h 0 [(0, .ref (B + 0)), (1, .int (gI (a)))] []
  have s0 : h.2 (B + 0) = some (oB 9 [.ref (B + 1), .ref (B + 2), .ref (B + 3), .ref (B + 4), .ref (B + 7), .ref (B + 24), .ref (B + 27), .ref (B + 29), .ref (B + 31), .ref (B + 33), .null, .null]) := by rw [hs]; exact hL_get rfl
  have hMo : Mo B h := by rw [hs]; exact Mo_of rfl
  refine g_aload_n 0 dX9_factor_0 rfl ?_
  refine g_iload_n 1 dX9_factor_1 rfl ?_
  refine g_callV (nc2 := 0) (ns2 := 0) (ci := 9) (As := [.int (gI (a))]) (st := []) rfl dX9_factor_2 okX9_find lX9_107 itX9_find seX9_find rfl s0 (by decide) (by decide) rfl (Nat.le_of_ble_eq_true rfl) (xfind N B _ hs (a) (by assumption)) (by omega) (by omega) (fun v1 hc1 q1 => ?_)
  obtain ⟨rfl, hq2⟩ := q1
  refine Go.nf (h' := h) (st' := [.null]) hq2 rfl (Nat.le_refl _) (Nat.le_refl _) ?_
  refine g_astore_nN (ls2 := [(2, .null), (0, .ref (B + 0)), (1, .int (gI (a)))]) dX9_factor_5 rfl (by decide) rfl ?_
  refine g_aload_nN 0 dX9_factor_6 rfl ?_
  refine g_ifnnN (x := 0) (tgt := 12) dX9_factor_7 rfl ?_
  refine g_iconst dX9_factor_10 ?_
  exact g_iret dX9_factor_11 rfl ⟨rfl, hMo⟩
set_option maxHeartbeats 4000000 in
set_option maxRecDepth 100000 in
theorem xfactorOf (N : GN) (B : Nat) (h : GH) (hs : h = hL B (cS B)) (a : Int) (h_a : gW a) (b : Int) (h_b : gW b) : Sp N yX9_factorOf mX9_factorOf 0 0 [.ref (B + 0), .int (gI (a)), .int (gI (b))] h (fun r h1 => r = some (.int (gI (-1))) ∧ Mo B h1) := by
  refine Sp.of (by decide) rfl rfl (Nat.le_of_ble_eq_true rfl) ?_
  show Go N mX9_factorOf _ 0 0 h 0 [(0, .ref (B + 0)), (1, .int (gI (a))), (2, .int (gI (b)))] []
  have s0 : h.2 (B + 0) = some (oB 9 [.ref (B + 1), .ref (B + 2), .ref (B + 3), .ref (B + 4), .ref (B + 7), .ref (B + 24), .ref (B + 27), .ref (B + 29), .ref (B + 31), .ref (B + 33), .null, .null]) := by rw [hs]; exact hL_get rfl
  have hMo : Mo B h := by rw [hs]; exact Mo_of rfl
  refine g_aload_n 0 dX9_factorOf_0 rfl ?_
  refine g_iload_n 1 dX9_factorOf_1 rfl ?_
  refine g_callV (nc2 := 0) (ns2 := 0) (ci := 9) (As := [.int (gI (a))]) (st := []) rfl dX9_factorOf_2 okX9_toldFactor lX9_167 itX9_toldFactor seX9_toldFactor rfl s0 (by decide) (by decide) rfl (Nat.le_of_ble_eq_true rfl) (xtold N B _ hs (a)) (by omega) (by omega) (fun v1 hc1 q1 => ?_)
  obtain ⟨rfl, hq2⟩ := q1
  refine Go.nf (h' := h) (st' := [.null]) hq2 rfl (Nat.le_refl _) (Nat.le_refl _) ?_
  refine g_astore_nN (ls2 := [(3, .null), (0, .ref (B + 0)), (1, .int (gI (a))), (2, .int (gI (b)))]) dX9_factorOf_5 rfl (by decide) rfl ?_
  refine g_aload_nN 0 dX9_factorOf_6 rfl ?_
  refine g_ifnullN (x := 0) (tgt := 19) dX9_factorOf_7 rfl ?_
  refine g_iconst dX9_factorOf_19 ?_
  exact g_iret dX9_factorOf_20 rfl ⟨rfl, hMo⟩
set_option maxHeartbeats 4000000 in
set_option maxRecDepth 100000 in
theorem xfactorAt (N : GN) (B : Nat) (h : GH) (hs : h = hL B (cS B)) (a : Int) (h_a : gW a) (b : Int) (h_b : gW b) : Sp N yX9_factorAt mX9_factorAt 0 0 [.ref (B + 0), .int (gI (a)), .int (gI (b))] h (fun r h1 => r = some (.int (gI (-1))) ∧ Mo B h1) := by
  refine Sp.of (by decide) rfl rfl (Nat.le_of_ble_eq_true rfl) ?_
  show Go N mX9_factorAt _ 0 0 h 0 [(0, .ref (B + 0)), (1, .int (gI (a))), (2, .int (gI (b)))] []
  have s0 : h.2 (B + 0) = some (oB 9 [.ref (B + 1), .ref (B + 2), .ref (B + 3), .ref (B + 4), .ref (B + 7), .ref (B + 24), .ref (B + 27), .ref (B + 29), .ref (B + 31), .ref (B + 33), .null, .null]) := by rw [hs]; exact hL_get rfl
  have hMo : Mo B h := by rw [hs]; exact Mo_of rfl
  refine g_aload_n 0 dX9_factorAt_0 rfl ?_
  refine g_iload_n 1 dX9_factorAt_1 rfl ?_
  refine g_callV (nc2 := 0) (ns2 := 0) (ci := 9) (As := [.int (gI (a))]) (st := []) rfl dX9_factorAt_2 okX9_toldFactor lX9_167 itX9_toldFactor seX9_toldFactor rfl s0 (by decide) (by decide) rfl (Nat.le_of_ble_eq_true rfl) (xtold N B _ hs (a)) (by omega) (by omega) (fun v1 hc1 q1 => ?_)
  obtain ⟨rfl, hq2⟩ := q1
  refine Go.nf (h' := h) (st' := [.null]) hq2 rfl (Nat.le_refl _) (Nat.le_refl _) ?_
  refine g_astore_nN (ls2 := [(3, .null), (0, .ref (B + 0)), (1, .int (gI (a))), (2, .int (gI (b)))]) dX9_factorAt_5 rfl (by decide) rfl ?_
  refine g_aload_nN 0 dX9_factorAt_6 rfl ?_
  refine g_ifnullN (x := 0) (tgt := 20) dX9_factorAt_7 rfl ?_
  refine g_iconst dX9_factorAt_20 ?_
  exact g_iret dX9_factorAt_21 rfl ⟨rfl, hMo⟩
set_option maxHeartbeats 4000000 in
set_option maxRecDepth 100000 in
theorem xtake (N : GN) (B : Nat) (h : GH) (hs : h = hL B (cS B)) (a : Int) (h_a : gW a) : Sp N yX9_take mX9_take 0 0 [.ref (B + 0), .int (gI (a))] h (fun r h1 => r = some (.int (gI (-1))) ∧ Mo B h1) := by
  refine Sp.of (by decide) rfl rfl (Nat.le_of_ble_eq_true rfl) ?_
  show Go N mX9_take _ 0 0 h 0 [(0, .ref (B + 0)), (1, .int (gI (a)))] []
  have s0 : h.2 (B + 0) = some (oB 9 [.ref (B + 1), .ref (B + 2), .ref (B + 3), .ref (B + 4), .ref (B + 7), .ref (B + 24), .ref (B + 27), .ref (B + 29), .ref (B + 31), .ref (B + 33), .null, .null]) := by rw [hs]; exact hL_get rfl
  have hMo : Mo B h := by rw [hs]; exact Mo_of rfl
  refine g_aload_n 0 dX9_take_0 rfl ?_
  refine g_iload_n 1 dX9_take_1 rfl ?_
  refine g_callV (nc2 := 0) (ns2 := 0) (ci := 9) (As := [.int (gI (a))]) (st := []) rfl dX9_take_2 okX9_toldFactor lX9_167 itX9_toldFactor seX9_toldFactor rfl s0 (by decide) (by decide) rfl (Nat.le_of_ble_eq_true rfl) (xtold N B _ hs (a)) (by omega) (by omega) (fun v1 hc1 q1 => ?_)
  obtain ⟨rfl, hq2⟩ := q1
  refine Go.nf (h' := h) (st' := [.null]) hq2 rfl (Nat.le_refl _) (Nat.le_refl _) ?_
  refine g_astore_nN (ls2 := [(2, .null), (0, .ref (B + 0)), (1, .int (gI (a)))]) dX9_take_5 rfl (by decide) rfl ?_
  refine g_aload_nN 0 dX9_take_6 rfl ?_
  refine g_ifnnN (x := 0) (tgt := 12) dX9_take_7 rfl ?_
  refine g_iconst dX9_take_10 ?_
  exact g_iret dX9_take_11 rfl ⟨rfl, hMo⟩
set_option maxHeartbeats 4000000 in
set_option maxRecDepth 100000 in
theorem xtoldw (N : GN) (B : Nat) (h : GH) (hs : h = hL B (cS B)) (a : Int) (h_a : gW a) : Sp N yX9_told mX9_told 0 0 [.ref (B + 0), .int (gI (a))] h (fun r h1 => r = some (.int (gI (-1))) ∧ Mo B h1) := by
  refine Sp.of (by decide) rfl rfl (Nat.le_of_ble_eq_true rfl) ?_
  show Go N mX9_told _ 0 0 h 0 [(0, .ref (B + 0)), (1, .int (gI (a)))] []
  have s0 : h.2 (B + 0) = some (oB 9 [.ref (B + 1), .ref (B + 2), .ref (B + 3), .ref (B + 4), .ref (B + 7), .ref (B + 24), .ref (B + 27), .ref (B + 29), .ref (B + 31), .ref (B + 33), .null, .null]) := by rw [hs]; exact hL_get rfl
  have hMo : Mo B h := by rw [hs]; exact Mo_of rfl
  refine g_aload_n 0 dX9_told_0 rfl ?_
  refine g_getf 10 dX9_told_1 kX9 (by decide) fX9_80 s0 rfl ?_
  refine g_ifnullN (x := 0) (tgt := 17) dX9_told_4 rfl ?_
  refine g_iconst dX9_told_17 ?_
  exact g_iret dX9_told_18 rfl ⟨rfl, hMo⟩
set_option maxHeartbeats 4000000 in
set_option maxRecDepth 100000 in
theorem xpart (N : GN) (B : Nat) (h : GH) (hs : h = hL B (cS B)) (a : Int) (h_a : gW a) (b : Int) (h_b : gW b) : Sp N yX9_part mX9_part 0 0 [.ref (B + 0), .int (gI (a)), .int (gI (b))] h (fun r h1 => r = some (.int (gI (-1))) ∧ Mo B h1) := by
  refine Sp.of (by decide) rfl rfl (Nat.le_of_ble_eq_true rfl) ?_
  show Go N mX9_part _ 0 0 h 0 [(0, .ref (B + 0)), (1, .int (gI (a))), (2, .int (gI (b)))] []
  have s0 : h.2 (B + 0) = some (oB 9 [.ref (B + 1), .ref (B + 2), .ref (B + 3), .ref (B + 4), .ref (B + 7), .ref (B + 24), .ref (B + 27), .ref (B + 29), .ref (B + 31), .ref (B + 33), .null, .null]) := by rw [hs]; exact hL_get rfl
  have hMo : Mo B h := by rw [hs]; exact Mo_of rfl
  refine g_aload_n 0 dX9_part_0 rfl ?_
  refine g_getf 10 dX9_part_1 kX9 (by decide) fX9_80 s0 rfl ?_
  refine g_ifnullN (x := 0) (tgt := 32) dX9_part_4 rfl ?_
  refine g_iconst dX9_part_32 ?_
  exact g_iret dX9_part_33 rfl ⟨rfl, hMo⟩
set_option maxHeartbeats 4000000 in
set_option maxRecDepth 100000 in
theorem xroot (N : GN) (B : Nat) (h : GH) (hs : h = hL B (cS B)) (a : Int) (h_a : gW a) : Sp N yX9_root mX9_root 0 0 [.ref (B + 0), .int (gI (a))] h (fun r h1 => r = some (.int (gI (-1))) ∧ Mo B h1) := by
  refine Sp.of (by decide) rfl rfl (Nat.le_of_ble_eq_true rfl) ?_
  show Go N mX9_root _ 0 0 h 0 [(0, .ref (B + 0)), (1, .int (gI (a)))] []
  have s0 : h.2 (B + 0) = some (oB 9 [.ref (B + 1), .ref (B + 2), .ref (B + 3), .ref (B + 4), .ref (B + 7), .ref (B + 24), .ref (B + 27), .ref (B + 29), .ref (B + 31), .ref (B + 33), .null, .null]) := by rw [hs]; exact hL_get rfl
  have hMo : Mo B h := by rw [hs]; exact Mo_of rfl
  refine g_aload_n 0 dX9_root_0 rfl ?_
  refine g_getf 10 dX9_root_1 kX9 (by decide) fX9_80 s0 rfl ?_
  refine g_ifnullN (x := 0) (tgt := 22) dX9_root_4 rfl ?_
  refine g_iconst dX9_root_22 ?_
  exact g_iret dX9_root_23 rfl ⟨rfl, hMo⟩
