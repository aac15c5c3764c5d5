set_option maxHeartbeats 4000000 in
set_option maxRecDepth 100000 in
theorem mclear (N : GN) (B : Nat) (h : GH) (g : Int → Int) (s35 : h.2 (B + 35) = some (oB 10 [.int (gI (2)), .ref (B + 36), .ref (B + 37), .ref (B + 38), .ref (B + 39), .ref (B + 40), .ref (B + 41), .ref (B + 42), .ref (B + 43), .int (gI (0)), .int (gI (0)), .int (gI (0)), .ref (B + 44), .ref (B + 45), .ref (B + 46), .int (gI (0)), .ref (B + 47), .ref (B + 48), .ref (B + 49), .int (gI (0)), .ref (B + 50), .int (gI (0)), .ref (B + 51), .ref (B + 52), .ref (B + 53), .ref (B + 54), .ref (B + 55), .int (gI (0)), .ref (B + 56), .ref (B + 57)])) (s38 : h.2 (B + 38) = some (aI 1500 g)) : Sp N yX10_clear mX10_clear 0 0 [.ref (B + 35)] h (fun r h1 => r = none ∧ h1 = hset h (B + 38) (aI 1500 (gF g (fun _ => 0) 1500))) := by
  refine Sp.of (by decide) rfl rfl (Nat.le_of_ble_eq_true rfl) ?_
  show Go N mX10_clear _ 0 0 h 0 [(0, .ref (B + 35))] []
  have loop : ∀ x : Int × GH, (0 ≤ x.1 ∧ x.1 ≤ 1500 ∧ x.2 = hset h (B + 38) (aI 1500 (gF g (fun _ => 0) x.1))) → Go N mX10_clear (fun r h1 => r = none ∧ h1 = hset h (B + 38) (aI 1500 (gF g (fun _ => 0) 1500))) 0 0 x.2 2 [(1, .int (gI (x.1))), (0, .ref (B + 35))] [] := by
    refine Go.loop _ (fun x : Int × GH => Go N mX10_clear _ 0 0 x.2 2 [(1, .int (gI (x.1))), (0, .ref (B + 35))] []) (fun x => (1501 - x.1).toNat) (fun x hx ih => ?_)
    obtain ⟨k, hh⟩ := x
    obtain ⟨hk0, hk1, he⟩ := hx
    dsimp only at hk0 hk1 he
    have g0 : hh.2 (B + 35) = some (oB 10 [.int (gI (2)), .ref (B + 36), .ref (B + 37), .ref (B + 38), .ref (B + 39), .ref (B + 40), .ref (B + 41), .ref (B + 42), .ref (B + 43), .int (gI (0)), .int (gI (0)), .int (gI (0)), .ref (B + 44), .ref (B + 45), .ref (B + 46), .int (gI (0)), .ref (B + 47), .ref (B + 48), .ref (B + 49), .int (gI (0)), .ref (B + 50), .int (gI (0)), .ref (B + 51), .ref (B + 52), .ref (B + 53), .ref (B + 54), .ref (B + 55), .int (gI (0)), .ref (B + 56), .ref (B + 57)]) := by rw [he, hset_n _ _ (by omega)]; exact s35
    have g1 : hh.2 (B + 38) = some (aI 1500 (gF g (fun _ => 0) k)) := by rw [he]; exact hset_s _ _ _
    refine g_iload_n 0 dX10_clear_2 rfl ?_
    refine g_sipush dX10_clear_3 (by decide) ?_
    refine g_icmp_ge (tgt := 22) dX10_clear_6 rfl (by unfold gW at *; omega) (by unfold gW at *; omega) (fun c1 => ?_) (fun c1 => ?_)
    · skip
      exact g_vret dX10_clear_22 rfl ⟨rfl, by rw [he, show k = 1500 by omega]⟩
    · skip
      refine g_aload_n 1 dX10_clear_9 rfl ?_
      refine g_getf 3 dX10_clear_10 kX10 (by decide) fX10_17 g0 rfl ?_
      refine g_iload_n 0 dX10_clear_13 rfl ?_
      refine g_iconst dX10_clear_14 ?_
      refine g_iastore dX10_clear_15 g1 (by omega) (by omega) (by decide) ?_
      obtain ⟨hh2, eh2⟩ : ∃ z : GH, z = hset hh (B + 38) (aI 1500 (gup (gF g (fun _ => 0) k) (k) (0))) := ⟨_, rfl⟩
      refine Go.hp eh2.symm ?_
      have fh2_0 : hh2.2 (B + 35) = some (oB 10 [.int (gI (2)), .ref (B + 36), .ref (B + 37), .ref (B + 38), .ref (B + 39), .ref (B + 40), .ref (B + 41), .ref (B + 42), .ref (B + 43), .int (gI (0)), .int (gI (0)), .int (gI (0)), .ref (B + 44), .ref (B + 45), .ref (B + 46), .int (gI (0)), .ref (B + 47), .ref (B + 48), .ref (B + 49), .int (gI (0)), .ref (B + 50), .int (gI (0)), .ref (B + 51), .ref (B + 52), .ref (B + 53), .ref (B + 54), .ref (B + 55), .int (gI (0)), .ref (B + 56), .ref (B + 57)]) := by rw [eh2, hset_n _ _ (by omega)]; exact g0
      have fh2_1 : hh2.2 (B + 38) = some (aI 1500 (gup (gF g (fun _ => 0) k) (k) (0))) := by rw [eh2]; exact hset_s _ _ _
      refine g_iinc 0 (ls2 := [(1, .int (gI (k + 1))), (0, .ref (B + 35))]) dX10_clear_16 rfl (by decide) rfl ?_
      refine g_goto (tgt := 2) dX10_clear_19 rfl ?_
      exact ih (k + 1, hh2) ⟨by dsimp only; omega, by dsimp only; omega, by dsimp only; rw [eh2, he, hset_hset, gF_s _ _ hk0]⟩ (by dsimp only; omega)
  refine g_iconst dX10_clear_0 ?_
  refine g_istore_n (ls2 := [(1, .int (gI (0))), (0, .ref (B + 35))]) dX10_clear_1 rfl (by decide) rfl ?_
  exact loop (0, h) ⟨by dsimp only; omega, by dsimp only; omega, by dsimp only; rw [gF_0]; exact (hset_id s38).symm⟩
set_option maxHeartbeats 4000000 in
set_option maxRecDepth 100000 in
theorem mkeep (N : GN) (B : Nat) (h : GH) (g u : Int → Int) (s35 : h.2 (B + 35) = some (oB 10 [.int (gI (2)), .ref (B + 36), .ref (B + 37), .ref (B + 38), .ref (B + 39), .ref (B + 40), .ref (B + 41), .ref (B + 42), .ref (B + 43), .int (gI (0)), .int (gI (0)), .int (gI (0)), .ref (B + 44), .ref (B + 45), .ref (B + 46), .int (gI (0)), .ref (B + 47), .ref (B + 48), .ref (B + 49), .int (gI (0)), .ref (B + 50), .int (gI (0)), .ref (B + 51), .ref (B + 52), .ref (B + 53), .ref (B + 54), .ref (B + 55), .int (gI (0)), .ref (B + 56), .ref (B + 57)])) (s36 : h.2 (B + 36) = some (aZ 100 (fun _ => 0))) (s37 : h.2 (B + 37) = some (aI 28700 (g))) (s38 : h.2 (B + 38) = some (aI 1500 (u))) : Sp N yX10_keep mX10_keep 0 0 [.ref (B + 35)] h (fun r h1 => r = some (.int (gI (0)))) := by
  refine Sp.of (by decide) rfl rfl (Nat.le_of_ble_eq_true rfl) ?_
  show Go N mX10_keep _ 0 0 h 0 [(0, .ref (B + 35))] []
  refine g_iconst dX10_keep_0 ?_
  refine g_istore_n (ls2 := [(1, .int (gI (0))), (0, .ref (B + 35))]) dX10_keep_1 rfl (by decide) rfl ?_
  refine g_iload_n 0 dX10_keep_2 rfl ?_
  refine g_bipush dX10_keep_3 (by decide) ?_
  refine g_icmp_ge (tgt := 23) dX10_keep_5 rfl (by unfold gW at *; omega) (by unfold gW at *; omega) (fun c1 => absurd c1 (by omega)) (fun c1 => ?_)
  refine g_aload_n 1 dX10_keep_8 rfl ?_
  refine g_getf 1 dX10_keep_9 kX10 (by decide) fX10_7 s35 rfl ?_
  refine g_iload_n 0 dX10_keep_12 rfl ?_
  refine g_baload dX10_keep_13 s36 (by omega) (by omega) (by decide) ?_
  refine g_if_eq (tgt := 23) dX10_keep_14 rfl (by unfold gW at *; omega) (fun c2 => ?_) (fun c2 => absurd c2 (by omega))
  refine g_iload_n 0 dX10_keep_23 rfl ?_
  refine g_bipush dX10_keep_24 (by decide) ?_
  refine g_icmp_ne (tgt := 32) dX10_keep_26 rfl (by unfold gW at *; omega) (by unfold gW at *; omega) (fun c3 => ?_) (fun c3 => absurd c3 (by omega))
  refine g_aload_n 1 dX10_keep_32 rfl ?_
  refine g_getf 1 dX10_keep_33 kX10 (by decide) fX10_7 s35 rfl ?_
  refine g_iload_n 0 dX10_keep_36 rfl ?_
  refine g_iconst dX10_keep_37 ?_
  refine g_bastore dX10_keep_38 s36 (by omega) (by omega) (by decide) (by omega) ?_
  obtain ⟨hh4, eh4⟩ : ∃ z : GH, z = hset h (B + 36) (aZ 100 (gup (fun _ => 0) (0) (1))) := ⟨_, rfl⟩
  refine Go.hp eh4.symm ?_
  have fh4_0 : hh4.2 (B + 35) = some (oB 10 [.int (gI (2)), .ref (B + 36), .ref (B + 37), .ref (B + 38), .ref (B + 39), .ref (B + 40), .ref (B + 41), .ref (B + 42), .ref (B + 43), .int (gI (0)), .int (gI (0)), .int (gI (0)), .ref (B + 44), .ref (B + 45), .ref (B + 46), .int (gI (0)), .ref (B + 47), .ref (B + 48), .ref (B + 49), .int (gI (0)), .ref (B + 50), .int (gI (0)), .ref (B + 51), .ref (B + 52), .ref (B + 53), .ref (B + 54), .ref (B + 55), .int (gI (0)), .ref (B + 56), .ref (B + 57)]) := by rw [eh4, hset_n _ _ (by omega)]; exact s35
  have fh4_1 : hh4.2 (B + 36) = some (aZ 100 (gup (fun _ => 0) (0) (1))) := by rw [eh4]; exact hset_s _ _ _
  have fh4_2 : hh4.2 (B + 37) = some (aI 28700 (g)) := by rw [eh4, hset_n _ _ (by omega)]; exact s37
  have fh4_3 : hh4.2 (B + 38) = some (aI 1500 (u)) := by rw [eh4, hset_n _ _ (by omega)]; exact s38
  refine g_iconst dX10_keep_39 ?_
  refine g_istore_n (ls2 := [(2, .int (gI (0))), (1, .int (gI (0))), (0, .ref (B + 35))]) dX10_keep_40 rfl (by decide) rfl ?_
  have loop : ∀ x : Int × (Int → Int) × GH, (0 ≤ x.1 ∧ x.1 ≤ 287 ∧ x.2.2 = hset hh4 (B + 37) (aI 28700 x.2.1)) → Go N mX10_keep (fun r h1 => r = some (.int (gI (0)))) 0 0 x.2.2 41 [(2, .int (gI (x.1))), (1, .int (gI (0))), (0, .ref (B + 35))] [] := by
    refine Go.loop _ (fun x : Int × (Int → Int) × GH => Go N mX10_keep _ 0 0 x.2.2 41 [(2, .int (gI (x.1))), (1, .int (gI (0))), (0, .ref (B + 35))] []) (fun x => (288 - x.1).toNat) (fun x hx ih => ?_)
    obtain ⟨k, gk, hh⟩ := x
    obtain ⟨hk0, hk1, he⟩ := hx
    dsimp only at hk0 hk1 he
    have g0 : hh.2 (B + 35) = some (oB 10 [.int (gI (2)), .ref (B + 36), .ref (B + 37), .ref (B + 38), .ref (B + 39), .ref (B + 40), .ref (B + 41), .ref (B + 42), .ref (B + 43), .int (gI (0)), .int (gI (0)), .int (gI (0)), .ref (B + 44), .ref (B + 45), .ref (B + 46), .int (gI (0)), .ref (B + 47), .ref (B + 48), .ref (B + 49), .int (gI (0)), .ref (B + 50), .int (gI (0)), .ref (B + 51), .ref (B + 52), .ref (B + 53), .ref (B + 54), .ref (B + 55), .int (gI (0)), .ref (B + 56), .ref (B + 57)]) := by rw [he, hset_n _ _ (by omega)]; exact fh4_0
    have g1 : hh.2 (B + 36) = some (aZ 100 (gup (fun _ => 0) (0) (1))) := by rw [he, hset_n _ _ (by omega)]; exact fh4_1
    have g2 : hh.2 (B + 37) = some (aI 28700 gk) := by rw [he]; exact hset_s _ _ _
    have g3 : hh.2 (B + 38) = some (aI 1500 (u)) := by rw [he, hset_n _ _ (by omega)]; exact fh4_3
    refine g_iload_n 0 dX10_keep_41 rfl ?_
    refine g_sipush dX10_keep_42 (by decide) ?_
    refine g_icmp_ge (tgt := 72) dX10_keep_45 rfl (by unfold gW at *; omega) (by unfold gW at *; omega) (fun c501 => ?_) (fun c501 => ?_)
    · skip
      refine g_iload_n 1 dX10_keep_72 rfl ?_
      exact g_iret dX10_keep_73 rfl rfl
    · skip
      refine g_aload_n 2 dX10_keep_48 rfl ?_
      refine g_getf 2 dX10_keep_49 kX10 (by decide) fX10_13 g0 rfl ?_
      refine g_sipush dX10_keep_52 (by decide) ?_
      refine g_iload_n 1 dX10_keep_55 rfl ?_
      refine g_imul dX10_keep_56 ?_
      refine g_iload_n 0 dX10_keep_57 rfl ?_
      refine g_iadd dX10_keep_58 ?_
      refine g_aload_n 2 dX10_keep_59 rfl ?_
      refine g_getf 3 dX10_keep_60 kX10 (by decide) fX10_17 g0 rfl ?_
      refine g_iload_n 0 dX10_keep_63 rfl ?_
      refine g_iaload dX10_keep_64 g3 (by omega) (by omega) (by decide) ?_
      refine g_iastore dX10_keep_65 g2 (by omega) (by omega) (by decide) ?_
      obtain ⟨hh502, eh502⟩ : ∃ z : GH, z = hset hh (B + 37) (aI 28700 (gup (gk) (((287) * (0)) + (k)) ((u) (k)))) := ⟨_, rfl⟩
      refine Go.hp eh502.symm ?_
      have fh502_0 : hh502.2 (B + 35) = some (oB 10 [.int (gI (2)), .ref (B + 36), .ref (B + 37), .ref (B + 38), .ref (B + 39), .ref (B + 40), .ref (B + 41), .ref (B + 42), .ref (B + 43), .int (gI (0)), .int (gI (0)), .int (gI (0)), .ref (B + 44), .ref (B + 45), .ref (B + 46), .int (gI (0)), .ref (B + 47), .ref (B + 48), .ref (B + 49), .int (gI (0)), .ref (B + 50), .int (gI (0)), .ref (B + 51), .ref (B + 52), .ref (B + 53), .ref (B + 54), .ref (B + 55), .int (gI (0)), .ref (B + 56), .ref (B + 57)]) := by rw [eh502, hset_n _ _ (by omega)]; exact g0
      have fh502_1 : hh502.2 (B + 36) = some (aZ 100 (gup (fun _ => 0) (0) (1))) := by rw [eh502, hset_n _ _ (by omega)]; exact g1
      have fh502_2 : hh502.2 (B + 37) = some (aI 28700 (gup (gk) (((287) * (0)) + (k)) ((u) (k)))) := by rw [eh502]; exact hset_s _ _ _
      have fh502_3 : hh502.2 (B + 38) = some (aI 1500 (u)) := by rw [eh502, hset_n _ _ (by omega)]; exact g3
      refine g_iinc 0 (ls2 := [(2, .int (gI (k + 1))), (1, .int (gI (0))), (0, .ref (B + 35))]) dX10_keep_66 rfl (by decide) rfl ?_
      refine g_goto (tgt := 41) dX10_keep_69 rfl ?_
      exact ih (k + 1, _, hh502) ⟨by dsimp only; omega, by dsimp only; omega, by dsimp only; rw [eh502, he, hset_hset]⟩ (by dsimp only; omega)
  exact loop (0, _, hh4) ⟨by dsimp only; omega, by dsimp only; omega, by dsimp only; exact (hset_id fh4_2).symm⟩
set_option maxHeartbeats 4000000 in
set_option maxRecDepth 100000 in
theorem mconstant (N : GN) (B : Nat) (h : GH) (hM : Mo B h) (c : Int) (h_c : gX c) : Sp N yX10_constant mX10_constant 0 0 [.ref (B + 35), .long (gJ (c))] h (fun r h1 => r = some (.int (gI (0)))) := by
  refine Sp.of (by decide) rfl rfl (Nat.le_of_ble_eq_true rfl) ?_
  show Go N mX10_constant _ 0 0 h 0 [(0, .ref (B + 35)), (1, .long (gJ (c)))] []
  have s35 : h.2 (B + 35) = some (oB 10 [.int (gI (2)), .ref (B + 36), .ref (B + 37), .ref (B + 38), .ref (B + 39), .ref (B + 40), .ref (B + 41), .ref (B + 42), .ref (B + 43), .int (gI (0)), .int (gI (0)), .int (gI (0)), .ref (B + 44), .ref (B + 45), .ref (B + 46), .int (gI (0)), .ref (B + 47), .ref (B + 48), .ref (B + 49), .int (gI (0)), .ref (B + 50), .int (gI (0)), .ref (B + 51), .ref (B + 52), .ref (B + 53), .ref (B + 54), .ref (B + 55), .int (gI (0)), .ref (B + 56), .ref (B + 57)]) := hM 35 _ (by omega) rfl
  have s36 : h.2 (B + 36) = some (aZ 100 (fun _ => 0)) := hM 36 _ (by omega) rfl
  have s37 : h.2 (B + 37) = some (aI 28700 (fun _ => 0)) := hM 37 _ (by omega) rfl
  have s38 : h.2 (B + 38) = some (aI 1500 (fun _ => 0)) := hM 38 _ (by omega) rfl
  refine g_aload_n 0 dX10_constant_0 rfl ?_
  refine g_callV (nc2 := 0) (ns2 := 0) (ci := 10) (As := []) (st := []) rfl dX10_constant_1 okX10_clear lX10_107 itX10_clear seX10_clear rfl s35 (by decide) (by decide) rfl (Nat.le_of_ble_eq_true rfl) (mclear N B _ _ s35 s38) (by omega) (by omega) (fun v1 hc1 q1 => ?_)
  obtain ⟨rfl, hqc2⟩ := q1
  have fk3_0 : hc1.2 (B + 35) = some (oB 10 [.int (gI (2)), .ref (B + 36), .ref (B + 37), .ref (B + 38), .ref (B + 39), .ref (B + 40), .ref (B + 41), .ref (B + 42), .ref (B + 43), .int (gI (0)), .int (gI (0)), .int (gI (0)), .ref (B + 44), .ref (B + 45), .ref (B + 46), .int (gI (0)), .ref (B + 47), .ref (B + 48), .ref (B + 49), .int (gI (0)), .ref (B + 50), .int (gI (0)), .ref (B + 51), .ref (B + 52), .ref (B + 53), .ref (B + 54), .ref (B + 55), .int (gI (0)), .ref (B + 56), .ref (B + 57)]) := by rw [hqc2, hset_n _ _ (by omega)]; exact s35
  have fk3_1 : hc1.2 (B + 36) = some (aZ 100 (fun _ => 0)) := by rw [hqc2, hset_n _ _ (by omega)]; exact s36
  have fk3_2 : hc1.2 (B + 37) = some (aI 28700 (fun _ => 0)) := by rw [hqc2, hset_n _ _ (by omega)]; exact s37
  have fk3_3 : hc1.2 (B + 38) = some (aI 1500 (gF (fun _ => 0) (fun _ => 0) 1500)) := by rw [hqc2]; exact hset_s _ _ _
  refine Go.nf (h' := hc1) (st' := []) rfl rfl (Nat.le_refl _) (Nat.le_refl _) ?_
  refine g_aload_n 0 dX10_constant_4 rfl ?_
  refine g_getf 3 dX10_constant_5 kX10 (by decide) fX10_17 fk3_0 rfl ?_
  refine g_iconst dX10_constant_8 ?_
  refine g_aload_n 0 dX10_constant_9 rfl ?_
  refine g_lload_n 1 dX10_constant_10 rfl ?_
  refine g_callV (nc2 := 0) (ns2 := 0) (ci := 10) (As := [.long (gJ (c))]) (st := [.int (gI (0)), .ref (B + 38)]) rfl dX10_constant_11 okX10_modulo lX10_110 itX10_modulo seX10_modulo rfl fk3_0 (by decide) (by decide) rfl (Nat.le_of_ble_eq_true rfl) (sX10_modulo N _ (B + 35) _ _ _ _ _ _ _ _ _ _ _ _ _ _ _ _ _ _ _ _ _ _ _ _ _ _ _ _ _ 2 (c) (by assumption) (by omega) (by omega) fk3_0) (by omega) (by omega) (fun v4 hc4 q4 => ?_)
  obtain ⟨hqm5, rfl⟩ := q4
  refine Go.nf (h' := hc1) (st' := [.int (gI (gMod (c) 2)), .int (gI (0)), .ref (B + 38)]) hqm5 rfl (Nat.le_refl _) (Nat.le_refl _) ?_
  refine g_iastore dX10_constant_14 fk3_3 (by omega) (by omega) (by decide) ?_
  obtain ⟨hh6, eh6⟩ : ∃ z : GH, z = hset hc1 (B + 38) (aI 1500 (gup (gF (fun _ => 0) (fun _ => 0) 1500) (0) (gMod (c) 2))) := ⟨_, rfl⟩
  refine Go.hp eh6.symm ?_
  have fh6_0 : hh6.2 (B + 35) = some (oB 10 [.int (gI (2)), .ref (B + 36), .ref (B + 37), .ref (B + 38), .ref (B + 39), .ref (B + 40), .ref (B + 41), .ref (B + 42), .ref (B + 43), .int (gI (0)), .int (gI (0)), .int (gI (0)), .ref (B + 44), .ref (B + 45), .ref (B + 46), .int (gI (0)), .ref (B + 47), .ref (B + 48), .ref (B + 49), .int (gI (0)), .ref (B + 50), .int (gI (0)), .ref (B + 51), .ref (B + 52), .ref (B + 53), .ref (B + 54), .ref (B + 55), .int (gI (0)), .ref (B + 56), .ref (B + 57)]) := by rw [eh6, hset_n _ _ (by omega)]; exact fk3_0
  have fh6_1 : hh6.2 (B + 36) = some (aZ 100 (fun _ => 0)) := by rw [eh6, hset_n _ _ (by omega)]; exact fk3_1
  have fh6_2 : hh6.2 (B + 37) = some (aI 28700 (fun _ => 0)) := by rw [eh6, hset_n _ _ (by omega)]; exact fk3_2
  have fh6_3 : hh6.2 (B + 38) = some (aI 1500 (gup (gF (fun _ => 0) (fun _ => 0) 1500) (0) (gMod (c) 2))) := by rw [eh6]; exact hset_s _ _ _
  refine g_aload_n 0 dX10_constant_15 rfl ?_
  refine g_callV (nc2 := 0) (ns2 := 0) (ci := 10) (As := []) (st := []) rfl dX10_constant_16 okX10_keep lX10_114 itX10_keep seX10_keep rfl fh6_0 (by decide) (by decide) rfl (Nat.le_of_ble_eq_true rfl) (mkeep N B _ _ _ fh6_0 fh6_1 fh6_2 fh6_3) (by omega) (by omega) (fun v7 hc7 q7 => ?_)
  subst q7
  refine Go.nf (h' := hc7) (st' := [.int (gI (0))]) rfl rfl (Nat.le_refl _) (Nat.le_refl _) ?_
  exact g_iret dX10_constant_19 rfl rfl
set_option maxHeartbeats 4000000 in
set_option maxRecDepth 100000 in
theorem mvariable (N : GN) (B : Nat) (h : GH) (hM : Mo B h) (w : Int) (h_w : gW w) : Sp N yX10_variable mX10_variable 0 0 [.ref (B + 35), .int (gI (w))] h (fun r h1 => r = some (.int (gI (if w = 0 ∨ w = 1 then 0 else -2)))) := by
  refine Sp.of (by decide) rfl rfl (Nat.le_of_ble_eq_true rfl) ?_
  show Go N mX10_variable _ 0 0 h 0 [(0, .ref (B + 35)), (1, .int (gI (w)))] []
  have s35 : h.2 (B + 35) = some (oB 10 [.int (gI (2)), .ref (B + 36), .ref (B + 37), .ref (B + 38), .ref (B + 39), .ref (B + 40), .ref (B + 41), .ref (B + 42), .ref (B + 43), .int (gI (0)), .int (gI (0)), .int (gI (0)), .ref (B + 44), .ref (B + 45), .ref (B + 46), .int (gI (0)), .ref (B + 47), .ref (B + 48), .ref (B + 49), .int (gI (0)), .ref (B + 50), .int (gI (0)), .ref (B + 51), .ref (B + 52), .ref (B + 53), .ref (B + 54), .ref (B + 55), .int (gI (0)), .ref (B + 56), .ref (B + 57)]) := hM 35 _ (by omega) rfl
  have s36 : h.2 (B + 36) = some (aZ 100 (fun _ => 0)) := hM 36 _ (by omega) rfl
  have s37 : h.2 (B + 37) = some (aI 28700 (fun _ => 0)) := hM 37 _ (by omega) rfl
  have s38 : h.2 (B + 38) = some (aI 1500 (fun _ => 0)) := hM 38 _ (by omega) rfl
  refine g_iload_n 1 dX10_variable_0 rfl ?_
  refine g_if_eq (tgt := 12) dX10_variable_1 rfl (by unfold gW at *; omega) (fun c1 => ?_) (fun c1 => ?_)
  · skip
    refine g_aload_n 0 dX10_variable_12 rfl ?_
    refine g_callV (nc2 := 0) (ns2 := 0) (ci := 10) (As := []) (st := []) rfl dX10_variable_13 okX10_clear lX10_107 itX10_clear seX10_clear rfl s35 (by decide) (by decide) rfl (Nat.le_of_ble_eq_true rfl) (mclear N B _ _ s35 s38) (by omega) (by omega) (fun v2 hc2 q2 => ?_)
    obtain ⟨rfl, hqc3⟩ := q2
    have fk4_0 : hc2.2 (B + 35) = some (oB 10 [.int (gI (2)), .ref (B + 36), .ref (B + 37), .ref (B + 38), .ref (B + 39), .ref (B + 40), .ref (B + 41), .ref (B + 42), .ref (B + 43), .int (gI (0)), .int (gI (0)), .int (gI (0)), .ref (B + 44), .ref (B + 45), .ref (B + 46), .int (gI (0)), .ref (B + 47), .ref (B + 48), .ref (B + 49), .int (gI (0)), .ref (B + 50), .int (gI (0)), .ref (B + 51), .ref (B + 52), .ref (B + 53), .ref (B + 54), .ref (B + 55), .int (gI (0)), .ref (B + 56), .ref (B + 57)]) := by rw [hqc3, hset_n _ _ (by omega)]; exact s35
    have fk4_1 : hc2.2 (B + 36) = some (aZ 100 (fun _ => 0)) := by rw [hqc3, hset_n _ _ (by omega)]; exact s36
    have fk4_2 : hc2.2 (B + 37) = some (aI 28700 (fun _ => 0)) := by rw [hqc3, hset_n _ _ (by omega)]; exact s37
    have fk4_3 : hc2.2 (B + 38) = some (aI 1500 (gF (fun _ => 0) (fun _ => 0) 1500)) := by rw [hqc3]; exact hset_s _ _ _
    refine Go.nf (h' := hc2) (st' := []) rfl rfl (Nat.le_refl _) (Nat.le_refl _) ?_
    refine g_aload_n 0 dX10_variable_16 rfl ?_
    refine g_getf 3 dX10_variable_17 kX10 (by decide) fX10_17 fk4_0 rfl ?_
    refine g_iload_n 1 dX10_variable_20 rfl ?_
    refine g_if_ne (tgt := 29) dX10_variable_21 rfl (by unfold gW at *; omega) (fun c5 => ?_) (fun c5 => ?_)
    · skip
      refine g_iconst dX10_variable_29 ?_
      refine g_iconst dX10_variable_30 ?_
      refine g_iastore dX10_variable_31 fk4_3 (by omega) (by omega) (by decide) ?_
      obtain ⟨hh6, eh6⟩ : ∃ z : GH, z = hset hc2 (B + 38) (aI 1500 (gup (gF (fun _ => 0) (fun _ => 0) 1500) (1) (1))) := ⟨_, rfl⟩
      refine Go.hp eh6.symm ?_
      have fh6_0 : hh6.2 (B + 35) = some (oB 10 [.int (gI (2)), .ref (B + 36), .ref (B + 37), .ref (B + 38), .ref (B + 39), .ref (B + 40), .ref (B + 41), .ref (B + 42), .ref (B + 43), .int (gI (0)), .int (gI (0)), .int (gI (0)), .ref (B + 44), .ref (B + 45), .ref (B + 46), .int (gI (0)), .ref (B + 47), .ref (B + 48), .ref (B + 49), .int (gI (0)), .ref (B + 50), .int (gI (0)), .ref (B + 51), .ref (B + 52), .ref (B + 53), .ref (B + 54), .ref (B + 55), .int (gI (0)), .ref (B + 56), .ref (B + 57)]) := by rw [eh6, hset_n _ _ (by omega)]; exact fk4_0
      have fh6_1 : hh6.2 (B + 36) = some (aZ 100 (fun _ => 0)) := by rw [eh6, hset_n _ _ (by omega)]; exact fk4_1
      have fh6_2 : hh6.2 (B + 37) = some (aI 28700 (fun _ => 0)) := by rw [eh6, hset_n _ _ (by omega)]; exact fk4_2
      have fh6_3 : hh6.2 (B + 38) = some (aI 1500 (gup (gF (fun _ => 0) (fun _ => 0) 1500) (1) (1))) := by rw [eh6]; exact hset_s _ _ _
      refine g_aload_n 0 dX10_variable_32 rfl ?_
      refine g_callV (nc2 := 0) (ns2 := 0) (ci := 10) (As := []) (st := []) rfl dX10_variable_33 okX10_keep lX10_114 itX10_keep seX10_keep rfl fh6_0 (by decide) (by decide) rfl (Nat.le_of_ble_eq_true rfl) (mkeep N B _ _ _ fh6_0 fh6_1 fh6_2 fh6_3) (by omega) (by omega) (fun v7 hc7 q7 => ?_)
      subst q7
      refine Go.nf (h' := hc7) (st' := [.int (gI (0))]) rfl rfl (Nat.le_refl _) (Nat.le_refl _) ?_
      exact g_iret dX10_variable_36 rfl (by rw [if_pos (by omega)])
    · skip
      refine g_bipush dX10_variable_24 (by decide) ?_
      refine g_goto (tgt := 30) dX10_variable_26 rfl ?_
      refine g_iconst dX10_variable_30 ?_
      refine g_iastore dX10_variable_31 fk4_3 (by omega) (by omega) (by decide) ?_
      obtain ⟨hh8, eh8⟩ : ∃ z : GH, z = hset hc2 (B + 38) (aI 1500 (gup (gF (fun _ => 0) (fun _ => 0) 1500) (7) (1))) := ⟨_, rfl⟩
      refine Go.hp eh8.symm ?_
      have fh8_0 : hh8.2 (B + 35) = some (oB 10 [.int (gI (2)), .ref (B + 36), .ref (B + 37), .ref (B + 38), .ref (B + 39), .ref (B + 40), .ref (B + 41), .ref (B + 42), .ref (B + 43), .int (gI (0)), .int (gI (0)), .int (gI (0)), .ref (B + 44), .ref (B + 45), .ref (B + 46), .int (gI (0)), .ref (B + 47), .ref (B + 48), .ref (B + 49), .int (gI (0)), .ref (B + 50), .int (gI (0)), .ref (B + 51), .ref (B + 52), .ref (B + 53), .ref (B + 54), .ref (B + 55), .int (gI (0)), .ref (B + 56), .ref (B + 57)]) := by rw [eh8, hset_n _ _ (by omega)]; exact fk4_0
      have fh8_1 : hh8.2 (B + 36) = some (aZ 100 (fun _ => 0)) := by rw [eh8, hset_n _ _ (by omega)]; exact fk4_1
      have fh8_2 : hh8.2 (B + 37) = some (aI 28700 (fun _ => 0)) := by rw [eh8, hset_n _ _ (by omega)]; exact fk4_2
      have fh8_3 : hh8.2 (B + 38) = some (aI 1500 (gup (gF (fun _ => 0) (fun _ => 0) 1500) (7) (1))) := by rw [eh8]; exact hset_s _ _ _
      refine g_aload_n 0 dX10_variable_32 rfl ?_
      refine g_callV (nc2 := 0) (ns2 := 0) (ci := 10) (As := []) (st := []) rfl dX10_variable_33 okX10_keep lX10_114 itX10_keep seX10_keep rfl fh8_0 (by decide) (by decide) rfl (Nat.le_of_ble_eq_true rfl) (mkeep N B _ _ _ fh8_0 fh8_1 fh8_2 fh8_3) (by omega) (by omega) (fun v9 hc9 q9 => ?_)
      subst q9
      refine Go.nf (h' := hc9) (st' := [.int (gI (0))]) rfl rfl (Nat.le_refl _) (Nat.le_refl _) ?_
      exact g_iret dX10_variable_36 rfl (by rw [if_pos (by omega)])
  · skip
    refine g_iload_n 1 dX10_variable_4 rfl ?_
    refine g_iconst dX10_variable_5 ?_
    refine g_icmp_eq (tgt := 12) dX10_variable_6 rfl (by unfold gW at *; omega) (by unfold gW at *; omega) (fun c10 => ?_) (fun c10 => ?_)
    · skip
      refine g_aload_n 0 dX10_variable_12 rfl ?_
      refine g_callV (nc2 := 0) (ns2 := 0) (ci := 10) (As := []) (st := []) rfl dX10_variable_13 okX10_clear lX10_107 itX10_clear seX10_clear rfl s35 (by decide) (by decide) rfl (Nat.le_of_ble_eq_true rfl) (mclear N B _ _ s35 s38) (by omega) (by omega) (fun v11 hc11 q11 => ?_)
      obtain ⟨rfl, hqc12⟩ := q11
      have fk13_0 : hc11.2 (B + 35) = some (oB 10 [.int (gI (2)), .ref (B + 36), .ref (B + 37), .ref (B + 38), .ref (B + 39), .ref (B + 40), .ref (B + 41), .ref (B + 42), .ref (B + 43), .int (gI (0)), .int (gI (0)), .int (gI (0)), .ref (B + 44), .ref (B + 45), .ref (B + 46), .int (gI (0)), .ref (B + 47), .ref (B + 48), .ref (B + 49), .int (gI (0)), .ref (B + 50), .int (gI (0)), .ref (B + 51), .ref (B + 52), .ref (B + 53), .ref (B + 54), .ref (B + 55), .int (gI (0)), .ref (B + 56), .ref (B + 57)]) := by rw [hqc12, hset_n _ _ (by omega)]; exact s35
      have fk13_1 : hc11.2 (B + 36) = some (aZ 100 (fun _ => 0)) := by rw [hqc12, hset_n _ _ (by omega)]; exact s36
      have fk13_2 : hc11.2 (B + 37) = some (aI 28700 (fun _ => 0)) := by rw [hqc12, hset_n _ _ (by omega)]; exact s37
      have fk13_3 : hc11.2 (B + 38) = some (aI 1500 (gF (fun _ => 0) (fun _ => 0) 1500)) := by rw [hqc12]; exact hset_s _ _ _
      refine Go.nf (h' := hc11) (st' := []) rfl rfl (Nat.le_refl _) (Nat.le_refl _) ?_
      refine g_aload_n 0 dX10_variable_16 rfl ?_
      refine g_getf 3 dX10_variable_17 kX10 (by decide) fX10_17 fk13_0 rfl ?_
      refine g_iload_n 1 dX10_variable_20 rfl ?_
      refine g_if_ne (tgt := 29) dX10_variable_21 rfl (by unfold gW at *; omega) (fun c14 => ?_) (fun c14 => ?_)
      · skip
        refine g_iconst dX10_variable_29 ?_
        refine g_iconst dX10_variable_30 ?_
        refine g_iastore dX10_variable_31 fk13_3 (by omega) (by omega) (by decide) ?_
        obtain ⟨hh15, eh15⟩ : ∃ z : GH, z = hset hc11 (B + 38) (aI 1500 (gup (gF (fun _ => 0) (fun _ => 0) 1500) (1) (1))) := ⟨_, rfl⟩
        refine Go.hp eh15.symm ?_
        have fh15_0 : hh15.2 (B + 35) = some (oB 10 [.int (gI (2)), .ref (B + 36), .ref (B + 37), .ref (B + 38), .ref (B + 39), .ref (B + 40), .ref (B + 41), .ref (B + 42), .ref (B + 43), .int (gI (0)), .int (gI (0)), .int (gI (0)), .ref (B + 44), .ref (B + 45), .ref (B + 46), .int (gI (0)), .ref (B + 47), .ref (B + 48), .ref (B + 49), .int (gI (0)), .ref (B + 50), .int (gI (0)), .ref (B + 51), .ref (B + 52), .ref (B + 53), .ref (B + 54), .ref (B + 55), .int (gI (0)), .ref (B + 56), .ref (B + 57)]) := by rw [eh15, hset_n _ _ (by omega)]; exact fk13_0
        have fh15_1 : hh15.2 (B + 36) = some (aZ 100 (fun _ => 0)) := by rw [eh15, hset_n _ _ (by omega)]; exact fk13_1
        have fh15_2 : hh15.2 (B + 37) = some (aI 28700 (fun _ => 0)) := by rw [eh15, hset_n _ _ (by omega)]; exact fk13_2
        have fh15_3 : hh15.2 (B + 38) = some (aI 1500 (gup (gF (fun _ => 0) (fun _ => 0) 1500) (1) (1))) := by rw [eh15]; exact hset_s _ _ _
        refine g_aload_n 0 dX10_variable_32 rfl ?_
        refine g_callV (nc2 := 0) (ns2 := 0) (ci := 10) (As := []) (st := []) rfl dX10_variable_33 okX10_keep lX10_114 itX10_keep seX10_keep rfl fh15_0 (by decide) (by decide) rfl (Nat.le_of_ble_eq_true rfl) (mkeep N B _ _ _ fh15_0 fh15_1 fh15_2 fh15_3) (by omega) (by omega) (fun v16 hc16 q16 => ?_)
        subst q16
        refine Go.nf (h' := hc16) (st' := [.int (gI (0))]) rfl rfl (Nat.le_refl _) (Nat.le_refl _) ?_
        exact g_iret dX10_variable_36 rfl (by rw [if_pos (by omega)])
      · skip
        refine g_bipush dX10_variable_24 (by decide) ?_
        refine g_goto (tgt := 30) dX10_variable_26 rfl ?_
        refine g_iconst dX10_variable_30 ?_
        refine g_iastore dX10_variable_31 fk13_3 (by omega) (by omega) (by decide) ?_
        obtain ⟨hh17, eh17⟩ : ∃ z : GH, z = hset hc11 (B + 38) (aI 1500 (gup (gF (fun _ => 0) (fun _ => 0) 1500) (7) (1))) := ⟨_, rfl⟩
        refine Go.hp eh17.symm ?_
        have fh17_0 : hh17.2 (B + 35) = some (oB 10 [.int (gI (2)), .ref (B + 36), .ref (B + 37), .ref (B + 38), .ref (B + 39), .ref (B + 40), .ref (B + 41), .ref (B + 42), .ref (B + 43), .int (gI (0)), .int (gI (0)), .int (gI (0)), .ref (B + 44), .ref (B + 45), .ref (B + 46), .int (gI (0)), .ref (B + 47), .ref (B + 48), .ref (B + 49), .int (gI (0)), .ref (B + 50), .int (gI (0)), .ref (B + 51), .ref (B + 52), .ref (B + 53), .ref (B + 54), .ref (B + 55), .int (gI (0)), .ref (B + 56), .ref (B + 57)]) := by rw [eh17, hset_n _ _ (by omega)]; exact fk13_0
        have fh17_1 : hh17.2 (B + 36) = some (aZ 100 (fun _ => 0)) := by rw [eh17, hset_n _ _ (by omega)]; exact fk13_1
        have fh17_2 : hh17.2 (B + 37) = some (aI 28700 (fun _ => 0)) := by rw [eh17, hset_n _ _ (by omega)]; exact fk13_2
        have fh17_3 : hh17.2 (B + 38) = some (aI 1500 (gup (gF (fun _ => 0) (fun _ => 0) 1500) (7) (1))) := by rw [eh17]; exact hset_s _ _ _
        refine g_aload_n 0 dX10_variable_32 rfl ?_
        refine g_callV (nc2 := 0) (ns2 := 0) (ci := 10) (As := []) (st := []) rfl dX10_variable_33 okX10_keep lX10_114 itX10_keep seX10_keep rfl fh17_0 (by decide) (by decide) rfl (Nat.le_of_ble_eq_true rfl) (mkeep N B _ _ _ fh17_0 fh17_1 fh17_2 fh17_3) (by omega) (by omega) (fun v18 hc18 q18 => ?_)
        subst q18
        refine Go.nf (h' := hc18) (st' := [.int (gI (0))]) rfl rfl (Nat.le_refl _) (Nat.le_refl _) ?_
        exact g_iret dX10_variable_36 rfl (by rw [if_pos (by omega)])
    · skip
      refine g_bipush dX10_variable_9 (by decide) ?_
      exact g_iret dX10_variable_11 rfl (by rw [if_neg (by omega)])
set_option maxHeartbeats 4000000 in
set_option maxRecDepth 100000 in
theorem mpoint (N : GN) (B : Nat) (h : GH) (hM : Mo B h) (c : Int) (h_c : gX c) (d : Int) (h_d : gX d) : Sp N yX10_point mX10_point 0 0 [.ref (B + 35), .long (gJ (c)), .long (gJ (d))] h (fun r h1 => r = some (.int (gI (1)))) := by
  refine Sp.of (by decide) rfl rfl (Nat.le_of_ble_eq_true rfl) ?_
  show Go N mX10_point _ 0 0 h 0 [(0, .ref (B + 35)), (1, .long (gJ (c))), (3, .long (gJ (d)))] []
  have s35 : h.2 (B + 35) = some (oB 10 [.int (gI (2)), .ref (B + 36), .ref (B + 37), .ref (B + 38), .ref (B + 39), .ref (B + 40), .ref (B + 41), .ref (B + 42), .ref (B + 43), .int (gI (0)), .int (gI (0)), .int (gI (0)), .ref (B + 44), .ref (B + 45), .ref (B + 46), .int (gI (0)), .ref (B + 47), .ref (B + 48), .ref (B + 49), .int (gI (0)), .ref (B + 50), .int (gI (0)), .ref (B + 51), .ref (B + 52), .ref (B + 53), .ref (B + 54), .ref (B + 55), .int (gI (0)), .ref (B + 56), .ref (B + 57)]) := hM 35 _ (by omega) rfl
  have s56 : h.2 (B + 56) = some (aI 41 (fun _ => 0)) := hM 56 _ (by omega) rfl
  have s57 : h.2 (B + 57) = some (aI 41 (fun _ => 0)) := hM 57 _ (by omega) rfl
  refine g_aload_n 0 dX10_point_0 rfl ?_
  refine g_lload_n 1 dX10_point_1 rfl ?_
  refine g_callV (nc2 := 0) (ns2 := 0) (ci := 10) (As := [.long (gJ (c))]) (st := []) rfl dX10_point_2 okX10_modulo lX10_110 itX10_modulo seX10_modulo rfl s35 (by decide) (by decide) rfl (Nat.le_of_ble_eq_true rfl) (sX10_modulo N _ (B + 35) _ _ _ _ _ _ _ _ _ _ _ _ _ _ _ _ _ _ _ _ _ _ _ _ _ _ _ _ _ 2 (c) (by assumption) (by omega) (by omega) s35) (by omega) (by omega) (fun v1 hc1 q1 => ?_)
  obtain ⟨hqm2, rfl⟩ := q1
  refine Go.nf (h' := h) (st' := [.int (gI (gMod (c) 2))]) hqm2 rfl (Nat.le_refl _) (Nat.le_refl _) ?_
  refine g_istore (ls2 := [(5, .int (gI (gMod (c) 2))), (0, .ref (B + 35)), (1, .long (gJ (c))), (3, .long (gJ (d)))]) dX10_point_5 (by decide) rfl ?_
  refine g_aload_n 1 dX10_point_7 rfl ?_
  refine g_getf 27 dX10_point_8 kX10 (by decide) fX10_83 s35 rfl ?_
  refine g_bipush dX10_point_11 (by decide) ?_
  refine g_icmp_ne (tgt := 18) dX10_point_13 rfl (by unfold gW at *; omega) (by unfold gW at *; omega) (fun c3 => ?_) (fun c3 => absurd c3 (by omega))
  refine g_iconst dX10_point_18 ?_
  refine g_istore (ls2 := [(6, .int (gI (0))), (5, .int (gI (gMod (c) 2))), (0, .ref (B + 35)), (1, .long (gJ (c))), (3, .long (gJ (d)))]) dX10_point_19 (by decide) rfl ?_
  refine g_iload 0 dX10_point_21 rfl ?_
  refine g_aload_n 2 dX10_point_23 rfl ?_
  refine g_getf 27 dX10_point_24 kX10 (by decide) fX10_83 s35 rfl ?_
  refine g_icmp_ge (tgt := 50) dX10_point_27 rfl (by unfold gW at *; omega) (by unfold gW at *; omega) (fun c4 => ?_) (fun c4 => absurd c4 (by omega))
  refine g_aload_n 2 dX10_point_50 rfl ?_
  refine g_getf 28 dX10_point_51 kX10 (by decide) fX10_72 s35 rfl ?_
  refine g_aload_n 2 dX10_point_54 rfl ?_
  refine g_getf 27 dX10_point_55 kX10 (by decide) fX10_83 s35 rfl ?_
  refine g_iload 1 dX10_point_58 rfl ?_
  refine g_iastore dX10_point_60 s56 (by omega) (by omega) (by decide) ?_
  obtain ⟨hh5, eh5⟩ : ∃ z : GH, z = hset h (B + 56) (aI 41 (gup (fun _ => 0) (0) (gMod (c) 2))) := ⟨_, rfl⟩
  refine Go.hp eh5.symm ?_
  have fh5_0 : hh5.2 (B + 35) = some (oB 10 [.int (gI (2)), .ref (B + 36), .ref (B + 37), .ref (B + 38), .ref (B + 39), .ref (B + 40), .ref (B + 41), .ref (B + 42), .ref (B + 43), .int (gI (0)), .int (gI (0)), .int (gI (0)), .ref (B + 44), .ref (B + 45), .ref (B + 46), .int (gI (0)), .ref (B + 47), .ref (B + 48), .ref (B + 49), .int (gI (0)), .ref (B + 50), .int (gI (0)), .ref (B + 51), .ref (B + 52), .ref (B + 53), .ref (B + 54), .ref (B + 55), .int (gI (0)), .ref (B + 56), .ref (B + 57)]) := by rw [eh5, hset_n _ _ (by omega)]; exact s35
  have fh5_1 : hh5.2 (B + 56) = some (aI 41 (gup (fun _ => 0) (0) (gMod (c) 2))) := by rw [eh5]; exact hset_s _ _ _
  have fh5_2 : hh5.2 (B + 57) = some (aI 41 (fun _ => 0)) := by rw [eh5, hset_n _ _ (by omega)]; exact s57
  refine g_aload_n 2 dX10_point_61 rfl ?_
  refine g_getf 29 dX10_point_62 kX10 (by decide) fX10_75 fh5_0 rfl ?_
  refine g_aload_n 2 dX10_point_65 rfl ?_
  refine g_getf 27 dX10_point_66 kX10 (by decide) fX10_83 fh5_0 rfl ?_
  refine g_aload_n 2 dX10_point_69 rfl ?_
  refine g_lload_n 4 dX10_point_70 rfl ?_
  refine g_callV (nc2 := 0) (ns2 := 0) (ci := 10) (As := [.long (gJ (d))]) (st := [.int (gI (0)), .ref (B + 57)]) rfl dX10_point_71 okX10_modulo lX10_110 itX10_modulo seX10_modulo rfl fh5_0 (by decide) (by decide) rfl (Nat.le_of_ble_eq_true rfl) (sX10_modulo N _ (B + 35) _ _ _ _ _ _ _ _ _ _ _ _ _ _ _ _ _ _ _ _ _ _ _ _ _ _ _ _ _ 2 (d) (by assumption) (by omega) (by omega) fh5_0) (by omega) (by omega) (fun v6 hc6 q6 => ?_)
  obtain ⟨hqm7, rfl⟩ := q6
  refine Go.nf (h' := hh5) (st' := [.int (gI (gMod (d) 2)), .int (gI (0)), .ref (B + 57)]) hqm7 rfl (Nat.le_refl _) (Nat.le_refl _) ?_
  refine g_iastore dX10_point_74 fh5_2 (by omega) (by omega) (by decide) ?_
  obtain ⟨hh8, eh8⟩ : ∃ z : GH, z = hset hh5 (B + 57) (aI 41 (gup (fun _ => 0) (0) (gMod (d) 2))) := ⟨_, rfl⟩
  refine Go.hp eh8.symm ?_
  have fh8_0 : hh8.2 (B + 35) = some (oB 10 [.int (gI (2)), .ref (B + 36), .ref (B + 37), .ref (B + 38), .ref (B + 39), .ref (B + 40), .ref (B + 41), .ref (B + 42), .ref (B + 43), .int (gI (0)), .int (gI (0)), .int (gI (0)), .ref (B + 44), .ref (B + 45), .ref (B + 46), .int (gI (0)), .ref (B + 47), .ref (B + 48), .ref (B + 49), .int (gI (0)), .ref (B + 50), .int (gI (0)), .ref (B + 51), .ref (B + 52), .ref (B + 53), .ref (B + 54), .ref (B + 55), .int (gI (0)), .ref (B + 56), .ref (B + 57)]) := by rw [eh8, hset_n _ _ (by omega)]; exact fh5_0
  have fh8_1 : hh8.2 (B + 56) = some (aI 41 (gup (fun _ => 0) (0) (gMod (c) 2))) := by rw [eh8, hset_n _ _ (by omega)]; exact fh5_1
  have fh8_2 : hh8.2 (B + 57) = some (aI 41 (gup (fun _ => 0) (0) (gMod (d) 2))) := by rw [eh8]; exact hset_s _ _ _
  refine g_aload_n 2 dX10_point_75 rfl ?_
  refine g_dup dX10_point_76 rfl ?_
  refine g_getf 27 dX10_point_77 kX10 (by decide) fX10_83 fh8_0 rfl ?_
  refine g_iconst dX10_point_80 ?_
  refine g_iadd dX10_point_81 ?_
  refine g_putf 27 dX10_point_82 kX10 (by decide) fX10_83 rfl fh8_0 (Nat.le_of_ble_eq_true rfl) rfl rfl ?_
  obtain ⟨hh9, eh9⟩ : ∃ z : GH, z = hset hh8 (B + 35) (oB 10 [.int (gI (2)), .ref (B + 36), .ref (B + 37), .ref (B + 38), .ref (B + 39), .ref (B + 40), .ref (B + 41), .ref (B + 42), .ref (B + 43), .int (gI (0)), .int (gI (0)), .int (gI (0)), .ref (B + 44), .ref (B + 45), .ref (B + 46), .int (gI (0)), .ref (B + 47), .ref (B + 48), .ref (B + 49), .int (gI (0)), .ref (B + 50), .int (gI (0)), .ref (B + 51), .ref (B + 52), .ref (B + 53), .ref (B + 54), .ref (B + 55), .int (gI ((0) + (1))), .ref (B + 56), .ref (B + 57)]) := ⟨_, rfl⟩
  refine Go.hp eh9.symm ?_
  have fh9_0 : hh9.2 (B + 35) = some (oB 10 [.int (gI (2)), .ref (B + 36), .ref (B + 37), .ref (B + 38), .ref (B + 39), .ref (B + 40), .ref (B + 41), .ref (B + 42), .ref (B + 43), .int (gI (0)), .int (gI (0)), .int (gI (0)), .ref (B + 44), .ref (B + 45), .ref (B + 46), .int (gI (0)), .ref (B + 47), .ref (B + 48), .ref (B + 49), .int (gI (0)), .ref (B + 50), .int (gI (0)), .ref (B + 51), .ref (B + 52), .ref (B + 53), .ref (B + 54), .ref (B + 55), .int (gI ((0) + (1))), .ref (B + 56), .ref (B + 57)]) := by rw [eh9]; exact hset_s _ _ _
  have fh9_1 : hh9.2 (B + 56) = some (aI 41 (gup (fun _ => 0) (0) (gMod (c) 2))) := by rw [eh9, hset_n _ _ (by omega)]; exact fh8_1
  have fh9_2 : hh9.2 (B + 57) = some (aI 41 (gup (fun _ => 0) (0) (gMod (d) 2))) := by rw [eh9, hset_n _ _ (by omega)]; exact fh8_2
  refine g_aload_n 2 dX10_point_85 rfl ?_
  refine g_getf 27 dX10_point_86 kX10 (by decide) fX10_83 fh9_0 rfl ?_
  exact g_iret dX10_point_89 rfl rfl
