set_option maxHeartbeats 4000000 in
set_option maxRecDepth 100000 in
theorem mprime (N : GN) (B : Nat) (h : GH) (hM : Mo B h) (q : Int) (h_q : gW q) : Sp N yX10_prime mX10_prime 0 0 [.ref (B + 35), .int (gI q)] h (fun r _ => (gPrime q ∧ r = some (.int (gI 1))) ∨ (¬ gPrime q ∧ r = some (.int (gI 0)))) := by
  refine Sp.of (by decide) rfl rfl (Nat.le_of_ble_eq_true rfl) ?_
  show Go N mX10_prime _ 0 0 h 0 [(0, .ref (B + 35)), (1, .int (gI (q)))] []
  have s35 : h.2 (B + 35) = some (oB 10 [.int (gI (2)), .ref (B + 36), .ref (B + 37), .ref (B + 38), .ref (B + 39), .ref (B + 40), .ref (B + 41), .ref (B + 42), .ref (B + 43), .int (gI (0)), .int (gI (0)), .int (gI (0)), .ref (B + 44), .ref (B + 45), .ref (B + 46), .int (gI (0)), .ref (B + 47), .ref (B + 48), .ref (B + 49), .int (gI (0)), .ref (B + 50), .int (gI (0)), .ref (B + 51), .ref (B + 52), .ref (B + 53), .ref (B + 54), .ref (B + 55), .int (gI (0)), .ref (B + 56), .ref (B + 57)]) := hM 35 _ (by omega) rfl
  have s36 : h.2 (B + 36) = some (aZ 100 (fun _ => 0)) := hM 36 _ (by omega) rfl
  have lp : ∀ x : Int × Int, ((x.1 = 1 ∧ 2 ≤ x.2 ∧ x.2 ≤ 256 ∧ 2 ≤ q ∧ q ≤ 65521 ∧ ∀ e : Int, 2 ≤ e → e < x.2 → e * e ≤ q → q.tmod e ≠ 0) ∨ (x.1 = 0 ∧ 2 ≤ x.2 ∧ x.2 ≤ 257 ∧ ¬ gPrime q)) → Go N mX10_prime (fun r _ => (gPrime q ∧ r = some (.int (gI 1))) ∨ (¬ gPrime q ∧ r = some (.int (gI 0)))) 0 0 h 19 [(3, .int (gI (x.2))), (2, .int (gI (x.1))), (0, .ref (B + 35)), (1, .int (gI (q)))] [] := by
    refine Go.loop _ (fun x : Int × Int => Go N mX10_prime _ 0 0 h 19 [(3, .int (gI (x.2))), (2, .int (gI (x.1))), (0, .ref (B + 35)), (1, .int (gI (q)))] []) (fun x => (300 - x.2).toNat) (fun x hx ih => ?_)
    obtain ⟨is, d⟩ := x
    dsimp only at hx
    rcases hx with ⟨rfl, hd1, hd2, hn1, hn2, hd3⟩ | ⟨rfl, hd1, hd2, hpr⟩
    · show Go N mX10_prime _ 0 0 h 19 [(3, .int (gI (d))), (2, .int (gI (1))), (0, .ref (B + 35)), (1, .int (gI (q)))] []
      have hs9 := g_sq (show 0 ≤ d by omega) (show d ≤ 257 by omega)
      refine g_iload_n 1 dX10_prime_19 rfl ?_
      refine g_if_eq (tgt := 48) dX10_prime_20 rfl (by unfold gW at *; omega) (fun c1 => absurd c1 (by omega)) (fun c1 => ?_)
      refine g_iload_n 0 dX10_prime_23 rfl ?_
      refine g_iload_n 0 dX10_prime_24 rfl ?_
      refine g_imul dX10_prime_25 ?_
      refine g_iload_n 3 dX10_prime_26 rfl ?_
      refine g_icmp_gt (tgt := 48) dX10_prime_27 rfl (by unfold gW at *; omega) (by unfold gW at *; omega) (fun c2 => ?_) (fun c2 => ?_)
      · skip
        have hpr : gPrime q := ⟨hn1, hn2, fun e e1 e2 => by
            rcases Int.lt_or_le e d with z | z
            · exact hd3 e e1 z e2
            · have := Int.mul_le_mul z z (by omega) (by omega); omega⟩
        refine g_iload_n 1 dX10_prime_48 rfl ?_
        refine g_if_ne (tgt := 54) dX10_prime_49 rfl (by unfold gW at *; omega) (fun c3 => ?_) (fun c3 => absurd c3 (by omega))
        refine g_aload_n 2 dX10_prime_54 rfl ?_
        refine g_iload_n 3 dX10_prime_55 rfl ?_
        refine g_putf 0 dX10_prime_56 kX10 (by decide) fX10_78 rfl s35 (Nat.le_of_ble_eq_true rfl) rfl rfl ?_
        obtain ⟨hh4, eh4⟩ : ∃ z : GH, z = hset h (B + 35) (oB 10 [.int (gI (q)), .ref (B + 36), .ref (B + 37), .ref (B + 38), .ref (B + 39), .ref (B + 40), .ref (B + 41), .ref (B + 42), .ref (B + 43), .int (gI (0)), .int (gI (0)), .int (gI (0)), .ref (B + 44), .ref (B + 45), .ref (B + 46), .int (gI (0)), .ref (B + 47), .ref (B + 48), .ref (B + 49), .int (gI (0)), .ref (B + 50), .int (gI (0)), .ref (B + 51), .ref (B + 52), .ref (B + 53), .ref (B + 54), .ref (B + 55), .int (gI (0)), .ref (B + 56), .ref (B + 57)]) := ⟨_, rfl⟩
        refine Go.hp eh4.symm ?_
        have fh4_0 : hh4.2 (B + 35) = some (oB 10 [.int (gI (q)), .ref (B + 36), .ref (B + 37), .ref (B + 38), .ref (B + 39), .ref (B + 40), .ref (B + 41), .ref (B + 42), .ref (B + 43), .int (gI (0)), .int (gI (0)), .int (gI (0)), .ref (B + 44), .ref (B + 45), .ref (B + 46), .int (gI (0)), .ref (B + 47), .ref (B + 48), .ref (B + 49), .int (gI (0)), .ref (B + 50), .int (gI (0)), .ref (B + 51), .ref (B + 52), .ref (B + 53), .ref (B + 54), .ref (B + 55), .int (gI (0)), .ref (B + 56), .ref (B + 57)]) := by rw [eh4]; exact hset_s _ _ _
        have fh4_1 : hh4.2 (B + 36) = some (aZ 100 (fun _ => 0)) := by rw [eh4, hset_n _ _ (by omega)]; exact s36
        refine g_iconst dX10_prime_59 ?_
        refine g_istore_n (ls2 := [(3, .int (gI (0))), (2, .int (gI (1))), (0, .ref (B + 35)), (1, .int (gI (q)))]) dX10_prime_60 rfl (by decide) rfl ?_
        have loop : ∀ x : Int × GH, (0 ≤ x.1 ∧ x.1 ≤ 100 ∧ x.2 = hset hh4 (B + 36) (aZ 100 (gF (fun _ => 0) (fun _ => 0) x.1))) → Go N mX10_prime (fun r _ => (gPrime q ∧ r = some (.int (gI 1))) ∨ (¬ gPrime q ∧ r = some (.int (gI 0)))) 0 0 x.2 61 [(3, .int (gI (x.1))), (2, .int (gI (1))), (0, .ref (B + 35)), (1, .int (gI (q)))] [] := by
          refine Go.loop _ (fun x : Int × GH => Go N mX10_prime _ 0 0 x.2 61 [(3, .int (gI (x.1))), (2, .int (gI (1))), (0, .ref (B + 35)), (1, .int (gI (q)))] []) (fun x => (101 - x.1).toNat) (fun x hx ih => ?_)
          obtain ⟨k, hh⟩ := x
          obtain ⟨hk0, hk1, he⟩ := hx
          dsimp only at hk0 hk1 he
          have g0 : hh.2 (B + 35) = some (oB 10 [.int (gI (q)), .ref (B + 36), .ref (B + 37), .ref (B + 38), .ref (B + 39), .ref (B + 40), .ref (B + 41), .ref (B + 42), .ref (B + 43), .int (gI (0)), .int (gI (0)), .int (gI (0)), .ref (B + 44), .ref (B + 45), .ref (B + 46), .int (gI (0)), .ref (B + 47), .ref (B + 48), .ref (B + 49), .int (gI (0)), .ref (B + 50), .int (gI (0)), .ref (B + 51), .ref (B + 52), .ref (B + 53), .ref (B + 54), .ref (B + 55), .int (gI (0)), .ref (B + 56), .ref (B + 57)]) := by rw [he, hset_n _ _ (by omega)]; exact fh4_0
          have g1 : hh.2 (B + 36) = some (aZ 100 (gF (fun _ => 0) (fun _ => 0) k)) := by rw [he]; exact hset_s _ _ _
          refine g_iload_n 0 dX10_prime_61 rfl ?_
          refine g_bipush dX10_prime_62 (by decide) ?_
          refine g_icmp_ge (tgt := 80) dX10_prime_64 rfl (by unfold gW at *; omega) (by unfold gW at *; omega) (fun c1 => ?_) (fun c1 => ?_)
          · skip
            refine g_aload_n 2 dX10_prime_80 rfl ?_
            refine g_iconst dX10_prime_81 ?_
            refine g_putf 27 dX10_prime_82 kX10 (by decide) fX10_83 rfl g0 (Nat.le_of_ble_eq_true rfl) rfl rfl ?_
            obtain ⟨hh2, eh2⟩ : ∃ z : GH, z = hset hh (B + 35) (oB 10 [.int (gI (q)), .ref (B + 36), .ref (B + 37), .ref (B + 38), .ref (B + 39), .ref (B + 40), .ref (B + 41), .ref (B + 42), .ref (B + 43), .int (gI (0)), .int (gI (0)), .int (gI (0)), .ref (B + 44), .ref (B + 45), .ref (B + 46), .int (gI (0)), .ref (B + 47), .ref (B + 48), .ref (B + 49), .int (gI (0)), .ref (B + 50), .int (gI (0)), .ref (B + 51), .ref (B + 52), .ref (B + 53), .ref (B + 54), .ref (B + 55), .int (gI (0)), .ref (B + 56), .ref (B + 57)]) := ⟨_, rfl⟩
            refine Go.hp eh2.symm ?_
            have fh2_0 : hh2.2 (B + 35) = some (oB 10 [.int (gI (q)), .ref (B + 36), .ref (B + 37), .ref (B + 38), .ref (B + 39), .ref (B + 40), .ref (B + 41), .ref (B + 42), .ref (B + 43), .int (gI (0)), .int (gI (0)), .int (gI (0)), .ref (B + 44), .ref (B + 45), .ref (B + 46), .int (gI (0)), .ref (B + 47), .ref (B + 48), .ref (B + 49), .int (gI (0)), .ref (B + 50), .int (gI (0)), .ref (B + 51), .ref (B + 52), .ref (B + 53), .ref (B + 54), .ref (B + 55), .int (gI (0)), .ref (B + 56), .ref (B + 57)]) := by rw [eh2]; exact hset_s _ _ _
            have fh2_1 : hh2.2 (B + 36) = some (aZ 100 (gF (fun _ => 0) (fun _ => 0) k)) := by rw [eh2, hset_n _ _ (by omega)]; exact g1
            refine g_aload_n 2 dX10_prime_85 rfl ?_
            refine g_iconst dX10_prime_86 ?_
            refine g_putf 9 dX10_prime_87 kX10 (by decide) fX10_86 rfl fh2_0 (Nat.le_of_ble_eq_true rfl) rfl rfl ?_
            obtain ⟨hh3, eh3⟩ : ∃ z : GH, z = hset hh2 (B + 35) (oB 10 [.int (gI (q)), .ref (B + 36), .ref (B + 37), .ref (B + 38), .ref (B + 39), .ref (B + 40), .ref (B + 41), .ref (B + 42), .ref (B + 43), .int (gI (0)), .int (gI (0)), .int (gI (0)), .ref (B + 44), .ref (B + 45), .ref (B + 46), .int (gI (0)), .ref (B + 47), .ref (B + 48), .ref (B + 49), .int (gI (0)), .ref (B + 50), .int (gI (0)), .ref (B + 51), .ref (B + 52), .ref (B + 53), .ref (B + 54), .ref (B + 55), .int (gI (0)), .ref (B + 56), .ref (B + 57)]) := ⟨_, rfl⟩
            refine Go.hp eh3.symm ?_
            have fh3_0 : hh3.2 (B + 35) = some (oB 10 [.int (gI (q)), .ref (B + 36), .ref (B + 37), .ref (B + 38), .ref (B + 39), .ref (B + 40), .ref (B + 41), .ref (B + 42), .ref (B + 43), .int (gI (0)), .int (gI (0)), .int (gI (0)), .ref (B + 44), .ref (B + 45), .ref (B + 46), .int (gI (0)), .ref (B + 47), .ref (B + 48), .ref (B + 49), .int (gI (0)), .ref (B + 50), .int (gI (0)), .ref (B + 51), .ref (B + 52), .ref (B + 53), .ref (B + 54), .ref (B + 55), .int (gI (0)), .ref (B + 56), .ref (B + 57)]) := by rw [eh3]; exact hset_s _ _ _
            have fh3_1 : hh3.2 (B + 36) = some (aZ 100 (gF (fun _ => 0) (fun _ => 0) k)) := by rw [eh3, hset_n _ _ (by omega)]; exact fh2_1
            refine g_aload_n 2 dX10_prime_90 rfl ?_
            refine g_iconst dX10_prime_91 ?_
            refine g_putf 11 dX10_prime_92 kX10 (by decide) fX10_90 rfl fh3_0 (Nat.le_of_ble_eq_true rfl) rfl rfl ?_
            obtain ⟨hh4, eh4⟩ : ∃ z : GH, z = hset hh3 (B + 35) (oB 10 [.int (gI (q)), .ref (B + 36), .ref (B + 37), .ref (B + 38), .ref (B + 39), .ref (B + 40), .ref (B + 41), .ref (B + 42), .ref (B + 43), .int (gI (0)), .int (gI (0)), .int (gI (0)), .ref (B + 44), .ref (B + 45), .ref (B + 46), .int (gI (0)), .ref (B + 47), .ref (B + 48), .ref (B + 49), .int (gI (0)), .ref (B + 50), .int (gI (0)), .ref (B + 51), .ref (B + 52), .ref (B + 53), .ref (B + 54), .ref (B + 55), .int (gI (0)), .ref (B + 56), .ref (B + 57)]) := ⟨_, rfl⟩
            refine Go.hp eh4.symm ?_
            have fh4_0 : hh4.2 (B + 35) = some (oB 10 [.int (gI (q)), .ref (B + 36), .ref (B + 37), .ref (B + 38), .ref (B + 39), .ref (B + 40), .ref (B + 41), .ref (B + 42), .ref (B + 43), .int (gI (0)), .int (gI (0)), .int (gI (0)), .ref (B + 44), .ref (B + 45), .ref (B + 46), .int (gI (0)), .ref (B + 47), .ref (B + 48), .ref (B + 49), .int (gI (0)), .ref (B + 50), .int (gI (0)), .ref (B + 51), .ref (B + 52), .ref (B + 53), .ref (B + 54), .ref (B + 55), .int (gI (0)), .ref (B + 56), .ref (B + 57)]) := by rw [eh4]; exact hset_s _ _ _
            have fh4_1 : hh4.2 (B + 36) = some (aZ 100 (gF (fun _ => 0) (fun _ => 0) k)) := by rw [eh4, hset_n _ _ (by omega)]; exact fh3_1
            refine g_aload_n 2 dX10_prime_95 rfl ?_
            refine g_iconst dX10_prime_96 ?_
            refine g_putf 15 dX10_prime_97 kX10 (by decide) fX10_93 rfl fh4_0 (Nat.le_of_ble_eq_true rfl) rfl rfl ?_
            obtain ⟨hh5, eh5⟩ : ∃ z : GH, z = hset hh4 (B + 35) (oB 10 [.int (gI (q)), .ref (B + 36), .ref (B + 37), .ref (B + 38), .ref (B + 39), .ref (B + 40), .ref (B + 41), .ref (B + 42), .ref (B + 43), .int (gI (0)), .int (gI (0)), .int (gI (0)), .ref (B + 44), .ref (B + 45), .ref (B + 46), .int (gI (0)), .ref (B + 47), .ref (B + 48), .ref (B + 49), .int (gI (0)), .ref (B + 50), .int (gI (0)), .ref (B + 51), .ref (B + 52), .ref (B + 53), .ref (B + 54), .ref (B + 55), .int (gI (0)), .ref (B + 56), .ref (B + 57)]) := ⟨_, rfl⟩
            refine Go.hp eh5.symm ?_
            have fh5_0 : hh5.2 (B + 35) = some (oB 10 [.int (gI (q)), .ref (B + 36), .ref (B + 37), .ref (B + 38), .ref (B + 39), .ref (B + 40), .ref (B + 41), .ref (B + 42), .ref (B + 43), .int (gI (0)), .int (gI (0)), .int (gI (0)), .ref (B + 44), .ref (B + 45), .ref (B + 46), .int (gI (0)), .ref (B + 47), .ref (B + 48), .ref (B + 49), .int (gI (0)), .ref (B + 50), .int (gI (0)), .ref (B + 51), .ref (B + 52), .ref (B + 53), .ref (B + 54), .ref (B + 55), .int (gI (0)), .ref (B + 56), .ref (B + 57)]) := by rw [eh5]; exact hset_s _ _ _
            have fh5_1 : hh5.2 (B + 36) = some (aZ 100 (gF (fun _ => 0) (fun _ => 0) k)) := by rw [eh5, hset_n _ _ (by omega)]; exact fh4_1
            refine g_aload_n 2 dX10_prime_100 rfl ?_
            refine g_iconst dX10_prime_101 ?_
            refine g_putf 19 dX10_prime_102 kX10 (by decide) fX10_96 rfl fh5_0 (Nat.le_of_ble_eq_true rfl) rfl rfl ?_
            obtain ⟨hh6, eh6⟩ : ∃ z : GH, z = hset hh5 (B + 35) (oB 10 [.int (gI (q)), .ref (B + 36), .ref (B + 37), .ref (B + 38), .ref (B + 39), .ref (B + 40), .ref (B + 41), .ref (B + 42), .ref (B + 43), .int (gI (0)), .int (gI (0)), .int (gI (0)), .ref (B + 44), .ref (B + 45), .ref (B + 46), .int (gI (0)), .ref (B + 47), .ref (B + 48), .ref (B + 49), .int (gI (0)), .ref (B + 50), .int (gI (0)), .ref (B + 51), .ref (B + 52), .ref (B + 53), .ref (B + 54), .ref (B + 55), .int (gI (0)), .ref (B + 56), .ref (B + 57)]) := ⟨_, rfl⟩
            refine Go.hp eh6.symm ?_
            have fh6_0 : hh6.2 (B + 35) = some (oB 10 [.int (gI (q)), .ref (B + 36), .ref (B + 37), .ref (B + 38), .ref (B + 39), .ref (B + 40), .ref (B + 41), .ref (B + 42), .ref (B + 43), .int (gI (0)), .int (gI (0)), .int (gI (0)), .ref (B + 44), .ref (B + 45), .ref (B + 46), .int (gI (0)), .ref (B + 47), .ref (B + 48), .ref (B + 49), .int (gI (0)), .ref (B + 50), .int (gI (0)), .ref (B + 51), .ref (B + 52), .ref (B + 53), .ref (B + 54), .ref (B + 55), .int (gI (0)), .ref (B + 56), .ref (B + 57)]) := by rw [eh6]; exact hset_s _ _ _
            have fh6_1 : hh6.2 (B + 36) = some (aZ 100 (gF (fun _ => 0) (fun _ => 0) k)) := by rw [eh6, hset_n _ _ (by omega)]; exact fh5_1
            refine g_iconst dX10_prime_105 ?_
            exact g_zret dX10_prime_106 rfl (by omega) (Or.inl ⟨hpr, rfl⟩)
          · skip
            refine g_aload_n 2 dX10_prime_67 rfl ?_
            refine g_getf 1 dX10_prime_68 kX10 (by decide) fX10_7 g0 rfl ?_
            refine g_iload_n 0 dX10_prime_71 rfl ?_
            refine g_iconst dX10_prime_72 ?_
            refine g_bastore dX10_prime_73 g1 (by omega) (by omega) (by decide) (by omega) ?_
            obtain ⟨hh7, eh7⟩ : ∃ z : GH, z = hset hh (B + 36) (aZ 100 (gup (gF (fun _ => 0) (fun _ => 0) k) (k) (0))) := ⟨_, rfl⟩
            refine Go.hp eh7.symm ?_
            have fh7_0 : hh7.2 (B + 35) = some (oB 10 [.int (gI (q)), .ref (B + 36), .ref (B + 37), .ref (B + 38), .ref (B + 39), .ref (B + 40), .ref (B + 41), .ref (B + 42), .ref (B + 43), .int (gI (0)), .int (gI (0)), .int (gI (0)), .ref (B + 44), .ref (B + 45), .ref (B + 46), .int (gI (0)), .ref (B + 47), .ref (B + 48), .ref (B + 49), .int (gI (0)), .ref (B + 50), .int (gI (0)), .ref (B + 51), .ref (B + 52), .ref (B + 53), .ref (B + 54), .ref (B + 55), .int (gI (0)), .ref (B + 56), .ref (B + 57)]) := by rw [eh7, hset_n _ _ (by omega)]; exact g0
            have fh7_1 : hh7.2 (B + 36) = some (aZ 100 (gup (gF (fun _ => 0) (fun _ => 0) k) (k) (0))) := by rw [eh7]; exact hset_s _ _ _
            refine g_iinc 0 (ls2 := [(3, .int (gI (k + 1))), (2, .int (gI (1))), (0, .ref (B + 35)), (1, .int (gI (q)))]) dX10_prime_74 rfl (by decide) rfl ?_
            refine g_goto (tgt := 61) dX10_prime_77 rfl ?_
            exact ih (k + 1, hh7) ⟨by dsimp only; omega, by dsimp only; omega, by dsimp only; rw [eh7, he, hset_hset, gF_s _ _ hk0]⟩ (by dsimp only; omega)
        exact loop (0, hh4) ⟨by dsimp only; omega, by dsimp only; omega, by dsimp only; rw [gF_0]; exact (hset_id fh4_1).symm⟩
      · skip
        have htm := g_tmb (n := q) (show 0 < d by omega)
        have hq9 := g_sq2 (d := d) (by omega) c2 hn2
        refine g_iload_n 3 dX10_prime_30 rfl ?_
        refine g_iload_n 0 dX10_prime_31 rfl ?_
        refine g_irem dX10_prime_32 (by unfold gW at *; omega) (by unfold gW at *; omega) (by omega) ?_
        refine g_if_eq (tgt := 40) dX10_prime_33 rfl (by unfold gW at *; omega) (fun c5 => ?_) (fun c5 => ?_)
        · skip
          refine g_iconst dX10_prime_40 ?_
          refine g_istore_n (ls2 := [(2, .int (gI (0))), (3, .int (gI (d))), (0, .ref (B + 35)), (1, .int (gI (q)))]) dX10_prime_41 rfl (by decide) rfl ?_
          refine g_iinc 1 (ls2 := [(3, .int (gI (d + 1))), (2, .int (gI (0))), (0, .ref (B + 35)), (1, .int (gI (q)))]) dX10_prime_42 rfl (by decide) rfl ?_
          refine g_goto (tgt := 19) dX10_prime_45 rfl ?_
          exact ih (0, d + 1) (Or.inr ⟨rfl, by dsimp only; omega, by dsimp only; omega, fun z => z.2.2 d (by omega) (by omega) (by omega)⟩) (by dsimp only; omega)
        · skip
          refine g_iconst dX10_prime_36 ?_
          refine g_goto (tgt := 41) dX10_prime_37 rfl ?_
          refine g_istore_n (ls2 := [(2, .int (gI (1))), (3, .int (gI (d))), (0, .ref (B + 35)), (1, .int (gI (q)))]) dX10_prime_41 rfl (by decide) rfl ?_
          refine g_iinc 1 (ls2 := [(3, .int (gI (d + 1))), (2, .int (gI (1))), (0, .ref (B + 35)), (1, .int (gI (q)))]) dX10_prime_42 rfl (by decide) rfl ?_
          refine g_goto (tgt := 19) dX10_prime_45 rfl ?_
          exact ih (1, d + 1) (Or.inl ⟨rfl, by dsimp only; omega, by dsimp only; omega, hn1, hn2, fun e e1 e2 e3 => by
              dsimp only at e2
              rcases Int.lt_or_eq_of_le (show e ≤ d by omega) with z | z
              · exact hd3 e e1 z e3
              · subst z; omega⟩) (by dsimp only; omega)
    · skip
      refine g_iload_n 1 dX10_prime_19 rfl ?_
      refine g_if_eq (tgt := 48) dX10_prime_20 rfl (by unfold gW at *; omega) (fun c1 => ?_) (fun c1 => absurd c1 (by omega))
      refine g_iload_n 1 dX10_prime_48 rfl ?_
      refine g_if_ne (tgt := 54) dX10_prime_49 rfl (by unfold gW at *; omega) (fun c2 => absurd c2 (by omega)) (fun c2 => ?_)
      refine g_iconst dX10_prime_52 ?_
      exact g_zret dX10_prime_53 rfl (by omega) (Or.inr ⟨hpr, rfl⟩)
  refine g_iload_n 1 dX10_prime_0 rfl ?_
  refine g_iconst dX10_prime_1 ?_
  refine g_icmp_lt (tgt := 15) dX10_prime_2 rfl (by unfold gW at *; omega) (by unfold gW at *; omega) (fun c1 => ?_) (fun c1 => ?_)
  · skip
    refine g_iconst dX10_prime_15 ?_
    refine g_istore_n (ls2 := [(2, .int (gI (0))), (0, .ref (B + 35)), (1, .int (gI (q)))]) dX10_prime_16 rfl (by decide) rfl ?_
    refine g_iconst dX10_prime_17 ?_
    refine g_istore_n (ls2 := [(3, .int (gI (2))), (2, .int (gI (0))), (0, .ref (B + 35)), (1, .int (gI (q)))]) dX10_prime_18 rfl (by decide) rfl ?_
    exact lp (0, 2) (Or.inr ⟨rfl, by dsimp only; omega, by dsimp only; omega, fun z => by have := z.1; have := z.2.1; omega⟩)
  · skip
    refine g_iload_n 1 dX10_prime_5 rfl ?_
    refine g_ldc dX10_prime_6 vX10_82 ?_
    refine g_icmp_gt (tgt := 15) dX10_prime_8 rfl (by unfold gW at *; omega) (by unfold gW at *; omega) (fun c2 => ?_) (fun c2 => ?_)
    · skip
      refine g_iconst dX10_prime_15 ?_
      refine g_istore_n (ls2 := [(2, .int (gI (0))), (0, .ref (B + 35)), (1, .int (gI (q)))]) dX10_prime_16 rfl (by decide) rfl ?_
      refine g_iconst dX10_prime_17 ?_
      refine g_istore_n (ls2 := [(3, .int (gI (2))), (2, .int (gI (0))), (0, .ref (B + 35)), (1, .int (gI (q)))]) dX10_prime_18 rfl (by decide) rfl ?_
      exact lp (0, 2) (Or.inr ⟨rfl, by dsimp only; omega, by dsimp only; omega, fun z => by have := z.1; have := z.2.1; omega⟩)
    · skip
      refine g_iconst dX10_prime_11 ?_
      refine g_goto (tgt := 16) dX10_prime_12 rfl ?_
      refine g_istore_n (ls2 := [(2, .int (gI (1))), (0, .ref (B + 35)), (1, .int (gI (q)))]) dX10_prime_16 rfl (by decide) rfl ?_
      refine g_iconst dX10_prime_17 ?_
      refine g_istore_n (ls2 := [(3, .int (gI (2))), (2, .int (gI (1))), (0, .ref (B + 35)), (1, .int (gI (q)))]) dX10_prime_18 rfl (by decide) rfl ?_
      exact lp (1, 2) (Or.inl ⟨rfl, by dsimp only; omega, by dsimp only; omega, by omega, by omega, fun e e1 e2 e3 => absurd e2 (by dsimp only; omega)⟩)
set_option maxHeartbeats 4000000 in
set_option maxRecDepth 100000 in
theorem mbe0 (N : GN) (B : Nat) (h : GH) (g D : Int → Int) (s35 : h.2 (B + 35) = some (oB 10 [.int (gI (2)), .ref (B + 36), .ref (B + 37), .ref (B + 38), .ref (B + 39), .ref (B + 40), .ref (B + 41), .ref (B + 42), .ref (B + 43), .int (gI (0)), .int (gI (0)), .int (gI (0)), .ref (B + 44), .ref (B + 45), .ref (B + 46), .int (gI (0)), .ref (B + 47), .ref (B + 48), .ref (B + 49), .int (gI (0)), .ref (B + 50), .int (gI (0)), .ref (B + 51), .ref (B + 52), .ref (B + 53), .ref (B + 54), .ref (B + 55), .int (gI (0)), .ref (B + 56), .ref (B + 57)])) (s40 : h.2 (B + 40) = some (aI 8000 (g))) (s41 : h.2 (B + 41) = some (aI 40 (D))) : Sp N yX10_be mX10_be 0 0 [.ref (B + 35), .int (gI (0)), .int (gI (0))] h (fun r h1 => r = none ∧ ∃ G : Int → Int, h1 = hset (hset h (B + 40) (aI 8000 G)) (B + 41) (aI 40 (gup D 0 (-1)))) := by
  refine Sp.of (by decide) rfl rfl (Nat.le_of_ble_eq_true rfl) ?_
  show Go N mX10_be _ 0 0 h 0 [(0, .ref (B + 35)), (1, .int (gI (0))), (2, .int (gI (0)))] []
  refine g_iconst dX10_be_0 ?_
  refine g_istore_n (ls2 := [(3, .int (gI (0))), (0, .ref (B + 35)), (1, .int (gI (0))), (2, .int (gI (0)))]) dX10_be_1 rfl (by decide) rfl ?_
  have loop : ∀ x : Int × (Int → Int) × GH, (0 ≤ x.1 ∧ x.1 ≤ 200 ∧ x.2.2 = hset h (B + 40) (aI 8000 x.2.1)) → Go N mX10_be (fun r h1 => r = none ∧ ∃ G : Int → Int, h1 = hset (hset h (B + 40) (aI 8000 G)) (B + 41) (aI 40 (gup D 0 (-1)))) 0 0 x.2.2 2 [(3, .int (gI (x.1))), (0, .ref (B + 35)), (1, .int (gI (0))), (2, .int (gI (0)))] [] := by
    refine Go.loop _ (fun x : Int × (Int → Int) × GH => Go N mX10_be _ 0 0 x.2.2 2 [(3, .int (gI (x.1))), (0, .ref (B + 35)), (1, .int (gI (0))), (2, .int (gI (0)))] []) (fun x => (201 - x.1).toNat) (fun x hx ih => ?_)
    obtain ⟨k, gk, hh⟩ := x
    obtain ⟨hk0, hk1, he⟩ := hx
    dsimp only at hk0 hk1 he
    have g0 : hh.2 (B + 35) = some (oB 10 [.int (gI (2)), .ref (B + 36), .ref (B + 37), .ref (B + 38), .ref (B + 39), .ref (B + 40), .ref (B + 41), .ref (B + 42), .ref (B + 43), .int (gI (0)), .int (gI (0)), .int (gI (0)), .ref (B + 44), .ref (B + 45), .ref (B + 46), .int (gI (0)), .ref (B + 47), .ref (B + 48), .ref (B + 49), .int (gI (0)), .ref (B + 50), .int (gI (0)), .ref (B + 51), .ref (B + 52), .ref (B + 53), .ref (B + 54), .ref (B + 55), .int (gI (0)), .ref (B + 56), .ref (B + 57)]) := by rw [he, hset_n _ _ (by omega)]; exact s35
    have g1 : hh.2 (B + 40) = some (aI 8000 gk) := by rw [he]; exact hset_s _ _ _
    have g2 : hh.2 (B + 41) = some (aI 40 (D)) := by rw [he, hset_n _ _ (by omega)]; exact s41
    refine g_iload_n 0 dX10_be_2 rfl ?_
    refine g_sipush dX10_be_3 (by decide) ?_
    refine g_icmp_ge (tgt := 28) dX10_be_6 rfl (by unfold gW at *; omega) (by unfold gW at *; omega) (fun c501 => ?_) (fun c501 => ?_)
    · skip
      refine g_aload_n 1 dX10_be_28 rfl ?_
      refine g_getf 5 dX10_be_29 kX10 (by decide) fX10_23 g0 rfl ?_
      refine g_sipush dX10_be_32 (by decide) ?_
      refine g_iload_n 2 dX10_be_35 rfl ?_
      refine g_imul dX10_be_36 ?_
      refine g_iload_n 3 dX10_be_37 rfl ?_
      refine g_iastore dX10_be_38 g1 (by omega) (by omega) (by decide) ?_
      obtain ⟨hh502, eh502⟩ : ∃ z : GH, z = hset hh (B + 40) (aI 8000 (gup (gk) ((200) * (0)) (0))) := ⟨_, rfl⟩
      refine Go.hp eh502.symm ?_
      have fh502_0 : hh502.2 (B + 35) = some (oB 10 [.int (gI (2)), .ref (B + 36), .ref (B + 37), .ref (B + 38), .ref (B + 39), .ref (B + 40), .ref (B + 41), .ref (B + 42), .ref (B + 43), .int (gI (0)), .int (gI (0)), .int (gI (0)), .ref (B + 44), .ref (B + 45), .ref (B + 46), .int (gI (0)), .ref (B + 47), .ref (B + 48), .ref (B + 49), .int (gI (0)), .ref (B + 50), .int (gI (0)), .ref (B + 51), .ref (B + 52), .ref (B + 53), .ref (B + 54), .ref (B + 55), .int (gI (0)), .ref (B + 56), .ref (B + 57)]) := by rw [eh502, hset_n _ _ (by omega)]; exact g0
      have fh502_1 : hh502.2 (B + 40) = some (aI 8000 (gup (gk) ((200) * (0)) (0))) := by rw [eh502]; exact hset_s _ _ _
      have fh502_2 : hh502.2 (B + 41) = some (aI 40 (D)) := by rw [eh502, hset_n _ _ (by omega)]; exact g2
      refine g_aload_n 1 dX10_be_39 rfl ?_
      refine g_getf 6 dX10_be_40 kX10 (by decide) fX10_26 fh502_0 rfl ?_
      refine g_iload_n 2 dX10_be_43 rfl ?_
      refine g_iload_n 3 dX10_be_44 rfl ?_
      refine g_if_ne (tgt := 52) dX10_be_45 rfl (by unfold gW at *; omega) (fun c503 => absurd c503 (by omega)) (fun c503 => ?_)
      refine g_iconst dX10_be_48 ?_
      refine g_goto (tgt := 53) dX10_be_49 rfl ?_
      refine g_iastore dX10_be_53 fh502_2 (by omega) (by omega) (by decide) ?_
      obtain ⟨hh504, eh504⟩ : ∃ z : GH, z = hset hh502 (B + 41) (aI 40 (gup (D) (0) (-1))) := ⟨_, rfl⟩
      refine Go.hp eh504.symm ?_
      have fh504_0 : hh504.2 (B + 35) = some (oB 10 [.int (gI (2)), .ref (B + 36), .ref (B + 37), .ref (B + 38), .ref (B + 39), .ref (B + 40), .ref (B + 41), .ref (B + 42), .ref (B + 43), .int (gI (0)), .int (gI (0)), .int (gI (0)), .ref (B + 44), .ref (B + 45), .ref (B + 46), .int (gI (0)), .ref (B + 47), .ref (B + 48), .ref (B + 49), .int (gI (0)), .ref (B + 50), .int (gI (0)), .ref (B + 51), .ref (B + 52), .ref (B + 53), .ref (B + 54), .ref (B + 55), .int (gI (0)), .ref (B + 56), .ref (B + 57)]) := by rw [eh504, hset_n _ _ (by omega)]; exact fh502_0
      have fh504_1 : hh504.2 (B + 40) = some (aI 8000 (gup (gk) ((200) * (0)) (0))) := by rw [eh504, hset_n _ _ (by omega)]; exact fh502_1
      have fh504_2 : hh504.2 (B + 41) = some (aI 40 (gup (D) (0) (-1))) := by rw [eh504]; exact hset_s _ _ _
      exact g_vret dX10_be_54 rfl ⟨rfl, _, by rw [eh504, eh502, he, hset_hset]⟩
    · skip
      refine g_aload_n 1 dX10_be_9 rfl ?_
      refine g_getf 5 dX10_be_10 kX10 (by decide) fX10_23 g0 rfl ?_
      refine g_sipush dX10_be_13 (by decide) ?_
      refine g_iload_n 2 dX10_be_16 rfl ?_
      refine g_imul dX10_be_17 ?_
      refine g_iload_n 0 dX10_be_18 rfl ?_
      refine g_iadd dX10_be_19 ?_
      refine g_iconst dX10_be_20 ?_
      refine g_iastore dX10_be_21 g1 (by omega) (by omega) (by decide) ?_
      obtain ⟨hh505, eh505⟩ : ∃ z : GH, z = hset hh (B + 40) (aI 8000 (gup (gk) (((200) * (0)) + (k)) (0))) := ⟨_, rfl⟩
      refine Go.hp eh505.symm ?_
      have fh505_0 : hh505.2 (B + 35) = some (oB 10 [.int (gI (2)), .ref (B + 36), .ref (B + 37), .ref (B + 38), .ref (B + 39), .ref (B + 40), .ref (B + 41), .ref (B + 42), .ref (B + 43), .int (gI (0)), .int (gI (0)), .int (gI (0)), .ref (B + 44), .ref (B + 45), .ref (B + 46), .int (gI (0)), .ref (B + 47), .ref (B + 48), .ref (B + 49), .int (gI (0)), .ref (B + 50), .int (gI (0)), .ref (B + 51), .ref (B + 52), .ref (B + 53), .ref (B + 54), .ref (B + 55), .int (gI (0)), .ref (B + 56), .ref (B + 57)]) := by rw [eh505, hset_n _ _ (by omega)]; exact g0
      have fh505_1 : hh505.2 (B + 40) = some (aI 8000 (gup (gk) (((200) * (0)) + (k)) (0))) := by rw [eh505]; exact hset_s _ _ _
      have fh505_2 : hh505.2 (B + 41) = some (aI 40 (D)) := by rw [eh505, hset_n _ _ (by omega)]; exact g2
      refine g_iinc 0 (ls2 := [(3, .int (gI (k + 1))), (0, .ref (B + 35)), (1, .int (gI (0))), (2, .int (gI (0)))]) dX10_be_22 rfl (by decide) rfl ?_
      refine g_goto (tgt := 2) dX10_be_25 rfl ?_
      exact ih (k + 1, _, hh505) ⟨by dsimp only; omega, by dsimp only; omega, by dsimp only; rw [eh505, he, hset_hset]⟩ (by dsimp only; omega)
  exact loop (0, _, h) ⟨by dsimp only; omega, by dsimp only; omega, by dsimp only; exact (hset_id s40).symm⟩
set_option maxHeartbeats 4000000 in
set_option maxRecDepth 100000 in
theorem mbe1 (N : GN) (B : Nat) (h : GH) (g D : Int → Int) (s35 : h.2 (B + 35) = some (oB 10 [.int (gI (2)), .ref (B + 36), .ref (B + 37), .ref (B + 38), .ref (B + 39), .ref (B + 40), .ref (B + 41), .ref (B + 42), .ref (B + 43), .int (gI (0)), .int (gI (0)), .int (gI (0)), .ref (B + 44), .ref (B + 45), .ref (B + 46), .int (gI (0)), .ref (B + 47), .ref (B + 48), .ref (B + 49), .int (gI (0)), .ref (B + 50), .int (gI (0)), .ref (B + 51), .ref (B + 52), .ref (B + 53), .ref (B + 54), .ref (B + 55), .int (gI (0)), .ref (B + 56), .ref (B + 57)])) (s40 : h.2 (B + 40) = some (aI 8000 (g))) (s41 : h.2 (B + 41) = some (aI 40 (D))) : Sp N yX10_be mX10_be 0 0 [.ref (B + 35), .int (gI (1)), .int (gI (1))] h (fun r h1 => r = none ∧ ∃ G : Int → Int, h1 = hset (hset h (B + 40) (aI 8000 G)) (B + 41) (aI 40 (gup D 1 (0)))) := by
  refine Sp.of (by decide) rfl rfl (Nat.le_of_ble_eq_true rfl) ?_
  show Go N mX10_be _ 0 0 h 0 [(0, .ref (B + 35)), (1, .int (gI (1))), (2, .int (gI (1)))] []
  refine g_iconst dX10_be_0 ?_
  refine g_istore_n (ls2 := [(3, .int (gI (0))), (0, .ref (B + 35)), (1, .int (gI (1))), (2, .int (gI (1)))]) dX10_be_1 rfl (by decide) rfl ?_
  have loop : ∀ x : Int × (Int → Int) × GH, (0 ≤ x.1 ∧ x.1 ≤ 200 ∧ x.2.2 = hset h (B + 40) (aI 8000 x.2.1)) → Go N mX10_be (fun r h1 => r = none ∧ ∃ G : Int → Int, h1 = hset (hset h (B + 40) (aI 8000 G)) (B + 41) (aI 40 (gup D 1 (0)))) 0 0 x.2.2 2 [(3, .int (gI (x.1))), (0, .ref (B + 35)), (1, .int (gI (1))), (2, .int (gI (1)))] [] := by
    refine Go.loop _ (fun x : Int × (Int → Int) × GH => Go N mX10_be _ 0 0 x.2.2 2 [(3, .int (gI (x.1))), (0, .ref (B + 35)), (1, .int (gI (1))), (2, .int (gI (1)))] []) (fun x => (201 - x.1).toNat) (fun x hx ih => ?_)
    obtain ⟨k, gk, hh⟩ := x
    obtain ⟨hk0, hk1, he⟩ := hx
    dsimp only at hk0 hk1 he
    have g0 : hh.2 (B + 35) = some (oB 10 [.int (gI (2)), .ref (B + 36), .ref (B + 37), .ref (B + 38), .ref (B + 39), .ref (B + 40), .ref (B + 41), .ref (B + 42), .ref (B + 43), .int (gI (0)), .int (gI (0)), .int (gI (0)), .ref (B + 44), .ref (B + 45), .ref (B + 46), .int (gI (0)), .ref (B + 47), .ref (B + 48), .ref (B + 49), .int (gI (0)), .ref (B + 50), .int (gI (0)), .ref (B + 51), .ref (B + 52), .ref (B + 53), .ref (B + 54), .ref (B + 55), .int (gI (0)), .ref (B + 56), .ref (B + 57)]) := by rw [he, hset_n _ _ (by omega)]; exact s35
    have g1 : hh.2 (B + 40) = some (aI 8000 gk) := by rw [he]; exact hset_s _ _ _
    have g2 : hh.2 (B + 41) = some (aI 40 (D)) := by rw [he, hset_n _ _ (by omega)]; exact s41
    refine g_iload_n 0 dX10_be_2 rfl ?_
    refine g_sipush dX10_be_3 (by decide) ?_
    refine g_icmp_ge (tgt := 28) dX10_be_6 rfl (by unfold gW at *; omega) (by unfold gW at *; omega) (fun c501 => ?_) (fun c501 => ?_)
    · skip
      refine g_aload_n 1 dX10_be_28 rfl ?_
      refine g_getf 5 dX10_be_29 kX10 (by decide) fX10_23 g0 rfl ?_
      refine g_sipush dX10_be_32 (by decide) ?_
      refine g_iload_n 2 dX10_be_35 rfl ?_
      refine g_imul dX10_be_36 ?_
      refine g_iload_n 3 dX10_be_37 rfl ?_
      refine g_iastore dX10_be_38 g1 (by omega) (by omega) (by decide) ?_
      obtain ⟨hh502, eh502⟩ : ∃ z : GH, z = hset hh (B + 40) (aI 8000 (gup (gk) ((200) * (1)) (1))) := ⟨_, rfl⟩
      refine Go.hp eh502.symm ?_
      have fh502_0 : hh502.2 (B + 35) = some (oB 10 [.int (gI (2)), .ref (B + 36), .ref (B + 37), .ref (B + 38), .ref (B + 39), .ref (B + 40), .ref (B + 41), .ref (B + 42), .ref (B + 43), .int (gI (0)), .int (gI (0)), .int (gI (0)), .ref (B + 44), .ref (B + 45), .ref (B + 46), .int (gI (0)), .ref (B + 47), .ref (B + 48), .ref (B + 49), .int (gI (0)), .ref (B + 50), .int (gI (0)), .ref (B + 51), .ref (B + 52), .ref (B + 53), .ref (B + 54), .ref (B + 55), .int (gI (0)), .ref (B + 56), .ref (B + 57)]) := by rw [eh502, hset_n _ _ (by omega)]; exact g0
      have fh502_1 : hh502.2 (B + 40) = some (aI 8000 (gup (gk) ((200) * (1)) (1))) := by rw [eh502]; exact hset_s _ _ _
      have fh502_2 : hh502.2 (B + 41) = some (aI 40 (D)) := by rw [eh502, hset_n _ _ (by omega)]; exact g2
      refine g_aload_n 1 dX10_be_39 rfl ?_
      refine g_getf 6 dX10_be_40 kX10 (by decide) fX10_26 fh502_0 rfl ?_
      refine g_iload_n 2 dX10_be_43 rfl ?_
      refine g_iload_n 3 dX10_be_44 rfl ?_
      refine g_if_ne (tgt := 52) dX10_be_45 rfl (by unfold gW at *; omega) (fun c503 => ?_) (fun c503 => absurd c503 (by omega))
      refine g_iconst dX10_be_52 ?_
      refine g_iastore dX10_be_53 fh502_2 (by omega) (by omega) (by decide) ?_
      obtain ⟨hh504, eh504⟩ : ∃ z : GH, z = hset hh502 (B + 41) (aI 40 (gup (D) (1) (0))) := ⟨_, rfl⟩
      refine Go.hp eh504.symm ?_
      have fh504_0 : hh504.2 (B + 35) = some (oB 10 [.int (gI (2)), .ref (B + 36), .ref (B + 37), .ref (B + 38), .ref (B + 39), .ref (B + 40), .ref (B + 41), .ref (B + 42), .ref (B + 43), .int (gI (0)), .int (gI (0)), .int (gI (0)), .ref (B + 44), .ref (B + 45), .ref (B + 46), .int (gI (0)), .ref (B + 47), .ref (B + 48), .ref (B + 49), .int (gI (0)), .ref (B + 50), .int (gI (0)), .ref (B + 51), .ref (B + 52), .ref (B + 53), .ref (B + 54), .ref (B + 55), .int (gI (0)), .ref (B + 56), .ref (B + 57)]) := by rw [eh504, hset_n _ _ (by omega)]; exact fh502_0
      have fh504_1 : hh504.2 (B + 40) = some (aI 8000 (gup (gk) ((200) * (1)) (1))) := by rw [eh504, hset_n _ _ (by omega)]; exact fh502_1
      have fh504_2 : hh504.2 (B + 41) = some (aI 40 (gup (D) (1) (0))) := by rw [eh504]; exact hset_s _ _ _
      exact g_vret dX10_be_54 rfl ⟨rfl, _, by rw [eh504, eh502, he, hset_hset]⟩
    · skip
      refine g_aload_n 1 dX10_be_9 rfl ?_
      refine g_getf 5 dX10_be_10 kX10 (by decide) fX10_23 g0 rfl ?_
      refine g_sipush dX10_be_13 (by decide) ?_
      refine g_iload_n 2 dX10_be_16 rfl ?_
      refine g_imul dX10_be_17 ?_
      refine g_iload_n 0 dX10_be_18 rfl ?_
      refine g_iadd dX10_be_19 ?_
      refine g_iconst dX10_be_20 ?_
      refine g_iastore dX10_be_21 g1 (by omega) (by omega) (by decide) ?_
      obtain ⟨hh505, eh505⟩ : ∃ z : GH, z = hset hh (B + 40) (aI 8000 (gup (gk) (((200) * (1)) + (k)) (0))) := ⟨_, rfl⟩
      refine Go.hp eh505.symm ?_
      have fh505_0 : hh505.2 (B + 35) = some (oB 10 [.int (gI (2)), .ref (B + 36), .ref (B + 37), .ref (B + 38), .ref (B + 39), .ref (B + 40), .ref (B + 41), .ref (B + 42), .ref (B + 43), .int (gI (0)), .int (gI (0)), .int (gI (0)), .ref (B + 44), .ref (B + 45), .ref (B + 46), .int (gI (0)), .ref (B + 47), .ref (B + 48), .ref (B + 49), .int (gI (0)), .ref (B + 50), .int (gI (0)), .ref (B + 51), .ref (B + 52), .ref (B + 53), .ref (B + 54), .ref (B + 55), .int (gI (0)), .ref (B + 56), .ref (B + 57)]) := by rw [eh505, hset_n _ _ (by omega)]; exact g0
      have fh505_1 : hh505.2 (B + 40) = some (aI 8000 (gup (gk) (((200) * (1)) + (k)) (0))) := by rw [eh505]; exact hset_s _ _ _
      have fh505_2 : hh505.2 (B + 41) = some (aI 40 (D)) := by rw [eh505, hset_n _ _ (by omega)]; exact g2
      refine g_iinc 0 (ls2 := [(3, .int (gI (k + 1))), (0, .ref (B + 35)), (1, .int (gI (1))), (2, .int (gI (1)))]) dX10_be_22 rfl (by decide) rfl ?_
      refine g_goto (tgt := 2) dX10_be_25 rfl ?_
      exact ih (k + 1, _, hh505) ⟨by dsimp only; omega, by dsimp only; omega, by dsimp only; rw [eh505, he, hset_hset]⟩ (by dsimp only; omega)
  exact loop (0, _, h) ⟨by dsimp only; omega, by dsimp only; omega, by dsimp only; exact (hset_id s40).symm⟩
set_option maxHeartbeats 4000000 in
set_option maxRecDepth 100000 in
theorem mkeepR (N : GN) (B : Nat) (h : GH) (g u w D : Int → Int) (hD : D 0 = -1) (s35 : h.2 (B + 35) = some (oB 10 [.int (gI (2)), .ref (B + 36), .ref (B + 37), .ref (B + 38), .ref (B + 39), .ref (B + 40), .ref (B + 41), .ref (B + 42), .ref (B + 43), .int (gI (0)), .int (gI (0)), .int (gI (0)), .ref (B + 44), .ref (B + 45), .ref (B + 46), .int (gI (0)), .ref (B + 47), .ref (B + 48), .ref (B + 49), .int (gI (0)), .ref (B + 50), .int (gI (0)), .ref (B + 51), .ref (B + 52), .ref (B + 53), .ref (B + 54), .ref (B + 55), .int (gI (0)), .ref (B + 56), .ref (B + 57)])) (s36 : h.2 (B + 36) = some (aZ 100 (fun _ => 0))) (s37 : h.2 (B + 37) = some (aI 28700 (g))) (s38 : h.2 (B + 38) = some (aI 1500 (u))) (s40 : h.2 (B + 40) = some (aI 8000 (w))) (s41 : h.2 (B + 41) = some (aI 40 (D))) : Sp N yX10_keepRegister mX10_keepRegister 0 0 [.ref (B + 35), .int (gI (0))] h (fun r h1 => r = some (.int (gI (0)))) := by
  refine Sp.of (by decide) rfl rfl (Nat.le_of_ble_eq_true rfl) ?_
  show Go N mX10_keepRegister _ 0 0 h 0 [(0, .ref (B + 35)), (1, .int (gI (0)))] []
  refine g_aload_n 0 dX10_keepRegister_0 rfl ?_
  refine g_getf 6 dX10_keepRegister_1 kX10 (by decide) fX10_26 s35 rfl ?_
  refine g_iload_n 1 dX10_keepRegister_4 rfl ?_
  refine g_iaload dX10_keepRegister_5 s41 (by omega) (by omega) (by decide) ?_
  rw [hD]
  refine g_bipush dX10_keepRegister_6 (by decide) ?_
  refine g_icmp_le (tgt := 14) dX10_keepRegister_8 rfl (by unfold gW at *; omega) (by unfold gW at *; omega) (fun c1 => ?_) (fun c1 => absurd c1 (by omega))
  refine g_aload_n 0 dX10_keepRegister_14 rfl ?_
  refine g_callV (nc2 := 0) (ns2 := 0) (ci := 10) (As := []) (st := []) rfl dX10_keepRegister_15 okX10_clear lX10_107 itX10_clear seX10_clear rfl s35 (by decide) (by decide) rfl (Nat.le_of_ble_eq_true rfl) (mclear N B _ _ s35 s38) (by omega) (by omega) (fun v2 hc2 q2 => ?_)
  obtain ⟨rfl, hqc3⟩ := q2
  have fk4_0 : hc2.2 (B + 35) = some (oB 10 [.int (gI (2)), .ref (B + 36), .ref (B + 37), .ref (B + 38), .ref (B + 39), .ref (B + 40), .ref (B + 41), .ref (B + 42), .ref (B + 43), .int (gI (0)), .int (gI (0)), .int (gI (0)), .ref (B + 44), .ref (B + 45), .ref (B + 46), .int (gI (0)), .ref (B + 47), .ref (B + 48), .ref (B + 49), .int (gI (0)), .ref (B + 50), .int (gI (0)), .ref (B + 51), .ref (B + 52), .ref (B + 53), .ref (B + 54), .ref (B + 55), .int (gI (0)), .ref (B + 56), .ref (B + 57)]) := by rw [hqc3, hset_n _ _ (by omega)]; exact s35
  have fk4_1 : hc2.2 (B + 36) = some (aZ 100 (fun _ => 0)) := by rw [hqc3, hset_n _ _ (by omega)]; exact s36
  have fk4_2 : hc2.2 (B + 37) = some (aI 28700 (g)) := by rw [hqc3, hset_n _ _ (by omega)]; exact s37
  have fk4_3 : hc2.2 (B + 38) = some (aI 1500 (gF (u) (fun _ => 0) 1500)) := by rw [hqc3]; exact hset_s _ _ _
  have fk4_4 : hc2.2 (B + 40) = some (aI 8000 (w)) := by rw [hqc3, hset_n _ _ (by omega)]; exact s40
  have fk4_5 : hc2.2 (B + 41) = some (aI 40 (D)) := by rw [hqc3, hset_n _ _ (by omega)]; exact s41
  refine Go.nf (h' := hc2) (st' := []) rfl rfl (Nat.le_refl _) (Nat.le_refl _) ?_
  refine g_iconst dX10_keepRegister_18 ?_
  refine g_istore_n (ls2 := [(2, .int (gI (0))), (0, .ref (B + 35)), (1, .int (gI (0)))]) dX10_keepRegister_19 rfl (by decide) rfl ?_
  have loop : ∀ x : Int × (Int → Int) × GH, (0 ≤ x.1 ∧ x.1 ≤ 41 ∧ x.2.2 = hset hc2 (B + 38) (aI 1500 x.2.1)) → Go N mX10_keepRegister (fun r h1 => r = some (.int (gI (0)))) 0 0 x.2.2 20 [(2, .int (gI (x.1))), (0, .ref (B + 35)), (1, .int (gI (0)))] [] := by
    refine Go.loop _ (fun x : Int × (Int → Int) × GH => Go N mX10_keepRegister _ 0 0 x.2.2 20 [(2, .int (gI (x.1))), (0, .ref (B + 35)), (1, .int (gI (0)))] []) (fun x => (42 - x.1).toNat) (fun x hx ih => ?_)
    obtain ⟨k, gk, hh⟩ := x
    obtain ⟨hk0, hk1, he⟩ := hx
    dsimp only at hk0 hk1 he
    have g0 : hh.2 (B + 35) = some (oB 10 [.int (gI (2)), .ref (B + 36), .ref (B + 37), .ref (B + 38), .ref (B + 39), .ref (B + 40), .ref (B + 41), .ref (B + 42), .ref (B + 43), .int (gI (0)), .int (gI (0)), .int (gI (0)), .ref (B + 44), .ref (B + 45), .ref (B + 46), .int (gI (0)), .ref (B + 47), .ref (B + 48), .ref (B + 49), .int (gI (0)), .ref (B + 50), .int (gI (0)), .ref (B + 51), .ref (B + 52), .ref (B + 53), .ref (B + 54), .ref (B + 55), .int (gI (0)), .ref (B + 56), .ref (B + 57)]) := by rw [he, hset_n _ _ (by omega)]; exact fk4_0
    have g1 : hh.2 (B + 36) = some (aZ 100 (fun _ => 0)) := by rw [he, hset_n _ _ (by omega)]; exact fk4_1
    have g2 : hh.2 (B + 37) = some (aI 28700 (g)) := by rw [he, hset_n _ _ (by omega)]; exact fk4_2
    have g3 : hh.2 (B + 38) = some (aI 1500 gk) := by rw [he]; exact hset_s _ _ _
    have g4 : hh.2 (B + 40) = some (aI 8000 (w)) := by rw [he, hset_n _ _ (by omega)]; exact fk4_4
    have g5 : hh.2 (B + 41) = some (aI 40 (D)) := by rw [he, hset_n _ _ (by omega)]; exact fk4_5
    refine g_iload_n 0 dX10_keepRegister_20 rfl ?_
    refine g_bipush dX10_keepRegister_21 (by decide) ?_
    refine g_icmp_gt (tgt := 53) dX10_keepRegister_23 rfl (by unfold gW at *; omega) (by unfold gW at *; omega) (fun c501 => ?_) (fun c501 => ?_)
    · skip
      refine g_aload_n 1 dX10_keepRegister_53 rfl ?_
      refine g_callV (nc2 := 0) (ns2 := 0) (ci := 10) (As := []) (st := []) rfl dX10_keepRegister_54 okX10_keep lX10_114 itX10_keep seX10_keep rfl g0 (by decide) (by decide) rfl (Nat.le_of_ble_eq_true rfl) (mkeep N B _ _ _ g0 g1 g2 g3) (by omega) (by omega) (fun v502 hc502 q502 => ?_)
      subst q502
      refine Go.nf (h' := hc502) (st' := [.int (gI (0))]) rfl rfl (Nat.le_refl _) (Nat.le_refl _) ?_
      exact g_iret dX10_keepRegister_57 rfl rfl
    · skip
      refine g_aload_n 1 dX10_keepRegister_26 rfl ?_
      refine g_getf 3 dX10_keepRegister_27 kX10 (by decide) fX10_17 g0 rfl ?_
      refine g_bipush dX10_keepRegister_30 (by decide) ?_
      refine g_iload_n 0 dX10_keepRegister_32 rfl ?_
      refine g_imul dX10_keepRegister_33 ?_
      refine g_aload_n 1 dX10_keepRegister_34 rfl ?_
      refine g_getf 5 dX10_keepRegister_35 kX10 (by decide) fX10_23 g0 rfl ?_
      refine g_sipush dX10_keepRegister_38 (by decide) ?_
      refine g_iload_n 2 dX10_keepRegister_41 rfl ?_
      refine g_imul dX10_keepRegister_42 ?_
      refine g_iload_n 0 dX10_keepRegister_43 rfl ?_
      refine g_iadd dX10_keepRegister_44 ?_
      refine g_iaload dX10_keepRegister_45 g4 (by omega) (by omega) (by decide) ?_
      refine g_iastore dX10_keepRegister_46 g3 (by omega) (by omega) (by decide) ?_
      obtain ⟨hh503, eh503⟩ : ∃ z : GH, z = hset hh (B + 38) (aI 1500 (gup (gk) ((7) * (k)) ((w) (((200) * (0)) + (k))))) := ⟨_, rfl⟩
      refine Go.hp eh503.symm ?_
      have fh503_0 : hh503.2 (B + 35) = some (oB 10 [.int (gI (2)), .ref (B + 36), .ref (B + 37), .ref (B + 38), .ref (B + 39), .ref (B + 40), .ref (B + 41), .ref (B + 42), .ref (B + 43), .int (gI (0)), .int (gI (0)), .int (gI (0)), .ref (B + 44), .ref (B + 45), .ref (B + 46), .int (gI (0)), .ref (B + 47), .ref (B + 48), .ref (B + 49), .int (gI (0)), .ref (B + 50), .int (gI (0)), .ref (B + 51), .ref (B + 52), .ref (B + 53), .ref (B + 54), .ref (B + 55), .int (gI (0)), .ref (B + 56), .ref (B + 57)]) := by rw [eh503, hset_n _ _ (by omega)]; exact g0
      have fh503_1 : hh503.2 (B + 36) = some (aZ 100 (fun _ => 0)) := by rw [eh503, hset_n _ _ (by omega)]; exact g1
      have fh503_2 : hh503.2 (B + 37) = some (aI 28700 (g)) := by rw [eh503, hset_n _ _ (by omega)]; exact g2
      have fh503_3 : hh503.2 (B + 38) = some (aI 1500 (gup (gk) ((7) * (k)) ((w) (((200) * (0)) + (k))))) := by rw [eh503]; exact hset_s _ _ _
      have fh503_4 : hh503.2 (B + 40) = some (aI 8000 (w)) := by rw [eh503, hset_n _ _ (by omega)]; exact g4
      have fh503_5 : hh503.2 (B + 41) = some (aI 40 (D)) := by rw [eh503, hset_n _ _ (by omega)]; exact g5
      refine g_iinc 0 (ls2 := [(2, .int (gI (k + 1))), (0, .ref (B + 35)), (1, .int (gI (0)))]) dX10_keepRegister_47 rfl (by decide) rfl ?_
      refine g_goto (tgt := 20) dX10_keepRegister_50 rfl ?_
      exact ih (k + 1, _, hh503) ⟨by dsimp only; omega, by dsimp only; omega, by dsimp only; rw [eh503, he, hset_hset]⟩ (by dsimp only; omega)
  exact loop (0, _, hc2) ⟨by dsimp only; omega, by dsimp only; omega, by dsimp only; exact (hset_id fk4_3).symm⟩
set_option maxHeartbeats 4000000 in
set_option maxRecDepth 100000 in
theorem minterpolate (N : GN) (B : Nat) (h : GH) (hM : Mo B h) : Sp N yX10_interpolate mX10_interpolate 0 0 [.ref (B + 35)] h (fun r h1 => r = some (.int (gI (0)))) := by
  refine Sp.of (by decide) rfl rfl (Nat.le_of_ble_eq_true rfl) ?_
  show Go N mX10_interpolate _ 0 0 h 0 [(0, .ref (B + 35))] []
  have s35 : h.2 (B + 35) = some (oB 10 [.int (gI (2)), .ref (B + 36), .ref (B + 37), .ref (B + 38), .ref (B + 39), .ref (B + 40), .ref (B + 41), .ref (B + 42), .ref (B + 43), .int (gI (0)), .int (gI (0)), .int (gI (0)), .ref (B + 44), .ref (B + 45), .ref (B + 46), .int (gI (0)), .ref (B + 47), .ref (B + 48), .ref (B + 49), .int (gI (0)), .ref (B + 50), .int (gI (0)), .ref (B + 51), .ref (B + 52), .ref (B + 53), .ref (B + 54), .ref (B + 55), .int (gI (0)), .ref (B + 56), .ref (B + 57)]) := hM 35 _ (by omega) rfl
  have s36 : h.2 (B + 36) = some (aZ 100 (fun _ => 0)) := hM 36 _ (by omega) rfl
  have s37 : h.2 (B + 37) = some (aI 28700 (fun _ => 0)) := hM 37 _ (by omega) rfl
  have s38 : h.2 (B + 38) = some (aI 1500 (fun _ => 0)) := hM 38 _ (by omega) rfl
  have s40 : h.2 (B + 40) = some (aI 8000 (fun _ => 0)) := hM 40 _ (by omega) rfl
  have s41 : h.2 (B + 41) = some (aI 40 (fun _ => 0)) := hM 41 _ (by omega) rfl
  refine g_aload_n 0 dX10_interpolate_0 rfl ?_
  refine g_iconst dX10_interpolate_1 ?_
  refine g_iconst dX10_interpolate_2 ?_
  refine g_callV (nc2 := 0) (ns2 := 0) (ci := 10) (As := [.int (gI (0)), .int (gI (0))]) (st := []) rfl dX10_interpolate_3 okX10_be lX10_170 itX10_be seX10_be rfl s35 (by decide) (by decide) rfl (Nat.le_of_ble_eq_true rfl) (mbe0 N B _ _ _ s35 s40 s41) (by omega) (by omega) (fun v1 hc1 q1 => ?_)
  obtain ⟨rfl, G2, hqe2⟩ := q1
  have fk3_0 : hc1.2 (B + 35) = some (oB 10 [.int (gI (2)), .ref (B + 36), .ref (B + 37), .ref (B + 38), .ref (B + 39), .ref (B + 40), .ref (B + 41), .ref (B + 42), .ref (B + 43), .int (gI (0)), .int (gI (0)), .int (gI (0)), .ref (B + 44), .ref (B + 45), .ref (B + 46), .int (gI (0)), .ref (B + 47), .ref (B + 48), .ref (B + 49), .int (gI (0)), .ref (B + 50), .int (gI (0)), .ref (B + 51), .ref (B + 52), .ref (B + 53), .ref (B + 54), .ref (B + 55), .int (gI (0)), .ref (B + 56), .ref (B + 57)]) := by rw [hqe2, hset_n _ _ (by omega), hset_n _ _ (by omega)]; exact s35
  have fk3_1 : hc1.2 (B + 36) = some (aZ 100 (fun _ => 0)) := by rw [hqe2, hset_n _ _ (by omega), hset_n _ _ (by omega)]; exact s36
  have fk3_2 : hc1.2 (B + 37) = some (aI 28700 (fun _ => 0)) := by rw [hqe2, hset_n _ _ (by omega), hset_n _ _ (by omega)]; exact s37
  have fk3_3 : hc1.2 (B + 38) = some (aI 1500 (fun _ => 0)) := by rw [hqe2, hset_n _ _ (by omega), hset_n _ _ (by omega)]; exact s38
  have fk3_4 : hc1.2 (B + 40) = some (aI 8000 (G2)) := by rw [hqe2]; rw [hset_n _ _ (by omega)]; exact hset_s _ _ _
  have fk3_5 : hc1.2 (B + 41) = some (aI 40 (gup (fun _ => 0) 0 (-1))) := by rw [hqe2]; exact hset_s _ _ _
  refine Go.nf (h' := hc1) (st' := []) rfl rfl (Nat.le_refl _) (Nat.le_refl _) ?_
  refine g_aload_n 0 dX10_interpolate_6 rfl ?_
  refine g_iconst dX10_interpolate_7 ?_
  refine g_iconst dX10_interpolate_8 ?_
  refine g_callV (nc2 := 0) (ns2 := 0) (ci := 10) (As := [.int (gI (1)), .int (gI (1))]) (st := []) rfl dX10_interpolate_9 okX10_be lX10_170 itX10_be seX10_be rfl fk3_0 (by decide) (by decide) rfl (Nat.le_of_ble_eq_true rfl) (mbe1 N B _ _ _ fk3_0 fk3_4 fk3_5) (by omega) (by omega) (fun v4 hc4 q4 => ?_)
  obtain ⟨rfl, G5, hqe5⟩ := q4
  have fk6_0 : hc4.2 (B + 35) = some (oB 10 [.int (gI (2)), .ref (B + 36), .ref (B + 37), .ref (B + 38), .ref (B + 39), .ref (B + 40), .ref (B + 41), .ref (B + 42), .ref (B + 43), .int (gI (0)), .int (gI (0)), .int (gI (0)), .ref (B + 44), .ref (B + 45), .ref (B + 46), .int (gI (0)), .ref (B + 47), .ref (B + 48), .ref (B + 49), .int (gI (0)), .ref (B + 50), .int (gI (0)), .ref (B + 51), .ref (B + 52), .ref (B + 53), .ref (B + 54), .ref (B + 55), .int (gI (0)), .ref (B + 56), .ref (B + 57)]) := by rw [hqe5, hset_n _ _ (by omega), hset_n _ _ (by omega)]; exact fk3_0
  have fk6_1 : hc4.2 (B + 36) = some (aZ 100 (fun _ => 0)) := by rw [hqe5, hset_n _ _ (by omega), hset_n _ _ (by omega)]; exact fk3_1
  have fk6_2 : hc4.2 (B + 37) = some (aI 28700 (fun _ => 0)) := by rw [hqe5, hset_n _ _ (by omega), hset_n _ _ (by omega)]; exact fk3_2
  have fk6_3 : hc4.2 (B + 38) = some (aI 1500 (fun _ => 0)) := by rw [hqe5, hset_n _ _ (by omega), hset_n _ _ (by omega)]; exact fk3_3
  have fk6_4 : hc4.2 (B + 40) = some (aI 8000 (G5)) := by rw [hqe5]; rw [hset_n _ _ (by omega)]; exact hset_s _ _ _
  have fk6_5 : hc4.2 (B + 41) = some (aI 40 (gup (gup (fun _ => 0) 0 (-1)) 1 (0))) := by rw [hqe5]; exact hset_s _ _ _
  refine Go.nf (h' := hc4) (st' := []) rfl rfl (Nat.le_refl _) (Nat.le_refl _) ?_
  refine g_iconst dX10_interpolate_12 ?_
  refine g_istore_n (ls2 := [(1, .int (gI (0))), (0, .ref (B + 35))]) dX10_interpolate_13 rfl (by decide) rfl ?_
  refine g_iload_n 0 dX10_interpolate_14 rfl ?_
  refine g_aload_n 1 dX10_interpolate_15 rfl ?_
  refine g_getf 27 dX10_interpolate_16 kX10 (by decide) fX10_83 fk6_0 rfl ?_
  refine g_icmp_ge (tgt := 242) dX10_interpolate_19 rfl (by unfold gW at *; omega) (by unfold gW at *; omega) (fun c7 => ?_) (fun c7 => absurd c7 (by omega))
  refine g_aload_n 1 dX10_interpolate_242 rfl ?_
  refine g_iconst dX10_interpolate_243 ?_
  refine g_putf 27 dX10_interpolate_244 kX10 (by decide) fX10_83 rfl fk6_0 (Nat.le_of_ble_eq_true rfl) rfl rfl ?_
  obtain ⟨hh8, eh8⟩ : ∃ z : GH, z = hset hc4 (B + 35) (oB 10 [.int (gI (2)), .ref (B + 36), .ref (B + 37), .ref (B + 38), .ref (B + 39), .ref (B + 40), .ref (B + 41), .ref (B + 42), .ref (B + 43), .int (gI (0)), .int (gI (0)), .int (gI (0)), .ref (B + 44), .ref (B + 45), .ref (B + 46), .int (gI (0)), .ref (B + 47), .ref (B + 48), .ref (B + 49), .int (gI (0)), .ref (B + 50), .int (gI (0)), .ref (B + 51), .ref (B + 52), .ref (B + 53), .ref (B + 54), .ref (B + 55), .int (gI (0)), .ref (B + 56), .ref (B + 57)]) := ⟨_, rfl⟩
  refine Go.hp eh8.symm ?_
  have fh8_0 : hh8.2 (B + 35) = some (oB 10 [.int (gI (2)), .ref (B + 36), .ref (B + 37), .ref (B + 38), .ref (B + 39), .ref (B + 40), .ref (B + 41), .ref (B + 42), .ref (B + 43), .int (gI (0)), .int (gI (0)), .int (gI (0)), .ref (B + 44), .ref (B + 45), .ref (B + 46), .int (gI (0)), .ref (B + 47), .ref (B + 48), .ref (B + 49), .int (gI (0)), .ref (B + 50), .int (gI (0)), .ref (B + 51), .ref (B + 52), .ref (B + 53), .ref (B + 54), .ref (B + 55), .int (gI (0)), .ref (B + 56), .ref (B + 57)]) := by rw [eh8]; exact hset_s _ _ _
  have fh8_1 : hh8.2 (B + 36) = some (aZ 100 (fun _ => 0)) := by rw [eh8, hset_n _ _ (by omega)]; exact fk6_1
  have fh8_2 : hh8.2 (B + 37) = some (aI 28700 (fun _ => 0)) := by rw [eh8, hset_n _ _ (by omega)]; exact fk6_2
  have fh8_3 : hh8.2 (B + 38) = some (aI 1500 (fun _ => 0)) := by rw [eh8, hset_n _ _ (by omega)]; exact fk6_3
  have fh8_4 : hh8.2 (B + 40) = some (aI 8000 (G5)) := by rw [eh8, hset_n _ _ (by omega)]; exact fk6_4
  have fh8_5 : hh8.2 (B + 41) = some (aI 40 (gup (gup (fun _ => 0) 0 (-1)) 1 (0))) := by rw [eh8, hset_n _ _ (by omega)]; exact fk6_5
  refine g_aload_n 1 dX10_interpolate_247 rfl ?_
  refine g_iconst dX10_interpolate_248 ?_
  refine g_callV (nc2 := 0) (ns2 := 0) (ci := 10) (As := [.int (gI (0))]) (st := []) rfl dX10_interpolate_249 okX10_keepRegister lX10_182 itX10_keepRegister seX10_keepRegister rfl fh8_0 (by decide) (by decide) rfl (Nat.le_of_ble_eq_true rfl) (mkeepR N B _ _ _ _ _ (by rw [gup_n _ _ (by omega), gup_s]) fh8_0 fh8_1 fh8_2 fh8_3 fh8_4 fh8_5) (by omega) (by omega) (fun v9 hc9 q9 => ?_)
  subst q9
  refine Go.nf (h' := hc9) (st' := [.int (gI (0))]) rfl rfl (Nat.le_refl _) (Nat.le_refl _) ?_
  exact g_iret dX10_interpolate_252 rfl rfl
