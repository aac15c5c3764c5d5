theorem g_tmb {n p : Int} (hp : 0 < p) : -p < n.tmod p ∧ n.tmod p < p := by
  have h1 : (n.tmod p).natAbs < p.natAbs := by rw [Int.natAbs_tmod]; exact Nat.mod_lt _ (by omega)
  omega
/-- what prime(n) asks -/
def gPrime (n : Int) : Prop := 2 ≤ n ∧ n ≤ 65521 ∧ ∀ d : Int, 2 ≤ d → d * d ≤ n → n.tmod d ≠ 0
theorem g_sq {d : Int} (h0 : 0 ≤ d) (h1 : d ≤ 257) : 0 ≤ d * d ∧ d * d ≤ 66049 := ⟨Int.mul_nonneg h0 h0, by
  have := Int.mul_le_mul h1 h1 h0 (by omega)
  omega⟩
theorem g_sq2 {d n : Int} (h0 : 0 ≤ d) (h1 : d * d ≤ n) (h2 : n ≤ 65521) : d ≤ 255 := by
  rcases Int.le_total 256 d with h | h
  · have := Int.mul_le_mul h h (by omega) h0
    omega
  · rcases Int.lt_or_eq_of_le h with z | z
    · omega
    · subst z; omega
set_option maxHeartbeats 4000000 in
set_option maxRecDepth 100000 in
theorem sX1_isPrime (N : GN) (h : GH) (n : Int) (hw : gW n) : Sp N yX1_isPrime mX1_isPrime 0 0 [.int (gI n)] h (fun r h1 => h1 = h ∧ ((gPrime n ∧ r = some (.int (gI 1))) ∨ (¬ gPrime n ∧ r = some (.int (gI 0))))) := by
  refine Sp.of (by decide) rfl rfl (Nat.le_of_ble_eq_true rfl) ?_
  show Go N mX1_isPrime _ 0 0 h 0 [(0, .int (gI n))] []
  have loop : 2 ≤ n → n ≤ 65521 → ∀ d : Int, (2 ≤ d ∧ d ≤ 256 ∧ ∀ e : Int, 2 ≤ e → e < d → e * e ≤ n → n.tmod e ≠ 0) → Go N mX1_isPrime (fun r h1 => h1 = h ∧ ((gPrime n ∧ r = some (.int (gI 1))) ∨ (¬ gPrime n ∧ r = some (.int (gI 0))))) 0 0 h 15 [(1, .int (gI (d))), (0, .int (gI (n)))] [] := by
    intro hn1 hn2
    refine Go.loop _ (fun d => Go N mX1_isPrime _ 0 0 h 15 [(1, .int (gI (d))), (0, .int (gI (n)))] []) (fun d => (300 - d).toNat) (fun d hd ih => ?_)
    obtain ⟨hd1, hd2, hd3⟩ := hd
    have hs := g_sq (show 0 ≤ d by omega) (show d ≤ 257 by omega)
    refine g_iload_n 0 dX1_isPrime_15 rfl ?_
    refine g_iload_n 0 dX1_isPrime_16 rfl ?_
    refine g_imul dX1_isPrime_17 ?_
    refine g_iload_n 1 dX1_isPrime_18 rfl ?_
    refine g_icmp_gt (tgt := 36) dX1_isPrime_19 rfl (by unfold gW at *; omega) (by unfold gW at *; omega) (fun c1 => ?_) (fun c1 => ?_)
    · skip
      refine g_iconst dX1_isPrime_36 ?_
      exact g_zret dX1_isPrime_37 rfl (by omega) ⟨rfl, Or.inl ⟨⟨hn1, hn2, fun e e1 e2 => by
      rcases Int.lt_or_le e d with z | z
      · exact hd3 e e1 z e2
      · have := Int.mul_le_mul z z (by omega) (by omega); omega⟩, rfl⟩⟩
    · skip
      have hq := g_sq2 (by omega) c1 hn2
      have htm := g_tmb (n := n) (show 0 < d by omega)
      refine g_iload_n 1 dX1_isPrime_22 rfl ?_
      refine g_iload_n 0 dX1_isPrime_23 rfl ?_
      refine g_irem dX1_isPrime_24 (by unfold gW at *; omega) (by unfold gW at *; omega) (by omega) ?_
      refine g_if_ne (tgt := 30) dX1_isPrime_25 rfl (by unfold gW at *; omega) (fun c2 => ?_) (fun c2 => ?_)
      · skip
        refine g_iinc 0 (ls2 := [(1, .int (gI (d + 1))), (0, .int (gI (n)))]) dX1_isPrime_30 rfl (by decide) rfl ?_
        refine g_goto (tgt := 15) dX1_isPrime_33 rfl ?_
        exact ih (d + 1) ⟨by omega, by omega, fun e e1 e2 e3 => by
            rcases Int.lt_or_eq_of_le (show e ≤ d by omega) with z | z
            · exact hd3 e e1 z e3
            · subst z; omega⟩ (by omega)
      · skip
        refine g_iconst dX1_isPrime_28 ?_
        exact g_zret dX1_isPrime_29 rfl (by omega) ⟨rfl, Or.inr ⟨fun z => z.2.2 d (by omega) (by omega) (by omega), rfl⟩⟩
  refine g_iload_n 0 dX1_isPrime_0 rfl ?_
  refine g_iconst dX1_isPrime_1 ?_
  refine g_icmp_lt (tgt := 11) dX1_isPrime_2 rfl (by unfold gW at *; omega) (by unfold gW at *; omega) (fun c1 => ?_) (fun c1 => ?_)
  · skip
    refine g_iconst dX1_isPrime_11 ?_
    exact g_zret dX1_isPrime_12 rfl (by omega) ⟨rfl, Or.inr ⟨fun z => by have := z.1; have := z.2.1; omega, rfl⟩⟩
  · skip
    refine g_iload_n 0 dX1_isPrime_5 rfl ?_
    refine g_ldc dX1_isPrime_6 vX1_21 ?_
    refine g_icmp_le (tgt := 13) dX1_isPrime_8 rfl (by unfold gW at *; omega) (by unfold gW at *; omega) (fun c2 => ?_) (fun c2 => ?_)
    · skip
      refine g_iconst dX1_isPrime_13 ?_
      refine g_istore_n (ls2 := [(1, .int (gI (2))), (0, .int (gI (n)))]) dX1_isPrime_14 rfl (by decide) rfl ?_
      exact loop (by omega) (by omega) 2 ⟨by omega, by omega, fun e e1 e2 e3 => absurd e2 (by omega)⟩
    · skip
      refine g_iconst dX1_isPrime_11 ?_
      exact g_zret dX1_isPrime_12 rfl (by omega) ⟨rfl, Or.inr ⟨fun z => by have := z.1; have := z.2.1; omega, rfl⟩⟩
set_option maxHeartbeats 4000000 in
set_option maxRecDepth 100000 in
theorem sX1_become (N : GN) (h : GH) (f : Nat) (v : Value) (q : Int) (hw : gW q) (hf : h.2 f = some (oB 1 [v])) : Sp N yX1_become mX1_become 0 0 [.ref f, .int (gI q)] h (fun r h1 => r = none ∧ h1 = hset h f (oB 1 [.int (gI (if 2 < q then q else 2))])) := by
  refine Sp.of (by decide) rfl rfl (Nat.le_of_ble_eq_true rfl) ?_
  show Go N mX1_become _ 0 0 h 0 [(0, .ref (f)), (1, .int (gI (q)))] []
  refine g_aload_n 0 dX1_become_0 rfl ?_
  refine g_iconst dX1_become_1 ?_
  refine g_iload_n 1 dX1_become_2 rfl ?_
  refine g_max dX1_become_3 lX1_15 (by unfold gW at *; omega) (by unfold gW at *; omega) (by decide) (Nat.le_of_ble_eq_true rfl) ?_
  refine g_putf 0 dX1_become_6 kX1 (by decide) fX1_9 rfl hf (Nat.le_of_ble_eq_true rfl) rfl rfl ?_
  obtain ⟨hh1, eh1⟩ : ∃ z : GH, z = hset h (f) (oB 1 [.int (gI (if 2 < q then q else 2))]) := ⟨_, rfl⟩
  refine Go.hp eh1.symm ?_
  have fh1_0 : hh1.2 (f) = some (oB 1 [.int (gI (if 2 < q then q else 2))]) := by rw [eh1]; exact hset_s _ _ _
  exact g_vret dX1_become_9 rfl ⟨rfl, by rw [eh1]⟩
/-- n modulo p, from 0 to p - 1 -/
def gMod (n p : Int) : Int := if 0 ≤ n.tmod p then n.tmod p else n.tmod p + p
theorem gMod_in {n p : Int} (hp : 0 < p) : 0 ≤ gMod n p ∧ gMod n p < p := by
  have h := g_tmb (n := n) hp
  unfold gMod
  split <;> omega
set_option maxHeartbeats 4000000 in
set_option maxRecDepth 100000 in
theorem sX1_mod (N : GN) (h : GH) (f : Nat) (p n : Int) (hn : gX n) (hp : 0 < p) (hp2 : p < 2147483648) (hf : h.2 f = some (oB 1 [.int (gI (p))])) : Sp N yX1_mod mX1_mod 0 0 [.ref f, .long (gJ n)] h (fun r h1 => h1 = h ∧ r = some (.long (gJ (gMod n p)))) := by
  refine Sp.of (by decide) rfl rfl (Nat.le_of_ble_eq_true rfl) ?_
  show Go N mX1_mod _ 0 0 h 0 [(0, .ref (f)), (1, .long (gJ (n)))] []
  have ht := g_tmb (n := n) hp
  refine g_lload_n 1 dX1_mod_0 rfl ?_
  refine g_aload_n 0 dX1_mod_1 rfl ?_
  refine g_getf 0 dX1_mod_2 kX1 (by decide) fX1_9 hf rfl ?_
  refine g_i2l dX1_mod_5 (by unfold gW at *; omega) ?_
  refine g_lrem dX1_mod_6 (by unfold gX at *; omega) (by unfold gX at *; omega) (by omega) ?_
  refine g_lstore_n (ls2 := [(3, .long (gJ ((n).tmod (p)))), (0, .ref (f)), (1, .long (gJ (n)))]) dX1_mod_7 rfl (by decide) rfl ?_
  refine g_lload_n 0 dX1_mod_8 rfl ?_
  refine g_lconst0 dX1_mod_9 ?_
  refine g_lcmp dX1_mod_10 (by unfold gX at *; omega) (by unfold gX at *; omega) ?_
  refine g_if_ge (tgt := 24) dX1_mod_11 rfl (gW_cmp _ _) (fun c1 => ?_) (fun c1 => ?_)
  · skip
    have hz : 0 ≤ n.tmod p := gcmp_ge.mp c1
    refine g_lload_n 0 dX1_mod_24 rfl ?_
    exact g_lret dX1_mod_25 rfl ⟨rfl, by unfold gMod; rw [if_pos (by omega)]⟩
  · skip
    have hz : n.tmod p < 0 := gcmp_lt.mp c1
    refine g_lload_n 0 dX1_mod_14 rfl ?_
    refine g_aload_n 1 dX1_mod_15 rfl ?_
    refine g_getf 0 dX1_mod_16 kX1 (by decide) fX1_9 hf rfl ?_
    refine g_i2l dX1_mod_19 (by unfold gW at *; omega) ?_
    refine g_ladd dX1_mod_20 ?_
    refine g_goto (tgt := 25) dX1_mod_21 rfl ?_
    exact g_lret dX1_mod_25 rfl ⟨rfl, by unfold gMod; rw [if_neg (by omega)]⟩
set_option maxHeartbeats 4000000 in
set_option maxRecDepth 100000 in
theorem sX10_modulo (N : GN) (h : GH) (f : Nat) (v1 v2 v3 v4 v5 v6 v7 v8 v9 v10 v11 v12 v13 v14 v15 v16 v17 v18 v19 v20 v21 v22 v23 v24 v25 v26 v27 v28 v29 : Value) (p n : Int) (hn : gX n) (hp : 0 < p) (hp2 : p < 2147483648) (hf : h.2 f = some (oB 10 [.int (gI (p)), v1, v2, v3, v4, v5, v6, v7, v8, v9, v10, v11, v12, v13, v14, v15, v16, v17, v18, v19, v20, v21, v22, v23, v24, v25, v26, v27, v28, v29])) : Sp N yX10_modulo mX10_modulo 0 0 [.ref f, .long (gJ n)] h (fun r h1 => h1 = h ∧ r = some (.int (gI (gMod n p)))) := by
  refine Sp.of (by decide) rfl rfl (Nat.le_of_ble_eq_true rfl) ?_
  show Go N mX10_modulo _ 0 0 h 0 [(0, .ref (f)), (1, .long (gJ (n)))] []
  have ht := g_tmb (n := n) hp
  refine g_lload_n 1 dX10_modulo_0 rfl ?_
  refine g_aload_n 0 dX10_modulo_1 rfl ?_
  refine g_getf 0 dX10_modulo_2 kX10 (by decide) fX10_78 hf rfl ?_
  refine g_i2l dX10_modulo_5 (by unfold gW at *; omega) ?_
  refine g_lrem dX10_modulo_6 (by unfold gX at *; omega) (by unfold gX at *; omega) (by omega) ?_
  refine g_lstore_n (ls2 := [(3, .long (gJ ((n).tmod (p)))), (0, .ref (f)), (1, .long (gJ (n)))]) dX10_modulo_7 rfl (by decide) rfl ?_
  refine g_lload_n 0 dX10_modulo_8 rfl ?_
  refine g_lconst0 dX10_modulo_9 ?_
  refine g_lcmp dX10_modulo_10 (by unfold gX at *; omega) (by unfold gX at *; omega) ?_
  refine g_if_ge (tgt := 24) dX10_modulo_11 rfl (gW_cmp _ _) (fun c1 => ?_) (fun c1 => ?_)
  · skip
    have hz : 0 ≤ n.tmod p := gcmp_ge.mp c1
    refine g_lload_n 0 dX10_modulo_24 rfl ?_
    refine g_l2i dX10_modulo_25 ?_
    exact g_iret dX10_modulo_26 rfl ⟨rfl, by unfold gMod; rw [if_pos (by omega)]⟩
  · skip
    have hz : n.tmod p < 0 := gcmp_lt.mp c1
    refine g_lload_n 0 dX10_modulo_14 rfl ?_
    refine g_aload_n 1 dX10_modulo_15 rfl ?_
    refine g_getf 0 dX10_modulo_16 kX10 (by decide) fX10_78 hf rfl ?_
    refine g_i2l dX10_modulo_19 (by unfold gW at *; omega) ?_
    refine g_ladd dX10_modulo_20 ?_
    refine g_goto (tgt := 25) dX10_modulo_21 rfl ?_
    refine g_l2i dX10_modulo_25 ?_
    exact g_iret dX10_modulo_26 rfl ⟨rfl, by unfold gMod; rw [if_neg (by omega)]⟩
