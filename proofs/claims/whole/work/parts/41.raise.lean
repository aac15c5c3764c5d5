set_option maxHeartbeats 4000000 in
set_option maxRecDepth 100000 in
theorem sX5_copy (N : GN) (h : GH) (r na n r2 nb m : Nat) (d e : Int) (g f : Int → Int) (hn1 : 1 ≤ n) (hn2 : n ≤ 1000) (hm2 : m ≤ 1000) (he1 : -1 ≤ e) (he2 : e < m) (x1 : r ≠ na) (x2 : r ≠ nb) (x3 : r ≠ r2) (x4 : na ≠ nb) (x5 : na ≠ r2) (hr : h.2 r = some (oB 5 [.ref na, .int (gI d)])) (hn : h.2 na = some (aJ n g)) (hr2 : h.2 r2 = some (oB 5 [.ref nb, .int (gI e)])) (hnb : h.2 nb = some (aJ m f)) : Sp N yX5_copy mX5_copy 0 0 [.ref r, .ref r2] h (fun v h1 => v = none ∧ ∃ g1 : Int → Int, (∀ j, 0 ≤ j → g1 j = if j ≤ (if (n : Int) - 1 < e then (n : Int) - 1 else e) then f j else g j) ∧ h1 = hset (hset h r (oB 5 [.ref na, .int (gI (if (n : Int) - 1 < e then (n : Int) - 1 else e))])) na (aJ n g1)) := by
  refine Sp.of (by decide) rfl rfl (Nat.le_of_ble_eq_true rfl) ?_
  show Go N mX5_copy _ 0 0 h 0 [(0, .ref (r)), (1, .ref (r2))] []
  refine g_aload_n 0 dX5_copy_0 rfl ?_
  refine g_aload_n 1 dX5_copy_1 rfl ?_
  refine g_getf 1 dX5_copy_2 kX5 (by decide) fX5_9 hr2 rfl ?_
  refine g_aload_n 0 dX5_copy_5 rfl ?_
  refine g_getf 0 dX5_copy_6 kX5 (by decide) fX5_15 hr rfl ?_
  refine g_alen (n := n) dX5_copy_9 (by decide) hn ?_
  refine g_iconst dX5_copy_10 ?_
  refine g_isub dX5_copy_11 ?_
  refine g_min dX5_copy_12 lX5_19 (by unfold gW at *; omega) (by unfold gW at *; omega) (by decide) (Nat.le_of_ble_eq_true rfl) ?_
  obtain ⟨mn, hmn⟩ : ∃ z : Int, z = (if (n : Int) - 1 < e then (n : Int) - 1 else e) := ⟨_, rfl⟩
  have hmb : -1 ≤ mn ∧ mn < n ∧ mn < m := by rw [hmn]; split <;> omega
  rw [← hmn]
  refine g_putf 1 dX5_copy_15 kX5 (by decide) fX5_9 rfl hr (Nat.le_of_ble_eq_true rfl) rfl rfl ?_
  obtain ⟨hh1, eh1⟩ : ∃ z : GH, z = hset h (r) (oB 5 [.ref (na), .int (gI (mn))]) := ⟨_, rfl⟩
  refine Go.hp eh1.symm ?_
  have fh1_0 : hh1.2 (r) = some (oB 5 [.ref (na), .int (gI (mn))]) := by rw [eh1]; exact hset_s _ _ _
  have fh1_1 : hh1.2 (na) = some (aJ n (g)) := by rw [eh1, hset_n _ _ (by omega)]; exact hn
  have fh1_2 : hh1.2 (r2) = some (oB 5 [.ref (nb), .int (gI (e))]) := by rw [eh1, hset_n _ _ (by omega)]; exact hr2
  have fh1_3 : hh1.2 (nb) = some (aJ m (f)) := by rw [eh1, hset_n _ _ (by omega)]; exact hnb
  refine g_aload_n 0 dX5_copy_18 rfl ?_
  refine g_getf 1 dX5_copy_19 kX5 (by decide) fX5_9 fh1_0 rfl ?_
  refine g_if_lt (tgt := 44) dX5_copy_22 rfl (by unfold gW at *; omega) (fun c2 => ?_) (fun c2 => ?_)
  · skip
    exact g_vret dX5_copy_44 rfl ⟨rfl, g, fun j hj => by rw [if_neg (by omega)], by rw [eh1]; exact (hset_id (by rw [hset_n _ _ (by omega)]; exact hn)).symm⟩
  · skip
    refine g_aload_n 1 dX5_copy_25 rfl ?_
    refine g_getf 0 dX5_copy_26 kX5 (by decide) fX5_15 fh1_2 rfl ?_
    refine g_iconst dX5_copy_29 ?_
    refine g_aload_n 0 dX5_copy_30 rfl ?_
    refine g_getf 0 dX5_copy_31 kX5 (by decide) fX5_15 fh1_0 rfl ?_
    refine g_iconst dX5_copy_34 ?_
    refine g_aload_n 0 dX5_copy_35 rfl ?_
    refine g_getf 1 dX5_copy_36 kX5 (by decide) fX5_9 fh1_0 rfl ?_
    refine g_iconst dX5_copy_39 ?_
    refine g_iadd dX5_copy_40 ?_
    refine g_copyJ dX5_copy_41 lX5_31 fh1_3 fh1_1 (by omega) (by omega) (by omega) (by omega) (by decide) (Nat.le_of_ble_eq_true rfl) ?_
    obtain ⟨hh3, eh3⟩ : ∃ z : GH, z = hset hh1 (na) (aJ n (fun j => if j < (mn) + (1) then (f) j else (g) j)) := ⟨_, rfl⟩
    refine Go.hp eh3.symm ?_
    have fh3_0 : hh3.2 (r) = some (oB 5 [.ref (na), .int (gI (mn))]) := by rw [eh3, hset_n _ _ (by omega)]; exact fh1_0
    have fh3_1 : hh3.2 (na) = some (aJ n (fun j => if j < (mn) + (1) then (f) j else (g) j)) := by rw [eh3]; exact hset_s _ _ _
    have fh3_2 : hh3.2 (r2) = some (oB 5 [.ref (nb), .int (gI (e))]) := by rw [eh3, hset_n _ _ (by omega)]; exact fh1_2
    have fh3_3 : hh3.2 (nb) = some (aJ m (f)) := by rw [eh3, hset_n _ _ (by omega)]; exact fh1_3
    exact g_vret dX5_copy_44 rfl ⟨rfl, fun j => if j < mn + 1 then f j else g j, fun j hj => by
      by_cases z : j ≤ mn
      · rw [if_pos z]; show (if j < mn + 1 then f j else g j) = f j; rw [if_pos (by omega)]
      · rw [if_neg z]; show (if j < mn + 1 then f j else g j) = g j; rw [if_neg (by omega)], by rw [eh3, eh1]⟩
theorem gI_nat (n : Nat) : gI (n : Int) = nI n := Int32.ofInt_eq_ofNat
theorem gAnd1 {a : Int} (h0 : 0 ≤ a) (h1 : a < 2147483648) : gAnd a 1 = a % 2 := by
  obtain ⟨n, rfl⟩ := Int.eq_ofNat_of_zero_le h0
  unfold gAnd
  rw [gI_nat, pk_andN (by omega) (m := gI 1) 1 (by decide), nI_toInt (by omega)]
  omega
theorem gShr1 {a : Int} (h0 : 0 ≤ a) (h1 : a < 2147483648) : gShr a 1 = a / 2 := by
  obtain ⟨n, rfl⟩ := Int.eq_ofNat_of_zero_le h0
  unfold gShr
  rw [gI_nat, pk_shrN (by omega) _ 1 (by decide), nI_toInt (by omega)]
  omega
theorem tm_em {a p : Int} (h : 0 ≤ a) : a.tmod p = a % p := Int.tmod_eq_emod_of_nonneg h
theorem mm_emod (a b p : Int) : (a % p * (b % p)) % p = (a * b) % p := (Int.mul_emod a b p).symm
theorem pw_mod (a p : Int) : ∀ k : Nat, (a % p) ^ k % p = a ^ k % p
  | 0 => by rw [Int.pow_zero, Int.pow_zero]
  | k + 1 => by
    rw [Int.pow_succ, Int.pow_succ, Int.mul_emod, pw_mod a p k, Int.emod_emod_of_dvd _ (Int.dvd_refl p), ← Int.mul_emod]
theorem pw_sq (a : Int) (k : Nat) : (a * a) ^ k = a ^ (2 * k) := by
  induction k with
  | zero => rw [Int.pow_zero, show 2 * 0 = 0 from rfl, Int.pow_zero]
  | succ k ih => rw [Int.pow_succ, ih, show 2 * (k + 1) = 2 * k + 1 + 1 by omega, Int.pow_succ, Int.pow_succ, Int.mul_assoc]
/-- one turn of the power by squares -/
theorem raise_turn {p a s : Int} {l : Int} (hl : 0 < l) : ((if l % 2 = 1 then (a * s) % p else a) * ((s * s) % p) ^ (l / 2).toNat) % p = (a * s ^ l.toNat) % p := by
  have e1 : ((s * s) % p) ^ (l / 2).toNat % p = s ^ (2 * (l / 2).toNat) % p := by rw [pw_mod, pw_sq]
  by_cases z : l % 2 = 1
  · rw [if_pos z, Int.mul_emod, e1, Int.emod_emod_of_dvd _ (Int.dvd_refl p), ← Int.mul_emod, Int.mul_assoc]
    congr 2
    rw [Int.mul_comm, ← Int.pow_succ]
    congr 1
    omega
  · rw [if_neg z, Int.mul_emod, e1, ← Int.mul_emod]
    congr 3
    omega
theorem g_prod {a b p : Int} (ha : 0 ≤ a) (ha2 : a < p) (hb : 0 ≤ b) (hb2 : b < p) (hp : p ≤ 65536) : 0 ≤ a * b ∧ a * b ≤ 4294967296 := ⟨Int.mul_nonneg ha hb, by
  have := Int.mul_le_mul (show a ≤ 65536 by omega) (show b ≤ 65536 by omega) hb (by omega)
  omega⟩
set_option maxHeartbeats 4000000 in
set_option maxRecDepth 100000 in
theorem sX1_raise (N : GN) (h : GH) (f : Nat) (p b m : Int) (hp1 : 2 ≤ p) (hp2 : p ≤ 65536) (hb1 : 0 ≤ b) (hb2 : b < p) (hm1 : 0 ≤ m) (hm2 : gW m) (hf : h.2 f = some (oB 1 [.int (gI p)])) : Sp N yX1_raise mX1_raise 0 0 [.ref f, .long (gJ b), .int (gI m)] h (fun v h1 => h1 = h ∧ v = some (.long (gJ (b ^ m.toNat % p)))) := by
  refine Sp.of (by decide) rfl rfl (Nat.le_of_ble_eq_true rfl) ?_
  show Go N mX1_raise _ 0 0 h 0 [(0, .ref (f)), (1, .long (gJ (b))), (3, .int (gI (m)))] []
  have loop : ∀ x : Int × Int × Int, (0 ≤ x.1 ∧ x.1 < p ∧ 0 ≤ x.2.1 ∧ x.2.1 < p ∧ 0 ≤ x.2.2 ∧ x.2.2 < 2147483648 ∧ (x.1 * x.2.1 ^ x.2.2.toNat) % p = b ^ m.toNat % p) → Go N mX1_raise (fun v h1 => h1 = h ∧ v = some (.long (gJ (b ^ m.toNat % p)))) 0 0 h 9 [(8, .int (gI (x.2.2))), (6, .long (gJ (x.2.1))), (4, .long (gJ (x.1))), (0, .ref (f)), (1, .long (gJ (b))), (3, .int (gI (m)))] [] := by
    refine Go.loop _ (fun x : Int × Int × Int => Go N mX1_raise _ 0 0 h 9 [(8, .int (gI (x.2.2))), (6, .long (gJ (x.2.1))), (4, .long (gJ (x.1))), (0, .ref (f)), (1, .long (gJ (b))), (3, .int (gI (m)))] []) (fun x => x.2.2.toNat) (fun x hx ih => ?_)
    obtain ⟨a, s, l⟩ := x
    obtain ⟨ha1, ha2, hs1, hs2, hl1, hl2, hinv⟩ := hx
    dsimp only at ha1 ha2 hs1 hs2 hl1 hl2 hinv
    show Go N mX1_raise _ 0 0 h 9 [(8, .int (gI (l))), (6, .long (gJ (s))), (4, .long (gJ (a))), (0, .ref (f)), (1, .long (gJ (b))), (3, .int (gI (m)))] []
    refine g_iload 0 dX1_raise_9 rfl ?_
    refine g_if_le (tgt := 57) dX1_raise_11 rfl (by unfold gW at *; omega) (fun c1 => ?_) (fun c1 => ?_)
    · skip
      refine g_lload 2 dX1_raise_57 rfl ?_
      exact g_lret dX1_raise_59 rfl ⟨rfl, by
      rw [show l = 0 by omega] at hinv
      rw [show (0 : Int).toNat = 0 from rfl, Int.pow_zero, Int.mul_one] at hinv
      rw [← hinv, Int.emod_eq_of_lt ha1 ha2]⟩
    · skip
      have has := g_prod ha1 ha2 hs1 hs2 hp2
      have hss := g_prod hs1 hs2 hs1 hs2 hp2
      have hod := gAnd1 (show 0 ≤ l by omega) (show l < 2147483648 by omega)
      refine g_iload 0 dX1_raise_14 rfl ?_
      refine g_iconst dX1_raise_16 ?_
      refine g_iand dX1_raise_17 ?_
      rw [hod]
      refine g_iconst dX1_raise_18 ?_
      refine g_icmp_ne (tgt := 35) dX1_raise_19 rfl (by unfold gW at *; omega) (by unfold gW at *; omega) (fun c2 => ?_) (fun c2 => ?_)
      · skip
        refine g_lload 1 dX1_raise_35 rfl ?_
        refine g_lload 1 dX1_raise_37 rfl ?_
        refine g_lmul dX1_raise_39 ?_
        refine g_aload_n 3 dX1_raise_40 rfl ?_
        refine g_getf 0 dX1_raise_41 kX1 (by decide) fX1_9 hf rfl ?_
        refine g_i2l dX1_raise_44 (by unfold gW at *; omega) ?_
        refine g_lrem dX1_raise_45 (by unfold gX at *; omega) (by unfold gX at *; omega) (by omega) ?_
        refine g_lstore (ls2 := [(6, .long (gJ (((s) * (s)).tmod (p)))), (8, .int (gI (l))), (4, .long (gJ (a))), (0, .ref (f)), (1, .long (gJ (b))), (3, .int (gI (m)))]) dX1_raise_46 (by decide) rfl ?_
        refine g_iload 1 dX1_raise_48 rfl ?_
        refine g_iconst dX1_raise_50 ?_
        refine g_ishr dX1_raise_51 ?_
        refine g_istore (ls2 := [(8, .int (gI (gShr (l) (1)))), (6, .long (gJ (((s) * (s)).tmod (p)))), (4, .long (gJ (a))), (0, .ref (f)), (1, .long (gJ (b))), (3, .int (gI (m)))]) dX1_raise_52 (by decide) rfl ?_
        refine g_goto (tgt := 9) dX1_raise_54 rfl ?_
        rw [gShr1 (by omega) (by omega), tm_em hss.1]
        refine ih (a, (s * s) % p, l / 2) ⟨ha1, ha2, Int.emod_nonneg _ (by omega), Int.emod_lt_of_pos _ (by omega), by dsimp only; omega, by dsimp only; omega, ?_⟩ (by dsimp only; omega)
        have e9 := raise_turn (p := p) (a := a) (s := s) (show 0 < l by omega)
        rw [if_neg (by omega)] at e9
        exact e9.trans hinv
      · skip
        refine g_lload 2 dX1_raise_22 rfl ?_
        refine g_lload 1 dX1_raise_24 rfl ?_
        refine g_lmul dX1_raise_26 ?_
        refine g_aload_n 3 dX1_raise_27 rfl ?_
        refine g_getf 0 dX1_raise_28 kX1 (by decide) fX1_9 hf rfl ?_
        refine g_i2l dX1_raise_31 (by unfold gW at *; omega) ?_
        refine g_lrem dX1_raise_32 (by unfold gX at *; omega) (by unfold gX at *; omega) (by omega) ?_
        refine g_lstore (ls2 := [(4, .long (gJ (((a) * (s)).tmod (p)))), (8, .int (gI (l))), (6, .long (gJ (s))), (0, .ref (f)), (1, .long (gJ (b))), (3, .int (gI (m)))]) dX1_raise_33 (by decide) rfl ?_
        refine g_lload 2 dX1_raise_35 rfl ?_
        refine g_lload 2 dX1_raise_37 rfl ?_
        refine g_lmul dX1_raise_39 ?_
        refine g_aload_n 3 dX1_raise_40 rfl ?_
        refine g_getf 0 dX1_raise_41 kX1 (by decide) fX1_9 hf rfl ?_
        refine g_i2l dX1_raise_44 (by unfold gW at *; omega) ?_
        refine g_lrem dX1_raise_45 (by unfold gX at *; omega) (by unfold gX at *; omega) (by omega) ?_
        refine g_lstore (ls2 := [(6, .long (gJ (((s) * (s)).tmod (p)))), (4, .long (gJ (((a) * (s)).tmod (p)))), (8, .int (gI (l))), (0, .ref (f)), (1, .long (gJ (b))), (3, .int (gI (m)))]) dX1_raise_46 (by decide) rfl ?_
        refine g_iload 2 dX1_raise_48 rfl ?_
        refine g_iconst dX1_raise_50 ?_
        refine g_ishr dX1_raise_51 ?_
        refine g_istore (ls2 := [(8, .int (gI (gShr (l) (1)))), (6, .long (gJ (((s) * (s)).tmod (p)))), (4, .long (gJ (((a) * (s)).tmod (p)))), (0, .ref (f)), (1, .long (gJ (b))), (3, .int (gI (m)))]) dX1_raise_52 (by decide) rfl ?_
        refine g_goto (tgt := 9) dX1_raise_54 rfl ?_
        rw [gShr1 (by omega) (by omega), tm_em hss.1, tm_em has.1]
        refine ih ((a * s) % p, (s * s) % p, l / 2) ⟨Int.emod_nonneg _ (by omega), Int.emod_lt_of_pos _ (by omega), Int.emod_nonneg _ (by omega), Int.emod_lt_of_pos _ (by omega), by dsimp only; omega, by dsimp only; omega, ?_⟩ (by dsimp only; omega)
        have e9 := raise_turn (p := p) (a := a) (s := s) (show 0 < l by omega)
        rw [if_pos (by omega)] at e9
        exact e9.trans hinv
  refine g_lconst1 dX1_raise_0 ?_
  refine g_lstore (ls2 := [(4, .long (gJ (1))), (0, .ref (f)), (1, .long (gJ (b))), (3, .int (gI (m)))]) dX1_raise_1 (by decide) rfl ?_
  refine g_lload_n 2 dX1_raise_3 rfl ?_
  refine g_lstore (ls2 := [(6, .long (gJ (b))), (4, .long (gJ (1))), (0, .ref (f)), (1, .long (gJ (b))), (3, .int (gI (m)))]) dX1_raise_4 (by decide) rfl ?_
  refine g_iload_n 4 dX1_raise_6 rfl ?_
  refine g_istore (ls2 := [(8, .int (gI (m))), (6, .long (gJ (b))), (4, .long (gJ (1))), (0, .ref (f)), (1, .long (gJ (b))), (3, .int (gI (m)))]) dX1_raise_7 (by decide) rfl ?_
  exact loop (1, b, m) ⟨by dsimp only; omega, by dsimp only; omega, hb1, hb2, hm1, by dsimp only; unfold gW at hm2; omega, by dsimp only; rw [Int.one_mul]⟩
