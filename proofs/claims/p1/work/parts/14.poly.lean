/-- g, with c's numbers at the first k places -/
def gF (g c : Int → Int) (k : Int) : Int → Int := fun j => if 0 ≤ j ∧ j < k then c j else g j
theorem gF_0 (g c : Int → Int) : gF g c 0 = g := funext fun j => by unfold gF; rw [if_neg (by omega)]
theorem gF_s (g c : Int → Int) {k : Int} (hk : 0 ≤ k) : gup (gF g c k) k (c k) = gF g c (k + 1) := funext fun j => by
  unfold gup gF
  by_cases z : j = k
  · subst z; rw [if_pos rfl, if_pos (by omega)]
  · rw [if_neg z]
    by_cases w : 0 ≤ j ∧ j < k
    · rw [if_pos w, if_pos (by omega)]
    · rw [if_neg w, if_neg (by omega)]
theorem hset_eq {h h' : GH} {a : Nat} {e e' : GE} (h1 : h = h') (h2 : e = e') : hset h a e = hset h' a e' := by rw [h1, h2]
set_option maxHeartbeats 4000000 in
set_option maxRecDepth 100000 in
theorem sX4_clear (N : GN) (h : GH) (a na : Nat) (v1 v2 : Value) (g : Int → Int) (hne : a ≠ na) (ho : h.2 a = some (oB 4 [.ref na, v1, v2])) (hn : h.2 na = some (aJ 287 g)) : Sp N yX4_clear mX4_clear 0 0 [.ref a] h (fun r h1 => r = none ∧ h1 = hset (hset h na (aJ 287 (gF g (fun _ => 0) 287))) a (oB 4 [.ref na, .int (gI (-1)), .int (gI (-1))])) := by
  refine Sp.of (by decide) rfl rfl (Nat.le_of_ble_eq_true rfl) ?_
  show Go N mX4_clear _ 0 0 h 0 [(0, .ref a)] []
  have loop : ∀ x : Int × GH, (0 ≤ x.1 ∧ x.1 ≤ 287 ∧ x.2 = hset h (na) (aJ 287 (gF g (fun _ => 0) x.1))) → Go N mX4_clear (fun r h1 => r = none ∧ h1 = hset (hset h na (aJ 287 (gF g (fun _ => 0) 287))) a (oB 4 [.ref na, .int (gI (-1)), .int (gI (-1))])) 0 0 x.2 2 [(1, .int (gI (x.1))), (0, .ref (a))] [] := by
    refine Go.loop _ (fun x : Int × GH => Go N mX4_clear _ 0 0 x.2 2 [(1, .int (gI (x.1))), (0, .ref (a))] []) (fun x => (288 - x.1).toNat) (fun x hx ih => ?_)
    obtain ⟨k, hh⟩ := x
    obtain ⟨hk0, hk1, he⟩ := hx
    dsimp only at hk0 hk1 he
    have g0 : hh.2 (a) = some (oB 4 [.ref (na), v1, v2]) := by rw [he, hset_n _ _ (by omega)]; exact ho
    have g1 : hh.2 (na) = some (aJ 287 (gF g (fun _ => 0) k)) := by rw [he]; exact hset_s _ _ _
    refine g_iload_n 0 dX4_clear_2 rfl ?_
    refine g_sipush dX4_clear_3 (by decide) ?_
    refine g_icmp_ge (tgt := 22) dX4_clear_6 rfl (by unfold gW at *; omega) (by unfold gW at *; omega) (fun c1 => ?_) (fun c1 => ?_)
    · skip
      refine g_aload_n 1 dX4_clear_22 rfl ?_
      refine g_iconst dX4_clear_23 ?_
      refine g_putf 1 dX4_clear_24 kX4 (by decide) fX4_15 rfl g0 (Nat.le_of_ble_eq_true rfl) rfl rfl ?_
      obtain ⟨hh2, eh2⟩ : ∃ z : GH, z = hset hh (a) (oB 4 [.ref (na), .int (gI (-1)), v2]) := ⟨_, rfl⟩
      refine Go.hp eh2.symm ?_
      have fh2_0 : hh2.2 (a) = some (oB 4 [.ref (na), .int (gI (-1)), v2]) := by rw [eh2]; exact hset_s _ _ _
      have fh2_1 : hh2.2 (na) = some (aJ 287 (gF g (fun _ => 0) k)) := by rw [eh2, hset_n _ _ (by omega)]; exact g1
      refine g_aload_n 1 dX4_clear_27 rfl ?_
      refine g_iconst dX4_clear_28 ?_
      refine g_putf 2 dX4_clear_29 kX4 (by decide) fX4_19 rfl fh2_0 (Nat.le_of_ble_eq_true rfl) rfl rfl ?_
      obtain ⟨hh3, eh3⟩ : ∃ z : GH, z = hset hh2 (a) (oB 4 [.ref (na), .int (gI (-1)), .int (gI (-1))]) := ⟨_, rfl⟩
      refine Go.hp eh3.symm ?_
      have fh3_0 : hh3.2 (a) = some (oB 4 [.ref (na), .int (gI (-1)), .int (gI (-1))]) := by rw [eh3]; exact hset_s _ _ _
      have fh3_1 : hh3.2 (na) = some (aJ 287 (gF g (fun _ => 0) k)) := by rw [eh3, hset_n _ _ (by omega)]; exact fh2_1
      exact g_vret dX4_clear_32 rfl ⟨rfl, by rw [eh3, eh2, hset_hset]; rw [he, show k = 287 by omega]⟩
    · skip
      refine g_aload_n 1 dX4_clear_9 rfl ?_
      refine g_getf 0 dX4_clear_10 kX4 (by decide) fX4_9 g0 rfl ?_
      refine g_iload_n 0 dX4_clear_13 rfl ?_
      refine g_lconst0 dX4_clear_14 ?_
      refine g_lastore dX4_clear_15 g1 (by omega) (by omega) (by decide) ?_
      obtain ⟨hh4, eh4⟩ : ∃ z : GH, z = hset hh (na) (aJ 287 (gup (gF g (fun _ => 0) k) (k) (0))) := ⟨_, rfl⟩
      refine Go.hp eh4.symm ?_
      have fh4_0 : hh4.2 (a) = some (oB 4 [.ref (na), v1, v2]) := by rw [eh4, hset_n _ _ (by omega)]; exact g0
      have fh4_1 : hh4.2 (na) = some (aJ 287 (gup (gF g (fun _ => 0) k) (k) (0))) := by rw [eh4]; exact hset_s _ _ _
      refine g_iinc 0 (ls2 := [(1, .int (gI (k + 1))), (0, .ref (a))]) dX4_clear_16 rfl (by decide) rfl ?_
      refine g_goto (tgt := 2) dX4_clear_19 rfl ?_
      exact ih (k + 1, hh4) ⟨by dsimp only; omega, by dsimp only; omega, by dsimp only; rw [eh4, he, hset_hset, gF_s _ _ hk0]⟩ (by dsimp only; omega)
  refine g_iconst dX4_clear_0 ?_
  refine g_istore_n (ls2 := [(1, .int (gI (0))), (0, .ref (a))]) dX4_clear_1 rfl (by decide) rfl ?_
  exact loop (0, h) ⟨by dsimp only; omega, by dsimp only; omega, by dsimp only; rw [gF_0]; exact (hset_id hn).symm⟩
set_option maxHeartbeats 4000000 in
set_option maxRecDepth 100000 in
theorem sX4_copy (N : GN) (h : GH) (a na b nb : Nat) (v1 v2 : Value) (dx dy : Int) (g f : Int → Int) (n1 : a ≠ na) (n2 : a ≠ b) (n3 : a ≠ nb) (n4 : na ≠ b) (n5 : na ≠ nb) (ho : h.2 a = some (oB 4 [.ref na, v1, v2])) (hn : h.2 na = some (aJ 287 g)) (hb : h.2 b = some (oB 4 [.ref nb, .int (gI dx), .int (gI dy)])) (hnb : h.2 nb = some (aJ 287 f)) : Sp N yX4_copy mX4_copy 0 0 [.ref a, .ref b] h (fun r h1 => r = none ∧ h1 = hset (hset h na (aJ 287 (fun j => if j < 287 then f j else g j))) a (oB 4 [.ref na, .int (gI dx), .int (gI dy)])) := by
  refine Sp.of (by decide) rfl rfl (Nat.le_of_ble_eq_true rfl) ?_
  show Go N mX4_copy _ 0 0 h 0 [(0, .ref a), (1, .ref b)] []
  refine g_aload_n 1 dX4_copy_0 rfl ?_
  refine g_getf 0 dX4_copy_1 kX4 (by decide) fX4_9 hb rfl ?_
  refine g_iconst dX4_copy_4 ?_
  refine g_aload_n 0 dX4_copy_5 rfl ?_
  refine g_getf 0 dX4_copy_6 kX4 (by decide) fX4_9 ho rfl ?_
  refine g_iconst dX4_copy_9 ?_
  refine g_sipush dX4_copy_10 (by decide) ?_
  refine g_copyJ dX4_copy_13 lX4_22 hnb hn (by omega) (by omega) (by omega) (by omega) (by decide) (Nat.le_of_ble_eq_true rfl) ?_
  obtain ⟨hh1, eh1⟩ : ∃ z : GH, z = hset h (na) (aJ 287 (fun j => if j < 287 then (f) j else (g) j)) := ⟨_, rfl⟩
  refine Go.hp eh1.symm ?_
  have fh1_0 : hh1.2 (a) = some (oB 4 [.ref (na), v1, v2]) := by rw [eh1, hset_n _ _ (by omega)]; exact ho
  have fh1_1 : hh1.2 (na) = some (aJ 287 (fun j => if j < 287 then (f) j else (g) j)) := by rw [eh1]; exact hset_s _ _ _
  have fh1_2 : hh1.2 (b) = some (oB 4 [.ref (nb), .int (gI (dx)), .int (gI (dy))]) := by rw [eh1, hset_n _ _ (by omega)]; exact hb
  have fh1_3 : hh1.2 (nb) = some (aJ 287 (f)) := by rw [eh1, hset_n _ _ (by omega)]; exact hnb
  refine g_aload_n 0 dX4_copy_16 rfl ?_
  refine g_aload_n 1 dX4_copy_17 rfl ?_
  refine g_getf 1 dX4_copy_18 kX4 (by decide) fX4_15 fh1_2 rfl ?_
  refine g_putf 1 dX4_copy_21 kX4 (by decide) fX4_15 rfl fh1_0 (Nat.le_of_ble_eq_true rfl) rfl rfl ?_
  obtain ⟨hh2, eh2⟩ : ∃ z : GH, z = hset hh1 (a) (oB 4 [.ref (na), .int (gI (dx)), v2]) := ⟨_, rfl⟩
  refine Go.hp eh2.symm ?_
  have fh2_0 : hh2.2 (a) = some (oB 4 [.ref (na), .int (gI (dx)), v2]) := by rw [eh2]; exact hset_s _ _ _
  have fh2_1 : hh2.2 (na) = some (aJ 287 (fun j => if j < 287 then (f) j else (g) j)) := by rw [eh2, hset_n _ _ (by omega)]; exact fh1_1
  have fh2_2 : hh2.2 (b) = some (oB 4 [.ref (nb), .int (gI (dx)), .int (gI (dy))]) := by rw [eh2, hset_n _ _ (by omega)]; exact fh1_2
  have fh2_3 : hh2.2 (nb) = some (aJ 287 (f)) := by rw [eh2, hset_n _ _ (by omega)]; exact fh1_3
  refine g_aload_n 0 dX4_copy_24 rfl ?_
  refine g_aload_n 1 dX4_copy_25 rfl ?_
  refine g_getf 2 dX4_copy_26 kX4 (by decide) fX4_19 fh2_2 rfl ?_
  refine g_putf 2 dX4_copy_29 kX4 (by decide) fX4_19 rfl fh2_0 (Nat.le_of_ble_eq_true rfl) rfl rfl ?_
  obtain ⟨hh3, eh3⟩ : ∃ z : GH, z = hset hh2 (a) (oB 4 [.ref (na), .int (gI (dx)), .int (gI (dy))]) := ⟨_, rfl⟩
  refine Go.hp eh3.symm ?_
  have fh3_0 : hh3.2 (a) = some (oB 4 [.ref (na), .int (gI (dx)), .int (gI (dy))]) := by rw [eh3]; exact hset_s _ _ _
  have fh3_1 : hh3.2 (na) = some (aJ 287 (fun j => if j < 287 then (f) j else (g) j)) := by rw [eh3, hset_n _ _ (by omega)]; exact fh2_1
  have fh3_2 : hh3.2 (b) = some (oB 4 [.ref (nb), .int (gI (dx)), .int (gI (dy))]) := by rw [eh3, hset_n _ _ (by omega)]; exact fh2_2
  have fh3_3 : hh3.2 (nb) = some (aJ 287 (f)) := by rw [eh3, hset_n _ _ (by omega)]; exact fh2_3
  exact g_vret dX4_copy_32 rfl ⟨rfl, by rw [eh3, eh2, eh1, hset_hset]⟩
def gObj (h : GH) (a na : Nat) (x y : Int) : GH := hset h a (oB 4 [.ref na, .int (gI x), .int (gI y)])
set_option maxHeartbeats 4000000 in
set_option maxRecDepth 100000 in
theorem sX4_measure (N : GN) (h : GH) (a na : Nat) (v1 v2 : Value) (g : Int → Int) (hne : a ≠ na) (hg : ∀ j, gX (g j)) (ho : h.2 a = some (oB 4 [.ref na, v1, v2])) (hn : h.2 na = some (aJ 287 g)) : Sp N yX4_measure mX4_measure 0 0 [.ref a] h (fun r h1 => r = none ∧ ∃ dx dy : Int, (-1 ≤ dx ∧ dx ≤ 40) ∧ (-1 ≤ dy ∧ dy ≤ 6) ∧ h1 = gObj h a na dx dy) := by
  refine Sp.of (by decide) rfl rfl (Nat.le_of_ble_eq_true rfl) ?_
  show Go N mX4_measure _ 0 0 h 0 [(0, .ref a)] []
  have inner : ∀ j : Int, 0 ≤ j → j ≤ 6 → (∀ (dx dy : Int) (hh : GH), (-1 ≤ dx ∧ dx ≤ 40) → (-1 ≤ dy ∧ dy ≤ 6) → hh = gObj h a na dx dy → Go N mX4_measure (fun r h1 => r = none ∧ ∃ dx dy : Int, (-1 ≤ dx ∧ dx ≤ 40) ∧ (-1 ≤ dy ∧ dy ≤ 6) ∧ h1 = gObj h a na dx dy) 0 0 hh 65 [(1, .int (gI j)), (0, .ref a)] []) → ∀ x : Int × Int × Int × GH, (0 ≤ x.1 ∧ x.1 ≤ 41 ∧ -1 ≤ x.2.1 ∧ x.2.1 ≤ 40 ∧ -1 ≤ x.2.2.1 ∧ x.2.2.1 ≤ 6 ∧ x.2.2.2 = gObj h a na x.2.1 x.2.2.1) → Go N mX4_measure (fun r h1 => r = none ∧ ∃ dx dy : Int, (-1 ≤ dx ∧ dx ≤ 40) ∧ (-1 ≤ dy ∧ dy ≤ 6) ∧ h1 = gObj h a na dx dy) 0 0 x.2.2.2 20 [(2, .int (gI x.1)), (1, .int (gI j)), (0, .ref a)] [] := by
    intro j hj0 hj1 kout
    refine Go.loop _ (fun x : Int × Int × Int × GH => Go N mX4_measure _ 0 0 x.2.2.2 20 [(2, .int (gI x.1)), (1, .int (gI j)), (0, .ref a)] []) (fun x => (100 - x.1).toNat) (fun x hx ih => ?_)
    obtain ⟨i, dx, dy, hh⟩ := x
    obtain ⟨hi0, hi1, hx1, hx2, hy1, hy2, he⟩ := hx
    dsimp only at hi0 hi1 hx1 hx2 hy1 hy2 he
    have ga : hh.2 a = some (oB 4 [.ref na, .int (gI dx), .int (gI dy)]) := by rw [he]; exact hset_s _ _ _
    have gn : hh.2 na = some (aJ 287 g) := by rw [he]; unfold gObj; rw [hset_n _ _ (by omega)]; exact hn
    refine g_iload_n 0 dX4_measure_20 rfl ?_
    refine g_bipush dX4_measure_21 (by decide) ?_
    refine g_icmp_gt (tgt := 65) dX4_measure_23 rfl (by unfold gW at *; omega) (by unfold gW at *; omega) (fun c1 => ?_) (fun c1 => ?_)
    · skip
      refine Go.sub [1, 2] rfl ?_
      exact kout dx dy hh ⟨hx1, hx2⟩ ⟨hy1, hy2⟩ he
    · skip
      refine g_aload_n 2 dX4_measure_26 rfl ?_
      refine g_getf 0 dX4_measure_27 kX4 (by decide) fX4_9 ga rfl ?_
      refine g_iload_n 1 dX4_measure_30 rfl ?_
      refine g_bipush dX4_measure_31 (by decide) ?_
      refine g_imul dX4_measure_33 ?_
      refine g_iload_n 0 dX4_measure_34 rfl ?_
      refine g_iadd dX4_measure_35 ?_
      refine g_laload dX4_measure_36 gn (by omega) (by omega) (by decide) ?_
      refine g_lconst0 dX4_measure_37 ?_
      refine g_lcmp dX4_measure_38 (hg _) (by unfold gX at *; omega) ?_
      refine g_if_eq (tgt := 59) dX4_measure_39 rfl (gW_cmp _ _) (fun c2 => ?_) (fun c2 => ?_)
      · skip
        refine g_iinc 0 (ls2 := [(2, .int (gI (i + 1))), (1, .int (gI (j))), (0, .ref (a))]) dX4_measure_59 rfl (by decide) rfl ?_
        refine g_goto (tgt := 20) dX4_measure_62 rfl ?_
        exact ih (i + 1, dx, dy, hh) ⟨by dsimp only; omega, by dsimp only; omega, by dsimp only; (try split) <;> omega, by dsimp only; (try split) <;> omega, by dsimp only; omega, by dsimp only; omega, he⟩ (by dsimp only; omega)
      · skip
        refine g_aload_n 2 dX4_measure_42 rfl ?_
        refine g_aload_n 2 dX4_measure_43 rfl ?_
        refine g_getf 1 dX4_measure_44 kX4 (by decide) fX4_15 ga rfl ?_
        refine g_iload_n 0 dX4_measure_47 rfl ?_
        have hmx : -1 ≤ (if dx < i then i else dx) ∧ (if dx < i then i else dx) ≤ 40 := by split <;> omega
        refine g_max dX4_measure_48 lX4_28 (by unfold gW at *; omega) (by unfold gW at *; omega) (by decide) (Nat.le_of_ble_eq_true rfl) ?_
        refine g_putf 1 dX4_measure_51 kX4 (by decide) fX4_15 rfl ga (Nat.le_of_ble_eq_true rfl) rfl rfl ?_
        obtain ⟨hh3, eh3⟩ : ∃ z : GH, z = hset hh (a) (oB 4 [.ref (na), .int (gI (if dx < i then i else dx)), .int (gI (dy))]) := ⟨_, rfl⟩
        refine Go.hp eh3.symm ?_
        have fh3_0 : hh3.2 (a) = some (oB 4 [.ref (na), .int (gI (if dx < i then i else dx)), .int (gI (dy))]) := by rw [eh3]; exact hset_s _ _ _
        have fh3_1 : hh3.2 (na) = some (aJ 287 (g)) := by rw [eh3, hset_n _ _ (by omega)]; exact gn
        refine g_aload_n 2 dX4_measure_54 rfl ?_
        refine g_iload_n 1 dX4_measure_55 rfl ?_
        refine g_putf 2 dX4_measure_56 kX4 (by decide) fX4_19 rfl fh3_0 (Nat.le_of_ble_eq_true rfl) rfl rfl ?_
        obtain ⟨hh4, eh4⟩ : ∃ z : GH, z = hset hh3 (a) (oB 4 [.ref (na), .int (gI (if dx < i then i else dx)), .int (gI (j))]) := ⟨_, rfl⟩
        refine Go.hp eh4.symm ?_
        have fh4_0 : hh4.2 (a) = some (oB 4 [.ref (na), .int (gI (if dx < i then i else dx)), .int (gI (j))]) := by rw [eh4]; exact hset_s _ _ _
        have fh4_1 : hh4.2 (na) = some (aJ 287 (g)) := by rw [eh4, hset_n _ _ (by omega)]; exact fh3_1
        refine g_iinc 0 (ls2 := [(2, .int (gI (i + 1))), (1, .int (gI (j))), (0, .ref (a))]) dX4_measure_59 rfl (by decide) rfl ?_
        refine g_goto (tgt := 20) dX4_measure_62 rfl ?_
        exact ih (i + 1, if dx < i then i else dx, j, hh4) ⟨by dsimp only; omega, by dsimp only; omega, by dsimp only; (try split) <;> omega, by dsimp only; (try split) <;> omega, by dsimp only; omega, by dsimp only; omega, by dsimp only; rw [eh4, eh3, he]; unfold gObj; rw [hset_hset, hset_hset]⟩ (by dsimp only; omega)
  have outer : ∀ x : Int × Int × Int × GH, (0 ≤ x.1 ∧ x.1 ≤ 7 ∧ -1 ≤ x.2.1 ∧ x.2.1 ≤ 40 ∧ -1 ≤ x.2.2.1 ∧ x.2.2.1 ≤ 6 ∧ x.2.2.2 = gObj h a na x.2.1 x.2.2.1) → Go N mX4_measure (fun r h1 => r = none ∧ ∃ dx dy : Int, (-1 ≤ dx ∧ dx ≤ 40) ∧ (-1 ≤ dy ∧ dy ≤ 6) ∧ h1 = gObj h a na dx dy) 0 0 x.2.2.2 12 [(1, .int (gI x.1)), (0, .ref a)] [] := by
    refine Go.loop _ (fun x : Int × Int × Int × GH => Go N mX4_measure _ 0 0 x.2.2.2 12 [(1, .int (gI x.1)), (0, .ref a)] []) (fun x => (100 - x.1).toNat) (fun x hx ih => ?_)
    obtain ⟨j, dx, dy, hh⟩ := x
    obtain ⟨hi0, hi1, hx1, hx2, hy1, hy2, he⟩ := hx
    dsimp only at hi0 hi1 hx1 hx2 hy1 hy2 he
    have ga : hh.2 a = some (oB 4 [.ref na, .int (gI dx), .int (gI dy)]) := by rw [he]; exact hset_s _ _ _
    have gn : hh.2 na = some (aJ 287 g) := by rw [he]; unfold gObj; rw [hset_n _ _ (by omega)]; exact hn
    refine g_iload_n 0 dX4_measure_12 rfl ?_
    refine g_bipush dX4_measure_13 (by decide) ?_
    refine g_icmp_gt (tgt := 71) dX4_measure_15 rfl (by unfold gW at *; omega) (by unfold gW at *; omega) (fun c1 => ?_) (fun c1 => ?_)
    · skip
      exact g_vret dX4_measure_71 rfl ⟨rfl, dx, dy, ⟨hx1, hx2⟩, ⟨hy1, hy2⟩, he⟩
    · skip
      refine g_iconst dX4_measure_18 ?_
      refine g_istore_n (ls2 := [(2, .int (gI (0))), (1, .int (gI (j))), (0, .ref (a))]) dX4_measure_19 rfl (by decide) rfl ?_
      refine inner j hi0 (by omega) (fun dx2 dy2 hh2 hx3 hy3 he2 => ?_) (0, dx, dy, hh) ⟨by dsimp only; omega, by dsimp only; omega, hx1, hx2, hy1, hy2, he⟩
      refine g_iinc 0 (ls2 := [(1, .int (gI (j + 1))), (0, .ref (a))]) dX4_measure_65 rfl (by decide) rfl ?_
      refine g_goto (tgt := 12) dX4_measure_68 rfl ?_
      exact ih (j + 1, dx2, dy2, hh2) ⟨by dsimp only; omega, by dsimp only; omega, hx3.1, hx3.2, hy3.1, hy3.2, he2⟩ (by dsimp only; omega)
  refine g_aload_n 0 dX4_measure_0 rfl ?_
  refine g_iconst dX4_measure_1 ?_
  refine g_putf 1 dX4_measure_2 kX4 (by decide) fX4_15 rfl ho (Nat.le_of_ble_eq_true rfl) rfl rfl ?_
  obtain ⟨hh1, eh1⟩ : ∃ z : GH, z = hset h (a) (oB 4 [.ref (na), .int (gI (-1)), v2]) := ⟨_, rfl⟩
  refine Go.hp eh1.symm ?_
  have fh1_0 : hh1.2 (a) = some (oB 4 [.ref (na), .int (gI (-1)), v2]) := by rw [eh1]; exact hset_s _ _ _
  have fh1_1 : hh1.2 (na) = some (aJ 287 (g)) := by rw [eh1, hset_n _ _ (by omega)]; exact hn
  refine g_aload_n 0 dX4_measure_5 rfl ?_
  refine g_iconst dX4_measure_6 ?_
  refine g_putf 2 dX4_measure_7 kX4 (by decide) fX4_19 rfl fh1_0 (Nat.le_of_ble_eq_true rfl) rfl rfl ?_
  obtain ⟨hh2, eh2⟩ : ∃ z : GH, z = hset hh1 (a) (oB 4 [.ref (na), .int (gI (-1)), .int (gI (-1))]) := ⟨_, rfl⟩
  refine Go.hp eh2.symm ?_
  have fh2_0 : hh2.2 (a) = some (oB 4 [.ref (na), .int (gI (-1)), .int (gI (-1))]) := by rw [eh2]; exact hset_s _ _ _
  have fh2_1 : hh2.2 (na) = some (aJ 287 (g)) := by rw [eh2, hset_n _ _ (by omega)]; exact fh1_1
  refine g_iconst dX4_measure_10 ?_
  refine g_istore_n (ls2 := [(1, .int (gI (0))), (0, .ref (a))]) dX4_measure_11 rfl (by decide) rfl ?_
  exact outer (0, -1, -1, hh2) ⟨by dsimp only; omega, by dsimp only; omega, by dsimp only; omega, by dsimp only; omega, by dsimp only; omega, by dsimp only; omega, by dsimp only; rw [eh2, eh1, hset_hset]; rfl⟩
