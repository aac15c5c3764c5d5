theorem Fr.e0 {h h1 : GH} (f : Fr [] h h1) : h1 = h := Prod.ext f.1 (funext fun a => f.2 a (Ni.n a))
set_option maxHeartbeats 4000000 in
set_option maxRecDepth 100000 in
theorem sQ_measure (N : GN) (h : GH) (a p : Nat) (hp : prm p) (hp2 : p ≤ 65536) (v1 v2 : Value) (g : Int → Int) (F : Pxy p) (ho : h.2 a = some (oB 4 [.ref (a + 1), v1, v2])) (hn : h.2 (a + 1) = some (aJ 287 g)) (hN : NM F g) (hB : PB hp F) : Sp N yX4_measure mX4_measure 0 0 [.ref (a)] h (fun v h1 => v = none ∧ Fr [a] h h1 ∧ PP hp h1 a F) := by
  refine Sp.of (by decide) rfl rfl (Nat.le_of_ble_eq_true rfl) ?_
  show Go N mX4_measure _ 0 0 h 0 [(0, .ref (a))] []
  have hp1 := hp.1
  have ne0 : NE (a) (a + 1) := by unfold NE; omega
  refine g_aload_n 0 dX4_measure_0 rfl ?_
  refine g_iconst dX4_measure_1 ?_
  refine g_putf 1 dX4_measure_2 kX4 (by decide) fX4_15 rfl ho (Nat.le_of_ble_eq_true rfl) rfl rfl ?_
  obtain ⟨hh1, eh1⟩ : ∃ z : GH, z = hset h (a) (oB 4 [.ref (a + 1), .int (gI (-1)), v2]) := ⟨_, rfl⟩
  refine Go.hp eh1.symm ?_
  have fh1_0 : hh1.2 (a) = some (oB 4 [.ref (a + 1), .int (gI (-1)), v2]) := hs_s eh1
  have fh1_1 : hh1.2 (a + 1) = some (aJ 287 (g)) := hs_n eh1 (ne0).s hn
  have fr1 : Fr [a] h hh1 := Fr.w0 (Fr.rf [a] h) (List.Mem.head _) eh1
  refine g_aload_n 0 dX4_measure_5 rfl ?_
  refine g_iconst dX4_measure_6 ?_
  refine g_putf 2 dX4_measure_7 kX4 (by decide) fX4_19 rfl fh1_0 (Nat.le_of_ble_eq_true rfl) rfl rfl ?_
  obtain ⟨hh2, eh2⟩ : ∃ z : GH, z = hset hh1 (a) (oB 4 [.ref (a + 1), .int (gI (-1)), .int (gI (-1))]) := ⟨_, rfl⟩
  refine Go.hp eh2.symm ?_
  have fh2_0 : hh2.2 (a) = some (oB 4 [.ref (a + 1), .int (gI (-1)), .int (gI (-1))]) := hs_s eh2
  have fh2_1 : hh2.2 (a + 1) = some (aJ 287 (g)) := hs_n eh2 (ne0).s fh1_1
  have fr2 : Fr [a] h hh2 := Fr.w0 fr1 (List.Mem.head _) eh2
  refine g_iconst dX4_measure_10 ?_
  refine g_istore_n (ls2 := [(1, .int (gI (0))), (0, .ref (a))]) dX4_measure_11 rfl (by decide) rfl ?_
  have lj : ∀ (kk : Nat) (j : Int) (dx : Int) (dy : Int) (hlj : GH), kk = (7 - j).toNat → Fr [a] h hlj → hlj.2 (a) = some (oB 4 [.ref (a + 1), .int (gI (dx)), .int (gI (dy))]) → hlj.2 (a + 1) = some (aJ 287 (g)) → (0 ≤ j) → (j ≤ 7) → (mI g (j * 41) dx dy) → Go N mX4_measure (fun v h1 => v = none ∧ Fr [a] h h1 ∧ PP hp h1 a F) 0 0 hlj 12 [(1, .int (gI (j))), (0, .ref (a))] [] := by
    refine Go.ind (fun kk ih_lj => ?_)
    intro j dx dy hlj hkk_lj fr_lj cf_lj_0 cf_lj_1 hj0 hj1 hI
    refine g_iload_n 0 dX4_measure_12 rfl ?_
    refine g_bipush dX4_measure_13 (by decide) ?_
    refine g_icmp_gt (tgt := 71) dX4_measure_15 rfl (by unfold gW; omega) (by unfold gW; omega) (fun c103 => ?_) (fun c103 => ?_)
    · skip
      exact g_vret dX4_measure_71 rfl ⟨rfl, fr_lj, by
      have hj7 : j = 7 := by omega
      rw [hj7] at hI
      have hE := mI_e hp hI hN hB
      refine PP.mk hp2 ?_ cf_lj_1 hN hB
      rw [hE.1, hE.2]
      exact cf_lj_0⟩
    · skip
      refine g_iconst dX4_measure_18 ?_
      refine g_istore_n (ls2 := [(2, .int (gI (0))), (1, .int (gI (j))), (0, .ref (a))]) dX4_measure_19 rfl (by decide) rfl ?_
      have li : ∀ (kk : Nat) (i : Int) (ex : Int) (ey : Int) (hli : GH), kk = (41 - i).toNat → Fr [a] h hli → hli.2 (a) = some (oB 4 [.ref (a + 1), .int (gI (ex)), .int (gI (ey))]) → hli.2 (a + 1) = some (aJ 287 (g)) → (0 ≤ i) → (i ≤ 41) → (mI g (j * 41 + i) ex ey) → Go N mX4_measure (fun v h1 => v = none ∧ Fr [a] h h1 ∧ PP hp h1 a F) 0 0 hli 20 [(2, .int (gI (i))), (1, .int (gI (j))), (0, .ref (a))] [] := by
        refine Go.ind (fun kk ih_li => ?_)
        intro i ex ey hli hkk_li fr_li cf_li_0 cf_li_1 hi0 hi1 hK
        have hmi := mI_in hK (by omega)
        refine g_iload_n 0 dX4_measure_20 rfl ?_
        refine g_bipush dX4_measure_21 (by decide) ?_
        refine g_icmp_gt (tgt := 65) dX4_measure_23 rfl (by unfold gW; omega) (by unfold gW; omega) (fun c204 => ?_) (fun c204 => ?_)
        · skip
          refine g_iinc 1 (ls2 := [(1, .int (gI (j + 1))), (2, .int (gI (i))), (0, .ref (a))]) dX4_measure_65 rfl (by decide) rfl ?_
          refine g_goto (tgt := 12) dX4_measure_68 rfl ?_
          refine Go.sub [0, 2] rfl ?_
          exact ih_lj _ (by omega) (j + 1) (ex) (ey) hli rfl fr_li cf_li_0 cf_li_1 (by omega) (by omega) (by rw [show (j + 1) * 41 = j * 41 + i by omega]; exact hK)
        · skip
          refine g_aload_n 2 dX4_measure_26 rfl ?_
          refine g_getf 0 dX4_measure_27 kX4 (by decide) fX4_9 cf_li_0 rfl ?_
          refine g_iload_n 1 dX4_measure_30 rfl ?_
          refine g_bipush dX4_measure_31 (by decide) ?_
          refine g_imul dX4_measure_33 ?_
          refine g_iload_n 0 dX4_measure_34 rfl ?_
          refine g_iadd dX4_measure_35 ?_
          have hgk := hN.bd (h := hp) hp (k := j * 41 + i) (by omega) (by omega)
          refine g_laload dX4_measure_36 cf_li_1 (by omega) (by omega) (by omega) ?_
          refine g_lconst0 dX4_measure_37 ?_
          refine g_lcmp dX4_measure_38 (by unfold gX; omega) (by unfold gX; omega) ?_
          refine g_if_eq (tgt := 59) dX4_measure_39 rfl (gW_cmp _ _) (fun c205 => ?_) (fun c205 => ?_)
          · skip
            have hz := gcmp_eq.mp c205
            refine g_iinc 0 (ls2 := [(2, .int (gI (i + 1))), (1, .int (gI (j))), (0, .ref (a))]) dX4_measure_59 rfl (by decide) rfl ?_
            refine g_goto (tgt := 20) dX4_measure_62 rfl ?_
            exact ih_li _ (by omega) (i + 1) (ex) (ey) hli rfl fr_li cf_li_0 cf_li_1 (by omega) (by omega) (mI_z hK hi0 (by omega) hz)
          · skip
            have hz : ¬ _ = _ := fun z => c205 (gcmp_eq.mpr z)
            refine g_aload_n 2 dX4_measure_42 rfl ?_
            refine g_aload_n 2 dX4_measure_43 rfl ?_
            refine g_getf 1 dX4_measure_44 kX4 (by decide) fX4_15 cf_li_0 rfl ?_
            refine g_iload_n 0 dX4_measure_47 rfl ?_
            refine g_max dX4_measure_48 lX4_28 (by unfold gW; omega) (by unfold gW; omega) (by decide) (Nat.le_of_ble_eq_true rfl) ?_
            refine g_putf 1 dX4_measure_51 kX4 (by decide) fX4_15 rfl cf_li_0 (Nat.le_of_ble_eq_true rfl) rfl rfl ?_
            obtain ⟨hh206, eh206⟩ : ∃ z : GH, z = hset hli (a) (oB 4 [.ref (a + 1), .int (gI (if ex < i then i else ex)), .int (gI (ey))]) := ⟨_, rfl⟩
            refine Go.hp eh206.symm ?_
            have fh206_0 : hh206.2 (a) = some (oB 4 [.ref (a + 1), .int (gI (if ex < i then i else ex)), .int (gI (ey))]) := hs_s eh206
            have fh206_1 : hh206.2 (a + 1) = some (aJ 287 (g)) := hs_n eh206 (ne0).s cf_li_1
            have fr206 : Fr [a] h hh206 := Fr.w0 fr_li (List.Mem.head _) eh206
            refine g_aload_n 2 dX4_measure_54 rfl ?_
            refine g_iload_n 1 dX4_measure_55 rfl ?_
            refine g_putf 2 dX4_measure_56 kX4 (by decide) fX4_19 rfl fh206_0 (Nat.le_of_ble_eq_true rfl) rfl rfl ?_
            obtain ⟨hh207, eh207⟩ : ∃ z : GH, z = hset hh206 (a) (oB 4 [.ref (a + 1), .int (gI (if ex < i then i else ex)), .int (gI (j))]) := ⟨_, rfl⟩
            refine Go.hp eh207.symm ?_
            have fh207_0 : hh207.2 (a) = some (oB 4 [.ref (a + 1), .int (gI (if ex < i then i else ex)), .int (gI (j))]) := hs_s eh207
            have fh207_1 : hh207.2 (a + 1) = some (aJ 287 (g)) := hs_n eh207 (ne0).s fh206_1
            have fr207 : Fr [a] h hh207 := Fr.w0 fr206 (List.Mem.head _) eh207
            refine g_iinc 0 (ls2 := [(2, .int (gI (i + 1))), (1, .int (gI (j))), (0, .ref (a))]) dX4_measure_59 rfl (by decide) rfl ?_
            refine g_goto (tgt := 20) dX4_measure_62 rfl ?_
            exact ih_li _ (by omega) (i + 1) (if ex < i then i else ex) (j) hh207 rfl fr207 fh207_0 fh207_1 (by omega) (by omega) (mI_s hK hj0 hi0 (by omega) hz)
      exact li _ (0) (dx) (dy) hlj rfl fr_lj cf_lj_0 cf_lj_1 (by omega) (by omega) (by rw [Int.add_zero]; exact hI)
  exact lj _ (0) (-1) (-1) hh2 rfl fr2 fh2_0 fh2_1 (by omega) (by omega) (mI_0 g)
theorem sQ_clear (N : GN) (h : GH) (a p : Nat) (hp : prm p) (hp2 : p ≤ 65536) (ha : PA h a) : Sp N yX4_clear mX4_clear 0 0 [.ref a] h (fun v h1 => v = none ∧ Fr [a] h h1 ∧ PP hp h1 a (zF hp)) := by
  obtain ⟨dx, dy, g, h1, h2, h3⟩ := ha
  refine Sp.imp (sX4_clear N h a (a + 1) _ _ g (by omega) h1 h2) (fun v h4 q => ?_)
  obtain ⟨rfl, e⟩ := q
  refine ⟨rfl, Fr.w0 (Fr.w1 (Fr.rf _ _) (List.Mem.head _) rfl) (List.Mem.head _) e, PP.mk hp2 ?_ (by rw [e, hset_n _ _ (by omega)]; exact hset_s _ _ _) (fun j i j0 j1 i0 i1 => ?_) (zF_PB hp)⟩
  · rw [zF_X, zF_Y]; exact hs_s e
  · unfold gF; rw [if_pos (by omega), zF_cy]
theorem sQ_copy (N : GN) (h : GH) (a b p : Nat) (hp : prm p) (hp2 : p ≤ 65536) (F : Pxy p) (ha : PA h a) (hb : PP hp h b F) (ap : AP a b) : Sp N yX4_copy mX4_copy 0 0 [.ref a, .ref b] h (fun v h1 => v = none ∧ Fr [a] h h1 ∧ PP hp h1 a F) := by
  obtain ⟨dx, dy, g, h1, h2, h3⟩ := ha
  obtain ⟨f, ⟨f1, f2, f3⟩, hN, hB⟩ := hb
  have ap2 := ap
  unfold AP at ap2
  refine Sp.imp (sX4_copy N h a (a + 1) b (b + 1) _ _ (dX hp F) (dY hp F) g f (by omega) (by omega) (by omega) (by omega) (by omega) h1 h2 f1 f2) (fun v h4 q => ?_)
  obtain ⟨rfl, e⟩ := q
  refine ⟨rfl, Fr.w0 (Fr.w1 (Fr.rf _ _) (List.Mem.head _) rfl) (List.Mem.head _) e, PP.mk hp2 (hs_s e) (by rw [e, hset_n _ _ (by omega)]; exact hset_s _ _ _) (fun j i j0 j1 i0 i1 => ?_) hB⟩
  show (if j * 41 + i < 287 then f (j * 41 + i) else g (j * 41 + i)) = _
  rw [if_pos (by omega)]; exact hN j i j0 j1 i0 i1
set_option maxHeartbeats 4000000 in
set_option maxRecDepth 100000 in
theorem sQ_isPlain (N : GN) (h : GH) (a p : Nat) (hp : prm p) (F : Pxy p) (ha : PP hp h a F) : Sp N yX4_isPlain mX4_isPlain 0 0 [.ref (a)] h (fun v h1 => h1 = h ∧ v = some (.int (gI (if dY hp F < 1 then 1 else 0)))) := by
  refine Sp.of (by decide) rfl rfl (Nat.le_of_ble_eq_true rfl) ?_
  show Go N mX4_isPlain _ 0 0 h 0 [(0, .ref (a))] []
  have hd := ha.dg
  refine g_aload_n 0 dX4_isPlain_0 rfl ?_
  refine g_getf 2 dX4_isPlain_1 kX4 (by decide) fX4_19 (ha).o rfl ?_
  refine g_iconst dX4_isPlain_4 ?_
  refine g_icmp_ge (tgt := 12) dX4_isPlain_5 rfl (by unfold gW; omega) (by unfold gW; omega) (fun c1 => ?_) (fun c1 => ?_)
  · skip
    refine g_iconst dX4_isPlain_12 ?_
    exact g_zret dX4_isPlain_13 rfl (by omega) ⟨rfl, by rw [if_neg (by omega)]⟩
  · skip
    refine g_iconst dX4_isPlain_8 ?_
    refine g_goto (tgt := 13) dX4_isPlain_9 rfl ?_
    exact g_zret dX4_isPlain_13 rfl (by omega) ⟨rfl, by rw [if_pos (by omega)]⟩
set_option maxHeartbeats 4000000 in
set_option maxRecDepth 100000 in
theorem sQ_isLike (N : GN) (h : GH) (a b p : Nat) (hp : prm p) (hp2 : p ≤ 65536) (F G : Pxy p) (ha : PP hp h a F) (hb : PP hp h b G) : Sp N yX4_isLike mX4_isLike 0 0 [.ref (a), .ref (b)] h (fun v h1 => h1 = h ∧ ((v = some (.int (gI 1)) ∧ F = G) ∨ (v = some (.int (gI 0)) ∧ F ≠ G))) := by
  refine Sp.of (by decide) rfl rfl (Nat.le_of_ble_eq_true rfl) ?_
  show Go N mX4_isLike _ 0 0 h 0 [(0, .ref (a)), (1, .ref (b))] []
  have hp1 := hp.1
  obtain ⟨f, ⟨a1, a2, a3⟩, hN, hB⟩ := ha
  obtain ⟨g, ⟨b1, b2, b3⟩, hM, hC⟩ := hb
  refine g_iconst dX4_isLike_0 ?_
  refine g_istore_n (ls2 := [(2, .int (gI (0))), (0, .ref (a)), (1, .ref (b))]) dX4_isLike_1 rfl (by decide) rfl ?_
  have lk : ∀ (kk : Nat) (k : Int) (hlk : GH), kk = (287 - k).toNat → Fr [] h hlk → (0 ≤ k) → (k ≤ 287) → (∀ m, 0 ≤ m → m < k → f m = g m) → Go N mX4_isLike (fun v h1 => h1 = h ∧ ((v = some (.int (gI 1)) ∧ F = G) ∨ (v = some (.int (gI 0)) ∧ F ≠ G))) 0 0 hlk 2 [(2, .int (gI (k))), (0, .ref (a)), (1, .ref (b))] [] := by
    refine Go.ind (fun kk ih_lk => ?_)
    intro k hlk hkk_lk fr_lk hk0 hk1 hE
    have cg_lk_0 : hlk.2 (a) = some (oB 4 [.ref (a + 1), .int (gI (dX hp F)), .int (gI (dY hp F))]) := Fr.at0 fr_lk (Ni.n _) a1
    have cg_lk_1 : hlk.2 (a + 1) = some (aJ 287 (f)) := Fr.at0 fr_lk (Ni.n _) a2
    have cg_lk_2 : hlk.2 (b) = some (oB 4 [.ref (b + 1), .int (gI (dX hp G)), .int (gI (dY hp G))]) := Fr.at0 fr_lk (Ni.n _) b1
    have cg_lk_3 : hlk.2 (b + 1) = some (aJ 287 (g)) := Fr.at0 fr_lk (Ni.n _) b2
    refine g_iload_n 0 dX4_isLike_2 rfl ?_
    refine g_sipush dX4_isLike_3 (by decide) ?_
    refine g_icmp_ge (tgt := 33) dX4_isLike_6 rfl (by unfold gW; omega) (by unfold gW; omega) (fun c101 => ?_) (fun c101 => ?_)
    · skip
      refine g_iconst dX4_isLike_33 ?_
      exact g_zret dX4_isLike_34 rfl (by omega) ⟨Fr.e0 fr_lk, Or.inl ⟨rfl, by
      rw [← fF_of hp hB (fun j i j1 i1 => hN.zi hp j1 i1), ← fF_of hp hC (fun j i j1 i1 => hM.zi hp j1 i1)]
      refine funext fun j => funext fun i => ?_
      letI := fR hp
      show (if j ≤ 6 ∧ i ≤ 40 then zi hp (f ((j : Int) * 41 + i)) else 0) = (if j ≤ 6 ∧ i ≤ 40 then zi hp (g ((j : Int) * 41 + i)) else 0)
      by_cases z : j ≤ 6 ∧ i ≤ 40
      · rw [if_pos z, if_pos z, hE _ (by omega) (by omega)]
      · rw [if_neg z, if_neg z]⟩⟩
    · skip
      refine g_aload_n 1 dX4_isLike_9 rfl ?_
      refine g_getf 0 dX4_isLike_10 kX4 (by decide) fX4_9 cg_lk_0 rfl ?_
      refine g_iload_n 0 dX4_isLike_13 rfl ?_
      refine g_laload dX4_isLike_14 cg_lk_1 (by omega) (by omega) (by omega) ?_
      refine g_aload_n 2 dX4_isLike_15 rfl ?_
      refine g_getf 0 dX4_isLike_16 kX4 (by decide) fX4_9 cg_lk_2 rfl ?_
      refine g_iload_n 0 dX4_isLike_19 rfl ?_
      refine g_laload dX4_isLike_20 cg_lk_3 (by omega) (by omega) (by omega) ?_
      have b1 := hN.bd (h := hp) hp (k := k) (by omega) (by omega)
      have b2 := hM.bd (h := hp) hp (k := k) (by omega) (by omega)
      refine g_lcmp dX4_isLike_21 (by unfold gX; omega) (by unfold gX; omega) ?_
      refine g_if_eq (tgt := 27) dX4_isLike_22 rfl (gW_cmp _ _) (fun c102 => ?_) (fun c102 => ?_)
      · skip
        have hz := gcmp_eq.mp c102
        refine g_iinc 0 (ls2 := [(2, .int (gI (k + 1))), (0, .ref (a)), (1, .ref (b))]) dX4_isLike_27 rfl (by decide) rfl ?_
        refine g_goto (tgt := 2) dX4_isLike_30 rfl ?_
        exact ih_lk _ (by omega) (k + 1) hlk rfl fr_lk (by omega) (by omega) (fun m m0 m1 => by
        rcases Int.lt_or_le m k with z | z
        · exact hE m m0 z
        · rw [show m = k by omega]; exact hz)
      · skip
        have hz : ¬ _ = _ := fun z => c102 (gcmp_eq.mpr z)
        refine g_iconst dX4_isLike_25 ?_
        exact g_zret dX4_isLike_26 rfl (by omega) ⟨Fr.e0 fr_lk, Or.inr ⟨rfl, fun e => hz (by
      have e1 : k = k / 41 * 41 + k % 41 := by omega
      rw [e1, hN _ _ (by omega) (by omega) (by omega) (by omega), hM _ _ (by omega) (by omega) (by omega) (by omega), e])⟩⟩
  exact lk _ (0) h rfl (Fr.rf [] h) (by omega) (by omega) (fun m m0 m1 => by omega)
set_option maxHeartbeats 4000000 in
set_option maxRecDepth 100000 in
theorem sQ_sliceTo (N : GN) (h : GH) (a r p : Nat) (hp : prm p) (hp2 : p ≤ 65536) (j : Int) (j0 : 0 ≤ j) (j1 : j ≤ 6) (F : Pxy p) (ha : PP hp h a F) (hr : RA 84 h r) (aar : AP a r) : Sp N yX4_sliceTo mX4_sliceTo 0 0 [.ref (a), .int (gI (j)), .ref (r)] h (fun v h1 => v = none ∧ Fr [r] h h1 ∧ RP hp 84 h1 r (F j.toNat)) := by
  refine Sp.of (by decide) rfl rfl (Nat.le_of_ble_eq_true rfl) ?_
  show Go N mX4_sliceTo _ 0 0 h 0 [(0, .ref (a)), (1, .int (gI (j))), (2, .ref (r))] []
  have hp1 := hp.1
  have ne0 : NE (a) (a + 1) := by unfold NE; omega
  have ne1 : NE (a) (r) := aar.n00
  have ne2 : NE (a) (r + 1) := aar.n01
  have ne3 : NE (a + 1) (r) := aar.n10
  have ne4 : NE (a + 1) (r + 1) := aar.n11
  have ne5 : NE (r) (r + 1) := by unfold NE; omega
  obtain ⟨f, ⟨a1, a2, a3⟩, hN, hB⟩ := ha
  refine g_iconst dX4_sliceTo_0 ?_
  refine g_istore_n (ls2 := [(3, .int (gI (0))), (0, .ref (a)), (1, .int (gI (j))), (2, .ref (r))]) dX4_sliceTo_1 rfl (by decide) rfl ?_
  obtain ⟨dr, gr, y1, y2, y3, y4, y5, y6, y7⟩ := hr
  have lk : ∀ (kk : Nat) (k : Int) (hlk : GH), kk = (41 - k).toNat → Fr [r] h hlk → hlk.2 (r) = some (oB 5 [.ref (r + 1), .int (gI (dr))]) → hlk.2 (r + 1) = some (aJ 84 (gF gr (fun i => f (j * 41 + i)) k)) → (0 ≤ k) → (k ≤ 41) → Go N mX4_sliceTo (fun v h1 => v = none ∧ Fr [r] h h1 ∧ RP hp 84 h1 r (F j.toNat)) 0 0 hlk 2 [(3, .int (gI (k))), (0, .ref (a)), (1, .int (gI (j))), (2, .ref (r))] [] := by
    refine Go.ind (fun kk ih_lk => ?_)
    intro k hlk hkk_lk fr_lk cf_lk_0 cf_lk_1 hk0 hk1
    have cg_lk_0 : hlk.2 (a) = some (oB 4 [.ref (a + 1), .int (gI (dX hp F)), .int (gI (dY hp F))]) := Fr.at0 fr_lk (Ni.c ⟨ne1, ne2⟩ (Ni.n _)) a1
    have cg_lk_1 : hlk.2 (a + 1) = some (aJ 287 (f)) := Fr.at0 fr_lk (Ni.c ⟨ne3, ne4⟩ (Ni.n _)) a2
    refine g_iload_n 0 dX4_sliceTo_2 rfl ?_
    refine g_bipush dX4_sliceTo_3 (by decide) ?_
    refine g_icmp_ge (tgt := 31) dX4_sliceTo_5 rfl (by unfold gW; omega) (by unfold gW; omega) (fun c101 => ?_) (fun c101 => ?_)
    · skip
      have hk41 : k = 41 := by omega
      refine g_aload_n 3 dX4_sliceTo_31 rfl ?_
      refine g_bipush dX4_sliceTo_32 (by decide) ?_
      refine g_callV (nc2 := 0) (ns2 := 0) (ci := 5) (As := [.int (gI (40))]) (st := []) rfl dX4_sliceTo_34 okX5_settle lX4_41 itX5_settle seX5_settle rfl cf_lk_0 (by decide) (by decide) rfl (Nat.le_of_ble_eq_true rfl) (sP_settle N _ (r) 84 p hp hp2 (dr) (40) (gF gr (fun i => f (j * 41 + i)) k) (F j.toNat) (by omega) (by omega) (by omega) (by omega) (fun i i0 i1 => by
        unfold gF; rw [if_pos (by omega)]
        show 0 ≤ f (j * 41 + i) ∧ f (j * 41 + i) < _
        rw [hN j i (by omega) (by omega) i0 i1]; exact cy_in hp F _ _) (by
        have hrp := row_po hp hB j.toNat
        rw [← ph_cf hp hrp.1 (d := 40) hrp.2]
        refine ph_cg hp (fun i i0 i1 => ?_)
        unfold gF
        rw [if_pos (by omega)]
        show zi hp (cf (F j.toNat) i) = zi hp (f (j * 41 + i))
        rw [hN j i (by omega) (by omega) i0 i1]
        unfold cy
        rw [if_pos (by omega)]) cf_lk_0 cf_lk_1) (by omega) (by omega) (fun v102 hc102 q102 => ?_)
      obtain ⟨rfl, frc103, rn103⟩ := q102
      have fk104_0 : hc102.2 (a) = some (oB 4 [.ref (a + 1), .int (gI (dX hp F)), .int (gI (dY hp F))]) := Fr.at0 frc103 (Ni.c ⟨ne1, ne2⟩ (Ni.n _)) cg_lk_0
      have fk104_1 : hc102.2 (a + 1) = some (aJ 287 (f)) := Fr.at0 frc103 (Ni.c ⟨ne3, ne4⟩ (Ni.n _)) cg_lk_1
      have fr104 : Fr [r] h hc102 := (fr_lk).tr ((frc103).mo (sub_c (List.Mem.head _) sub_n))
      refine Go.nf (h' := hc102) (st' := []) rfl rfl (Nat.le_refl _) (Nat.le_refl _) ?_
      exact g_vret dX4_sliceTo_37 rfl ⟨rfl, fr104, rn103⟩
    · skip
      refine g_aload_n 3 dX4_sliceTo_8 rfl ?_
      refine g_getf 0 dX4_sliceTo_9 kX5 (by decide) fX4_38 cf_lk_0 rfl ?_
      refine g_iload_n 0 dX4_sliceTo_12 rfl ?_
      refine g_aload_n 1 dX4_sliceTo_13 rfl ?_
      refine g_getf 0 dX4_sliceTo_14 kX4 (by decide) fX4_9 cg_lk_0 rfl ?_
      refine g_iload_n 2 dX4_sliceTo_17 rfl ?_
      refine g_bipush dX4_sliceTo_18 (by decide) ?_
      refine g_imul dX4_sliceTo_20 ?_
      refine g_iload_n 0 dX4_sliceTo_21 rfl ?_
      refine g_iadd dX4_sliceTo_22 ?_
      refine g_laload dX4_sliceTo_23 cg_lk_1 (by omega) (by omega) (by omega) ?_
      refine g_lastore dX4_sliceTo_24 cf_lk_1 (by omega) (by omega) (by omega) ?_
      obtain ⟨hh105, eh105⟩ : ∃ z : GH, z = hset hlk (r + 1) (aJ 84 (gup (gF gr (fun i => f (j * 41 + i)) k) (k) ((f) (((j) * (41)) + (k))))) := ⟨_, rfl⟩
      refine Go.hp eh105.symm ?_
      have fh105_0 : hh105.2 (a) = some (oB 4 [.ref (a + 1), .int (gI (dX hp F)), .int (gI (dY hp F))]) := hs_n eh105 ne2 cg_lk_0
      have fh105_1 : hh105.2 (a + 1) = some (aJ 287 (f)) := hs_n eh105 ne4 cg_lk_1
      have fh105_2 : hh105.2 (r) = some (oB 5 [.ref (r + 1), .int (gI (dr))]) := hs_n eh105 ne5 cf_lk_0
      have fh105_3 : hh105.2 (r + 1) = some (aJ 84 (gup (gF gr (fun i => f (j * 41 + i)) k) (k) ((f) (((j) * (41)) + (k))))) := hs_s eh105
      have fr105 : Fr [r] h hh105 := Fr.w1 fr_lk (List.Mem.head _) eh105
      refine g_iinc 0 (ls2 := [(3, .int (gI (k + 1))), (0, .ref (a)), (1, .int (gI (j))), (2, .ref (r))]) dX4_sliceTo_25 rfl (by decide) rfl ?_
      refine g_goto (tgt := 2) dX4_sliceTo_28 rfl ?_
      exact ih_lk _ (by omega) (k + 1) hh105 rfl fr105 fh105_2 (by rw [← gF_s gr (fun i => f (j * 41 + i)) hk0]; exact fh105_3) (by omega) (by omega)
  exact lk _ (0) h rfl (Fr.rf [r] h) y1 (by rw [gF_0]; exact y2) (by omega) (by omega)
set_option maxHeartbeats 4000000 in
set_option maxRecDepth 100000 in
theorem sQ_toRow (N : GN) (h : GH) (a r p : Nat) (hp : prm p) (hp2 : p ≤ 65536) (F : Pxy p) (ha : PP hp h a F) (hr : RA 84 h r) (aar : AP a r) : Sp N yX4_toRow mX4_toRow 0 0 [.ref (a), .ref (r)] h (fun v h1 => v = none ∧ Fr [r] h h1 ∧ RP hp 84 h1 r (F 0)) := by
  refine Sp.of (by decide) rfl rfl (Nat.le_of_ble_eq_true rfl) ?_
  show Go N mX4_toRow _ 0 0 h 0 [(0, .ref (a)), (1, .ref (r))] []
  have hp1 := hp.1
  refine g_aload_n 0 dX4_toRow_0 rfl ?_
  refine g_iconst dX4_toRow_1 ?_
  refine g_aload_n 1 dX4_toRow_2 rfl ?_
  refine g_callV (nc2 := 0) (ns2 := 0) (ci := 4) (As := [.int (gI (0)), .ref (r)]) (st := []) rfl dX4_toRow_3 okX4_sliceTo lX4_34 itX4_sliceTo seX4_sliceTo rfl (ha).o (by decide) (by decide) rfl (Nat.le_of_ble_eq_true rfl) (sQ_sliceTo N _ a r p hp hp2 0 (by omega) (by omega) F ha hr aar) (by omega) (by omega) (fun v1 hc1 q1 => ?_)
  obtain ⟨rfl, frc2, rn2_0⟩ := q1
  have rk3_0 : PP hp hc1 (a) (F) := (ha).fr frc2 (Ai.c aar (Ai.n _))
  have fr3 : Fr [r] h hc1 := ((Fr.rf [r] h)).tr ((frc2).mo (sub_c (List.Mem.head _) sub_n))
  refine Go.nf (h' := hc1) (st' := []) rfl rfl (Nat.le_refl _) (Nat.le_refl _) ?_
  exact g_vret dX4_toRow_6 rfl ⟨rfl, fr3, rn2_0⟩
set_option maxHeartbeats 4000000 in
set_option maxRecDepth 100000 in
theorem sQ_fromRow (N : GN) (h : GH) (a r n p : Nat) (hp : prm p) (hp2 : p ≤ 65536) (fr : Px p) (ha : PA h a) (hr : RP hp n h r fr) (hd : dgi hp fr ≤ 40) (aar : AP a r) : Sp N yX4_fromRow mX4_fromRow 0 0 [.ref (a), .ref (r)] h (fun v h1 => v = none ∧ Fr [a] h h1 ∧ PP hp h1 a (pF hp fr)) := by
  refine Sp.of (by decide) rfl rfl (Nat.le_of_ble_eq_true rfl) ?_
  show Go N mX4_fromRow _ 0 0 h 0 [(0, .ref (a)), (1, .ref (r))] []
  have hp1 := hp.1
  have ne0 : NE (a) (a + 1) := by unfold NE; omega
  have ne1 : NE (a) (r) := aar.n00
  have ne2 : NE (a) (r + 1) := aar.n01
  have ne3 : NE (a + 1) (r) := aar.n10
  have ne4 : NE (a + 1) (r + 1) := aar.n11
  have ne5 : NE (r) (r + 1) := by unfold NE; omega
  have hlt := hr.lt
  have hpo := hr.po
  refine g_aload_n 0 dX4_fromRow_0 rfl ?_
  refine g_callV (nc2 := 0) (ns2 := 0) (ci := 4) (As := []) (st := []) rfl dX4_fromRow_1 okX4_clear lX4_45 itX4_clear seX4_clear rfl (Classical.choose_spec (PA.o ha)) (by decide) (by decide) rfl (Nat.le_of_ble_eq_true rfl) (sQ_clear N _ a p hp hp2 ha) (by omega) (by omega) (fun v1 hc1 q1 => ?_)
  obtain ⟨rfl, frc2, rn2_0⟩ := q1
  have rk3_1 : RP hp n hc1 (r) (fr) := (hr).fr frc2 (Ai.c (aar).s (Ai.n _))
  have fr3 : Fr [a] h hc1 := ((Fr.rf [a] h)).tr ((frc2).mo (sub_c (List.Mem.head _) sub_n))
  refine Go.nf (h' := hc1) (st' := []) rfl rfl (Nat.le_refl _) (Nat.le_refl _) ?_
  obtain ⟨g, ⟨y1, y2, y3⟩, hZ, hZB⟩ := rn2_0
  obtain ⟨f, ⟨w1, w2, w3, w4, w5, w6, w7⟩, wP⟩ := rk3_1
  refine g_aload_n 1 dX4_fromRow_4 rfl ?_
  refine g_getf 1 dX4_fromRow_5 kX5 (by decide) fX4_48 w1 rfl ?_
  refine g_bipush dX4_fromRow_8 (by decide) ?_
  refine g_min dX4_fromRow_10 lX4_51 (by unfold gW; omega) (by unfold gW; omega) (by decide) (Nat.le_of_ble_eq_true rfl) ?_
  rw [show (if 40 < dgi hp fr then 40 else dgi hp fr) = dgi hp fr from if_neg (by omega)]
  refine g_istore_n (ls2 := [(2, .int (gI (dgi hp fr))), (0, .ref (a)), (1, .ref (r))]) dX4_fromRow_13 rfl (by decide) rfl ?_
  refine g_iconst dX4_fromRow_14 ?_
  refine g_istore_n (ls2 := [(3, .int (gI (0))), (2, .int (gI (dgi hp fr))), (0, .ref (a)), (1, .ref (r))]) dX4_fromRow_15 rfl (by decide) rfl ?_
  have lk : ∀ (kk : Nat) (k : Int) (hlk : GH), kk = (dgi hp fr + 1 - k).toNat → Fr [a] h hlk → hlk.2 (a) = some (oB 4 [.ref (a + 1), .int (gI (dX hp (zF hp))), .int (gI (dY hp (zF hp)))]) → hlk.2 (a + 1) = some (aJ 287 (gF g f k)) → hlk.2 (r) = some (oB 5 [.ref (r + 1), .int (gI (dgi hp (fr)))]) → hlk.2 (r + 1) = some (aJ n (f)) → (0 ≤ k) → (k ≤ dgi hp fr + 1) → Go N mX4_fromRow (fun v h1 => v = none ∧ Fr [a] h h1 ∧ PP hp h1 a (pF hp fr)) 0 0 hlk 16 [(3, .int (gI (k))), (2, .int (gI (dgi hp fr))), (0, .ref (a)), (1, .ref (r))] [] := by
    refine Go.ind (fun kk ih_lk => ?_)
    intro k hlk hkk_lk fr_lk cf_lk_0 cf_lk_1 cf_lk_2 cf_lk_3 hk0 hk1
    refine g_iload_n 0 dX4_fromRow_16 rfl ?_
    refine g_iload_n 1 dX4_fromRow_17 rfl ?_
    refine g_icmp_gt (tgt := 39) dX4_fromRow_18 rfl (by unfold gW; omega) (by unfold gW; omega) (fun c104 => ?_) (fun c104 => ?_)
    · skip
      refine g_aload_n 2 dX4_fromRow_39 rfl ?_
      refine g_iload_n 1 dX4_fromRow_40 rfl ?_
      refine g_putf 1 dX4_fromRow_41 kX4 (by decide) fX4_15 rfl cf_lk_0 (Nat.le_of_ble_eq_true rfl) rfl rfl ?_
      obtain ⟨hh105, eh105⟩ : ∃ z : GH, z = hset hlk (a) (oB 4 [.ref (a + 1), .int (gI (dgi hp fr)), .int (gI (dY hp (zF hp)))]) := ⟨_, rfl⟩
      refine Go.hp eh105.symm ?_
      have fh105_0 : hh105.2 (a) = some (oB 4 [.ref (a + 1), .int (gI (dgi hp fr)), .int (gI (dY hp (zF hp)))]) := hs_s eh105
      have fh105_1 : hh105.2 (a + 1) = some (aJ 287 (gF g f k)) := hs_n eh105 (ne0).s cf_lk_1
      have fh105_2 : hh105.2 (r) = some (oB 5 [.ref (r + 1), .int (gI (dgi hp (fr)))]) := hs_n eh105 (ne1).s cf_lk_2
      have fh105_3 : hh105.2 (r + 1) = some (aJ n (f)) := hs_n eh105 (ne2).s cf_lk_3
      have fr105 : Fr [a] h hh105 := Fr.w0 fr_lk (List.Mem.head _) eh105
      refine g_aload_n 2 dX4_fromRow_44 rfl ?_
      refine g_iload_n 1 dX4_fromRow_45 rfl ?_
      refine g_if_ge (tgt := 53) dX4_fromRow_46 rfl (by unfold gW; omega) (fun c106 => ?_) (fun c106 => ?_)
      · skip
        refine g_iconst dX4_fromRow_53 ?_
        refine g_putf 2 dX4_fromRow_54 kX4 (by decide) fX4_19 rfl fh105_0 (Nat.le_of_ble_eq_true rfl) rfl rfl ?_
        obtain ⟨hh107, eh107⟩ : ∃ z : GH, z = hset hh105 (a) (oB 4 [.ref (a + 1), .int (gI (dgi hp fr)), .int (gI (0))]) := ⟨_, rfl⟩
        refine Go.hp eh107.symm ?_
        have fh107_0 : hh107.2 (a) = some (oB 4 [.ref (a + 1), .int (gI (dgi hp fr)), .int (gI (0))]) := hs_s eh107
        have fh107_1 : hh107.2 (a + 1) = some (aJ 287 (gF g f k)) := hs_n eh107 (ne0).s fh105_1
        have fh107_2 : hh107.2 (r) = some (oB 5 [.ref (r + 1), .int (gI (dgi hp (fr)))]) := hs_n eh107 (ne1).s fh105_2
        have fh107_3 : hh107.2 (r + 1) = some (aJ n (f)) := hs_n eh107 (ne2).s fh105_3
        have fr107 : Fr [a] h hh107 := Fr.w0 fr105 (List.Mem.head _) eh107
        exact g_vret dX4_fromRow_57 rfl ⟨rfl, fr107, by
        have hkk : k = dgi hp fr + 1 := by omega
        refine PP.mk hp2 ?_ fh107_1 (fun j i j0 j1 i0 i1 => ?_) (pF_PB hp hpo hd)
        · rw [pF_X hp hpo, pF_Y hp hpo, if_neg (by omega)]
          exact fh107_0
        · unfold gF cy
          rw [if_pos j0]
          letI := pR hp
          show _ = cf (if j.toNat = 0 then fr else 0) i
          by_cases z : j.toNat = 0
          · rw [if_pos z]
            by_cases y : i ≤ dgi hp fr
            · rw [if_pos (by omega), ← PO_cf wP i0 y, show j * 41 + i = i by omega]
            · rw [if_neg (by omega), hZ j i j0 j1 i0 i1, zF_cy, cf_hi hp hpo (by omega)]
          · rw [if_neg z, if_neg (by omega), hZ j i j0 j1 i0 i1, zF_cy]
            unfold cf
            rw [if_pos i0, zero_k]
            exact (f_zero hp).symm⟩
      · skip
        refine g_iconst dX4_fromRow_49 ?_
        refine g_goto (tgt := 54) dX4_fromRow_50 rfl ?_
        refine g_putf 2 dX4_fromRow_54 kX4 (by decide) fX4_19 rfl fh105_0 (Nat.le_of_ble_eq_true rfl) rfl rfl ?_
        obtain ⟨hh108, eh108⟩ : ∃ z : GH, z = hset hh105 (a) (oB 4 [.ref (a + 1), .int (gI (dgi hp fr)), .int (gI (-1))]) := ⟨_, rfl⟩
        refine Go.hp eh108.symm ?_
        have fh108_0 : hh108.2 (a) = some (oB 4 [.ref (a + 1), .int (gI (dgi hp fr)), .int (gI (-1))]) := hs_s eh108
        have fh108_1 : hh108.2 (a + 1) = some (aJ 287 (gF g f k)) := hs_n eh108 (ne0).s fh105_1
        have fh108_2 : hh108.2 (r) = some (oB 5 [.ref (r + 1), .int (gI (dgi hp (fr)))]) := hs_n eh108 (ne1).s fh105_2
        have fh108_3 : hh108.2 (r + 1) = some (aJ n (f)) := hs_n eh108 (ne2).s fh105_3
        have fr108 : Fr [a] h hh108 := Fr.w0 fr105 (List.Mem.head _) eh108
        exact g_vret dX4_fromRow_57 rfl ⟨rfl, fr108, by
        have hkk : k = dgi hp fr + 1 := by omega
        refine PP.mk hp2 ?_ fh108_1 (fun j i j0 j1 i0 i1 => ?_) (pF_PB hp hpo hd)
        · rw [pF_X hp hpo, pF_Y hp hpo, if_pos (by omega)]
          exact fh108_0
        · unfold gF cy
          rw [if_pos j0]
          letI := pR hp
          show _ = cf (if j.toNat = 0 then fr else 0) i
          by_cases z : j.toNat = 0
          · rw [if_pos z]
            by_cases y : i ≤ dgi hp fr
            · rw [if_pos (by omega), ← PO_cf wP i0 y, show j * 41 + i = i by omega]
            · rw [if_neg (by omega), hZ j i j0 j1 i0 i1, zF_cy, cf_hi hp hpo (by omega)]
          · rw [if_neg z, if_neg (by omega), hZ j i j0 j1 i0 i1, zF_cy]
            unfold cf
            rw [if_pos i0, zero_k]
            exact (f_zero hp).symm⟩
    · skip
      refine g_aload_n 2 dX4_fromRow_21 rfl ?_
      refine g_getf 0 dX4_fromRow_22 kX4 (by decide) fX4_9 cf_lk_0 rfl ?_
      refine g_iload_n 0 dX4_fromRow_25 rfl ?_
      refine g_aload_n 3 dX4_fromRow_26 rfl ?_
      refine g_getf 0 dX4_fromRow_27 kX5 (by decide) fX4_38 cf_lk_2 rfl ?_
      refine g_iload_n 0 dX4_fromRow_30 rfl ?_
      refine g_laload dX4_fromRow_31 cf_lk_3 (by omega) (by omega) (by omega) ?_
      refine g_lastore dX4_fromRow_32 cf_lk_1 (by omega) (by omega) (by omega) ?_
      obtain ⟨hh109, eh109⟩ : ∃ z : GH, z = hset hlk (a + 1) (aJ 287 (gup (gF g f k) (k) ((f) (k)))) := ⟨_, rfl⟩
      refine Go.hp eh109.symm ?_
      have fh109_0 : hh109.2 (a) = some (oB 4 [.ref (a + 1), .int (gI (dX hp (zF hp))), .int (gI (dY hp (zF hp)))]) := hs_n eh109 ne0 cf_lk_0
      have fh109_1 : hh109.2 (a + 1) = some (aJ 287 (gup (gF g f k) (k) ((f) (k)))) := hs_s eh109
      have fh109_2 : hh109.2 (r) = some (oB 5 [.ref (r + 1), .int (gI (dgi hp (fr)))]) := hs_n eh109 (ne3).s cf_lk_2
      have fh109_3 : hh109.2 (r + 1) = some (aJ n (f)) := hs_n eh109 (ne4).s cf_lk_3
      have fr109 : Fr [a] h hh109 := Fr.w1 fr_lk (List.Mem.head _) eh109
      refine g_iinc 0 (ls2 := [(3, .int (gI (k + 1))), (2, .int (gI (dgi hp fr))), (0, .ref (a)), (1, .ref (r))]) dX4_fromRow_33 rfl (by decide) rfl ?_
      refine g_goto (tgt := 16) dX4_fromRow_36 rfl ?_
      exact ih_lk _ (by omega) (k + 1) hh109 rfl fr109 fh109_0 (by rw [← gF_s g f hk0]; exact fh109_1) fh109_2 fh109_3 (by omega) (by omega)
  exact lk _ (0) hc1 rfl fr3 y1 (by rw [gF_0]; exact y2) w1 w2 (by omega) (by omega)
