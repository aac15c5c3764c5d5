section
variable {p : Nat}
theorem mlI_sI (h : prm p) (hp : p ≤ 65536) {F G : Pxy p} {g f : Int → Int} {j i c : Int} (hF : PB h F) (hG : PB h G) (nG : NM G f) (hc : c = cy F j i) (j0 : 0 ≤ j) (hj : j ≤ 6) (i0 : 0 ≤ i) (hi : i ≤ dX h F) (hx : dX h F + dX h G ≤ 40) (H : mlI h F G (j * 41 + i) g) : mlI h F G (j * 41 + (i + 1)) (asL g f c (j * 41 + i) (dX h G) ((dY h G + 1) * 41)) := by
  obtain ⟨j, rfl⟩ := Int.eq_ofNat_of_zero_le j0
  obtain ⟨i, rfl⟩ := Int.eq_ofNat_of_zero_le i0
  rw [← Int.add_assoc]
  exact mlI_s h hp hF hG nG hc (by omega) hi hx H
theorem fv_st (h : prm p) (a : Fp p) (x c : Int) : letI := fR h; ((fv a : Int) * x + c) % p = fv (a * zi h x + zi h c) := by
  letI := fR h
  rw [← zi_val h, zi_add, zi_mul, zi_of]
theorem fv_0 (h : prm p) : letI := fR h; (fv (0 : Fp p) : Int) = 0 := f_zero h
end
set_option maxHeartbeats 4000000 in
set_option maxRecDepth 100000 in
theorem sW_combine (N : GN) (h : GH) (B a b o p : Nat) (hp : prm p) (hp2 : p ≤ 65536) (F G : Pxy p) (s : Int) (hs : s = 1 ∨ s = -1) (hw4 : h.2 (B + 4) = some (oB 8 [.ref (B + 1), .ref (B + 5)])) (hfl : h.2 (B + 1) = some (oB 1 [.int (gI ((p : Int)))])) (ha : PP hp h a F) (hb : PP hp h b G) (ho : PA h o) (aao : AP a o) (abo : AP b o) (oo : B + 5 ≤ o) : Sp N yX8_combine mX8_combine 0 0 [.ref (B + 4), .ref (a), .ref (b), .int (gI (s)), .ref (o)] h (fun v h1 => v = none ∧ Fr [o] h h1 ∧ PP hp h1 o (cmb hp s F G)) := by
  refine Sp.of (by decide) rfl rfl (Nat.le_of_ble_eq_true rfl) ?_
  show Go N mX8_combine _ 0 0 h 0 [(0, .ref (B + 4)), (1, .ref (a)), (2, .ref (b)), (3, .int (gI (s))), (4, .ref (o))] []
  have hp1 := hp.1
  have ne0 : NE (B + 4) (o) := by unfold NE; omega
  have ne1 : NE (B + 4) (o + 1) := by unfold NE; omega
  have ne2 : NE (B + 1) (o) := by unfold NE; omega
  have ne3 : NE (B + 1) (o + 1) := by unfold NE; omega
  have ne4 : NE (a) (o) := aao.n00
  have ne5 : NE (a) (o + 1) := aao.n01
  have ne6 : NE (a + 1) (o) := aao.n10
  have ne7 : NE (a + 1) (o + 1) := aao.n11
  have ne8 : NE (b) (o) := abo.n00
  have ne9 : NE (b) (o + 1) := abo.n01
  have ne10 : NE (b + 1) (o) := abo.n10
  have ne11 : NE (b + 1) (o + 1) := abo.n11
  have ne12 : NE (o) (o + 1) := by unfold NE; omega
  obtain ⟨f, ⟨a1, a2, a3⟩, hN, hB⟩ := ha
  obtain ⟨g, ⟨b1, b2, b3⟩, hM, hC⟩ := hb
  refine g_iconst dX8_combine_0 ?_
  refine g_istore (ls2 := [(5, .int (gI (0))), (0, .ref (B + 4)), (1, .ref (a)), (2, .ref (b)), (3, .int (gI (s))), (4, .ref (o))]) dX8_combine_1 (by decide) rfl ?_
  obtain ⟨zx, zy, t, z1, z2, z3⟩ := ho
  have lk : ∀ (kk : Nat) (k : Int) (hlk : GH), kk = (287 - k).toNat → Fr [o] h hlk → hlk.2 (o) = some (oB 4 [.ref (o + 1), .int (gI (zx)), .int (gI (zy))]) → hlk.2 (o + 1) = some (aJ 287 (gF t (fun k => (f k + s * g k) % p) k)) → (0 ≤ k) → (k ≤ 287) → Go N mX8_combine (fun v h1 => v = none ∧ Fr [o] h h1 ∧ PP hp h1 o (cmb hp s F G)) 0 0 hlk 3 [(5, .int (gI (k))), (0, .ref (B + 4)), (1, .ref (a)), (2, .ref (b)), (3, .int (gI (s))), (4, .ref (o))] [] := by
    refine Go.ind (fun kk ih_lk => ?_)
    intro k hlk hkk_lk fr_lk cf_lk_0 cf_lk_1 hk0 hk1
    have cg_lk_0 : hlk.2 (B + 4) = some (oB 8 [.ref (B + 1), .ref (B + 5)]) := Fr.at0 fr_lk (Ni.c ⟨ne0, ne1⟩ (Ni.n _)) hw4
    have cg_lk_1 : hlk.2 (B + 1) = some (oB 1 [.int (gI ((p : Int)))]) := Fr.at0 fr_lk (Ni.c ⟨ne2, ne3⟩ (Ni.n _)) hfl
    have cg_lk_2 : hlk.2 (a) = some (oB 4 [.ref (a + 1), .int (gI (dX hp F)), .int (gI (dY hp F))]) := Fr.at0 fr_lk (Ni.c ⟨ne4, ne5⟩ (Ni.n _)) a1
    have cg_lk_3 : hlk.2 (a + 1) = some (aJ 287 (f)) := Fr.at0 fr_lk (Ni.c ⟨ne6, ne7⟩ (Ni.n _)) a2
    have cg_lk_4 : hlk.2 (b) = some (oB 4 [.ref (b + 1), .int (gI (dX hp G)), .int (gI (dY hp G))]) := Fr.at0 fr_lk (Ni.c ⟨ne8, ne9⟩ (Ni.n _)) b1
    have cg_lk_5 : hlk.2 (b + 1) = some (aJ 287 (g)) := Fr.at0 fr_lk (Ni.c ⟨ne10, ne11⟩ (Ni.n _)) b2
    refine g_iload 0 dX8_combine_3 rfl ?_
    refine g_sipush dX8_combine_5 (by decide) ?_
    refine g_icmp_ge (tgt := 50) dX8_combine_8 rfl (by unfold gW; omega) (by unfold gW; omega) (fun c101 => ?_) (fun c101 => ?_)
    · skip
      have hk7 : k = 287 := by omega
      refine g_aload 5 dX8_combine_50 rfl ?_
      refine g_callV (nc2 := 0) (ns2 := 0) (ci := 4) (As := []) (st := []) rfl dX8_combine_52 okX4_measure lX8_32 itX4_measure seX4_measure rfl cf_lk_0 (by decide) (by decide) rfl (Nat.le_of_ble_eq_true rfl) (sQ_measure N _ (o) p hp hp2 _ _ (gF t (fun k => (f k + s * g k) % p) k) (cmb hp s F G) cf_lk_0 cf_lk_1 (cmb_NM hp hN hM hB hC (fun m m0 m1 => by unfold gF; rw [if_pos (by omega)])) (cmb_PB hp s hB hC)) (by omega) (by omega) (fun v102 hc102 q102 => ?_)
      obtain ⟨rfl, frc103, rn103⟩ := q102
      have fk104_0 : hc102.2 (B + 4) = some (oB 8 [.ref (B + 1), .ref (B + 5)]) := Fr.at0 frc103 (Ni.c ⟨ne0, ne1⟩ (Ni.n _)) cg_lk_0
      have fk104_1 : hc102.2 (B + 1) = some (oB 1 [.int (gI ((p : Int)))]) := Fr.at0 frc103 (Ni.c ⟨ne2, ne3⟩ (Ni.n _)) cg_lk_1
      have fk104_2 : hc102.2 (a) = some (oB 4 [.ref (a + 1), .int (gI (dX hp F)), .int (gI (dY hp F))]) := Fr.at0 frc103 (Ni.c ⟨ne4, ne5⟩ (Ni.n _)) cg_lk_2
      have fk104_3 : hc102.2 (a + 1) = some (aJ 287 (f)) := Fr.at0 frc103 (Ni.c ⟨ne6, ne7⟩ (Ni.n _)) cg_lk_3
      have fk104_4 : hc102.2 (b) = some (oB 4 [.ref (b + 1), .int (gI (dX hp G)), .int (gI (dY hp G))]) := Fr.at0 frc103 (Ni.c ⟨ne8, ne9⟩ (Ni.n _)) cg_lk_4
      have fk104_5 : hc102.2 (b + 1) = some (aJ 287 (g)) := Fr.at0 frc103 (Ni.c ⟨ne10, ne11⟩ (Ni.n _)) cg_lk_5
      have fr104 : Fr [o] h hc102 := (fr_lk).tr ((frc103).mo (sub_c (List.Mem.head _) sub_n))
      refine Go.nf (h' := hc102) (st' := []) rfl rfl (Nat.le_refl _) (Nat.le_refl _) ?_
      exact g_vret dX8_combine_55 rfl ⟨rfl, fr104, rn103⟩
    · skip
      refine g_aload 5 dX8_combine_11 rfl ?_
      refine g_getf 0 dX8_combine_13 kX4 (by decide) fX8_22 cf_lk_0 rfl ?_
      refine g_iload 0 dX8_combine_16 rfl ?_
      refine g_aload_n 1 dX8_combine_18 rfl ?_
      refine g_getf 0 dX8_combine_19 kX8 (by decide) fX8_18 cg_lk_0 rfl ?_
      refine g_aload_n 2 dX8_combine_22 rfl ?_
      refine g_getf 0 dX8_combine_23 kX4 (by decide) fX8_22 cg_lk_2 rfl ?_
      refine g_iload 0 dX8_combine_26 rfl ?_
      refine g_laload dX8_combine_28 cg_lk_3 (by omega) (by omega) (by omega) ?_
      refine g_iload_n 4 dX8_combine_29 rfl ?_
      refine g_i2l dX8_combine_30 (by unfold gW; omega) ?_
      refine g_aload_n 3 dX8_combine_31 rfl ?_
      refine g_getf 0 dX8_combine_32 kX4 (by decide) fX8_22 cg_lk_4 rfl ?_
      refine g_iload 0 dX8_combine_35 rfl ?_
      refine g_laload dX8_combine_37 cg_lk_5 (by omega) (by omega) (by omega) ?_
      refine g_lmul dX8_combine_38 ?_
      have b1_ := hN.bd (h := hp) hp (k := k) hk0 (by omega)
      have b2_ := hM.bd (h := hp) hp (k := k) hk0 (by omega)
      have b3_ : -65536 ≤ s * g k ∧ s * g k ≤ 65536 := by rcases hs with rfl | rfl <;> omega
      refine g_ladd dX8_combine_39 ?_
      refine g_callV (nc2 := 0) (ns2 := 0) (ci := 1) (As := [.long (gJ (((f) (k)) + ((s) * ((g) (k)))))]) (st := [.int (gI (k)), .ref (o + 1)]) rfl dX8_combine_40 okX1_mod lX8_26 itX1_mod seX1_mod rfl cg_lk_1 (by decide) (by decide) rfl (Nat.le_of_ble_eq_true rfl) (sX1_mod N _ (B + 1) (p : Int) (((f) (k)) + ((s) * ((g) (k)))) (by unfold gX; omega) (by omega) (by omega) cg_lk_1) (by omega) (by omega) (fun v105 hc105 q105 => ?_)
      obtain ⟨hq106, rfl⟩ := q105
      rw [gMod_em (show (0 : Int) < p by omega)]
      refine Go.nf (h' := hlk) (st' := [.long (gJ ((((f) (k)) + ((s) * ((g) (k)))) % (p : Int))), .int (gI (k)), .ref (o + 1)]) hq106 rfl (Nat.le_refl _) (Nat.le_refl _) ?_
      refine g_lastore dX8_combine_43 cf_lk_1 (by omega) (by omega) (by omega) ?_
      obtain ⟨hh107, eh107⟩ : ∃ z : GH, z = hset hlk (o + 1) (aJ 287 (gup (gF t (fun k => (f k + s * g k) % p) k) (k) ((((f) (k)) + ((s) * ((g) (k)))) % (p : Int)))) := ⟨_, rfl⟩
      refine Go.hp eh107.symm ?_
      have fh107_0 : hh107.2 (B + 4) = some (oB 8 [.ref (B + 1), .ref (B + 5)]) := hs_n eh107 ne1 cg_lk_0
      have fh107_1 : hh107.2 (B + 1) = some (oB 1 [.int (gI ((p : Int)))]) := hs_n eh107 ne3 cg_lk_1
      have fh107_2 : hh107.2 (a) = some (oB 4 [.ref (a + 1), .int (gI (dX hp F)), .int (gI (dY hp F))]) := hs_n eh107 ne5 cg_lk_2
      have fh107_3 : hh107.2 (a + 1) = some (aJ 287 (f)) := hs_n eh107 ne7 cg_lk_3
      have fh107_4 : hh107.2 (b) = some (oB 4 [.ref (b + 1), .int (gI (dX hp G)), .int (gI (dY hp G))]) := hs_n eh107 ne9 cg_lk_4
      have fh107_5 : hh107.2 (b + 1) = some (aJ 287 (g)) := hs_n eh107 ne11 cg_lk_5
      have fh107_6 : hh107.2 (o) = some (oB 4 [.ref (o + 1), .int (gI (zx)), .int (gI (zy))]) := hs_n eh107 ne12 cf_lk_0
      have fh107_7 : hh107.2 (o + 1) = some (aJ 287 (gup (gF t (fun k => (f k + s * g k) % p) k) (k) ((((f) (k)) + ((s) * ((g) (k)))) % (p : Int)))) := hs_s eh107
      have fr107 : Fr [o] h hh107 := Fr.w1 fr_lk (List.Mem.head _) eh107
      refine g_iinc 0 (ls2 := [(5, .int (gI (k + 1))), (0, .ref (B + 4)), (1, .ref (a)), (2, .ref (b)), (3, .int (gI (s))), (4, .ref (o))]) dX8_combine_44 rfl (by decide) rfl ?_
      refine g_goto (tgt := 3) dX8_combine_47 rfl ?_
      exact ih_lk _ (by omega) (k + 1) hh107 rfl fr107 fh107_6 (by rw [← gF_s t (fun k => (f k + s * g k) % p) hk0]; exact fh107_7) (by omega) (by omega)
  exact lk _ (0) h rfl (Fr.rf [o] h) z1 (by rw [gF_0]; exact z2) (by omega) (by omega)
set_option maxHeartbeats 4000000 in
set_option maxRecDepth 100000 in
theorem sW_combineO (N : GN) (h : GH) (B b o p : Nat) (hp : prm p) (hp2 : p ≤ 65536) (F G : Pxy p) (s : Int) (hs : s = 1 ∨ s = -1) (hw4 : h.2 (B + 4) = some (oB 8 [.ref (B + 1), .ref (B + 5)])) (hfl : h.2 (B + 1) = some (oB 1 [.int (gI ((p : Int)))])) (ho : PP hp h o F) (hb : PP hp h b G) (abo : AP b o) (oo : B + 5 ≤ o) : Sp N yX8_combine mX8_combine 0 0 [.ref (B + 4), .ref (o), .ref (b), .int (gI (s)), .ref (o)] h (fun v h1 => v = none ∧ Fr [o] h h1 ∧ PP hp h1 o (cmb hp s F G)) := by
  refine Sp.of (by decide) rfl rfl (Nat.le_of_ble_eq_true rfl) ?_
  show Go N mX8_combine _ 0 0 h 0 [(0, .ref (B + 4)), (1, .ref (o)), (2, .ref (b)), (3, .int (gI (s))), (4, .ref (o))] []
  have hp1 := hp.1
  have ne0 : NE (B + 4) (o) := by unfold NE; omega
  have ne1 : NE (B + 4) (o + 1) := by unfold NE; omega
  have ne2 : NE (B + 1) (o) := by unfold NE; omega
  have ne3 : NE (B + 1) (o + 1) := by unfold NE; omega
  have ne4 : NE (b) (o) := abo.n00
  have ne5 : NE (b) (o + 1) := abo.n01
  have ne6 : NE (b + 1) (o) := abo.n10
  have ne7 : NE (b + 1) (o + 1) := abo.n11
  have ne8 : NE (o) (o + 1) := by unfold NE; omega
  obtain ⟨g, ⟨b1, b2, b3⟩, hM, hC⟩ := hb
  refine g_iconst dX8_combine_0 ?_
  refine g_istore (ls2 := [(5, .int (gI (0))), (0, .ref (B + 4)), (1, .ref (o)), (2, .ref (b)), (3, .int (gI (s))), (4, .ref (o))]) dX8_combine_1 (by decide) rfl ?_
  obtain ⟨t, ⟨z1, z2, z3⟩, zN, zB⟩ := ho
  have lk : ∀ (kk : Nat) (k : Int) (hlk : GH), kk = (287 - k).toNat → Fr [o] h hlk → hlk.2 (o) = some (oB 4 [.ref (o + 1), .int (gI (dX hp (F))), .int (gI (dY hp (F)))]) → hlk.2 (o + 1) = some (aJ 287 (gF t (fun k => (t k + s * g k) % p) k)) → (0 ≤ k) → (k ≤ 287) → Go N mX8_combine (fun v h1 => v = none ∧ Fr [o] h h1 ∧ PP hp h1 o (cmb hp s F G)) 0 0 hlk 3 [(5, .int (gI (k))), (0, .ref (B + 4)), (1, .ref (o)), (2, .ref (b)), (3, .int (gI (s))), (4, .ref (o))] [] := by
    refine Go.ind (fun kk ih_lk => ?_)
    intro k hlk hkk_lk fr_lk cf_lk_0 cf_lk_1 hk0 hk1
    have cg_lk_0 : hlk.2 (B + 4) = some (oB 8 [.ref (B + 1), .ref (B + 5)]) := Fr.at0 fr_lk (Ni.c ⟨ne0, ne1⟩ (Ni.n _)) hw4
    have cg_lk_1 : hlk.2 (B + 1) = some (oB 1 [.int (gI ((p : Int)))]) := Fr.at0 fr_lk (Ni.c ⟨ne2, ne3⟩ (Ni.n _)) hfl
    have cg_lk_2 : hlk.2 (b) = some (oB 4 [.ref (b + 1), .int (gI (dX hp G)), .int (gI (dY hp G))]) := Fr.at0 fr_lk (Ni.c ⟨ne4, ne5⟩ (Ni.n _)) b1
    have cg_lk_3 : hlk.2 (b + 1) = some (aJ 287 (g)) := Fr.at0 fr_lk (Ni.c ⟨ne6, ne7⟩ (Ni.n _)) b2
    refine g_iload 0 dX8_combine_3 rfl ?_
    refine g_sipush dX8_combine_5 (by decide) ?_
    refine g_icmp_ge (tgt := 50) dX8_combine_8 rfl (by unfold gW; omega) (by unfold gW; omega) (fun c101 => ?_) (fun c101 => ?_)
    · skip
      have hk7 : k = 287 := by omega
      refine g_aload 5 dX8_combine_50 rfl ?_
      refine g_callV (nc2 := 0) (ns2 := 0) (ci := 4) (As := []) (st := []) rfl dX8_combine_52 okX4_measure lX8_32 itX4_measure seX4_measure rfl cf_lk_0 (by decide) (by decide) rfl (Nat.le_of_ble_eq_true rfl) (sQ_measure N _ (o) p hp hp2 _ _ (gF t (fun k => (t k + s * g k) % p) k) (cmb hp s F G) cf_lk_0 cf_lk_1 (cmb_NM hp zN hM zB hC (fun m m0 m1 => by unfold gF; rw [if_pos (by omega)])) (cmb_PB hp s zB hC)) (by omega) (by omega) (fun v102 hc102 q102 => ?_)
      obtain ⟨rfl, frc103, rn103⟩ := q102
      have fk104_0 : hc102.2 (B + 4) = some (oB 8 [.ref (B + 1), .ref (B + 5)]) := Fr.at0 frc103 (Ni.c ⟨ne0, ne1⟩ (Ni.n _)) cg_lk_0
      have fk104_1 : hc102.2 (B + 1) = some (oB 1 [.int (gI ((p : Int)))]) := Fr.at0 frc103 (Ni.c ⟨ne2, ne3⟩ (Ni.n _)) cg_lk_1
      have fk104_2 : hc102.2 (b) = some (oB 4 [.ref (b + 1), .int (gI (dX hp G)), .int (gI (dY hp G))]) := Fr.at0 frc103 (Ni.c ⟨ne4, ne5⟩ (Ni.n _)) cg_lk_2
      have fk104_3 : hc102.2 (b + 1) = some (aJ 287 (g)) := Fr.at0 frc103 (Ni.c ⟨ne6, ne7⟩ (Ni.n _)) cg_lk_3
      have fr104 : Fr [o] h hc102 := (fr_lk).tr ((frc103).mo (sub_c (List.Mem.head _) sub_n))
      refine Go.nf (h' := hc102) (st' := []) rfl rfl (Nat.le_refl _) (Nat.le_refl _) ?_
      exact g_vret dX8_combine_55 rfl ⟨rfl, fr104, rn103⟩
    · skip
      refine g_aload 5 dX8_combine_11 rfl ?_
      refine g_getf 0 dX8_combine_13 kX4 (by decide) fX8_22 cf_lk_0 rfl ?_
      refine g_iload 0 dX8_combine_16 rfl ?_
      refine g_aload_n 1 dX8_combine_18 rfl ?_
      refine g_getf 0 dX8_combine_19 kX8 (by decide) fX8_18 cg_lk_0 rfl ?_
      refine g_aload_n 2 dX8_combine_22 rfl ?_
      refine g_getf 0 dX8_combine_23 kX4 (by decide) fX8_22 cf_lk_0 rfl ?_
      refine g_iload 0 dX8_combine_26 rfl ?_
      refine g_laload dX8_combine_28 cf_lk_1 (by omega) (by omega) (by omega) ?_
      refine g_iload_n 4 dX8_combine_29 rfl ?_
      refine g_i2l dX8_combine_30 (by unfold gW; omega) ?_
      refine g_aload_n 3 dX8_combine_31 rfl ?_
      refine g_getf 0 dX8_combine_32 kX4 (by decide) fX8_22 cg_lk_2 rfl ?_
      refine g_iload 0 dX8_combine_35 rfl ?_
      refine g_laload dX8_combine_37 cg_lk_3 (by omega) (by omega) (by omega) ?_
      refine g_lmul dX8_combine_38 ?_
      rw [gF_at]
      have b1_ := zN.bd (h := hp) hp (k := k) hk0 (by omega)
      have b2_ := hM.bd (h := hp) hp (k := k) hk0 (by omega)
      have b3_ : -65536 ≤ s * g k ∧ s * g k ≤ 65536 := by rcases hs with rfl | rfl <;> omega
      refine g_ladd dX8_combine_39 ?_
      refine g_callV (nc2 := 0) (ns2 := 0) (ci := 1) (As := [.long (gJ ((t k) + ((s) * ((g) (k)))))]) (st := [.int (gI (k)), .ref (o + 1)]) rfl dX8_combine_40 okX1_mod lX8_26 itX1_mod seX1_mod rfl cg_lk_1 (by decide) (by decide) rfl (Nat.le_of_ble_eq_true rfl) (sX1_mod N _ (B + 1) (p : Int) ((t k) + ((s) * ((g) (k)))) (by unfold gX; omega) (by omega) (by omega) cg_lk_1) (by omega) (by omega) (fun v105 hc105 q105 => ?_)
      obtain ⟨hq106, rfl⟩ := q105
      rw [gMod_em (show (0 : Int) < p by omega)]
      refine Go.nf (h' := hlk) (st' := [.long (gJ (((t k) + ((s) * ((g) (k)))) % (p : Int))), .int (gI (k)), .ref (o + 1)]) hq106 rfl (Nat.le_refl _) (Nat.le_refl _) ?_
      refine g_lastore dX8_combine_43 cf_lk_1 (by omega) (by omega) (by omega) ?_
      obtain ⟨hh107, eh107⟩ : ∃ z : GH, z = hset hlk (o + 1) (aJ 287 (gup (gF t (fun k => (t k + s * g k) % p) k) (k) (((t k) + ((s) * ((g) (k)))) % (p : Int)))) := ⟨_, rfl⟩
      refine Go.hp eh107.symm ?_
      have fh107_0 : hh107.2 (B + 4) = some (oB 8 [.ref (B + 1), .ref (B + 5)]) := hs_n eh107 ne1 cg_lk_0
      have fh107_1 : hh107.2 (B + 1) = some (oB 1 [.int (gI ((p : Int)))]) := hs_n eh107 ne3 cg_lk_1
      have fh107_2 : hh107.2 (b) = some (oB 4 [.ref (b + 1), .int (gI (dX hp G)), .int (gI (dY hp G))]) := hs_n eh107 ne5 cg_lk_2
      have fh107_3 : hh107.2 (b + 1) = some (aJ 287 (g)) := hs_n eh107 ne7 cg_lk_3
      have fh107_4 : hh107.2 (o) = some (oB 4 [.ref (o + 1), .int (gI (dX hp (F))), .int (gI (dY hp (F)))]) := hs_n eh107 ne8 cf_lk_0
      have fh107_5 : hh107.2 (o + 1) = some (aJ 287 (gup (gF t (fun k => (t k + s * g k) % p) k) (k) (((t k) + ((s) * ((g) (k)))) % (p : Int)))) := hs_s eh107
      have fr107 : Fr [o] h hh107 := Fr.w1 fr_lk (List.Mem.head _) eh107
      refine g_iinc 0 (ls2 := [(5, .int (gI (k + 1))), (0, .ref (B + 4)), (1, .ref (o)), (2, .ref (b)), (3, .int (gI (s))), (4, .ref (o))]) dX8_combine_44 rfl (by decide) rfl ?_
      refine g_goto (tgt := 3) dX8_combine_47 rfl ?_
      exact ih_lk _ (by omega) (k + 1) hh107 rfl fr107 fh107_4 (by rw [← gF_s t (fun k => (t k + s * g k) % p) hk0]; exact fh107_5) (by omega) (by omega)
  exact lk _ (0) h rfl (Fr.rf [o] h) z1 (by rw [gF_0]; exact z2) (by omega) (by omega)
set_option maxHeartbeats 4000000 in
set_option maxRecDepth 100000 in
theorem sW_addShifted (N : GN) (h : GH) (b o : Nat) (v1 v2 : Value) (c sh dx dy : Int) (g gO : Int → Int) (hc : gX c) (sh0 : 0 ≤ sh) (d1 : -1 ≤ dx) (d2 : dx ≤ 40) (d3 : -1 ≤ dy) (d4 : dy ≤ 6) (hs : 0 ≤ dx → sh + dy * 41 + dx < 287) (hb1 : h.2 b = some (oB 4 [.ref (b + 1), .int (gI dx), .int (gI dy)])) (hb2 : h.2 (b + 1) = some (aJ 287 g)) (ho1 : h.2 o = some (oB 4 [.ref (o + 1), v1, v2])) (ho2 : h.2 (o + 1) = some (aJ 287 gO)) (abo : AP b o) : Sp N yX8_addShifted mX8_addShifted 0 0 [.ref (b), .long (gJ (c)), .int (gI (sh)), .ref (o)] h (fun v h1 => v = none ∧ Fr [o] h h1 ∧ h1.2 o = some (oB 4 [.ref (o + 1), v1, v2]) ∧ h1.2 (o + 1) = some (aJ 287 (asL gO g c sh dx ((dy + 1) * 41)))) := by
  refine Sp.of (by decide) rfl rfl (Nat.le_of_ble_eq_true rfl) ?_
  show Go N mX8_addShifted _ 0 0 h 0 [(0, .ref (b)), (1, .long (gJ (c))), (3, .int (gI (sh))), (4, .ref (o))] []
  have ne0 : NE (b) (o) := abo.n00
  have ne1 : NE (b) (o + 1) := abo.n01
  have ne2 : NE (b + 1) (o) := abo.n10
  have ne3 : NE (b + 1) (o + 1) := abo.n11
  have ne4 : NE (o) (o + 1) := by unfold NE; omega
  refine g_lload_n 1 dX8_addShifted_0 rfl ?_
  refine g_lconst0 dX8_addShifted_1 ?_
  refine g_lcmp dX8_addShifted_2 hc (by unfold gX; omega) ?_
  refine g_if_ne (tgt := 7) dX8_addShifted_3 rfl (gW_cmp _ _) (fun c1 => ?_) (fun c1 => ?_)
  · skip
    have hz : ¬ _ = _ := fun z => c1 (gcmp_eq.mpr z)
    refine g_iconst dX8_addShifted_7 ?_
    refine g_istore (ls2 := [(5, .int (gI (0))), (0, .ref (b)), (1, .long (gJ (c))), (3, .int (gI (sh))), (4, .ref (o))]) dX8_addShifted_8 (by decide) rfl ?_
    have lj : ∀ (kk : Nat) (j : Int) (hlj : GH), kk = (dy + 1 - j).toNat → Fr [o] h hlj → hlj.2 (o) = some (oB 4 [.ref (o + 1), v1, v2]) → hlj.2 (o + 1) = some (aJ 287 (asL gO g c sh dx (j * 41))) → (0 ≤ j) → (j ≤ dy + 1) → Go N mX8_addShifted (fun v h1 => v = none ∧ Fr [o] h h1 ∧ h1.2 o = some (oB 4 [.ref (o + 1), v1, v2]) ∧ h1.2 (o + 1) = some (aJ 287 (asL gO g c sh dx ((dy + 1) * 41)))) 0 0 hlj 10 [(5, .int (gI (j))), (0, .ref (b)), (1, .long (gJ (c))), (3, .int (gI (sh))), (4, .ref (o))] [] := by
      refine Go.ind (fun kk ih_lj => ?_)
      intro j hlj hkk_lj fr_lj cf_lj_0 cf_lj_1 hj0 hj1
      have cg_lj_0 : hlj.2 (b) = some (oB 4 [.ref (b + 1), .int (gI (dx)), .int (gI (dy))]) := Fr.at0 fr_lj (Ni.c ⟨ne0, ne1⟩ (Ni.n _)) hb1
      have cg_lj_1 : hlj.2 (b + 1) = some (aJ 287 (g)) := Fr.at0 fr_lj (Ni.c ⟨ne2, ne3⟩ (Ni.n _)) hb2
      refine g_iload 0 dX8_addShifted_10 rfl ?_
      refine g_aload_n 1 dX8_addShifted_12 rfl ?_
      refine g_getf 2 dX8_addShifted_13 kX4 (by decide) fX8_42 cg_lj_0 rfl ?_
      refine g_icmp_gt (tgt := 77) dX8_addShifted_16 rfl (by unfold gW; omega) (by unfold gW; omega) (fun c102 => ?_) (fun c102 => ?_)
      · skip
        exact g_vret dX8_addShifted_77 rfl ⟨rfl, fr_lj, by
      have hjj : j = dy + 1 := by omega
      have hE := cf_lj_1
      rw [hjj] at hE
      exact ⟨cf_lj_0, hE⟩⟩
      · skip
        refine g_iconst dX8_addShifted_19 ?_
        refine g_istore (ls2 := [(6, .int (gI (0))), (5, .int (gI (j))), (0, .ref (b)), (1, .long (gJ (c))), (3, .int (gI (sh))), (4, .ref (o))]) dX8_addShifted_20 (by decide) rfl ?_
        have li : ∀ (kk : Nat) (i : Int) (hli : GH), kk = (dx + 1 - i).toNat → Fr [o] h hli → hli.2 (o) = some (oB 4 [.ref (o + 1), v1, v2]) → hli.2 (o + 1) = some (aJ 287 (asL gO g c sh dx (j * 41 + i))) → (0 ≤ i) → (i ≤ dx + 1) → Go N mX8_addShifted (fun v h1 => v = none ∧ Fr [o] h h1 ∧ h1.2 o = some (oB 4 [.ref (o + 1), v1, v2]) ∧ h1.2 (o + 1) = some (aJ 287 (asL gO g c sh dx ((dy + 1) * 41)))) 0 0 hli 22 [(6, .int (gI (i))), (5, .int (gI (j))), (0, .ref (b)), (1, .long (gJ (c))), (3, .int (gI (sh))), (4, .ref (o))] [] := by
          refine Go.ind (fun kk ih_li => ?_)
          intro i hli hkk_li fr_li cf_li_0 cf_li_1 hi0 hi1
          have cg_li_0 : hli.2 (b) = some (oB 4 [.ref (b + 1), .int (gI (dx)), .int (gI (dy))]) := Fr.at0 fr_li (Ni.c ⟨ne0, ne1⟩ (Ni.n _)) hb1
          have cg_li_1 : hli.2 (b + 1) = some (aJ 287 (g)) := Fr.at0 fr_li (Ni.c ⟨ne2, ne3⟩ (Ni.n _)) hb2
          refine g_iload 0 dX8_addShifted_22 rfl ?_
          refine g_aload_n 2 dX8_addShifted_24 rfl ?_
          refine g_getf 1 dX8_addShifted_25 kX4 (by decide) fX8_38 cg_li_0 rfl ?_
          refine g_icmp_gt (tgt := 71) dX8_addShifted_28 rfl (by unfold gW; omega) (by unfold gW; omega) (fun c203 => ?_) (fun c203 => ?_)
          · skip
            refine g_iinc 1 (ls2 := [(5, .int (gI (j + 1))), (6, .int (gI (i))), (0, .ref (b)), (1, .long (gJ (c))), (3, .int (gI (sh))), (4, .ref (o))]) dX8_addShifted_71 rfl (by decide) rfl ?_
            refine g_goto (tgt := 10) dX8_addShifted_74 rfl ?_
            refine Go.sub [0, 2, 3, 4, 5] rfl ?_
            exact ih_lj _ (by omega) (j + 1) hli rfl fr_li cf_li_0 (by rw [← asL_r gO g (show dx < i by omega) (by omega) hj0]; exact cf_li_1) (by omega) (by omega)
          · skip
            refine g_aload 5 dX8_addShifted_31 rfl ?_
            refine g_getf 0 dX8_addShifted_33 kX4 (by decide) fX8_22 cf_li_0 rfl ?_
            refine g_iload_n 4 dX8_addShifted_36 rfl ?_
            refine g_iload 1 dX8_addShifted_37 rfl ?_
            refine g_bipush dX8_addShifted_39 (by decide) ?_
            refine g_imul dX8_addShifted_41 ?_
            refine g_iadd dX8_addShifted_42 ?_
            refine g_iload 0 dX8_addShifted_43 rfl ?_
            refine g_iadd dX8_addShifted_45 ?_
            refine g_dup2 dX8_addShifted_46 rfl rfl ?_
            refine g_laload dX8_addShifted_47 cf_li_1 (by omega) (by omega) (by omega) ?_
            refine g_lload_n 3 dX8_addShifted_48 rfl ?_
            refine g_aload_n 2 dX8_addShifted_49 rfl ?_
            refine g_getf 0 dX8_addShifted_50 kX4 (by decide) fX8_22 cg_li_0 rfl ?_
            refine g_iload 1 dX8_addShifted_53 rfl ?_
            refine g_bipush dX8_addShifted_55 (by decide) ?_
            refine g_imul dX8_addShifted_57 ?_
            refine g_iload 0 dX8_addShifted_58 rfl ?_
            refine g_iadd dX8_addShifted_60 ?_
            refine g_laload dX8_addShifted_61 cg_li_1 (by omega) (by omega) (by omega) ?_
            refine g_lmul dX8_addShifted_62 ?_
            refine g_ladd dX8_addShifted_63 ?_
            refine g_lastore dX8_addShifted_64 cf_li_1 (by omega) (by omega) (by omega) ?_
            obtain ⟨hh204, eh204⟩ : ∃ z : GH, z = hset hli (o + 1) (aJ 287 (gup (asL gO g c sh dx (j * 41 + i)) (((sh) + ((j) * (41))) + (i)) (((asL gO g c sh dx (j * 41 + i)) (((sh) + ((j) * (41))) + (i))) + ((c) * ((g) (((j) * (41)) + (i))))))) := ⟨_, rfl⟩
            refine Go.hp eh204.symm ?_
            have fh204_0 : hh204.2 (b) = some (oB 4 [.ref (b + 1), .int (gI (dx)), .int (gI (dy))]) := hs_n eh204 ne1 cg_li_0
            have fh204_1 : hh204.2 (b + 1) = some (aJ 287 (g)) := hs_n eh204 ne3 cg_li_1
            have fh204_2 : hh204.2 (o) = some (oB 4 [.ref (o + 1), v1, v2]) := hs_n eh204 ne4 cf_li_0
            have fh204_3 : hh204.2 (o + 1) = some (aJ 287 (gup (asL gO g c sh dx (j * 41 + i)) (((sh) + ((j) * (41))) + (i)) (((asL gO g c sh dx (j * 41 + i)) (((sh) + ((j) * (41))) + (i))) + ((c) * ((g) (((j) * (41)) + (i))))))) := hs_s eh204
            have fr204 : Fr [o] h hh204 := Fr.w1 fr_li (List.Mem.head _) eh204
            refine g_iinc 0 (ls2 := [(6, .int (gI (i + 1))), (5, .int (gI (j))), (0, .ref (b)), (1, .long (gJ (c))), (3, .int (gI (sh))), (4, .ref (o))]) dX8_addShifted_65 rfl (by decide) rfl ?_
            refine g_goto (tgt := 22) dX8_addShifted_68 rfl ?_
            exact ih_li _ (by omega) (i + 1) hh204 rfl fr204 fh204_2 (by rw [← asL_s gO g hj0 hi0 (by omega) (by omega)]; exact fh204_3) (by omega) (by omega)
        exact li _ (0) hlj rfl fr_lj cf_lj_0 (by rw [Int.add_zero]; exact cf_lj_1) (by omega) (by omega)
    exact lj _ (0) h rfl (Fr.rf [o] h) ho1 (by rw [Int.zero_mul, asL_0]; exact ho2) (by omega) (by omega)
  · skip
    have hz := gcmp_eq.mp c1
    exact g_vret dX8_addShifted_6 rfl ⟨rfl, (Fr.rf [o] h), ho1, by rw [hz, asL_z]; exact ho2⟩
set_option maxHeartbeats 4000000 in
set_option maxRecDepth 100000 in
theorem sW_multiply (N : GN) (h : GH) (B a b o p : Nat) (hp : prm p) (hp2 : p ≤ 65536) (F G : Pxy p) (hw4 : h.2 (B + 4) = some (oB 8 [.ref (B + 1), .ref (B + 5)])) (hfl : h.2 (B + 1) = some (oB 1 [.int (gI ((p : Int)))])) (ha : PP hp h a F) (hb : PP hp h b G) (ho : PA h o) (aao : AP a o) (abo : AP b o) (oo : B + 5 ≤ o) : Sp N yX8_multiply mX8_multiply 0 0 [.ref (B + 4), .ref (a), .ref (b), .ref (o)] h (fun v h1 => Fr [o] h h1 ∧ ((v = some (.int (gI 1)) ∧ ∃ H, mulC hp F G = some H ∧ PP hp h1 o H) ∨ (v = some (.int (gI 0)) ∧ mulC hp F G = none ∧ PA h1 o))) := by
  refine Sp.of (by decide) rfl rfl (Nat.le_of_ble_eq_true rfl) ?_
  show Go N mX8_multiply _ 0 0 h 0 [(0, .ref (B + 4)), (1, .ref (a)), (2, .ref (b)), (3, .ref (o))] []
  have hp1 := hp.1
  have ne0 : NE (B + 4) (o) := by unfold NE; omega
  have ne1 : NE (B + 4) (o + 1) := by unfold NE; omega
  have ne2 : NE (B + 1) (o) := by unfold NE; omega
  have ne3 : NE (B + 1) (o + 1) := by unfold NE; omega
  have ne4 : NE (a) (o) := aao.n00
  have ne5 : NE (a) (o + 1) := aao.n01
  have ne6 : NE (a + 1) (o) := aao.n10
  have ne7 : NE (a + 1) (o + 1) := aao.n11
  have ne8 : NE (b) (o) := abo.n00
  have ne9 : NE (b) (o + 1) := abo.n01
  have ne10 : NE (b + 1) (o) := abo.n10
  have ne11 : NE (b + 1) (o + 1) := abo.n11
  have ne12 : NE (o) (o + 1) := by unfold NE; omega
  have dga := ha.dg
  have dgb := hb.dg
  obtain ⟨f, ⟨a1, a2, a3⟩, hN, hB⟩ := ha
  obtain ⟨g, ⟨b1, b2, b3⟩, hM, hC⟩ := hb
  refine g_aload_n 3 dX8_multiply_0 rfl ?_
  refine g_callV (nc2 := 0) (ns2 := 0) (ci := 4) (As := []) (st := []) rfl dX8_multiply_1 okX4_clear lX8_35 itX4_clear seX4_clear rfl (Classical.choose_spec (PA.o ho)) (by decide) (by decide) rfl (Nat.le_of_ble_eq_true rfl) (sQ_clear N _ (o) p hp hp2 ho) (by omega) (by omega) (fun v1 hc1 q1 => ?_)
  obtain ⟨rfl, frc2, rn2_0⟩ := q1
  have fk3_0 : hc1.2 (B + 4) = some (oB 8 [.ref (B + 1), .ref (B + 5)]) := Fr.at0 frc2 (Ni.c ⟨ne0, ne1⟩ (Ni.n _)) hw4
  have fk3_1 : hc1.2 (B + 1) = some (oB 1 [.int (gI ((p : Int)))]) := Fr.at0 frc2 (Ni.c ⟨ne2, ne3⟩ (Ni.n _)) hfl
  have fk3_2 : hc1.2 (a) = some (oB 4 [.ref (a + 1), .int (gI (dX hp F)), .int (gI (dY hp F))]) := Fr.at0 frc2 (Ni.c ⟨ne4, ne5⟩ (Ni.n _)) a1
  have fk3_3 : hc1.2 (a + 1) = some (aJ 287 (f)) := Fr.at0 frc2 (Ni.c ⟨ne6, ne7⟩ (Ni.n _)) a2
  have fk3_4 : hc1.2 (b) = some (oB 4 [.ref (b + 1), .int (gI (dX hp G)), .int (gI (dY hp G))]) := Fr.at0 frc2 (Ni.c ⟨ne8, ne9⟩ (Ni.n _)) b1
  have fk3_5 : hc1.2 (b + 1) = some (aJ 287 (g)) := Fr.at0 frc2 (Ni.c ⟨ne10, ne11⟩ (Ni.n _)) b2
  have fr3 : Fr [o] h hc1 := ((Fr.rf [o] h)).tr ((frc2).mo (sub_c (List.Mem.head _) sub_n))
  refine Go.nf (h' := hc1) (st' := []) rfl rfl (Nat.le_refl _) (Nat.le_refl _) ?_
  refine g_aload_n 1 dX8_multiply_4 rfl ?_
  refine g_getf 1 dX8_multiply_5 kX4 (by decide) fX8_38 fk3_2 rfl ?_
  refine g_if_lt (tgt := 18) dX8_multiply_8 rfl (by unfold gW; omega) (fun c4 => ?_) (fun c4 => ?_)
  · skip
    refine g_iconst dX8_multiply_18 ?_
    exact g_zret dX8_multiply_19 rfl (by omega) ⟨fr3, Or.inl ⟨rfl, zF hp, by unfold mulC; rw [if_pos (by omega)], rn2_0⟩⟩
  · skip
    refine g_aload_n 2 dX8_multiply_11 rfl ?_
    refine g_getf 1 dX8_multiply_12 kX4 (by decide) fX8_38 fk3_4 rfl ?_
    refine g_if_ge (tgt := 20) dX8_multiply_15 rfl (by unfold gW; omega) (fun c5 => ?_) (fun c5 => ?_)
    · skip
      refine g_aload_n 1 dX8_multiply_20 rfl ?_
      refine g_getf 1 dX8_multiply_21 kX4 (by decide) fX8_38 fk3_2 rfl ?_
      refine g_aload_n 2 dX8_multiply_24 rfl ?_
      refine g_getf 1 dX8_multiply_25 kX4 (by decide) fX8_38 fk3_4 rfl ?_
      refine g_iadd dX8_multiply_28 ?_
      refine g_bipush dX8_multiply_29 (by decide) ?_
      refine g_icmp_gt (tgt := 48) dX8_multiply_31 rfl (by unfold gW; omega) (by unfold gW; omega) (fun c6 => ?_) (fun c6 => ?_)
      · skip
        refine g_iconst dX8_multiply_48 ?_
        exact g_zret dX8_multiply_49 rfl (by omega) ⟨fr3, Or.inr ⟨rfl, by unfold mulC; rw [if_neg (by omega), if_pos (by omega)], (rn2_0).ra⟩⟩
      · skip
        refine g_aload_n 1 dX8_multiply_34 rfl ?_
        refine g_getf 2 dX8_multiply_35 kX4 (by decide) fX8_42 fk3_2 rfl ?_
        refine g_aload_n 2 dX8_multiply_38 rfl ?_
        refine g_getf 2 dX8_multiply_39 kX4 (by decide) fX8_42 fk3_4 rfl ?_
        refine g_iadd dX8_multiply_42 ?_
        refine g_bipush dX8_multiply_43 (by decide) ?_
        refine g_icmp_le (tgt := 50) dX8_multiply_45 rfl (by unfold gW; omega) (by unfold gW; omega) (fun c7 => ?_) (fun c7 => ?_)
        · skip
          obtain ⟨t, ⟨z1, z2, z3⟩, zN, zB⟩ := rn2_0
          have hz0 : ∀ k, 0 ≤ k → k < 287 → t k = 0 := fun k k0 k1 => by rw [show k = k / 41 * 41 + k % 41 by omega, zN _ _ (by omega) (by omega) (by omega) (by omega), zF_cy]
          refine g_iconst dX8_multiply_50 ?_
          refine g_istore (ls2 := [(4, .int (gI (0))), (0, .ref (B + 4)), (1, .ref (a)), (2, .ref (b)), (3, .ref (o))]) dX8_multiply_51 (by decide) rfl ?_
          have lj : ∀ (kk : Nat) (j : Int) (gO : Int → Int) (hlj : GH), kk = (dY hp F + 1 - j).toNat → Fr [o] h hlj → hlj.2 (o) = some (oB 4 [.ref (o + 1), .int (gI (dX hp (zF hp))), .int (gI (dY hp (zF hp)))]) → hlj.2 (o + 1) = some (aJ 287 (gO)) → (0 ≤ j) → (j ≤ dY hp F + 1) → (mlI hp F G (j * 41) gO) → Go N mX8_multiply (fun v h1 => Fr [o] h h1 ∧ ((v = some (.int (gI 1)) ∧ ∃ H, mulC hp F G = some H ∧ PP hp h1 o H) ∨ (v = some (.int (gI 0)) ∧ mulC hp F G = none ∧ PA h1 o))) 0 0 hlj 53 [(4, .int (gI (j))), (0, .ref (B + 4)), (1, .ref (a)), (2, .ref (b)), (3, .ref (o))] [] := by
            refine Go.ind (fun kk ih_lj => ?_)
            intro j gO hlj hkk_lj fr_lj cf_lj_0 cf_lj_1 hj0 hj1 hI
            have cg_lj_0 : hlj.2 (B + 4) = some (oB 8 [.ref (B + 1), .ref (B + 5)]) := Fr.at0 fr_lj (Ni.c ⟨ne0, ne1⟩ (Ni.n _)) hw4
            have cg_lj_1 : hlj.2 (B + 1) = some (oB 1 [.int (gI ((p : Int)))]) := Fr.at0 fr_lj (Ni.c ⟨ne2, ne3⟩ (Ni.n _)) hfl
            have cg_lj_2 : hlj.2 (a) = some (oB 4 [.ref (a + 1), .int (gI (dX hp F)), .int (gI (dY hp F))]) := Fr.at0 fr_lj (Ni.c ⟨ne4, ne5⟩ (Ni.n _)) a1
            have cg_lj_3 : hlj.2 (a + 1) = some (aJ 287 (f)) := Fr.at0 fr_lj (Ni.c ⟨ne6, ne7⟩ (Ni.n _)) a2
            have cg_lj_4 : hlj.2 (b) = some (oB 4 [.ref (b + 1), .int (gI (dX hp G)), .int (gI (dY hp G))]) := Fr.at0 fr_lj (Ni.c ⟨ne8, ne9⟩ (Ni.n _)) b1
            have cg_lj_5 : hlj.2 (b + 1) = some (aJ 287 (g)) := Fr.at0 fr_lj (Ni.c ⟨ne10, ne11⟩ (Ni.n _)) b2
            refine g_iload 0 dX8_multiply_53 rfl ?_
            refine g_aload_n 2 dX8_multiply_55 rfl ?_
            refine g_getf 2 dX8_multiply_56 kX4 (by decide) fX8_42 cg_lj_2 rfl ?_
            refine g_icmp_gt (tgt := 112) dX8_multiply_59 rfl (by unfold gW; omega) (by unfold gW; omega) (fun c108 => ?_) (fun c108 => ?_)
            · skip
              refine g_iconst dX8_multiply_112 ?_
              refine g_istore (ls2 := [(4, .int (gI (0))), (0, .ref (B + 4)), (1, .ref (a)), (2, .ref (b)), (3, .ref (o))]) dX8_multiply_113 (by decide) rfl ?_
              have lm : ∀ (kk : Nat) (k : Int) (hlm : GH), kk = (287 - k).toNat → Fr [o] h hlm → hlm.2 (o) = some (oB 4 [.ref (o + 1), .int (gI (dX hp (zF hp))), .int (gI (dY hp (zF hp)))]) → hlm.2 (o + 1) = some (aJ 287 (gF gO (fun m => gO m % p) k)) → (0 ≤ k) → (k ≤ 287) → Go N mX8_multiply (fun v h1 => Fr [o] h h1 ∧ ((v = some (.int (gI 1)) ∧ ∃ H, mulC hp F G = some H ∧ PP hp h1 o H) ∨ (v = some (.int (gI 0)) ∧ mulC hp F G = none ∧ PA h1 o))) 0 0 hlm 115 [(4, .int (gI (k))), (0, .ref (B + 4)), (1, .ref (a)), (2, .ref (b)), (3, .ref (o))] [] := by
                refine Go.ind (fun kk ih_lm => ?_)
                intro k hlm hkk_lm fr_lm cf_lm_0 cf_lm_1 hk0 hk1
                have cg_lm_0 : hlm.2 (B + 4) = some (oB 8 [.ref (B + 1), .ref (B + 5)]) := Fr.at0 fr_lm (Ni.c ⟨ne0, ne1⟩ (Ni.n _)) hw4
                have cg_lm_1 : hlm.2 (B + 1) = some (oB 1 [.int (gI ((p : Int)))]) := Fr.at0 fr_lm (Ni.c ⟨ne2, ne3⟩ (Ni.n _)) hfl
                have cg_lm_2 : hlm.2 (a) = some (oB 4 [.ref (a + 1), .int (gI (dX hp F)), .int (gI (dY hp F))]) := Fr.at0 fr_lm (Ni.c ⟨ne4, ne5⟩ (Ni.n _)) a1
                have cg_lm_3 : hlm.2 (a + 1) = some (aJ 287 (f)) := Fr.at0 fr_lm (Ni.c ⟨ne6, ne7⟩ (Ni.n _)) a2
                have cg_lm_4 : hlm.2 (b) = some (oB 4 [.ref (b + 1), .int (gI (dX hp G)), .int (gI (dY hp G))]) := Fr.at0 fr_lm (Ni.c ⟨ne8, ne9⟩ (Ni.n _)) b1
                have cg_lm_5 : hlm.2 (b + 1) = some (aJ 287 (g)) := Fr.at0 fr_lm (Ni.c ⟨ne10, ne11⟩ (Ni.n _)) b2
                refine g_iload 0 dX8_multiply_115 rfl ?_
                refine g_sipush dX8_multiply_117 (by decide) ?_
                refine g_icmp_ge (tgt := 150) dX8_multiply_120 rfl (by unfold gW; omega) (by unfold gW; omega) (fun c209 => ?_) (fun c209 => ?_)
                · skip
                  have hk7 : k = 287 := by omega
                  refine g_aload_n 4 dX8_multiply_150 rfl ?_
                  refine g_callV (nc2 := 0) (ns2 := 0) (ci := 4) (As := []) (st := []) rfl dX8_multiply_151 okX4_measure lX8_32 itX4_measure seX4_measure rfl cf_lm_0 (by decide) (by decide) rfl (Nat.le_of_ble_eq_true rfl) (sQ_measure N _ (o) p hp hp2 _ _ (gF gO (fun m => gO m % p) k) (yml hp F G) cf_lm_0 cf_lm_1 (mlI_e hp hB hC (show dY hp F < j by omega) (by omega) (by omega) hI (fun m m0 m1 => by unfold gF; rw [if_pos (by omega)])) (yml_PB hp hB hC (by omega) (by omega))) (by omega) (by omega) (fun v210 hc210 q210 => ?_)
                  obtain ⟨rfl, frc211, rn211⟩ := q210
                  have fk212_0 : hc210.2 (B + 4) = some (oB 8 [.ref (B + 1), .ref (B + 5)]) := Fr.at0 frc211 (Ni.c ⟨ne0, ne1⟩ (Ni.n _)) cg_lm_0
                  have fk212_1 : hc210.2 (B + 1) = some (oB 1 [.int (gI ((p : Int)))]) := Fr.at0 frc211 (Ni.c ⟨ne2, ne3⟩ (Ni.n _)) cg_lm_1
                  have fk212_2 : hc210.2 (a) = some (oB 4 [.ref (a + 1), .int (gI (dX hp F)), .int (gI (dY hp F))]) := Fr.at0 frc211 (Ni.c ⟨ne4, ne5⟩ (Ni.n _)) cg_lm_2
                  have fk212_3 : hc210.2 (a + 1) = some (aJ 287 (f)) := Fr.at0 frc211 (Ni.c ⟨ne6, ne7⟩ (Ni.n _)) cg_lm_3
                  have fk212_4 : hc210.2 (b) = some (oB 4 [.ref (b + 1), .int (gI (dX hp G)), .int (gI (dY hp G))]) := Fr.at0 frc211 (Ni.c ⟨ne8, ne9⟩ (Ni.n _)) cg_lm_4
                  have fk212_5 : hc210.2 (b + 1) = some (aJ 287 (g)) := Fr.at0 frc211 (Ni.c ⟨ne10, ne11⟩ (Ni.n _)) cg_lm_5
                  have fr212 : Fr [o] h hc210 := (fr_lm).tr ((frc211).mo (sub_c (List.Mem.head _) sub_n))
                  refine Go.nf (h' := hc210) (st' := []) rfl rfl (Nat.le_refl _) (Nat.le_refl _) ?_
                  refine g_iconst dX8_multiply_154 ?_
                  exact g_zret dX8_multiply_155 rfl (by omega) ⟨fr212, Or.inl ⟨rfl, yml hp F G, by unfold mulC; rw [if_neg (by omega), if_neg (by omega)], rn211⟩⟩
                · skip
                  refine g_aload_n 4 dX8_multiply_123 rfl ?_
                  refine g_getf 0 dX8_multiply_124 kX4 (by decide) fX8_22 cf_lm_0 rfl ?_
                  refine g_iload 0 dX8_multiply_127 rfl ?_
                  refine g_aload_n 1 dX8_multiply_129 rfl ?_
                  refine g_getf 0 dX8_multiply_130 kX8 (by decide) fX8_18 cg_lm_0 rfl ?_
                  refine g_aload_n 4 dX8_multiply_133 rfl ?_
                  refine g_getf 0 dX8_multiply_134 kX4 (by decide) fX8_22 cf_lm_0 rfl ?_
                  refine g_iload 0 dX8_multiply_137 rfl ?_
                  refine g_laload dX8_multiply_139 cf_lm_1 (by omega) (by omega) (by omega) ?_
                  rw [gF_at]
                  have bk := hI.2 k hk0 (by omega)
                  refine g_callV (nc2 := 0) (ns2 := 0) (ci := 1) (As := [.long (gJ (gO k))]) (st := [.int (gI (k)), .ref (o + 1)]) rfl dX8_multiply_140 okX1_mod lX8_26 itX1_mod seX1_mod rfl cg_lm_1 (by decide) (by decide) rfl (Nat.le_of_ble_eq_true rfl) (sX1_mod N _ (B + 1) (p : Int) (gO k) (by unfold gX; omega) (by omega) (by omega) cg_lm_1) (by omega) (by omega) (fun v213 hc213 q213 => ?_)
                  obtain ⟨hq214, rfl⟩ := q213
                  rw [gMod_em (show (0 : Int) < p by omega)]
                  refine Go.nf (h' := hlm) (st' := [.long (gJ ((gO k) % (p : Int))), .int (gI (k)), .ref (o + 1)]) hq214 rfl (Nat.le_refl _) (Nat.le_refl _) ?_
                  refine g_lastore dX8_multiply_143 cf_lm_1 (by omega) (by omega) (by omega) ?_
                  obtain ⟨hh215, eh215⟩ : ∃ z : GH, z = hset hlm (o + 1) (aJ 287 (gup (gF gO (fun m => gO m % p) k) (k) ((gO k) % (p : Int)))) := ⟨_, rfl⟩
                  refine Go.hp eh215.symm ?_
                  have fh215_0 : hh215.2 (B + 4) = some (oB 8 [.ref (B + 1), .ref (B + 5)]) := hs_n eh215 ne1 cg_lm_0
                  have fh215_1 : hh215.2 (B + 1) = some (oB 1 [.int (gI ((p : Int)))]) := hs_n eh215 ne3 cg_lm_1
                  have fh215_2 : hh215.2 (a) = some (oB 4 [.ref (a + 1), .int (gI (dX hp F)), .int (gI (dY hp F))]) := hs_n eh215 ne5 cg_lm_2
                  have fh215_3 : hh215.2 (a + 1) = some (aJ 287 (f)) := hs_n eh215 ne7 cg_lm_3
                  have fh215_4 : hh215.2 (b) = some (oB 4 [.ref (b + 1), .int (gI (dX hp G)), .int (gI (dY hp G))]) := hs_n eh215 ne9 cg_lm_4
                  have fh215_5 : hh215.2 (b + 1) = some (aJ 287 (g)) := hs_n eh215 ne11 cg_lm_5
                  have fh215_6 : hh215.2 (o) = some (oB 4 [.ref (o + 1), .int (gI (dX hp (zF hp))), .int (gI (dY hp (zF hp)))]) := hs_n eh215 ne12 cf_lm_0
                  have fh215_7 : hh215.2 (o + 1) = some (aJ 287 (gup (gF gO (fun m => gO m % p) k) (k) ((gO k) % (p : Int)))) := hs_s eh215
                  have fr215 : Fr [o] h hh215 := Fr.w1 fr_lm (List.Mem.head _) eh215
                  refine g_iinc 0 (ls2 := [(4, .int (gI (k + 1))), (0, .ref (B + 4)), (1, .ref (a)), (2, .ref (b)), (3, .ref (o))]) dX8_multiply_144 rfl (by decide) rfl ?_
                  refine g_goto (tgt := 115) dX8_multiply_147 rfl ?_
                  exact ih_lm _ (by omega) (k + 1) hh215 rfl fr215 fh215_6 (by rw [← gF_s gO (fun m => gO m % p) hk0]; exact fh215_7) (by omega) (by omega)
              exact lm _ (0) hlj rfl fr_lj cf_lj_0 (by rw [gF_0]; exact cf_lj_1) (by omega) (by omega)
            · skip
              refine g_iconst dX8_multiply_62 ?_
              refine g_istore (ls2 := [(5, .int (gI (0))), (4, .int (gI (j))), (0, .ref (B + 4)), (1, .ref (a)), (2, .ref (b)), (3, .ref (o))]) dX8_multiply_63 (by decide) rfl ?_
              have li : ∀ (kk : Nat) (i : Int) (g2 : Int → Int) (hli : GH), kk = (dX hp F + 1 - i).toNat → Fr [o] h hli → hli.2 (o) = some (oB 4 [.ref (o + 1), .int (gI (dX hp (zF hp))), .int (gI (dY hp (zF hp)))]) → hli.2 (o + 1) = some (aJ 287 (g2)) → (0 ≤ i) → (i ≤ dX hp F + 1) → (mlI hp F G (j * 41 + i) g2) → Go N mX8_multiply (fun v h1 => Fr [o] h h1 ∧ ((v = some (.int (gI 1)) ∧ ∃ H, mulC hp F G = some H ∧ PP hp h1 o H) ∨ (v = some (.int (gI 0)) ∧ mulC hp F G = none ∧ PA h1 o))) 0 0 hli 65 [(5, .int (gI (i))), (4, .int (gI (j))), (0, .ref (B + 4)), (1, .ref (a)), (2, .ref (b)), (3, .ref (o))] [] := by
                refine Go.ind (fun kk ih_li => ?_)
                intro i g2 hli hkk_li fr_li cf_li_0 cf_li_1 hi0 hi1 hK
                have cg_li_0 : hli.2 (B + 4) = some (oB 8 [.ref (B + 1), .ref (B + 5)]) := Fr.at0 fr_li (Ni.c ⟨ne0, ne1⟩ (Ni.n _)) hw4
                have cg_li_1 : hli.2 (B + 1) = some (oB 1 [.int (gI ((p : Int)))]) := Fr.at0 fr_li (Ni.c ⟨ne2, ne3⟩ (Ni.n _)) hfl
                have cg_li_2 : hli.2 (a) = some (oB 4 [.ref (a + 1), .int (gI (dX hp F)), .int (gI (dY hp F))]) := Fr.at0 fr_li (Ni.c ⟨ne4, ne5⟩ (Ni.n _)) a1
                have cg_li_3 : hli.2 (a + 1) = some (aJ 287 (f)) := Fr.at0 fr_li (Ni.c ⟨ne6, ne7⟩ (Ni.n _)) a2
                have cg_li_4 : hli.2 (b) = some (oB 4 [.ref (b + 1), .int (gI (dX hp G)), .int (gI (dY hp G))]) := Fr.at0 fr_li (Ni.c ⟨ne8, ne9⟩ (Ni.n _)) b1
                have cg_li_5 : hli.2 (b + 1) = some (aJ 287 (g)) := Fr.at0 fr_li (Ni.c ⟨ne10, ne11⟩ (Ni.n _)) b2
                refine g_iload 0 dX8_multiply_65 rfl ?_
                refine g_aload_n 3 dX8_multiply_67 rfl ?_
                refine g_getf 1 dX8_multiply_68 kX4 (by decide) fX8_38 cg_li_2 rfl ?_
                refine g_icmp_gt (tgt := 106) dX8_multiply_71 rfl (by unfold gW; omega) (by unfold gW; omega) (fun c416 => ?_) (fun c416 => ?_)
                · skip
                  refine g_iinc 1 (ls2 := [(4, .int (gI (j + 1))), (5, .int (gI (i))), (0, .ref (B + 4)), (1, .ref (a)), (2, .ref (b)), (3, .ref (o))]) dX8_multiply_106 rfl (by decide) rfl ?_
                  refine g_goto (tgt := 53) dX8_multiply_109 rfl ?_
                  refine Go.sub [0, 2, 3, 4, 5] rfl ?_
                  exact ih_lj _ (by omega) (j + 1) (g2) hli rfl fr_li cf_li_0 cf_li_1 (by omega) (by omega) (mlI_r hp hB (by omega) (by omega) hK)
                · skip
                  refine g_aload_n 4 dX8_multiply_74 rfl ?_
                  refine g_aload_n 3 dX8_multiply_75 rfl ?_
                  refine g_getf 0 dX8_multiply_76 kX4 (by decide) fX8_22 cg_li_2 rfl ?_
                  refine g_iload 1 dX8_multiply_79 rfl ?_
                  refine g_bipush dX8_multiply_81 (by decide) ?_
                  refine g_imul dX8_multiply_83 ?_
                  refine g_iload 0 dX8_multiply_84 rfl ?_
                  refine g_iadd dX8_multiply_86 ?_
                  refine g_laload dX8_multiply_87 cg_li_3 (by omega) (by omega) (by omega) ?_
                  have bc := hN.bd (h := hp) hp (k := j * 41 + i) (by omega) (by omega)
                  refine g_iload 1 dX8_multiply_88 rfl ?_
                  refine g_bipush dX8_multiply_90 (by decide) ?_
                  refine g_imul dX8_multiply_92 ?_
                  refine g_iload 0 dX8_multiply_93 rfl ?_
                  refine g_iadd dX8_multiply_95 ?_
                  refine g_aload_n 5 dX8_multiply_96 rfl ?_
                  refine g_callS (nc2 := 0) (ns2 := 0) (As := [.ref (b), .long (gJ ((f) (((j) * (41)) + (i)))), .int (gI (((j) * (41)) + (i))), .ref (o)]) (st := []) rfl dX8_multiply_97 okX8_addShifted lX8_45 stX8_addShifted (by decide) (by decide) rfl (Nat.le_of_ble_eq_true rfl) (sW_addShifted N _ b o _ _ ((f) (((j) * (41)) + (i))) (((j) * (41)) + (i)) (dX hp G) (dY hp G) g (g2) (by unfold gX; omega) (by omega) (by omega) (by omega) (by omega) (by omega) (fun _ => by omega) cg_li_4 cg_li_5 cf_li_0 cf_li_1 abo) (by omega) (by omega) (fun v417 hc417 q417 => ?_)
                  obtain ⟨rfl, frc418, rn418, rm418⟩ := q417
                  have fk419_0 : hc417.2 (B + 4) = some (oB 8 [.ref (B + 1), .ref (B + 5)]) := Fr.at0 frc418 (Ni.c ⟨ne0, ne1⟩ (Ni.n _)) cg_li_0
                  have fk419_1 : hc417.2 (B + 1) = some (oB 1 [.int (gI ((p : Int)))]) := Fr.at0 frc418 (Ni.c ⟨ne2, ne3⟩ (Ni.n _)) cg_li_1
                  have fk419_2 : hc417.2 (a) = some (oB 4 [.ref (a + 1), .int (gI (dX hp F)), .int (gI (dY hp F))]) := Fr.at0 frc418 (Ni.c ⟨ne4, ne5⟩ (Ni.n _)) cg_li_2
                  have fk419_3 : hc417.2 (a + 1) = some (aJ 287 (f)) := Fr.at0 frc418 (Ni.c ⟨ne6, ne7⟩ (Ni.n _)) cg_li_3
                  have fk419_4 : hc417.2 (b) = some (oB 4 [.ref (b + 1), .int (gI (dX hp G)), .int (gI (dY hp G))]) := Fr.at0 frc418 (Ni.c ⟨ne8, ne9⟩ (Ni.n _)) cg_li_4
                  have fk419_5 : hc417.2 (b + 1) = some (aJ 287 (g)) := Fr.at0 frc418 (Ni.c ⟨ne10, ne11⟩ (Ni.n _)) cg_li_5
                  have fr419 : Fr [o] h hc417 := (fr_li).tr ((frc418).mo (sub_c (List.Mem.head _) sub_n))
                  refine Go.nf (h' := hc417) (st' := []) rfl rfl (Nat.le_refl _) (Nat.le_refl _) ?_
                  refine g_iinc 0 (ls2 := [(5, .int (gI (i + 1))), (4, .int (gI (j))), (0, .ref (B + 4)), (1, .ref (a)), (2, .ref (b)), (3, .ref (o))]) dX8_multiply_100 rfl (by decide) rfl ?_
                  refine g_goto (tgt := 65) dX8_multiply_103 rfl ?_
                  exact ih_li _ (by omega) (i + 1) (asL (g2) g ((f) (((j) * (41)) + (i))) (((j) * (41)) + (i)) (dX hp G) ((dY hp G + 1) * 41)) hc417 rfl fr419 rn418 rm418 (by omega) (by omega) (mlI_sI hp hp2 hB hC hM (hN j i hj0 (by omega) hi0 (by omega)) hj0 (by omega) hi0 (by omega) (by omega) hK)
              exact li _ (0) (gO) hlj rfl fr_lj cf_lj_0 cf_lj_1 (by omega) (by omega) (by rw [Int.add_zero]; exact hI)
          exact lj _ (0) (t) hc1 rfl fr3 z1 z2 (by omega) (by omega) (by rw [Int.zero_mul]; exact mlI_0 hp F G hz0)
        · skip
          refine g_iconst dX8_multiply_48 ?_
          exact g_zret dX8_multiply_49 rfl (by omega) ⟨fr3, Or.inr ⟨rfl, by unfold mulC; rw [if_neg (by omega), if_pos (by omega)], (rn2_0).ra⟩⟩
    · skip
      refine g_iconst dX8_multiply_18 ?_
      exact g_zret dX8_multiply_19 rfl (by omega) ⟨fr3, Or.inl ⟨rfl, zF hp, by unfold mulC; rw [if_pos (by omega)], rn2_0⟩⟩
set_option maxHeartbeats 4000000 in
set_option maxRecDepth 100000 in
theorem sW_addSliceX (N : GN) (h : GH) (B a o p : Nat) (hp : prm p) (hp2 : p ≤ 65536) (A H : Pxy p) (k : Int) (k0 : 0 ≤ k) (k1 : k ≤ 40) (hw4 : h.2 (B + 4) = some (oB 8 [.ref (B + 1), .ref (B + 5)])) (hfl : h.2 (B + 1) = some (oB 1 [.int (gI ((p : Int)))])) (ha : PP hp h a A) (ho : PP hp h o H) (aao : AP a o) (oo : B + 5 ≤ o) : Sp N yX8_addSlice mX8_addSlice 0 0 [.ref (B + 4), .ref (a), .int (gI (k)), .int (gI (1)), .ref (o)] h (fun v h1 => v = none ∧ Fr [o] h h1 ∧ PP hp h1 o (slx hp A H k.toNat)) := by
  refine Sp.of (by decide) rfl rfl (Nat.le_of_ble_eq_true rfl) ?_
  show Go N mX8_addSlice _ 0 0 h 0 [(0, .ref (B + 4)), (1, .ref (a)), (2, .int (gI (k))), (3, .int (gI (1))), (4, .ref (o))] []
  have hp1 := hp.1
  have ne0 : NE (B + 4) (o) := by unfold NE; omega
  have ne1 : NE (B + 4) (o + 1) := by unfold NE; omega
  have ne2 : NE (B + 1) (o) := by unfold NE; omega
  have ne3 : NE (B + 1) (o + 1) := by unfold NE; omega
  have ne4 : NE (a) (o) := aao.n00
  have ne5 : NE (a) (o + 1) := aao.n01
  have ne6 : NE (a + 1) (o) := aao.n10
  have ne7 : NE (a + 1) (o + 1) := aao.n11
  have ne8 : NE (o) (o + 1) := by unfold NE; omega
  obtain ⟨f, ⟨a1, a2, a3⟩, hN, hB⟩ := ha
  refine g_iload_n 3 dX8_addSlice_0 rfl ?_
  refine g_if_eq (tgt := 8) dX8_addSlice_1 rfl (by unfold gW; omega) (fun c1 => absurd c1 (by omega)) (fun c1 => ?_)
  refine g_iload_n 2 dX8_addSlice_4 rfl ?_
  refine g_goto (tgt := 12) dX8_addSlice_5 rfl ?_
  refine g_istore (ls2 := [(5, .int (gI (k))), (0, .ref (B + 4)), (1, .ref (a)), (2, .int (gI (k))), (3, .int (gI (1))), (4, .ref (o))]) dX8_addSlice_12 (by decide) rfl ?_
  refine g_iload_n 4 dX8_addSlice_14 rfl ?_
  refine g_if_eq (tgt := 23) dX8_addSlice_15 rfl (by unfold gW; omega) (fun c2 => absurd c2 (by omega)) (fun c2 => ?_)
  refine g_bipush dX8_addSlice_18 (by decide) ?_
  refine g_goto (tgt := 24) dX8_addSlice_20 rfl ?_
  refine g_istore (ls2 := [(6, .int (gI (41))), (5, .int (gI (k))), (0, .ref (B + 4)), (1, .ref (a)), (2, .int (gI (k))), (3, .int (gI (1))), (4, .ref (o))]) dX8_addSlice_24 (by decide) rfl ?_
  refine g_iload_n 5 dX8_addSlice_26 rfl ?_
  refine g_if_eq (tgt := 35) dX8_addSlice_27 rfl (by unfold gW; omega) (fun c3 => absurd c3 (by omega)) (fun c3 => ?_)
  refine g_bipush dX8_addSlice_30 (by decide) ?_
  refine g_goto (tgt := 37) dX8_addSlice_32 rfl ?_
  refine g_istore (ls2 := [(7, .int (gI (7))), (6, .int (gI (41))), (5, .int (gI (k))), (0, .ref (B + 4)), (1, .ref (a)), (2, .int (gI (k))), (3, .int (gI (1))), (4, .ref (o))]) dX8_addSlice_37 (by decide) rfl ?_
  refine g_iconst dX8_addSlice_39 ?_
  refine g_istore (ls2 := [(8, .int (gI (0))), (7, .int (gI (7))), (6, .int (gI (41))), (5, .int (gI (k))), (0, .ref (B + 4)), (1, .ref (a)), (2, .int (gI (k))), (3, .int (gI (1))), (4, .ref (o))]) dX8_addSlice_40 (by decide) rfl ?_
  obtain ⟨g, ⟨z1, z2, z3⟩, zN, zB⟩ := ho
  have ln : ∀ (kk : Nat) (n : Int) (hln : GH), kk = (41 - n).toNat → Fr [o] h hln → hln.2 (o) = some (oB 4 [.ref (o + 1), .int (gI (dX hp (H))), .int (gI (dY hp (H)))]) → hln.2 (o + 1) = some (aJ 287 (sX p g f k n)) → (0 ≤ n) → (n ≤ 7) → Go N mX8_addSlice (fun v h1 => v = none ∧ Fr [o] h h1 ∧ PP hp h1 o (slx hp A H k.toNat)) 0 0 hln 42 [(8, .int (gI (n))), (7, .int (gI (7))), (6, .int (gI (41))), (5, .int (gI (k))), (0, .ref (B + 4)), (1, .ref (a)), (2, .int (gI (k))), (3, .int (gI (1))), (4, .ref (o))] [] := by
    refine Go.ind (fun kk ih_ln => ?_)
    intro n hln hkk_ln fr_ln cf_ln_0 cf_ln_1 hn0 hn1
    have cg_ln_0 : hln.2 (B + 4) = some (oB 8 [.ref (B + 1), .ref (B + 5)]) := Fr.at0 fr_ln (Ni.c ⟨ne0, ne1⟩ (Ni.n _)) hw4
    have cg_ln_1 : hln.2 (B + 1) = some (oB 1 [.int (gI ((p : Int)))]) := Fr.at0 fr_ln (Ni.c ⟨ne2, ne3⟩ (Ni.n _)) hfl
    have cg_ln_2 : hln.2 (a) = some (oB 4 [.ref (a + 1), .int (gI (dX hp A)), .int (gI (dY hp A))]) := Fr.at0 fr_ln (Ni.c ⟨ne4, ne5⟩ (Ni.n _)) a1
    have cg_ln_3 : hln.2 (a + 1) = some (aJ 287 (f)) := Fr.at0 fr_ln (Ni.c ⟨ne6, ne7⟩ (Ni.n _)) a2
    refine g_iload 0 dX8_addSlice_42 rfl ?_
    refine g_iload 1 dX8_addSlice_44 rfl ?_
    refine g_icmp_ge (tgt := 98) dX8_addSlice_46 rfl (by unfold gW; omega) (by unfold gW; omega) (fun c104 => ?_) (fun c104 => ?_)
    · skip
      have hn7 : n = 7 := by omega
      refine g_aload 8 dX8_addSlice_98 rfl ?_
      refine g_callV (nc2 := 0) (ns2 := 0) (ci := 4) (As := []) (st := []) rfl dX8_addSlice_100 okX4_measure lX8_32 itX4_measure seX4_measure rfl cf_ln_0 (by decide) (by decide) rfl (Nat.le_of_ble_eq_true rfl) (sQ_measure N _ (o) p hp hp2 _ _ (sX p g f k n) (slx hp A H k.toNat) cf_ln_0 cf_ln_1 (by rw [hn7]; exact sX_NM hp k0 k1 hN zN hB zB) (slx_PB hp _ hB zB)) (by omega) (by omega) (fun v105 hc105 q105 => ?_)
      obtain ⟨rfl, frc106, rn106⟩ := q105
      have fk107_0 : hc105.2 (B + 4) = some (oB 8 [.ref (B + 1), .ref (B + 5)]) := Fr.at0 frc106 (Ni.c ⟨ne0, ne1⟩ (Ni.n _)) cg_ln_0
      have fk107_1 : hc105.2 (B + 1) = some (oB 1 [.int (gI ((p : Int)))]) := Fr.at0 frc106 (Ni.c ⟨ne2, ne3⟩ (Ni.n _)) cg_ln_1
      have fk107_2 : hc105.2 (a) = some (oB 4 [.ref (a + 1), .int (gI (dX hp A)), .int (gI (dY hp A))]) := Fr.at0 frc106 (Ni.c ⟨ne4, ne5⟩ (Ni.n _)) cg_ln_2
      have fk107_3 : hc105.2 (a + 1) = some (aJ 287 (f)) := Fr.at0 frc106 (Ni.c ⟨ne6, ne7⟩ (Ni.n _)) cg_ln_3
      have fr107 : Fr [o] h hc105 := (fr_ln).tr ((frc106).mo (sub_c (List.Mem.head _) sub_n))
      refine Go.nf (h' := hc105) (st' := []) rfl rfl (Nat.le_refl _) (Nat.le_refl _) ?_
      exact g_vret dX8_addSlice_103 rfl ⟨rfl, fr107, rn106⟩
    · skip
      refine g_aload 8 dX8_addSlice_49 rfl ?_
      refine g_getf 0 dX8_addSlice_51 kX4 (by decide) fX8_22 cf_ln_0 rfl ?_
      refine g_iload 0 dX8_addSlice_54 rfl ?_
      refine g_iload 2 dX8_addSlice_56 rfl ?_
      refine g_imul dX8_addSlice_58 ?_
      refine g_aload_n 4 dX8_addSlice_59 rfl ?_
      refine g_getf 0 dX8_addSlice_60 kX8 (by decide) fX8_18 cg_ln_0 rfl ?_
      refine g_aload 8 dX8_addSlice_63 rfl ?_
      refine g_getf 0 dX8_addSlice_65 kX4 (by decide) fX8_22 cf_ln_0 rfl ?_
      refine g_iload 0 dX8_addSlice_68 rfl ?_
      refine g_iload 2 dX8_addSlice_70 rfl ?_
      refine g_imul dX8_addSlice_72 ?_
      refine g_laload dX8_addSlice_73 cf_ln_1 (by omega) (by omega) (by omega) ?_
      refine g_aload_n 5 dX8_addSlice_74 rfl ?_
      refine g_getf 0 dX8_addSlice_75 kX4 (by decide) fX8_22 cg_ln_2 rfl ?_
      refine g_iload 3 dX8_addSlice_78 rfl ?_
      refine g_iload 0 dX8_addSlice_80 rfl ?_
      refine g_iload 2 dX8_addSlice_82 rfl ?_
      refine g_imul dX8_addSlice_84 ?_
      refine g_iadd dX8_addSlice_85 ?_
      refine g_laload dX8_addSlice_86 cg_ln_3 (by omega) (by omega) (by omega) ?_
      rw [show ((n) * (41 : Int)) = n * 41 from rfl, sX_at]
      have b1_ := zN.bd (h := hp) hp (k := n * 41) (by omega) (by omega)
      have b2_ := hN.bd (h := hp) hp (k := k + n * 41) (by omega) (by omega)
      refine g_ladd dX8_addSlice_87 ?_
      refine g_callV (nc2 := 0) (ns2 := 0) (ci := 1) (As := [.long (gJ ((g (n * 41)) + ((f) ((k) + ((n) * (41))))))]) (st := [.int (gI ((n) * (41))), .ref (o + 1)]) rfl dX8_addSlice_88 okX1_mod lX8_26 itX1_mod seX1_mod rfl cg_ln_1 (by decide) (by decide) rfl (Nat.le_of_ble_eq_true rfl) (sX1_mod N _ (B + 1) (p : Int) ((g (n * 41)) + ((f) ((k) + ((n) * (41))))) (by unfold gX; omega) (by omega) (by omega) cg_ln_1) (by omega) (by omega) (fun v108 hc108 q108 => ?_)
      obtain ⟨hq109, rfl⟩ := q108
      rw [gMod_em (show (0 : Int) < p by omega)]
      refine Go.nf (h' := hln) (st' := [.long (gJ (((g (n * 41)) + ((f) ((k) + ((n) * (41))))) % (p : Int))), .int (gI ((n) * (41))), .ref (o + 1)]) hq109 rfl (Nat.le_refl _) (Nat.le_refl _) ?_
      refine g_lastore dX8_addSlice_91 cf_ln_1 (by omega) (by omega) (by omega) ?_
      obtain ⟨hh110, eh110⟩ : ∃ z : GH, z = hset hln (o + 1) (aJ 287 (gup (sX p g f k n) ((n) * (41)) (((g (n * 41)) + ((f) ((k) + ((n) * (41))))) % (p : Int)))) := ⟨_, rfl⟩
      refine Go.hp eh110.symm ?_
      have fh110_0 : hh110.2 (B + 4) = some (oB 8 [.ref (B + 1), .ref (B + 5)]) := hs_n eh110 ne1 cg_ln_0
      have fh110_1 : hh110.2 (B + 1) = some (oB 1 [.int (gI ((p : Int)))]) := hs_n eh110 ne3 cg_ln_1
      have fh110_2 : hh110.2 (a) = some (oB 4 [.ref (a + 1), .int (gI (dX hp A)), .int (gI (dY hp A))]) := hs_n eh110 ne5 cg_ln_2
      have fh110_3 : hh110.2 (a + 1) = some (aJ 287 (f)) := hs_n eh110 ne7 cg_ln_3
      have fh110_4 : hh110.2 (o) = some (oB 4 [.ref (o + 1), .int (gI (dX hp (H))), .int (gI (dY hp (H)))]) := hs_n eh110 ne8 cf_ln_0
      have fh110_5 : hh110.2 (o + 1) = some (aJ 287 (gup (sX p g f k n) ((n) * (41)) (((g (n * 41)) + ((f) ((k) + ((n) * (41))))) % (p : Int)))) := hs_s eh110
      have fr110 : Fr [o] h hh110 := Fr.w1 fr_ln (List.Mem.head _) eh110
      refine g_iinc 0 (ls2 := [(8, .int (gI (n + 1))), (7, .int (gI (7))), (6, .int (gI (41))), (5, .int (gI (k))), (0, .ref (B + 4)), (1, .ref (a)), (2, .int (gI (k))), (3, .int (gI (1))), (4, .ref (o))]) dX8_addSlice_92 rfl (by decide) rfl ?_
      refine g_goto (tgt := 42) dX8_addSlice_95 rfl ?_
      exact ih_ln _ (by omega) (n + 1) hh110 rfl fr110 fh110_4 (by rw [← sX_s g f hn0]; exact fh110_5) (by omega) (by omega)
  exact ln _ (0) h rfl (Fr.rf [o] h) z1 (by rw [sX_0]; exact z2) (by omega) (by omega)
set_option maxHeartbeats 4000000 in
set_option maxRecDepth 100000 in
theorem sW_addSliceY (N : GN) (h : GH) (B a o p : Nat) (hp : prm p) (hp2 : p ≤ 65536) (A H : Pxy p) (k : Int) (k0 : 0 ≤ k) (k1 : k ≤ 6) (hw4 : h.2 (B + 4) = some (oB 8 [.ref (B + 1), .ref (B + 5)])) (hfl : h.2 (B + 1) = some (oB 1 [.int (gI ((p : Int)))])) (ha : PP hp h a A) (ho : PP hp h o H) (aao : AP a o) (oo : B + 5 ≤ o) : Sp N yX8_addSlice mX8_addSlice 0 0 [.ref (B + 4), .ref (a), .int (gI (k)), .int (gI (0)), .ref (o)] h (fun v h1 => v = none ∧ Fr [o] h h1 ∧ PP hp h1 o (sly hp A H k.toNat)) := by
  refine Sp.of (by decide) rfl rfl (Nat.le_of_ble_eq_true rfl) ?_
  show Go N mX8_addSlice _ 0 0 h 0 [(0, .ref (B + 4)), (1, .ref (a)), (2, .int (gI (k))), (3, .int (gI (0))), (4, .ref (o))] []
  have hp1 := hp.1
  have ne0 : NE (B + 4) (o) := by unfold NE; omega
  have ne1 : NE (B + 4) (o + 1) := by unfold NE; omega
  have ne2 : NE (B + 1) (o) := by unfold NE; omega
  have ne3 : NE (B + 1) (o + 1) := by unfold NE; omega
  have ne4 : NE (a) (o) := aao.n00
  have ne5 : NE (a) (o + 1) := aao.n01
  have ne6 : NE (a + 1) (o) := aao.n10
  have ne7 : NE (a + 1) (o + 1) := aao.n11
  have ne8 : NE (o) (o + 1) := by unfold NE; omega
  obtain ⟨f, ⟨a1, a2, a3⟩, hN, hB⟩ := ha
  refine g_iload_n 3 dX8_addSlice_0 rfl ?_
  refine g_if_eq (tgt := 8) dX8_addSlice_1 rfl (by unfold gW; omega) (fun c1 => ?_) (fun c1 => absurd c1 (by omega))
  refine g_iload_n 2 dX8_addSlice_8 rfl ?_
  refine g_bipush dX8_addSlice_9 (by decide) ?_
  refine g_imul dX8_addSlice_11 ?_
  refine g_istore (ls2 := [(5, .int (gI ((k) * (41)))), (0, .ref (B + 4)), (1, .ref (a)), (2, .int (gI (k))), (3, .int (gI (0))), (4, .ref (o))]) dX8_addSlice_12 (by decide) rfl ?_
  refine g_iload_n 4 dX8_addSlice_14 rfl ?_
  refine g_if_eq (tgt := 23) dX8_addSlice_15 rfl (by unfold gW; omega) (fun c2 => ?_) (fun c2 => absurd c2 (by omega))
  refine g_iconst dX8_addSlice_23 ?_
  refine g_istore (ls2 := [(6, .int (gI (1))), (5, .int (gI ((k) * (41)))), (0, .ref (B + 4)), (1, .ref (a)), (2, .int (gI (k))), (3, .int (gI (0))), (4, .ref (o))]) dX8_addSlice_24 (by decide) rfl ?_
  refine g_iload_n 5 dX8_addSlice_26 rfl ?_
  refine g_if_eq (tgt := 35) dX8_addSlice_27 rfl (by unfold gW; omega) (fun c3 => ?_) (fun c3 => absurd c3 (by omega))
  refine g_bipush dX8_addSlice_35 (by decide) ?_
  refine g_istore (ls2 := [(7, .int (gI (41))), (6, .int (gI (1))), (5, .int (gI ((k) * (41)))), (0, .ref (B + 4)), (1, .ref (a)), (2, .int (gI (k))), (3, .int (gI (0))), (4, .ref (o))]) dX8_addSlice_37 (by decide) rfl ?_
  refine g_iconst dX8_addSlice_39 ?_
  refine g_istore (ls2 := [(8, .int (gI (0))), (7, .int (gI (41))), (6, .int (gI (1))), (5, .int (gI ((k) * (41)))), (0, .ref (B + 4)), (1, .ref (a)), (2, .int (gI (k))), (3, .int (gI (0))), (4, .ref (o))]) dX8_addSlice_40 (by decide) rfl ?_
  obtain ⟨g, ⟨z1, z2, z3⟩, zN, zB⟩ := ho
  have ln : ∀ (kk : Nat) (n : Int) (hln : GH), kk = (41 - n).toNat → Fr [o] h hln → hln.2 (o) = some (oB 4 [.ref (o + 1), .int (gI (dX hp (H))), .int (gI (dY hp (H)))]) → hln.2 (o + 1) = some (aJ 287 (sY p g f k n)) → (0 ≤ n) → (n ≤ 41) → Go N mX8_addSlice (fun v h1 => v = none ∧ Fr [o] h h1 ∧ PP hp h1 o (sly hp A H k.toNat)) 0 0 hln 42 [(8, .int (gI (n))), (7, .int (gI (41))), (6, .int (gI (1))), (5, .int (gI ((k) * (41)))), (0, .ref (B + 4)), (1, .ref (a)), (2, .int (gI (k))), (3, .int (gI (0))), (4, .ref (o))] [] := by
    refine Go.ind (fun kk ih_ln => ?_)
    intro n hln hkk_ln fr_ln cf_ln_0 cf_ln_1 hn0 hn1
    have cg_ln_0 : hln.2 (B + 4) = some (oB 8 [.ref (B + 1), .ref (B + 5)]) := Fr.at0 fr_ln (Ni.c ⟨ne0, ne1⟩ (Ni.n _)) hw4
    have cg_ln_1 : hln.2 (B + 1) = some (oB 1 [.int (gI ((p : Int)))]) := Fr.at0 fr_ln (Ni.c ⟨ne2, ne3⟩ (Ni.n _)) hfl
    have cg_ln_2 : hln.2 (a) = some (oB 4 [.ref (a + 1), .int (gI (dX hp A)), .int (gI (dY hp A))]) := Fr.at0 fr_ln (Ni.c ⟨ne4, ne5⟩ (Ni.n _)) a1
    have cg_ln_3 : hln.2 (a + 1) = some (aJ 287 (f)) := Fr.at0 fr_ln (Ni.c ⟨ne6, ne7⟩ (Ni.n _)) a2
    refine g_iload 0 dX8_addSlice_42 rfl ?_
    refine g_iload 1 dX8_addSlice_44 rfl ?_
    refine g_icmp_ge (tgt := 98) dX8_addSlice_46 rfl (by unfold gW; omega) (by unfold gW; omega) (fun c104 => ?_) (fun c104 => ?_)
    · skip
      have hn7 : n = 41 := by omega
      refine g_aload 8 dX8_addSlice_98 rfl ?_
      refine g_callV (nc2 := 0) (ns2 := 0) (ci := 4) (As := []) (st := []) rfl dX8_addSlice_100 okX4_measure lX8_32 itX4_measure seX4_measure rfl cf_ln_0 (by decide) (by decide) rfl (Nat.le_of_ble_eq_true rfl) (sQ_measure N _ (o) p hp hp2 _ _ (sY p g f k n) (sly hp A H k.toNat) cf_ln_0 cf_ln_1 (by rw [hn7]; exact sY_NM hp k0 k1 hN zN hB zB) (sly_PB hp _ hB zB)) (by omega) (by omega) (fun v105 hc105 q105 => ?_)
      obtain ⟨rfl, frc106, rn106⟩ := q105
      have fk107_0 : hc105.2 (B + 4) = some (oB 8 [.ref (B + 1), .ref (B + 5)]) := Fr.at0 frc106 (Ni.c ⟨ne0, ne1⟩ (Ni.n _)) cg_ln_0
      have fk107_1 : hc105.2 (B + 1) = some (oB 1 [.int (gI ((p : Int)))]) := Fr.at0 frc106 (Ni.c ⟨ne2, ne3⟩ (Ni.n _)) cg_ln_1
      have fk107_2 : hc105.2 (a) = some (oB 4 [.ref (a + 1), .int (gI (dX hp A)), .int (gI (dY hp A))]) := Fr.at0 frc106 (Ni.c ⟨ne4, ne5⟩ (Ni.n _)) cg_ln_2
      have fk107_3 : hc105.2 (a + 1) = some (aJ 287 (f)) := Fr.at0 frc106 (Ni.c ⟨ne6, ne7⟩ (Ni.n _)) cg_ln_3
      have fr107 : Fr [o] h hc105 := (fr_ln).tr ((frc106).mo (sub_c (List.Mem.head _) sub_n))
      refine Go.nf (h' := hc105) (st' := []) rfl rfl (Nat.le_refl _) (Nat.le_refl _) ?_
      exact g_vret dX8_addSlice_103 rfl ⟨rfl, fr107, rn106⟩
    · skip
      refine g_aload 8 dX8_addSlice_49 rfl ?_
      refine g_getf 0 dX8_addSlice_51 kX4 (by decide) fX8_22 cf_ln_0 rfl ?_
      refine g_iload 0 dX8_addSlice_54 rfl ?_
      refine g_iload 2 dX8_addSlice_56 rfl ?_
      refine g_imul dX8_addSlice_58 ?_
      refine g_aload_n 4 dX8_addSlice_59 rfl ?_
      refine g_getf 0 dX8_addSlice_60 kX8 (by decide) fX8_18 cg_ln_0 rfl ?_
      refine g_aload 8 dX8_addSlice_63 rfl ?_
      refine g_getf 0 dX8_addSlice_65 kX4 (by decide) fX8_22 cf_ln_0 rfl ?_
      refine g_iload 0 dX8_addSlice_68 rfl ?_
      refine g_iload 2 dX8_addSlice_70 rfl ?_
      refine g_imul dX8_addSlice_72 ?_
      refine g_laload dX8_addSlice_73 cf_ln_1 (by omega) (by omega) (by omega) ?_
      refine g_aload_n 5 dX8_addSlice_74 rfl ?_
      refine g_getf 0 dX8_addSlice_75 kX4 (by decide) fX8_22 cg_ln_2 rfl ?_
      refine g_iload 3 dX8_addSlice_78 rfl ?_
      refine g_iload 0 dX8_addSlice_80 rfl ?_
      refine g_iload 2 dX8_addSlice_82 rfl ?_
      refine g_imul dX8_addSlice_84 ?_
      refine g_iadd dX8_addSlice_85 ?_
      refine g_laload dX8_addSlice_86 cg_ln_3 (by omega) (by omega) (by omega) ?_
      rw [Int.mul_one, sY_at]
      have b1_ := zN.bd (h := hp) hp (k := n) (by omega) (by omega)
      have b2_ := hN.bd (h := hp) hp (k := k * 41 + n) (by omega) (by omega)
      refine g_ladd dX8_addSlice_87 ?_
      refine g_callV (nc2 := 0) (ns2 := 0) (ci := 1) (As := [.long (gJ ((g n) + ((f) (((k) * (41)) + (n)))))]) (st := [.int (gI (n)), .ref (o + 1)]) rfl dX8_addSlice_88 okX1_mod lX8_26 itX1_mod seX1_mod rfl cg_ln_1 (by decide) (by decide) rfl (Nat.le_of_ble_eq_true rfl) (sX1_mod N _ (B + 1) (p : Int) ((g n) + ((f) (((k) * (41)) + (n)))) (by unfold gX; omega) (by omega) (by omega) cg_ln_1) (by omega) (by omega) (fun v108 hc108 q108 => ?_)
      obtain ⟨hq109, rfl⟩ := q108
      rw [gMod_em (show (0 : Int) < p by omega)]
      refine Go.nf (h' := hln) (st' := [.long (gJ (((g n) + ((f) (((k) * (41)) + (n)))) % (p : Int))), .int (gI (n)), .ref (o + 1)]) hq109 rfl (Nat.le_refl _) (Nat.le_refl _) ?_
      refine g_lastore dX8_addSlice_91 cf_ln_1 (by omega) (by omega) (by omega) ?_
      obtain ⟨hh110, eh110⟩ : ∃ z : GH, z = hset hln (o + 1) (aJ 287 (gup (sY p g f k n) (n) (((g n) + ((f) (((k) * (41)) + (n)))) % (p : Int)))) := ⟨_, rfl⟩
      refine Go.hp eh110.symm ?_
      have fh110_0 : hh110.2 (B + 4) = some (oB 8 [.ref (B + 1), .ref (B + 5)]) := hs_n eh110 ne1 cg_ln_0
      have fh110_1 : hh110.2 (B + 1) = some (oB 1 [.int (gI ((p : Int)))]) := hs_n eh110 ne3 cg_ln_1
      have fh110_2 : hh110.2 (a) = some (oB 4 [.ref (a + 1), .int (gI (dX hp A)), .int (gI (dY hp A))]) := hs_n eh110 ne5 cg_ln_2
      have fh110_3 : hh110.2 (a + 1) = some (aJ 287 (f)) := hs_n eh110 ne7 cg_ln_3
      have fh110_4 : hh110.2 (o) = some (oB 4 [.ref (o + 1), .int (gI (dX hp (H))), .int (gI (dY hp (H)))]) := hs_n eh110 ne8 cf_ln_0
      have fh110_5 : hh110.2 (o + 1) = some (aJ 287 (gup (sY p g f k n) (n) (((g n) + ((f) (((k) * (41)) + (n)))) % (p : Int)))) := hs_s eh110
      have fr110 : Fr [o] h hh110 := Fr.w1 fr_ln (List.Mem.head _) eh110
      refine g_iinc 0 (ls2 := [(8, .int (gI (n + 1))), (7, .int (gI (41))), (6, .int (gI (1))), (5, .int (gI ((k) * (41)))), (0, .ref (B + 4)), (1, .ref (a)), (2, .int (gI (k))), (3, .int (gI (0))), (4, .ref (o))]) dX8_addSlice_92 rfl (by decide) rfl ?_
      refine g_goto (tgt := 42) dX8_addSlice_95 rfl ?_
      exact ih_ln _ (by omega) (n + 1) hh110 rfl fr110 fh110_4 (by rw [← sY_s g f hn0]; exact fh110_5) (by omega) (by omega)
  exact ln _ (0) h rfl (Fr.rf [o] h) z1 (by rw [sY_0]; exact z2) (by omega) (by omega)
set_option maxHeartbeats 4000000 in
set_option maxRecDepth 100000 in
theorem sW_substX (N : GN) (h : GH) (B a b o p : Nat) (hp : prm p) (hp2 : p ≤ 65536) (A G : Pxy p) (hw4 : h.2 (B + 4) = some (oB 8 [.ref (B + 1), .ref (B + 5)])) (hfl : h.2 (B + 1) = some (oB 1 [.int (gI ((p : Int)))])) (ha : PP hp h a A) (hb : PP hp h b G) (ho : PA h o) (h5 : PA h (B + 5)) (aao : AP a o) (abo : AP b o) (oa : B + 7 ≤ a) (ob : B + 7 ≤ b) (oo : B + 7 ≤ o) : Sp N yX8_substitute mX8_substitute 0 0 [.ref (B + 4), .ref (a), .ref (b), .int (gI (1)), .ref (o)] h (fun v h1 => Fr [o, B + 5] h h1 ∧ PA h1 (B + 5) ∧ ((v = some (.int (gI 1)) ∧ ∃ H, hS hp A G true (dX hp A) (dX hp A + 1).toNat = some H ∧ PP hp h1 o H) ∨ (v = some (.int (gI 0)) ∧ hS hp A G true (dX hp A) (dX hp A + 1).toNat = none ∧ PA h1 o))) := by
  refine Sp.of (by decide) rfl rfl (Nat.le_of_ble_eq_true rfl) ?_
  show Go N mX8_substitute _ 0 0 h 0 [(0, .ref (B + 4)), (1, .ref (a)), (2, .ref (b)), (3, .int (gI (1))), (4, .ref (o))] []
  have hp1 := hp.1
  have dga := ha.dg
  have dgb := hb.dg
  refine g_iload_n 3 dX8_substitute_0 rfl ?_
  refine g_if_eq (tgt := 11) dX8_substitute_1 rfl (by unfold gW; omega) (fun c1 => absurd c1 (by omega)) (fun c1 => ?_)
  refine g_aload_n 1 dX8_substitute_4 rfl ?_
  refine g_getf 1 dX8_substitute_5 kX4 (by decide) fX8_38 (ha).o rfl ?_
  refine g_goto (tgt := 15) dX8_substitute_8 rfl ?_
  refine g_istore (ls2 := [(5, .int (gI (dX hp (A)))), (0, .ref (B + 4)), (1, .ref (a)), (2, .ref (b)), (3, .int (gI (1))), (4, .ref (o))]) dX8_substitute_15 (by decide) rfl ?_
  refine g_aload 5 dX8_substitute_17 rfl ?_
  refine g_callV (nc2 := 0) (ns2 := 0) (ci := 4) (As := []) (st := []) rfl dX8_substitute_19 okX4_clear lX8_35 itX4_clear seX4_clear rfl (Classical.choose_spec (PA.o ho)) (by decide) (by decide) rfl (Nat.le_of_ble_eq_true rfl) (sQ_clear N _ (o) p hp hp2 ho) (by omega) (by omega) (fun v2 hc2 q2 => ?_)
  obtain ⟨rfl, frc3, rn3_0⟩ := q2
  have fk4_0 : hc2.2 (B + 4) = some (oB 8 [.ref (B + 1), .ref (B + 5)]) := Fr.at0 frc3 (Ni.c ⟨(show NE (B + 4) (o) by unfold NE; omega), (show NE (B + 4) (o + 1) by unfold NE; omega)⟩ (Ni.n _)) hw4
  have fk4_1 : hc2.2 (B + 1) = some (oB 1 [.int (gI ((p : Int)))]) := Fr.at0 frc3 (Ni.c ⟨(show NE (B + 1) (o) by unfold NE; omega), (show NE (B + 1) (o + 1) by unfold NE; omega)⟩ (Ni.n _)) hfl
  have rk4_0 : PP hp hc2 (a) (A) := (ha).fr frc3 (Ai.c aao (Ai.n _))
  have rk4_1 : PP hp hc2 (b) (G) := (hb).fr frc3 (Ai.c abo (Ai.n _))
  have rk4_3 : PA hc2 (B + 5) := (h5).fr frc3 (Ai.c (show AP (B + 5) (o) by unfold AP; omega) (Ai.n _))
  have fr4 : Fr [o, B + 5] h hc2 := ((Fr.rf [o, B + 5] h)).tr ((frc3).mo (sub_c (List.Mem.head _) sub_n))
  refine Go.nf (h' := hc2) (st' := []) rfl rfl (Nat.le_refl _) (Nat.le_refl _) ?_
  refine g_iload 0 dX8_substitute_22 rfl ?_
  refine g_istore (ls2 := [(6, .int (gI (dX hp (A)))), (5, .int (gI (dX hp (A)))), (0, .ref (B + 4)), (1, .ref (a)), (2, .ref (b)), (3, .int (gI (1))), (4, .ref (o))]) dX8_substitute_24 (by decide) rfl ?_
  have lk : ∀ (kk : Nat) (k : Int) (H : Pxy p) (hlk : GH), kk = (k + 1).toNat → Fr [o, B + 5] h hlk → PP hp hlk (a) (A) → PP hp hlk (b) (G) → PA hlk (B + 5) → PP hp hlk (o) (H) → (-1 ≤ k ∧ k ≤ dX hp A) → (hS hp A G true (dX hp A) (dX hp A - k).toNat = some H) → Go N mX8_substitute (fun v h1 => Fr [o, B + 5] h h1 ∧ PA h1 (B + 5) ∧ ((v = some (.int (gI 1)) ∧ ∃ H, hS hp A G true (dX hp A) (dX hp A + 1).toNat = some H ∧ PP hp h1 o H) ∨ (v = some (.int (gI 0)) ∧ hS hp A G true (dX hp A) (dX hp A + 1).toNat = none ∧ PA h1 o))) 0 0 hlk 26 [(6, .int (gI (k))), (5, .int (gI (dX hp (A)))), (0, .ref (B + 4)), (1, .ref (a)), (2, .ref (b)), (3, .int (gI (1))), (4, .ref (o))] [] := by
    refine Go.ind (fun kk ih_lk => ?_)
    intro k H hlk hkk_lk fr_lk cr_lk_0 cr_lk_1 cr_lk_2 cr_lk_3 hk hH
    have cg_lk_0 : hlk.2 (B + 4) = some (oB 8 [.ref (B + 1), .ref (B + 5)]) := Fr.at0 fr_lk (Ni.c ⟨(show NE (B + 4) (o) by unfold NE; omega), (show NE (B + 4) (o + 1) by unfold NE; omega)⟩ (Ni.c ⟨(show NE (B + 4) (B + 5) by unfold NE; omega), (show NE (B + 4) (B + 6) by unfold NE; omega)⟩ (Ni.n _))) hw4
    have cg_lk_1 : hlk.2 (B + 1) = some (oB 1 [.int (gI ((p : Int)))]) := Fr.at0 fr_lk (Ni.c ⟨(show NE (B + 1) (o) by unfold NE; omega), (show NE (B + 1) (o + 1) by unfold NE; omega)⟩ (Ni.c ⟨(show NE (B + 1) (B + 5) by unfold NE; omega), (show NE (B + 1) (B + 6) by unfold NE; omega)⟩ (Ni.n _))) hfl
    refine g_iload 0 dX8_substitute_26 rfl ?_
    refine g_if_lt (tgt := 72) dX8_substitute_28 rfl (by unfold gW; omega) (fun c105 => ?_) (fun c105 => ?_)
    · skip
      refine g_iconst dX8_substitute_72 ?_
      exact g_zret dX8_substitute_73 rfl (by omega) ⟨fr_lk, cr_lk_2, Or.inl ⟨rfl, H, by
        have e9 : k = -1 := by omega
        rw [e9] at hH
        rw [show (dX hp A + 1).toNat = (dX hp A - -1).toNat by omega]
        exact hH, cr_lk_3⟩⟩
    · skip
      refine g_aload_n 2 dX8_substitute_31 rfl ?_
      refine g_aload 6 dX8_substitute_32 rfl ?_
      refine g_aload_n 4 dX8_substitute_34 rfl ?_
      refine g_aload_n 2 dX8_substitute_35 rfl ?_
      refine g_getf 1 dX8_substitute_36 kX8 (by decide) fX8_12 cg_lk_0 rfl ?_
      refine g_callV (nc2 := 0) (ns2 := 0) (ci := 8) (As := [.ref (o), .ref (b), .ref (B + 5)]) (st := []) rfl dX8_substitute_39 okX8_multiply lX8_49 itX8_multiply seX8_multiply rfl cg_lk_0 (by decide) (by decide) rfl (Nat.le_of_ble_eq_true rfl) (sW_multiply N _ B (o) (b) (B + 5) p hp hp2 (H) (G) cg_lk_0 cg_lk_1 cr_lk_3 cr_lk_1 cr_lk_2 (show AP (o) (B + 5) by unfold AP; omega) (show AP (b) (B + 5) by unfold AP; omega) (by omega)) (by omega) (by omega) (fun v106 hc106 q106 => ?_)
      obtain ⟨frc107, hq107⟩ := q106
      have fk108_0 : hc106.2 (B + 4) = some (oB 8 [.ref (B + 1), .ref (B + 5)]) := Fr.at0 frc107 (Ni.c ⟨(show NE (B + 4) (B + 5) by unfold NE; omega), (show NE (B + 4) (B + 6) by unfold NE; omega)⟩ (Ni.n _)) cg_lk_0
      have fk108_1 : hc106.2 (B + 1) = some (oB 1 [.int (gI ((p : Int)))]) := Fr.at0 frc107 (Ni.c ⟨(show NE (B + 1) (B + 5) by unfold NE; omega), (show NE (B + 1) (B + 6) by unfold NE; omega)⟩ (Ni.n _)) cg_lk_1
      have rk108_0 : PP hp hc106 (a) (A) := (cr_lk_0).fr frc107 (Ai.c (show AP (a) (B + 5) by unfold AP; omega) (Ai.n _))
      have rk108_1 : PP hp hc106 (b) (G) := (cr_lk_1).fr frc107 (Ai.c (show AP (b) (B + 5) by unfold AP; omega) (Ai.n _))
      have rk108_3 : PP hp hc106 (o) (H) := (cr_lk_3).fr frc107 (Ai.c (show AP (o) (B + 5) by unfold AP; omega) (Ai.n _))
      have fr108 : Fr [o, B + 5] h hc106 := (fr_lk).tr ((frc107).mo (sub_c (List.Mem.tail _ (List.Mem.head _)) sub_n))
      rcases hq107 with ⟨rfl, M, hM, rm107⟩ | ⟨rfl, hM, rm107⟩
      · skip
        refine Go.nf (h' := hc106) (st' := [.int (gI (1))]) rfl rfl (Nat.le_refl _) (Nat.le_refl _) ?_
        refine g_if_ne (tgt := 47) dX8_substitute_42 rfl (by unfold gW; omega) (fun c109 => ?_) (fun c109 => absurd c109 (by omega))
        refine g_aload 6 dX8_substitute_47 rfl ?_
        refine g_aload_n 2 dX8_substitute_49 rfl ?_
        refine g_getf 1 dX8_substitute_50 kX8 (by decide) fX8_12 fk108_0 rfl ?_
        refine g_callV (nc2 := 0) (ns2 := 0) (ci := 4) (As := [.ref (B + 5)]) (st := []) rfl dX8_substitute_53 okX4_copy lX8_53 itX4_copy seX4_copy rfl (rk108_3).o (by decide) (by decide) rfl (Nat.le_of_ble_eq_true rfl) (sQ_copy N _ (o) (B + 5) p hp hp2 (M) (rk108_3).ra rm107 (show AP (o) (B + 5) by unfold AP; omega)) (by omega) (by omega) (fun v110 hc110 q110 => ?_)
        obtain ⟨rfl, frc111, rn111_0⟩ := q110
        have fk112_0 : hc110.2 (B + 4) = some (oB 8 [.ref (B + 1), .ref (B + 5)]) := Fr.at0 frc111 (Ni.c ⟨(show NE (B + 4) (o) by unfold NE; omega), (show NE (B + 4) (o + 1) by unfold NE; omega)⟩ (Ni.n _)) fk108_0
        have fk112_1 : hc110.2 (B + 1) = some (oB 1 [.int (gI ((p : Int)))]) := Fr.at0 frc111 (Ni.c ⟨(show NE (B + 1) (o) by unfold NE; omega), (show NE (B + 1) (o + 1) by unfold NE; omega)⟩ (Ni.n _)) fk108_1
        have rk112_0 : PP hp hc110 (a) (A) := (rk108_0).fr frc111 (Ai.c aao (Ai.n _))
        have rk112_1 : PP hp hc110 (b) (G) := (rk108_1).fr frc111 (Ai.c abo (Ai.n _))
        have rk112_3 : PP hp hc110 (B + 5) (M) := (rm107).fr frc111 (Ai.c (show AP (B + 5) (o) by unfold AP; omega) (Ai.n _))
        have fr112 : Fr [o, B + 5] h hc110 := (fr108).tr ((frc111).mo (sub_c (List.Mem.head _) sub_n))
        refine Go.nf (h' := hc110) (st' := []) rfl rfl (Nat.le_refl _) (Nat.le_refl _) ?_
        refine g_aload_n 2 dX8_substitute_56 rfl ?_
        refine g_aload_n 3 dX8_substitute_57 rfl ?_
        refine g_iload 0 dX8_substitute_58 rfl ?_
        refine g_iload_n 5 dX8_substitute_60 rfl ?_
        refine g_aload 6 dX8_substitute_61 rfl ?_
        refine g_callV (nc2 := 0) (ns2 := 0) (ci := 8) (As := [.ref (a), .int (gI (k)), .int (gI (1)), .ref (o)]) (st := []) rfl dX8_substitute_63 okX8_addSlice lX8_57 itX8_addSlice seX8_addSlice rfl fk112_0 (by decide) (by decide) rfl (Nat.le_of_ble_eq_true rfl) (sW_addSliceX N _ B (a) (o) p hp hp2 A (M) (k) (by omega) (by omega) fk112_0 fk112_1 rk112_0 rn111_0 aao (by omega)) (by omega) (by omega) (fun v113 hc113 q113 => ?_)
        obtain ⟨rfl, frc114, rn114_0⟩ := q113
        have fk115_0 : hc113.2 (B + 4) = some (oB 8 [.ref (B + 1), .ref (B + 5)]) := Fr.at0 frc114 (Ni.c ⟨(show NE (B + 4) (o) by unfold NE; omega), (show NE (B + 4) (o + 1) by unfold NE; omega)⟩ (Ni.n _)) fk112_0
        have fk115_1 : hc113.2 (B + 1) = some (oB 1 [.int (gI ((p : Int)))]) := Fr.at0 frc114 (Ni.c ⟨(show NE (B + 1) (o) by unfold NE; omega), (show NE (B + 1) (o + 1) by unfold NE; omega)⟩ (Ni.n _)) fk112_1
        have rk115_0 : PP hp hc113 (a) (A) := (rk112_0).fr frc114 (Ai.c aao (Ai.n _))
        have rk115_1 : PP hp hc113 (b) (G) := (rk112_1).fr frc114 (Ai.c abo (Ai.n _))
        have rk115_2 : PP hp hc113 (B + 5) (M) := (rk112_3).fr frc114 (Ai.c (show AP (B + 5) (o) by unfold AP; omega) (Ai.n _))
        have fr115 : Fr [o, B + 5] h hc113 := (fr112).tr ((frc114).mo (sub_c (List.Mem.head _) sub_n))
        refine Go.nf (h' := hc113) (st' := []) rfl rfl (Nat.le_refl _) (Nat.le_refl _) ?_
        refine g_iinc 0 (ls2 := [(6, .int (gI (k + (-1)))), (5, .int (gI (dX hp (A)))), (0, .ref (B + 4)), (1, .ref (a)), (2, .ref (b)), (3, .int (gI (1))), (4, .ref (o))]) dX8_substitute_66 rfl (by decide) rfl ?_
        refine g_goto (tgt := 26) dX8_substitute_69 rfl ?_
        exact ih_lk _ (by omega) (k + (-1)) (slx hp A (M) (k).toNat) hc113 rfl fr115 rk115_0 rk115_1 (rk115_2).ra rn114_0 (by omega) (by
        have e9 : (dX hp A - (k + (-1))).toNat = (dX hp A - k).toNat + 1 := by omega
        rw [e9]
        show (hS hp A G true (dX hp A) (dX hp A - k).toNat).bind _ = _
        rw [hH]
        show (mulC hp H G).map _ = _
        rw [hM]
        show some (if true then _ else _) = _
        rw [show (dX hp A - ((dX hp A - k).toNat : Nat)).toNat = k.toNat by omega]
        rfl)
      · skip
        refine Go.nf (h' := hc106) (st' := [.int (gI (0))]) rfl rfl (Nat.le_refl _) (Nat.le_refl _) ?_
        refine g_if_ne (tgt := 47) dX8_substitute_42 rfl (by unfold gW; omega) (fun c116 => absurd c116 (by omega)) (fun c116 => ?_)
        refine g_iconst dX8_substitute_45 ?_
        exact g_zret dX8_substitute_46 rfl (by omega) ⟨fr108, rm107, Or.inr ⟨rfl, hS_none hp (n := (dX hp A - k).toNat + 1) (by
        show (hS hp A G true (dX hp A) (dX hp A - k).toNat).bind _ = _
        rw [hH]
        show (mulC hp H G).map _ = _
        rw [hM]; rfl) _ (by omega), (rk108_3).ra⟩⟩
  exact lk _ (dX hp A) (zF hp) hc2 rfl fr4 rk4_0 rk4_1 rk4_3 rn3_0 (by omega) (by rw [Int.sub_self]; rfl)
set_option maxHeartbeats 4000000 in
set_option maxRecDepth 100000 in
theorem sW_substY (N : GN) (h : GH) (B a b o p : Nat) (hp : prm p) (hp2 : p ≤ 65536) (A G : Pxy p) (hw4 : h.2 (B + 4) = some (oB 8 [.ref (B + 1), .ref (B + 5)])) (hfl : h.2 (B + 1) = some (oB 1 [.int (gI ((p : Int)))])) (ha : PP hp h a A) (hb : PP hp h b G) (ho : PA h o) (h5 : PA h (B + 5)) (aao : AP a o) (abo : AP b o) (oa : B + 7 ≤ a) (ob : B + 7 ≤ b) (oo : B + 7 ≤ o) : Sp N yX8_substitute mX8_substitute 0 0 [.ref (B + 4), .ref (a), .ref (b), .int (gI (0)), .ref (o)] h (fun v h1 => Fr [o, B + 5] h h1 ∧ PA h1 (B + 5) ∧ ((v = some (.int (gI 1)) ∧ ∃ H, hS hp A G false (dY hp A) (dY hp A + 1).toNat = some H ∧ PP hp h1 o H) ∨ (v = some (.int (gI 0)) ∧ hS hp A G false (dY hp A) (dY hp A + 1).toNat = none ∧ PA h1 o))) := by
  refine Sp.of (by decide) rfl rfl (Nat.le_of_ble_eq_true rfl) ?_
  show Go N mX8_substitute _ 0 0 h 0 [(0, .ref (B + 4)), (1, .ref (a)), (2, .ref (b)), (3, .int (gI (0))), (4, .ref (o))] []
  have hp1 := hp.1
  have dga := ha.dg
  have dgb := hb.dg
  refine g_iload_n 3 dX8_substitute_0 rfl ?_
  refine g_if_eq (tgt := 11) dX8_substitute_1 rfl (by unfold gW; omega) (fun c1 => ?_) (fun c1 => absurd c1 (by omega))
  refine g_aload_n 1 dX8_substitute_11 rfl ?_
  refine g_getf 2 dX8_substitute_12 kX4 (by decide) fX8_42 (ha).o rfl ?_
  refine g_istore (ls2 := [(5, .int (gI (dY hp (A)))), (0, .ref (B + 4)), (1, .ref (a)), (2, .ref (b)), (3, .int (gI (0))), (4, .ref (o))]) dX8_substitute_15 (by decide) rfl ?_
  refine g_aload 5 dX8_substitute_17 rfl ?_
  refine g_callV (nc2 := 0) (ns2 := 0) (ci := 4) (As := []) (st := []) rfl dX8_substitute_19 okX4_clear lX8_35 itX4_clear seX4_clear rfl (Classical.choose_spec (PA.o ho)) (by decide) (by decide) rfl (Nat.le_of_ble_eq_true rfl) (sQ_clear N _ (o) p hp hp2 ho) (by omega) (by omega) (fun v2 hc2 q2 => ?_)
  obtain ⟨rfl, frc3, rn3_0⟩ := q2
  have fk4_0 : hc2.2 (B + 4) = some (oB 8 [.ref (B + 1), .ref (B + 5)]) := Fr.at0 frc3 (Ni.c ⟨(show NE (B + 4) (o) by unfold NE; omega), (show NE (B + 4) (o + 1) by unfold NE; omega)⟩ (Ni.n _)) hw4
  have fk4_1 : hc2.2 (B + 1) = some (oB 1 [.int (gI ((p : Int)))]) := Fr.at0 frc3 (Ni.c ⟨(show NE (B + 1) (o) by unfold NE; omega), (show NE (B + 1) (o + 1) by unfold NE; omega)⟩ (Ni.n _)) hfl
  have rk4_0 : PP hp hc2 (a) (A) := (ha).fr frc3 (Ai.c aao (Ai.n _))
  have rk4_1 : PP hp hc2 (b) (G) := (hb).fr frc3 (Ai.c abo (Ai.n _))
  have rk4_3 : PA hc2 (B + 5) := (h5).fr frc3 (Ai.c (show AP (B + 5) (o) by unfold AP; omega) (Ai.n _))
  have fr4 : Fr [o, B + 5] h hc2 := ((Fr.rf [o, B + 5] h)).tr ((frc3).mo (sub_c (List.Mem.head _) sub_n))
  refine Go.nf (h' := hc2) (st' := []) rfl rfl (Nat.le_refl _) (Nat.le_refl _) ?_
  refine g_iload 0 dX8_substitute_22 rfl ?_
  refine g_istore (ls2 := [(6, .int (gI (dY hp (A)))), (5, .int (gI (dY hp (A)))), (0, .ref (B + 4)), (1, .ref (a)), (2, .ref (b)), (3, .int (gI (0))), (4, .ref (o))]) dX8_substitute_24 (by decide) rfl ?_
  have lk : ∀ (kk : Nat) (k : Int) (H : Pxy p) (hlk : GH), kk = (k + 1).toNat → Fr [o, B + 5] h hlk → PP hp hlk (a) (A) → PP hp hlk (b) (G) → PA hlk (B + 5) → PP hp hlk (o) (H) → (-1 ≤ k ∧ k ≤ dY hp A) → (hS hp A G false (dY hp A) (dY hp A - k).toNat = some H) → Go N mX8_substitute (fun v h1 => Fr [o, B + 5] h h1 ∧ PA h1 (B + 5) ∧ ((v = some (.int (gI 1)) ∧ ∃ H, hS hp A G false (dY hp A) (dY hp A + 1).toNat = some H ∧ PP hp h1 o H) ∨ (v = some (.int (gI 0)) ∧ hS hp A G false (dY hp A) (dY hp A + 1).toNat = none ∧ PA h1 o))) 0 0 hlk 26 [(6, .int (gI (k))), (5, .int (gI (dY hp (A)))), (0, .ref (B + 4)), (1, .ref (a)), (2, .ref (b)), (3, .int (gI (0))), (4, .ref (o))] [] := by
    refine Go.ind (fun kk ih_lk => ?_)
    intro k H hlk hkk_lk fr_lk cr_lk_0 cr_lk_1 cr_lk_2 cr_lk_3 hk hH
    have cg_lk_0 : hlk.2 (B + 4) = some (oB 8 [.ref (B + 1), .ref (B + 5)]) := Fr.at0 fr_lk (Ni.c ⟨(show NE (B + 4) (o) by unfold NE; omega), (show NE (B + 4) (o + 1) by unfold NE; omega)⟩ (Ni.c ⟨(show NE (B + 4) (B + 5) by unfold NE; omega), (show NE (B + 4) (B + 6) by unfold NE; omega)⟩ (Ni.n _))) hw4
    have cg_lk_1 : hlk.2 (B + 1) = some (oB 1 [.int (gI ((p : Int)))]) := Fr.at0 fr_lk (Ni.c ⟨(show NE (B + 1) (o) by unfold NE; omega), (show NE (B + 1) (o + 1) by unfold NE; omega)⟩ (Ni.c ⟨(show NE (B + 1) (B + 5) by unfold NE; omega), (show NE (B + 1) (B + 6) by unfold NE; omega)⟩ (Ni.n _))) hfl
    refine g_iload 0 dX8_substitute_26 rfl ?_
    refine g_if_lt (tgt := 72) dX8_substitute_28 rfl (by unfold gW; omega) (fun c105 => ?_) (fun c105 => ?_)
    · skip
      refine g_iconst dX8_substitute_72 ?_
      exact g_zret dX8_substitute_73 rfl (by omega) ⟨fr_lk, cr_lk_2, Or.inl ⟨rfl, H, by
        have e9 : k = -1 := by omega
        rw [e9] at hH
        rw [show (dY hp A + 1).toNat = (dY hp A - -1).toNat by omega]
        exact hH, cr_lk_3⟩⟩
    · skip
      refine g_aload_n 2 dX8_substitute_31 rfl ?_
      refine g_aload 6 dX8_substitute_32 rfl ?_
      refine g_aload_n 4 dX8_substitute_34 rfl ?_
      refine g_aload_n 2 dX8_substitute_35 rfl ?_
      refine g_getf 1 dX8_substitute_36 kX8 (by decide) fX8_12 cg_lk_0 rfl ?_
      refine g_callV (nc2 := 0) (ns2 := 0) (ci := 8) (As := [.ref (o), .ref (b), .ref (B + 5)]) (st := []) rfl dX8_substitute_39 okX8_multiply lX8_49 itX8_multiply seX8_multiply rfl cg_lk_0 (by decide) (by decide) rfl (Nat.le_of_ble_eq_true rfl) (sW_multiply N _ B (o) (b) (B + 5) p hp hp2 (H) (G) cg_lk_0 cg_lk_1 cr_lk_3 cr_lk_1 cr_lk_2 (show AP (o) (B + 5) by unfold AP; omega) (show AP (b) (B + 5) by unfold AP; omega) (by omega)) (by omega) (by omega) (fun v106 hc106 q106 => ?_)
      obtain ⟨frc107, hq107⟩ := q106
      have fk108_0 : hc106.2 (B + 4) = some (oB 8 [.ref (B + 1), .ref (B + 5)]) := Fr.at0 frc107 (Ni.c ⟨(show NE (B + 4) (B + 5) by unfold NE; omega), (show NE (B + 4) (B + 6) by unfold NE; omega)⟩ (Ni.n _)) cg_lk_0
      have fk108_1 : hc106.2 (B + 1) = some (oB 1 [.int (gI ((p : Int)))]) := Fr.at0 frc107 (Ni.c ⟨(show NE (B + 1) (B + 5) by unfold NE; omega), (show NE (B + 1) (B + 6) by unfold NE; omega)⟩ (Ni.n _)) cg_lk_1
      have rk108_0 : PP hp hc106 (a) (A) := (cr_lk_0).fr frc107 (Ai.c (show AP (a) (B + 5) by unfold AP; omega) (Ai.n _))
      have rk108_1 : PP hp hc106 (b) (G) := (cr_lk_1).fr frc107 (Ai.c (show AP (b) (B + 5) by unfold AP; omega) (Ai.n _))
      have rk108_3 : PP hp hc106 (o) (H) := (cr_lk_3).fr frc107 (Ai.c (show AP (o) (B + 5) by unfold AP; omega) (Ai.n _))
      have fr108 : Fr [o, B + 5] h hc106 := (fr_lk).tr ((frc107).mo (sub_c (List.Mem.tail _ (List.Mem.head _)) sub_n))
      rcases hq107 with ⟨rfl, M, hM, rm107⟩ | ⟨rfl, hM, rm107⟩
      · skip
        refine Go.nf (h' := hc106) (st' := [.int (gI (1))]) rfl rfl (Nat.le_refl _) (Nat.le_refl _) ?_
        refine g_if_ne (tgt := 47) dX8_substitute_42 rfl (by unfold gW; omega) (fun c109 => ?_) (fun c109 => absurd c109 (by omega))
        refine g_aload 6 dX8_substitute_47 rfl ?_
        refine g_aload_n 2 dX8_substitute_49 rfl ?_
        refine g_getf 1 dX8_substitute_50 kX8 (by decide) fX8_12 fk108_0 rfl ?_
        refine g_callV (nc2 := 0) (ns2 := 0) (ci := 4) (As := [.ref (B + 5)]) (st := []) rfl dX8_substitute_53 okX4_copy lX8_53 itX4_copy seX4_copy rfl (rk108_3).o (by decide) (by decide) rfl (Nat.le_of_ble_eq_true rfl) (sQ_copy N _ (o) (B + 5) p hp hp2 (M) (rk108_3).ra rm107 (show AP (o) (B + 5) by unfold AP; omega)) (by omega) (by omega) (fun v110 hc110 q110 => ?_)
        obtain ⟨rfl, frc111, rn111_0⟩ := q110
        have fk112_0 : hc110.2 (B + 4) = some (oB 8 [.ref (B + 1), .ref (B + 5)]) := Fr.at0 frc111 (Ni.c ⟨(show NE (B + 4) (o) by unfold NE; omega), (show NE (B + 4) (o + 1) by unfold NE; omega)⟩ (Ni.n _)) fk108_0
        have fk112_1 : hc110.2 (B + 1) = some (oB 1 [.int (gI ((p : Int)))]) := Fr.at0 frc111 (Ni.c ⟨(show NE (B + 1) (o) by unfold NE; omega), (show NE (B + 1) (o + 1) by unfold NE; omega)⟩ (Ni.n _)) fk108_1
        have rk112_0 : PP hp hc110 (a) (A) := (rk108_0).fr frc111 (Ai.c aao (Ai.n _))
        have rk112_1 : PP hp hc110 (b) (G) := (rk108_1).fr frc111 (Ai.c abo (Ai.n _))
        have rk112_3 : PP hp hc110 (B + 5) (M) := (rm107).fr frc111 (Ai.c (show AP (B + 5) (o) by unfold AP; omega) (Ai.n _))
        have fr112 : Fr [o, B + 5] h hc110 := (fr108).tr ((frc111).mo (sub_c (List.Mem.head _) sub_n))
        refine Go.nf (h' := hc110) (st' := []) rfl rfl (Nat.le_refl _) (Nat.le_refl _) ?_
        refine g_aload_n 2 dX8_substitute_56 rfl ?_
        refine g_aload_n 3 dX8_substitute_57 rfl ?_
        refine g_iload 0 dX8_substitute_58 rfl ?_
        refine g_iload_n 5 dX8_substitute_60 rfl ?_
        refine g_aload 6 dX8_substitute_61 rfl ?_
        refine g_callV (nc2 := 0) (ns2 := 0) (ci := 8) (As := [.ref (a), .int (gI (k)), .int (gI (0)), .ref (o)]) (st := []) rfl dX8_substitute_63 okX8_addSlice lX8_57 itX8_addSlice seX8_addSlice rfl fk112_0 (by decide) (by decide) rfl (Nat.le_of_ble_eq_true rfl) (sW_addSliceY N _ B (a) (o) p hp hp2 A (M) (k) (by omega) (by omega) fk112_0 fk112_1 rk112_0 rn111_0 aao (by omega)) (by omega) (by omega) (fun v113 hc113 q113 => ?_)
        obtain ⟨rfl, frc114, rn114_0⟩ := q113
        have fk115_0 : hc113.2 (B + 4) = some (oB 8 [.ref (B + 1), .ref (B + 5)]) := Fr.at0 frc114 (Ni.c ⟨(show NE (B + 4) (o) by unfold NE; omega), (show NE (B + 4) (o + 1) by unfold NE; omega)⟩ (Ni.n _)) fk112_0
        have fk115_1 : hc113.2 (B + 1) = some (oB 1 [.int (gI ((p : Int)))]) := Fr.at0 frc114 (Ni.c ⟨(show NE (B + 1) (o) by unfold NE; omega), (show NE (B + 1) (o + 1) by unfold NE; omega)⟩ (Ni.n _)) fk112_1
        have rk115_0 : PP hp hc113 (a) (A) := (rk112_0).fr frc114 (Ai.c aao (Ai.n _))
        have rk115_1 : PP hp hc113 (b) (G) := (rk112_1).fr frc114 (Ai.c abo (Ai.n _))
        have rk115_2 : PP hp hc113 (B + 5) (M) := (rk112_3).fr frc114 (Ai.c (show AP (B + 5) (o) by unfold AP; omega) (Ai.n _))
        have fr115 : Fr [o, B + 5] h hc113 := (fr112).tr ((frc114).mo (sub_c (List.Mem.head _) sub_n))
        refine Go.nf (h' := hc113) (st' := []) rfl rfl (Nat.le_refl _) (Nat.le_refl _) ?_
        refine g_iinc 0 (ls2 := [(6, .int (gI (k + (-1)))), (5, .int (gI (dY hp (A)))), (0, .ref (B + 4)), (1, .ref (a)), (2, .ref (b)), (3, .int (gI (0))), (4, .ref (o))]) dX8_substitute_66 rfl (by decide) rfl ?_
        refine g_goto (tgt := 26) dX8_substitute_69 rfl ?_
        exact ih_lk _ (by omega) (k + (-1)) (sly hp A (M) (k).toNat) hc113 rfl fr115 rk115_0 rk115_1 (rk115_2).ra rn114_0 (by omega) (by
        have e9 : (dY hp A - (k + (-1))).toNat = (dY hp A - k).toNat + 1 := by omega
        rw [e9]
        show (hS hp A G false (dY hp A) (dY hp A - k).toNat).bind _ = _
        rw [hH]
        show (mulC hp H G).map _ = _
        rw [hM]
        show some (if false then _ else _) = _
        rw [show (dY hp A - ((dY hp A - k).toNat : Nat)).toNat = k.toNat by omega]
        rfl)
      · skip
        refine Go.nf (h' := hc106) (st' := [.int (gI (0))]) rfl rfl (Nat.le_refl _) (Nat.le_refl _) ?_
        refine g_if_ne (tgt := 47) dX8_substitute_42 rfl (by unfold gW; omega) (fun c116 => absurd c116 (by omega)) (fun c116 => ?_)
        refine g_iconst dX8_substitute_45 ?_
        exact g_zret dX8_substitute_46 rfl (by omega) ⟨fr108, rm107, Or.inr ⟨rfl, hS_none hp (n := (dY hp A - k).toNat + 1) (by
        show (hS hp A G false (dY hp A) (dY hp A - k).toNat).bind _ = _
        rw [hH]
        show (mulC hp H G).map _ = _
        rw [hM]; rfl) _ (by omega), (rk108_3).ra⟩⟩
  exact lk _ (dY hp A) (zF hp) hc2 rfl fr4 rk4_0 rk4_1 rk4_3 rn3_0 (by omega) (by rw [Int.sub_self]; rfl)
set_option maxHeartbeats 4000000 in
set_option maxRecDepth 100000 in
theorem sW_deriveX (N : GN) (h : GH) (B a o p : Nat) (hp : prm p) (hp2 : p ≤ 65536) (F : Pxy p) (hw4 : h.2 (B + 4) = some (oB 8 [.ref (B + 1), .ref (B + 5)])) (hfl : h.2 (B + 1) = some (oB 1 [.int (gI ((p : Int)))])) (ha : PP hp h a F) (ho : PA h o) (aao : AP a o) (oo : B + 5 ≤ o) : Sp N yX8_derive mX8_derive 0 0 [.ref (B + 4), .ref (a), .int (gI (1)), .ref (o)] h (fun v h1 => v = none ∧ Fr [o] h h1 ∧ PP hp h1 o (dvx hp F)) := by
  refine Sp.of (by decide) rfl rfl (Nat.le_of_ble_eq_true rfl) ?_
  show Go N mX8_derive _ 0 0 h 0 [(0, .ref (B + 4)), (1, .ref (a)), (2, .int (gI (1))), (3, .ref (o))] []
  have hp1 := hp.1
  have ne0 : NE (B + 4) (o) := by unfold NE; omega
  have ne1 : NE (B + 4) (o + 1) := by unfold NE; omega
  have ne2 : NE (B + 1) (o) := by unfold NE; omega
  have ne3 : NE (B + 1) (o + 1) := by unfold NE; omega
  have ne4 : NE (a) (o) := aao.n00
  have ne5 : NE (a) (o + 1) := aao.n01
  have ne6 : NE (a + 1) (o) := aao.n10
  have ne7 : NE (a + 1) (o + 1) := aao.n11
  have ne8 : NE (o) (o + 1) := by unfold NE; omega
  obtain ⟨f, ⟨a1, a2, a3⟩, hN, hB⟩ := ha
  refine g_aload_n 3 dX8_derive_0 rfl ?_
  refine g_callV (nc2 := 0) (ns2 := 0) (ci := 4) (As := []) (st := []) rfl dX8_derive_1 okX4_clear lX8_35 itX4_clear seX4_clear rfl (Classical.choose_spec (PA.o ho)) (by decide) (by decide) rfl (Nat.le_of_ble_eq_true rfl) (sQ_clear N _ (o) p hp hp2 ho) (by omega) (by omega) (fun v1 hc1 q1 => ?_)
  obtain ⟨rfl, frc2, rn2_0⟩ := q1
  have fk3_0 : hc1.2 (B + 4) = some (oB 8 [.ref (B + 1), .ref (B + 5)]) := Fr.at0 frc2 (Ni.c ⟨ne0, ne1⟩ (Ni.n _)) hw4
  have fk3_1 : hc1.2 (B + 1) = some (oB 1 [.int (gI ((p : Int)))]) := Fr.at0 frc2 (Ni.c ⟨ne2, ne3⟩ (Ni.n _)) hfl
  have fk3_2 : hc1.2 (a) = some (oB 4 [.ref (a + 1), .int (gI (dX hp F)), .int (gI (dY hp F))]) := Fr.at0 frc2 (Ni.c ⟨ne4, ne5⟩ (Ni.n _)) a1
  have fk3_3 : hc1.2 (a + 1) = some (aJ 287 (f)) := Fr.at0 frc2 (Ni.c ⟨ne6, ne7⟩ (Ni.n _)) a2
  have fr3 : Fr [o] h hc1 := ((Fr.rf [o] h)).tr ((frc2).mo (sub_c (List.Mem.head _) sub_n))
  refine Go.nf (h' := hc1) (st' := []) rfl rfl (Nat.le_refl _) (Nat.le_refl _) ?_
  refine g_iload_n 2 dX8_derive_4 rfl ?_
  refine g_if_eq (tgt := 12) dX8_derive_5 rfl (by unfold gW; omega) (fun c4 => absurd c4 (by omega)) (fun c4 => ?_)
  refine g_iconst dX8_derive_8 ?_
  refine g_goto (tgt := 14) dX8_derive_9 rfl ?_
  refine g_istore (ls2 := [(4, .int (gI (1))), (0, .ref (B + 4)), (1, .ref (a)), (2, .int (gI (1))), (3, .ref (o))]) dX8_derive_14 (by decide) rfl ?_
  refine g_iload_n 3 dX8_derive_16 rfl ?_
  refine g_if_eq (tgt := 24) dX8_derive_17 rfl (by unfold gW; omega) (fun c5 => absurd c5 (by omega)) (fun c5 => ?_)
  refine g_iconst dX8_derive_20 ?_
  refine g_goto (tgt := 25) dX8_derive_21 rfl ?_
  refine g_istore (ls2 := [(5, .int (gI (0))), (4, .int (gI (1))), (0, .ref (B + 4)), (1, .ref (a)), (2, .int (gI (1))), (3, .ref (o))]) dX8_derive_25 (by decide) rfl ?_
  obtain ⟨t, ⟨z1, z2, z3⟩, zN, zB⟩ := rn2_0
  have hz0 : ∀ k, 0 ≤ k → k < 287 → t k = 0 := fun k k0 k1 => by rw [show k = k / 41 * 41 + k % 41 by omega, zN _ _ (by omega) (by omega) (by omega) (by omega), zF_cy]
  have lj : ∀ (kk : Nat) (j : Int) (hlj : GH), kk = (7 - j).toNat → Fr [o] h hlj → hlj.2 (o) = some (oB 4 [.ref (o + 1), .int (gI (dX hp (zF hp))), .int (gI (dY hp (zF hp)))]) → hlj.2 (o + 1) = some (aJ 287 (dL p f t 1 (fun m => m % 41) (j * 41))) → (0 ≤ j) → (j ≤ 7) → Go N mX8_derive (fun v h1 => v = none ∧ Fr [o] h h1 ∧ PP hp h1 o (dvx hp F)) 0 0 hlj 27 [(5, .int (gI (j))), (4, .int (gI (1))), (0, .ref (B + 4)), (1, .ref (a)), (2, .int (gI (1))), (3, .ref (o))] [] := by
    refine Go.ind (fun kk ih_lj => ?_)
    intro j hlj hkk_lj fr_lj cf_lj_0 cf_lj_1 hj0 hj1
    have cg_lj_0 : hlj.2 (B + 4) = some (oB 8 [.ref (B + 1), .ref (B + 5)]) := Fr.at0 fr_lj (Ni.c ⟨ne0, ne1⟩ (Ni.n _)) hw4
    have cg_lj_1 : hlj.2 (B + 1) = some (oB 1 [.int (gI ((p : Int)))]) := Fr.at0 fr_lj (Ni.c ⟨ne2, ne3⟩ (Ni.n _)) hfl
    have cg_lj_2 : hlj.2 (a) = some (oB 4 [.ref (a + 1), .int (gI (dX hp F)), .int (gI (dY hp F))]) := Fr.at0 fr_lj (Ni.c ⟨ne4, ne5⟩ (Ni.n _)) a1
    have cg_lj_3 : hlj.2 (a + 1) = some (aJ 287 (f)) := Fr.at0 fr_lj (Ni.c ⟨ne6, ne7⟩ (Ni.n _)) a2
    refine g_iload 0 dX8_derive_27 rfl ?_
    refine g_bipush dX8_derive_29 (by decide) ?_
    refine g_icmp_gt (tgt := 111) dX8_derive_31 rfl (by unfold gW; omega) (by unfold gW; omega) (fun c106 => ?_) (fun c106 => ?_)
    · skip
      have hj7 : j = 7 := by omega
      refine g_aload_n 5 dX8_derive_111 rfl ?_
      refine g_callV (nc2 := 0) (ns2 := 0) (ci := 4) (As := []) (st := []) rfl dX8_derive_112 okX4_measure lX8_32 itX4_measure seX4_measure rfl cf_lj_0 (by decide) (by decide) rfl (Nat.le_of_ble_eq_true rfl) (sQ_measure N _ (o) p hp hp2 _ _ (dL p f t 1 (fun m => m % 41) (j * 41)) (dvx hp F) cf_lj_0 cf_lj_1 (by rw [hj7]; exact dL_NMx hp hN hB hz0) (dvx_PB hp hB)) (by omega) (by omega) (fun v107 hc107 q107 => ?_)
      obtain ⟨rfl, frc108, rn108⟩ := q107
      have fk109_0 : hc107.2 (B + 4) = some (oB 8 [.ref (B + 1), .ref (B + 5)]) := Fr.at0 frc108 (Ni.c ⟨ne0, ne1⟩ (Ni.n _)) cg_lj_0
      have fk109_1 : hc107.2 (B + 1) = some (oB 1 [.int (gI ((p : Int)))]) := Fr.at0 frc108 (Ni.c ⟨ne2, ne3⟩ (Ni.n _)) cg_lj_1
      have fk109_2 : hc107.2 (a) = some (oB 4 [.ref (a + 1), .int (gI (dX hp F)), .int (gI (dY hp F))]) := Fr.at0 frc108 (Ni.c ⟨ne4, ne5⟩ (Ni.n _)) cg_lj_2
      have fk109_3 : hc107.2 (a + 1) = some (aJ 287 (f)) := Fr.at0 frc108 (Ni.c ⟨ne6, ne7⟩ (Ni.n _)) cg_lj_3
      have fr109 : Fr [o] h hc107 := (fr_lj).tr ((frc108).mo (sub_c (List.Mem.head _) sub_n))
      refine Go.nf (h' := hc107) (st' := []) rfl rfl (Nat.le_refl _) (Nat.le_refl _) ?_
      exact g_vret dX8_derive_115 rfl ⟨rfl, fr109, rn108⟩
    · skip
      refine g_iload_n 4 dX8_derive_34 rfl ?_
      refine g_if_eq (tgt := 42) dX8_derive_35 rfl (by unfold gW; omega) (fun c110 => absurd c110 (by omega)) (fun c110 => ?_)
      refine g_iconst dX8_derive_38 ?_
      refine g_goto (tgt := 43) dX8_derive_39 rfl ?_
      refine g_istore (ls2 := [(6, .int (gI (1))), (5, .int (gI (j))), (4, .int (gI (1))), (0, .ref (B + 4)), (1, .ref (a)), (2, .int (gI (1))), (3, .ref (o))]) dX8_derive_43 (by decide) rfl ?_
      have li : ∀ (kk : Nat) (i : Int) (hli : GH), kk = (41 - i).toNat → Fr [o] h hli → hli.2 (o) = some (oB 4 [.ref (o + 1), .int (gI (dX hp (zF hp))), .int (gI (dY hp (zF hp)))]) → hli.2 (o + 1) = some (aJ 287 (dL p f t 1 (fun m => m % 41) (j * 41 + i))) → (1 ≤ i) → (i ≤ 41) → Go N mX8_derive (fun v h1 => v = none ∧ Fr [o] h h1 ∧ PP hp h1 o (dvx hp F)) 0 0 hli 45 [(6, .int (gI (i))), (5, .int (gI (j))), (4, .int (gI (1))), (0, .ref (B + 4)), (1, .ref (a)), (2, .int (gI (1))), (3, .ref (o))] [] := by
        refine Go.ind (fun kk ih_li => ?_)
        intro i hli hkk_li fr_li cf_li_0 cf_li_1 hi0 hi1
        have cg_li_0 : hli.2 (B + 4) = some (oB 8 [.ref (B + 1), .ref (B + 5)]) := Fr.at0 fr_li (Ni.c ⟨ne0, ne1⟩ (Ni.n _)) hw4
        have cg_li_1 : hli.2 (B + 1) = some (oB 1 [.int (gI ((p : Int)))]) := Fr.at0 fr_li (Ni.c ⟨ne2, ne3⟩ (Ni.n _)) hfl
        have cg_li_2 : hli.2 (a) = some (oB 4 [.ref (a + 1), .int (gI (dX hp F)), .int (gI (dY hp F))]) := Fr.at0 fr_li (Ni.c ⟨ne4, ne5⟩ (Ni.n _)) a1
        have cg_li_3 : hli.2 (a + 1) = some (aJ 287 (f)) := Fr.at0 fr_li (Ni.c ⟨ne6, ne7⟩ (Ni.n _)) a2
        refine g_iload 0 dX8_derive_45 rfl ?_
        refine g_bipush dX8_derive_47 (by decide) ?_
        refine g_icmp_gt (tgt := 105) dX8_derive_49 rfl (by unfold gW; omega) (by unfold gW; omega) (fun c211 => ?_) (fun c211 => ?_)
        · skip
          refine g_iinc 1 (ls2 := [(5, .int (gI (j + 1))), (6, .int (gI (i))), (4, .int (gI (1))), (0, .ref (B + 4)), (1, .ref (a)), (2, .int (gI (1))), (3, .ref (o))]) dX8_derive_105 rfl (by decide) rfl ?_
          refine g_goto (tgt := 27) dX8_derive_108 rfl ?_
          refine Go.sub [0, 2, 3, 4, 5, 6] rfl ?_
          exact ih_lj _ (by omega) (j + 1) hli rfl fr_li cf_li_0 (by rw [show (j + 1) * 41 = j * 41 + i by omega]; exact cf_li_1) (by omega) (by omega)
        · skip
          refine g_iload 1 dX8_derive_52 rfl ?_
          refine g_bipush dX8_derive_54 (by decide) ?_
          refine g_imul dX8_derive_56 ?_
          refine g_iload 0 dX8_derive_57 rfl ?_
          refine g_iadd dX8_derive_59 ?_
          refine g_istore (ls2 := [(7, .int (gI (((j) * (41)) + (i)))), (6, .int (gI (i))), (5, .int (gI (j))), (4, .int (gI (1))), (0, .ref (B + 4)), (1, .ref (a)), (2, .int (gI (1))), (3, .ref (o))]) dX8_derive_60 (by decide) rfl ?_
          refine g_aload_n 7 dX8_derive_62 rfl ?_
          refine g_getf 0 dX8_derive_63 kX4 (by decide) fX8_22 cf_li_0 rfl ?_
          refine g_iload 0 dX8_derive_66 rfl ?_
          refine g_iload 3 dX8_derive_68 rfl ?_
          refine g_isub dX8_derive_70 ?_
          refine g_aload_n 4 dX8_derive_71 rfl ?_
          refine g_getf 0 dX8_derive_72 kX8 (by decide) fX8_18 cg_li_0 rfl ?_
          refine g_aload_n 5 dX8_derive_75 rfl ?_
          refine g_getf 0 dX8_derive_76 kX4 (by decide) fX8_22 cg_li_2 rfl ?_
          refine g_iload 0 dX8_derive_79 rfl ?_
          refine g_laload dX8_derive_81 cg_li_3 (by omega) (by omega) (by omega) ?_
          refine g_iload_n 6 dX8_derive_82 rfl ?_
          refine g_if_eq (tgt := 91) dX8_derive_83 rfl (by unfold gW; omega) (fun c212 => absurd c212 (by omega)) (fun c212 => ?_)
          refine g_iload 1 dX8_derive_86 rfl ?_
          refine g_goto (tgt := 93) dX8_derive_88 rfl ?_
          refine g_i2l dX8_derive_93 (by unfold gW; omega) ?_
          have bk := hN.bd (h := hp) hp (k := j * 41 + i) (by omega) (by omega)
          have bp : 0 ≤ f (j * 41 + i) * i ∧ f (j * 41 + i) * i ≤ 65536 * 41 := ⟨Int.mul_nonneg bk.1 (by omega), Int.mul_le_mul (by omega) (by omega) (by omega) (by omega)⟩
          refine g_lmul dX8_derive_94 ?_
          refine g_callV (nc2 := 0) (ns2 := 0) (ci := 1) (As := [.long (gJ (((f) (((j) * (41)) + (i))) * (i)))]) (st := [.int (gI ((((j) * (41)) + (i)) - (1))), .ref (o + 1)]) rfl dX8_derive_95 okX1_mod lX8_26 itX1_mod seX1_mod rfl cg_li_1 (by decide) (by decide) rfl (Nat.le_of_ble_eq_true rfl) (sX1_mod N _ (B + 1) (p : Int) (((f) (((j) * (41)) + (i))) * (i)) (by unfold gX; omega) (by omega) (by omega) cg_li_1) (by omega) (by omega) (fun v213 hc213 q213 => ?_)
          obtain ⟨hq214, rfl⟩ := q213
          rw [gMod_em (show (0 : Int) < p by omega)]
          refine Go.nf (h' := hli) (st' := [.long (gJ ((((f) (((j) * (41)) + (i))) * (i)) % (p : Int))), .int (gI ((((j) * (41)) + (i)) - (1))), .ref (o + 1)]) hq214 rfl (Nat.le_refl _) (Nat.le_refl _) ?_
          refine g_lastore dX8_derive_98 cf_li_1 (by omega) (by omega) (by omega) ?_
          obtain ⟨hh215, eh215⟩ : ∃ z : GH, z = hset hli (o + 1) (aJ 287 (gup (dL p f t 1 (fun m => m % 41) (j * 41 + i)) ((((j) * (41)) + (i)) - (1)) ((((f) (((j) * (41)) + (i))) * (i)) % (p : Int)))) := ⟨_, rfl⟩
          refine Go.hp eh215.symm ?_
          have fh215_0 : hh215.2 (B + 4) = some (oB 8 [.ref (B + 1), .ref (B + 5)]) := hs_n eh215 ne1 cg_li_0
          have fh215_1 : hh215.2 (B + 1) = some (oB 1 [.int (gI ((p : Int)))]) := hs_n eh215 ne3 cg_li_1
          have fh215_2 : hh215.2 (a) = some (oB 4 [.ref (a + 1), .int (gI (dX hp F)), .int (gI (dY hp F))]) := hs_n eh215 ne5 cg_li_2
          have fh215_3 : hh215.2 (a + 1) = some (aJ 287 (f)) := hs_n eh215 ne7 cg_li_3
          have fh215_4 : hh215.2 (o) = some (oB 4 [.ref (o + 1), .int (gI (dX hp (zF hp))), .int (gI (dY hp (zF hp)))]) := hs_n eh215 ne8 cf_li_0
          have fh215_5 : hh215.2 (o + 1) = some (aJ 287 (gup (dL p f t 1 (fun m => m % 41) (j * 41 + i)) ((((j) * (41)) + (i)) - (1)) ((((f) (((j) * (41)) + (i))) * (i)) % (p : Int)))) := hs_s eh215
          have fr215 : Fr [o] h hh215 := Fr.w1 fr_li (List.Mem.head _) eh215
          refine g_iinc 1 (ls2 := [(6, .int (gI (i + 1))), (7, .int (gI (((j) * (41)) + (i)))), (5, .int (gI (j))), (4, .int (gI (1))), (0, .ref (B + 4)), (1, .ref (a)), (2, .int (gI (1))), (3, .ref (o))]) dX8_derive_99 rfl (by decide) rfl ?_
          refine g_goto (tgt := 45) dX8_derive_102 rfl ?_
          refine Go.sub [0, 2, 3, 4, 5, 6, 7] rfl ?_
          exact ih_li _ (by omega) (i + 1) hh215 rfl fr215 fh215_4 (by
        have e9 := dL_s (p := p) f t (fun m => m % 41) (show 1 ≤ j * 41 + i by omega)
        simp only [show (j * 41 + i) % 41 = i by omega] at e9
        rw [← Int.add_assoc, ← e9]; exact fh215_5) (by omega) (by omega)
      exact li _ (1) hlj rfl fr_lj cf_lj_0 (by rw [← dL_x f hz0 hj0 (by omega)]; exact cf_lj_1) (by omega) (by omega)
  exact lj _ (0) hc1 rfl fr3 z1 (by rw [Int.zero_mul, show dL p f t 1 (fun m => m % 41) 0 = t from funext fun m => by unfold dL; rw [if_neg (by omega)]]; exact z2) (by omega) (by omega)
set_option maxHeartbeats 4000000 in
set_option maxRecDepth 100000 in
theorem sW_deriveY (N : GN) (h : GH) (B a o p : Nat) (hp : prm p) (hp2 : p ≤ 65536) (F : Pxy p) (hw4 : h.2 (B + 4) = some (oB 8 [.ref (B + 1), .ref (B + 5)])) (hfl : h.2 (B + 1) = some (oB 1 [.int (gI ((p : Int)))])) (ha : PP hp h a F) (ho : PA h o) (aao : AP a o) (oo : B + 5 ≤ o) : Sp N yX8_derive mX8_derive 0 0 [.ref (B + 4), .ref (a), .int (gI (0)), .ref (o)] h (fun v h1 => v = none ∧ Fr [o] h h1 ∧ PP hp h1 o (dvy hp F)) := by
  refine Sp.of (by decide) rfl rfl (Nat.le_of_ble_eq_true rfl) ?_
  show Go N mX8_derive _ 0 0 h 0 [(0, .ref (B + 4)), (1, .ref (a)), (2, .int (gI (0))), (3, .ref (o))] []
  have hp1 := hp.1
  have ne0 : NE (B + 4) (o) := by unfold NE; omega
  have ne1 : NE (B + 4) (o + 1) := by unfold NE; omega
  have ne2 : NE (B + 1) (o) := by unfold NE; omega
  have ne3 : NE (B + 1) (o + 1) := by unfold NE; omega
  have ne4 : NE (a) (o) := aao.n00
  have ne5 : NE (a) (o + 1) := aao.n01
  have ne6 : NE (a + 1) (o) := aao.n10
  have ne7 : NE (a + 1) (o + 1) := aao.n11
  have ne8 : NE (o) (o + 1) := by unfold NE; omega
  obtain ⟨f, ⟨a1, a2, a3⟩, hN, hB⟩ := ha
  refine g_aload_n 3 dX8_derive_0 rfl ?_
  refine g_callV (nc2 := 0) (ns2 := 0) (ci := 4) (As := []) (st := []) rfl dX8_derive_1 okX4_clear lX8_35 itX4_clear seX4_clear rfl (Classical.choose_spec (PA.o ho)) (by decide) (by decide) rfl (Nat.le_of_ble_eq_true rfl) (sQ_clear N _ (o) p hp hp2 ho) (by omega) (by omega) (fun v1 hc1 q1 => ?_)
  obtain ⟨rfl, frc2, rn2_0⟩ := q1
  have fk3_0 : hc1.2 (B + 4) = some (oB 8 [.ref (B + 1), .ref (B + 5)]) := Fr.at0 frc2 (Ni.c ⟨ne0, ne1⟩ (Ni.n _)) hw4
  have fk3_1 : hc1.2 (B + 1) = some (oB 1 [.int (gI ((p : Int)))]) := Fr.at0 frc2 (Ni.c ⟨ne2, ne3⟩ (Ni.n _)) hfl
  have fk3_2 : hc1.2 (a) = some (oB 4 [.ref (a + 1), .int (gI (dX hp F)), .int (gI (dY hp F))]) := Fr.at0 frc2 (Ni.c ⟨ne4, ne5⟩ (Ni.n _)) a1
  have fk3_3 : hc1.2 (a + 1) = some (aJ 287 (f)) := Fr.at0 frc2 (Ni.c ⟨ne6, ne7⟩ (Ni.n _)) a2
  have fr3 : Fr [o] h hc1 := ((Fr.rf [o] h)).tr ((frc2).mo (sub_c (List.Mem.head _) sub_n))
  refine Go.nf (h' := hc1) (st' := []) rfl rfl (Nat.le_refl _) (Nat.le_refl _) ?_
  refine g_iload_n 2 dX8_derive_4 rfl ?_
  refine g_if_eq (tgt := 12) dX8_derive_5 rfl (by unfold gW; omega) (fun c4 => ?_) (fun c4 => absurd c4 (by omega))
  refine g_bipush dX8_derive_12 (by decide) ?_
  refine g_istore (ls2 := [(4, .int (gI (41))), (0, .ref (B + 4)), (1, .ref (a)), (2, .int (gI (0))), (3, .ref (o))]) dX8_derive_14 (by decide) rfl ?_
  refine g_iload_n 3 dX8_derive_16 rfl ?_
  refine g_if_eq (tgt := 24) dX8_derive_17 rfl (by unfold gW; omega) (fun c5 => ?_) (fun c5 => absurd c5 (by omega))
  refine g_iconst dX8_derive_24 ?_
  refine g_istore (ls2 := [(5, .int (gI (1))), (4, .int (gI (41))), (0, .ref (B + 4)), (1, .ref (a)), (2, .int (gI (0))), (3, .ref (o))]) dX8_derive_25 (by decide) rfl ?_
  obtain ⟨t, ⟨z1, z2, z3⟩, zN, zB⟩ := rn2_0
  have hz0 : ∀ k, 0 ≤ k → k < 287 → t k = 0 := fun k k0 k1 => by rw [show k = k / 41 * 41 + k % 41 by omega, zN _ _ (by omega) (by omega) (by omega) (by omega), zF_cy]
  have lj : ∀ (kk : Nat) (j : Int) (hlj : GH), kk = (7 - j).toNat → Fr [o] h hlj → hlj.2 (o) = some (oB 4 [.ref (o + 1), .int (gI (dX hp (zF hp))), .int (gI (dY hp (zF hp)))]) → hlj.2 (o + 1) = some (aJ 287 (dL p f t 41 (fun m => m / 41) (j * 41))) → (1 ≤ j) → (j ≤ 7) → Go N mX8_derive (fun v h1 => v = none ∧ Fr [o] h h1 ∧ PP hp h1 o (dvy hp F)) 0 0 hlj 27 [(5, .int (gI (j))), (4, .int (gI (41))), (0, .ref (B + 4)), (1, .ref (a)), (2, .int (gI (0))), (3, .ref (o))] [] := by
    refine Go.ind (fun kk ih_lj => ?_)
    intro j hlj hkk_lj fr_lj cf_lj_0 cf_lj_1 hj0 hj1
    have cg_lj_0 : hlj.2 (B + 4) = some (oB 8 [.ref (B + 1), .ref (B + 5)]) := Fr.at0 fr_lj (Ni.c ⟨ne0, ne1⟩ (Ni.n _)) hw4
    have cg_lj_1 : hlj.2 (B + 1) = some (oB 1 [.int (gI ((p : Int)))]) := Fr.at0 fr_lj (Ni.c ⟨ne2, ne3⟩ (Ni.n _)) hfl
    have cg_lj_2 : hlj.2 (a) = some (oB 4 [.ref (a + 1), .int (gI (dX hp F)), .int (gI (dY hp F))]) := Fr.at0 fr_lj (Ni.c ⟨ne4, ne5⟩ (Ni.n _)) a1
    have cg_lj_3 : hlj.2 (a + 1) = some (aJ 287 (f)) := Fr.at0 fr_lj (Ni.c ⟨ne6, ne7⟩ (Ni.n _)) a2
    refine g_iload 0 dX8_derive_27 rfl ?_
    refine g_bipush dX8_derive_29 (by decide) ?_
    refine g_icmp_gt (tgt := 111) dX8_derive_31 rfl (by unfold gW; omega) (by unfold gW; omega) (fun c106 => ?_) (fun c106 => ?_)
    · skip
      have hj7 : j = 7 := by omega
      refine g_aload_n 5 dX8_derive_111 rfl ?_
      refine g_callV (nc2 := 0) (ns2 := 0) (ci := 4) (As := []) (st := []) rfl dX8_derive_112 okX4_measure lX8_32 itX4_measure seX4_measure rfl cf_lj_0 (by decide) (by decide) rfl (Nat.le_of_ble_eq_true rfl) (sQ_measure N _ (o) p hp hp2 _ _ (dL p f t 41 (fun m => m / 41) (j * 41)) (dvy hp F) cf_lj_0 cf_lj_1 (by rw [hj7]; exact dL_NMy hp hN hB hz0) (dvy_PB hp hB)) (by omega) (by omega) (fun v107 hc107 q107 => ?_)
      obtain ⟨rfl, frc108, rn108⟩ := q107
      have fk109_0 : hc107.2 (B + 4) = some (oB 8 [.ref (B + 1), .ref (B + 5)]) := Fr.at0 frc108 (Ni.c ⟨ne0, ne1⟩ (Ni.n _)) cg_lj_0
      have fk109_1 : hc107.2 (B + 1) = some (oB 1 [.int (gI ((p : Int)))]) := Fr.at0 frc108 (Ni.c ⟨ne2, ne3⟩ (Ni.n _)) cg_lj_1
      have fk109_2 : hc107.2 (a) = some (oB 4 [.ref (a + 1), .int (gI (dX hp F)), .int (gI (dY hp F))]) := Fr.at0 frc108 (Ni.c ⟨ne4, ne5⟩ (Ni.n _)) cg_lj_2
      have fk109_3 : hc107.2 (a + 1) = some (aJ 287 (f)) := Fr.at0 frc108 (Ni.c ⟨ne6, ne7⟩ (Ni.n _)) cg_lj_3
      have fr109 : Fr [o] h hc107 := (fr_lj).tr ((frc108).mo (sub_c (List.Mem.head _) sub_n))
      refine Go.nf (h' := hc107) (st' := []) rfl rfl (Nat.le_refl _) (Nat.le_refl _) ?_
      exact g_vret dX8_derive_115 rfl ⟨rfl, fr109, rn108⟩
    · skip
      refine g_iload_n 4 dX8_derive_34 rfl ?_
      refine g_if_eq (tgt := 42) dX8_derive_35 rfl (by unfold gW; omega) (fun c110 => ?_) (fun c110 => absurd c110 (by omega))
      refine g_iconst dX8_derive_42 ?_
      refine g_istore (ls2 := [(6, .int (gI (0))), (5, .int (gI (j))), (4, .int (gI (41))), (0, .ref (B + 4)), (1, .ref (a)), (2, .int (gI (0))), (3, .ref (o))]) dX8_derive_43 (by decide) rfl ?_
      have li : ∀ (kk : Nat) (i : Int) (hli : GH), kk = (41 - i).toNat → Fr [o] h hli → hli.2 (o) = some (oB 4 [.ref (o + 1), .int (gI (dX hp (zF hp))), .int (gI (dY hp (zF hp)))]) → hli.2 (o + 1) = some (aJ 287 (dL p f t 41 (fun m => m / 41) (j * 41 + i))) → (0 ≤ i) → (i ≤ 41) → Go N mX8_derive (fun v h1 => v = none ∧ Fr [o] h h1 ∧ PP hp h1 o (dvy hp F)) 0 0 hli 45 [(6, .int (gI (i))), (5, .int (gI (j))), (4, .int (gI (41))), (0, .ref (B + 4)), (1, .ref (a)), (2, .int (gI (0))), (3, .ref (o))] [] := by
        refine Go.ind (fun kk ih_li => ?_)
        intro i hli hkk_li fr_li cf_li_0 cf_li_1 hi0 hi1
        have cg_li_0 : hli.2 (B + 4) = some (oB 8 [.ref (B + 1), .ref (B + 5)]) := Fr.at0 fr_li (Ni.c ⟨ne0, ne1⟩ (Ni.n _)) hw4
        have cg_li_1 : hli.2 (B + 1) = some (oB 1 [.int (gI ((p : Int)))]) := Fr.at0 fr_li (Ni.c ⟨ne2, ne3⟩ (Ni.n _)) hfl
        have cg_li_2 : hli.2 (a) = some (oB 4 [.ref (a + 1), .int (gI (dX hp F)), .int (gI (dY hp F))]) := Fr.at0 fr_li (Ni.c ⟨ne4, ne5⟩ (Ni.n _)) a1
        have cg_li_3 : hli.2 (a + 1) = some (aJ 287 (f)) := Fr.at0 fr_li (Ni.c ⟨ne6, ne7⟩ (Ni.n _)) a2
        refine g_iload 0 dX8_derive_45 rfl ?_
        refine g_bipush dX8_derive_47 (by decide) ?_
        refine g_icmp_gt (tgt := 105) dX8_derive_49 rfl (by unfold gW; omega) (by unfold gW; omega) (fun c211 => ?_) (fun c211 => ?_)
        · skip
          refine g_iinc 1 (ls2 := [(5, .int (gI (j + 1))), (6, .int (gI (i))), (4, .int (gI (41))), (0, .ref (B + 4)), (1, .ref (a)), (2, .int (gI (0))), (3, .ref (o))]) dX8_derive_105 rfl (by decide) rfl ?_
          refine g_goto (tgt := 27) dX8_derive_108 rfl ?_
          refine Go.sub [0, 2, 3, 4, 5, 6] rfl ?_
          exact ih_lj _ (by omega) (j + 1) hli rfl fr_li cf_li_0 (by rw [show (j + 1) * 41 = j * 41 + i by omega]; exact cf_li_1) (by omega) (by omega)
        · skip
          refine g_iload 1 dX8_derive_52 rfl ?_
          refine g_bipush dX8_derive_54 (by decide) ?_
          refine g_imul dX8_derive_56 ?_
          refine g_iload 0 dX8_derive_57 rfl ?_
          refine g_iadd dX8_derive_59 ?_
          refine g_istore (ls2 := [(7, .int (gI (((j) * (41)) + (i)))), (6, .int (gI (i))), (5, .int (gI (j))), (4, .int (gI (41))), (0, .ref (B + 4)), (1, .ref (a)), (2, .int (gI (0))), (3, .ref (o))]) dX8_derive_60 (by decide) rfl ?_
          refine g_aload_n 7 dX8_derive_62 rfl ?_
          refine g_getf 0 dX8_derive_63 kX4 (by decide) fX8_22 cf_li_0 rfl ?_
          refine g_iload 0 dX8_derive_66 rfl ?_
          refine g_iload 3 dX8_derive_68 rfl ?_
          refine g_isub dX8_derive_70 ?_
          refine g_aload_n 4 dX8_derive_71 rfl ?_
          refine g_getf 0 dX8_derive_72 kX8 (by decide) fX8_18 cg_li_0 rfl ?_
          refine g_aload_n 5 dX8_derive_75 rfl ?_
          refine g_getf 0 dX8_derive_76 kX4 (by decide) fX8_22 cg_li_2 rfl ?_
          refine g_iload 0 dX8_derive_79 rfl ?_
          refine g_laload dX8_derive_81 cg_li_3 (by omega) (by omega) (by omega) ?_
          refine g_iload_n 6 dX8_derive_82 rfl ?_
          refine g_if_eq (tgt := 91) dX8_derive_83 rfl (by unfold gW; omega) (fun c212 => ?_) (fun c212 => absurd c212 (by omega))
          refine g_iload 2 dX8_derive_91 rfl ?_
          refine g_i2l dX8_derive_93 (by unfold gW; omega) ?_
          have bk := hN.bd (h := hp) hp (k := j * 41 + i) (by omega) (by omega)
          have bp : 0 ≤ f (j * 41 + i) * j ∧ f (j * 41 + i) * j ≤ 65536 * 41 := ⟨Int.mul_nonneg bk.1 (by omega), Int.mul_le_mul (by omega) (by omega) (by omega) (by omega)⟩
          refine g_lmul dX8_derive_94 ?_
          refine g_callV (nc2 := 0) (ns2 := 0) (ci := 1) (As := [.long (gJ (((f) (((j) * (41)) + (i))) * (j)))]) (st := [.int (gI ((((j) * (41)) + (i)) - (41))), .ref (o + 1)]) rfl dX8_derive_95 okX1_mod lX8_26 itX1_mod seX1_mod rfl cg_li_1 (by decide) (by decide) rfl (Nat.le_of_ble_eq_true rfl) (sX1_mod N _ (B + 1) (p : Int) (((f) (((j) * (41)) + (i))) * (j)) (by unfold gX; omega) (by omega) (by omega) cg_li_1) (by omega) (by omega) (fun v213 hc213 q213 => ?_)
          obtain ⟨hq214, rfl⟩ := q213
          rw [gMod_em (show (0 : Int) < p by omega)]
          refine Go.nf (h' := hli) (st' := [.long (gJ ((((f) (((j) * (41)) + (i))) * (j)) % (p : Int))), .int (gI ((((j) * (41)) + (i)) - (41))), .ref (o + 1)]) hq214 rfl (Nat.le_refl _) (Nat.le_refl _) ?_
          refine g_lastore dX8_derive_98 cf_li_1 (by omega) (by omega) (by omega) ?_
          obtain ⟨hh215, eh215⟩ : ∃ z : GH, z = hset hli (o + 1) (aJ 287 (gup (dL p f t 41 (fun m => m / 41) (j * 41 + i)) ((((j) * (41)) + (i)) - (41)) ((((f) (((j) * (41)) + (i))) * (j)) % (p : Int)))) := ⟨_, rfl⟩
          refine Go.hp eh215.symm ?_
          have fh215_0 : hh215.2 (B + 4) = some (oB 8 [.ref (B + 1), .ref (B + 5)]) := hs_n eh215 ne1 cg_li_0
          have fh215_1 : hh215.2 (B + 1) = some (oB 1 [.int (gI ((p : Int)))]) := hs_n eh215 ne3 cg_li_1
          have fh215_2 : hh215.2 (a) = some (oB 4 [.ref (a + 1), .int (gI (dX hp F)), .int (gI (dY hp F))]) := hs_n eh215 ne5 cg_li_2
          have fh215_3 : hh215.2 (a + 1) = some (aJ 287 (f)) := hs_n eh215 ne7 cg_li_3
          have fh215_4 : hh215.2 (o) = some (oB 4 [.ref (o + 1), .int (gI (dX hp (zF hp))), .int (gI (dY hp (zF hp)))]) := hs_n eh215 ne8 cf_li_0
          have fh215_5 : hh215.2 (o + 1) = some (aJ 287 (gup (dL p f t 41 (fun m => m / 41) (j * 41 + i)) ((((j) * (41)) + (i)) - (41)) ((((f) (((j) * (41)) + (i))) * (j)) % (p : Int)))) := hs_s eh215
          have fr215 : Fr [o] h hh215 := Fr.w1 fr_li (List.Mem.head _) eh215
          refine g_iinc 1 (ls2 := [(6, .int (gI (i + 1))), (7, .int (gI (((j) * (41)) + (i)))), (5, .int (gI (j))), (4, .int (gI (41))), (0, .ref (B + 4)), (1, .ref (a)), (2, .int (gI (0))), (3, .ref (o))]) dX8_derive_99 rfl (by decide) rfl ?_
          refine g_goto (tgt := 45) dX8_derive_102 rfl ?_
          refine Go.sub [0, 2, 3, 4, 5, 6, 7] rfl ?_
          exact ih_li _ (by omega) (i + 1) hh215 rfl fr215 fh215_4 (by
        have e9 := dL_s (p := p) f t (fun m => m / 41) (show 41 ≤ j * 41 + i by omega)
        simp only [show (j * 41 + i) / 41 = j by omega] at e9
        rw [← Int.add_assoc, ← e9]; exact fh215_5) (by omega) (by omega)
      exact li _ (0) hlj rfl fr_lj cf_lj_0 (by rw [Int.add_zero]; exact cf_lj_1) (by omega) (by omega)
  exact lj _ (1) hc1 rfl fr3 z1 (by rw [show (1 : Int) * 41 = 41 from rfl, dL_0]; exact z2) (by omega) (by omega)
set_option maxHeartbeats 4000000 in
set_option maxRecDepth 100000 in
theorem sW_valueAt (N : GN) (h : GH) (B a p : Nat) (hp : prm p) (hp2 : p ≤ 65536) (F : Pxy p) (x y : Int) (x0 : 0 ≤ x) (x1 : x < p) (y0 : 0 ≤ y) (y1 : y < p) (hw4 : h.2 (B + 4) = some (oB 8 [.ref (B + 1), .ref (B + 5)])) (hfl : h.2 (B + 1) = some (oB 1 [.int (gI ((p : Int)))])) (ha : PP hp h a F) : Sp N yX8_valueAt mX8_valueAt 0 0 [.ref (B + 4), .ref (a), .long (gJ (x)), .long (gJ (y))] h (fun v h1 => h1 = h ∧ v = some (.long (gJ (fv (val hp F (zi hp x) (zi hp y)))))) := by
  refine Sp.of (by decide) rfl rfl (Nat.le_of_ble_eq_true rfl) ?_
  show Go N mX8_valueAt _ 0 0 h 0 [(0, .ref (B + 4)), (1, .ref (a)), (2, .long (gJ (x))), (4, .long (gJ (y)))] []
  have hp1 := hp.1
  have dga := ha.dg
  obtain ⟨f, ⟨a1, a2, a3⟩, hN, hB⟩ := ha
  refine g_lconst0 dX8_valueAt_0 ?_
  refine g_lstore (ls2 := [(6, .long (gJ (0))), (0, .ref (B + 4)), (1, .ref (a)), (2, .long (gJ (x))), (4, .long (gJ (y)))]) dX8_valueAt_1 (by decide) rfl ?_
  refine g_aload_n 2 dX8_valueAt_3 rfl ?_
  refine g_getf 2 dX8_valueAt_4 kX4 (by decide) fX8_42 a1 rfl ?_
  refine g_istore (ls2 := [(8, .int (gI (dY hp F))), (6, .long (gJ (0))), (0, .ref (B + 4)), (1, .ref (a)), (2, .long (gJ (x))), (4, .long (gJ (y)))]) dX8_valueAt_7 (by decide) rfl ?_
  have lj : ∀ (kk : Nat) (j : Int) (t : Int) (hlj : GH), kk = (j + 1).toNat → Fr [] h hlj → (-1 ≤ j ∧ j ≤ dY hp F) → (t = fv (hr hp (fun j => hr hp (F j) (zi hp x) 41 0) (zi hp y) 7 (j + 1).toNat)) → Go N mX8_valueAt (fun v h1 => h1 = h ∧ v = some (.long (gJ (fv (val hp F (zi hp x) (zi hp y)))))) 0 0 hlj 9 [(8, .int (gI (j))), (6, .long (gJ (t))), (0, .ref (B + 4)), (1, .ref (a)), (2, .long (gJ (x))), (4, .long (gJ (y)))] [] := by
    refine Go.ind (fun kk ih_lj => ?_)
    intro j t hlj hkk_lj fr_lj hj ht
    have cg_lj_0 : hlj.2 (B + 4) = some (oB 8 [.ref (B + 1), .ref (B + 5)]) := Fr.at0 fr_lj (Ni.n _) hw4
    have cg_lj_1 : hlj.2 (B + 1) = some (oB 1 [.int (gI ((p : Int)))]) := Fr.at0 fr_lj (Ni.n _) hfl
    have cg_lj_2 : hlj.2 (a) = some (oB 4 [.ref (a + 1), .int (gI (dX hp F)), .int (gI (dY hp F))]) := Fr.at0 fr_lj (Ni.n _) a1
    have cg_lj_3 : hlj.2 (a + 1) = some (aJ 287 (f)) := Fr.at0 fr_lj (Ni.n _) a2
    have htb : 0 ≤ t ∧ t < p := by rw [ht]; have := fv_lt (hr hp (fun j => hr hp (F j) (zi hp x) 41 0) (zi hp y) 7 (j + 1).toNat); omega
    refine g_iload 0 dX8_valueAt_9 rfl ?_
    refine g_if_lt (tgt := 84) dX8_valueAt_11 rfl (by unfold gW; omega) (fun c101 => ?_) (fun c101 => ?_)
    · skip
      refine g_lload 1 dX8_valueAt_84 rfl ?_
      exact g_lret dX8_valueAt_86 rfl ⟨Fr.e0 fr_lj, by
      have hj1 : j = -1 := by omega
      rw [ht, hj1]
      have e9 : hr hp (fun j => hr hp (F j) (zi hp x) 41 0) (zi hp y) 7 ((-1 : Int) + 1).toNat = val hp F (zi hp x) (zi hp y) := by
        rw [show ((-1 : Int) + 1).toNat = 0 from rfl, hr_0]
        unfold val
        exact sm_congr (fR hp) (fun j _ => by rw [hr_0])
      rw [e9]⟩
    · skip
      refine g_lconst0 dX8_valueAt_14 ?_
      refine g_lstore (ls2 := [(9, .long (gJ (0))), (8, .int (gI (j))), (6, .long (gJ (t))), (0, .ref (B + 4)), (1, .ref (a)), (2, .long (gJ (x))), (4, .long (gJ (y)))]) dX8_valueAt_15 (by decide) rfl ?_
      refine g_aload_n 4 dX8_valueAt_17 rfl ?_
      refine g_getf 1 dX8_valueAt_18 kX4 (by decide) fX8_38 cg_lj_2 rfl ?_
      refine g_istore (ls2 := [(11, .int (gI (dX hp F))), (9, .long (gJ (0))), (8, .int (gI (j))), (6, .long (gJ (t))), (0, .ref (B + 4)), (1, .ref (a)), (2, .long (gJ (x))), (4, .long (gJ (y)))]) dX8_valueAt_21 (by decide) rfl ?_
      have li : ∀ (kk : Nat) (i : Int) (w : Int) (hli : GH), kk = (i + 1).toNat → Fr [] h hli → (-1 ≤ i ∧ i ≤ dX hp F) → (w = fv (hr hp (F j.toNat) (zi hp x) 41 (i + 1).toNat)) → Go N mX8_valueAt (fun v h1 => h1 = h ∧ v = some (.long (gJ (fv (val hp F (zi hp x) (zi hp y)))))) 0 0 hli 23 [(11, .int (gI (i))), (9, .long (gJ (w))), (8, .int (gI (j))), (6, .long (gJ (t))), (0, .ref (B + 4)), (1, .ref (a)), (2, .long (gJ (x))), (4, .long (gJ (y)))] [] := by
        refine Go.ind (fun kk ih_li => ?_)
        intro i w hli hkk_li fr_li hi hr_
        have cg_li_0 : hli.2 (B + 4) = some (oB 8 [.ref (B + 1), .ref (B + 5)]) := Fr.at0 fr_li (Ni.n _) hw4
        have cg_li_1 : hli.2 (B + 1) = some (oB 1 [.int (gI ((p : Int)))]) := Fr.at0 fr_li (Ni.n _) hfl
        have cg_li_2 : hli.2 (a) = some (oB 4 [.ref (a + 1), .int (gI (dX hp F)), .int (gI (dY hp F))]) := Fr.at0 fr_li (Ni.n _) a1
        have cg_li_3 : hli.2 (a + 1) = some (aJ 287 (f)) := Fr.at0 fr_li (Ni.n _) a2
        have hwb : 0 ≤ w ∧ w < p := by rw [hr_]; have := fv_lt (hr hp (F j.toNat) (zi hp x) 41 (i + 1).toNat); omega
        have bp := g_prod hwb.1 hwb.2 x0 x1 (show (p : Int) ≤ 65536 by omega)
        refine g_iload 0 dX8_valueAt_23 rfl ?_
        refine g_if_lt (tgt := 61) dX8_valueAt_25 rfl (by unfold gW; omega) (fun c202 => ?_) (fun c202 => ?_)
        · skip
          refine g_aload_n 4 dX8_valueAt_61 rfl ?_
          refine g_getf 0 dX8_valueAt_62 kX8 (by decide) fX8_18 cg_li_0 rfl ?_
          refine g_lload 3 dX8_valueAt_65 rfl ?_
          refine g_lload 7 dX8_valueAt_67 rfl ?_
          refine g_lmul dX8_valueAt_69 ?_
          refine g_lload 1 dX8_valueAt_70 rfl ?_
          refine g_ladd dX8_valueAt_72 ?_
          have bq := g_prod htb.1 htb.2 y0 y1 (show (p : Int) ≤ 65536 by omega)
          refine g_callV (nc2 := 0) (ns2 := 0) (ci := 1) (As := [.long (gJ (((t) * (y)) + (w)))]) (st := []) rfl dX8_valueAt_73 okX1_mod lX8_26 itX1_mod seX1_mod rfl cg_li_1 (by decide) (by decide) rfl (Nat.le_of_ble_eq_true rfl) (sX1_mod N _ (B + 1) (p : Int) (((t) * (y)) + (w)) (by unfold gX; omega) (by omega) (by omega) cg_li_1) (by omega) (by omega) (fun v203 hc203 q203 => ?_)
          obtain ⟨hq204, rfl⟩ := q203
          rw [gMod_em (show (0 : Int) < p by omega)]
          refine Go.nf (h' := hli) (st' := [.long (gJ ((((t) * (y)) + (w)) % (p : Int)))]) hq204 rfl (Nat.le_refl _) (Nat.le_refl _) ?_
          refine g_lstore (ls2 := [(6, .long (gJ ((((t) * (y)) + (w)) % (p : Int)))), (11, .int (gI (i))), (9, .long (gJ (w))), (8, .int (gI (j))), (0, .ref (B + 4)), (1, .ref (a)), (2, .long (gJ (x))), (4, .long (gJ (y)))]) dX8_valueAt_76 (by decide) rfl ?_
          refine g_iinc 3 (ls2 := [(8, .int (gI (j + (-1)))), (6, .long (gJ ((((t) * (y)) + (w)) % (p : Int)))), (11, .int (gI (i))), (9, .long (gJ (w))), (0, .ref (B + 4)), (1, .ref (a)), (2, .long (gJ (x))), (4, .long (gJ (y)))]) dX8_valueAt_78 rfl (by decide) rfl ?_
          refine g_goto (tgt := 9) dX8_valueAt_81 rfl ?_
          refine Go.sub [0, 1, 4, 5, 6, 7] rfl ?_
          exact ih_lj _ (by omega) (j + (-1)) ((((t) * (y)) + (w)) % (p : Int)) hli rfl fr_li (by omega) (by
        have hi1 : i = -1 := by omega
        rw [hi1] at hr_
        rw [ht, hr_, fv_st, show (j + (-1) + 1).toNat = j.toNat by omega, hr_s hp _ _ (show j.toNat < 7 by omega), zi_of, show j.toNat + 1 = (j + 1).toNat by omega]
        rfl)
        · skip
          refine g_aload_n 4 dX8_valueAt_28 rfl ?_
          refine g_getf 0 dX8_valueAt_29 kX8 (by decide) fX8_18 cg_li_0 rfl ?_
          refine g_lload 1 dX8_valueAt_32 rfl ?_
          refine g_lload_n 6 dX8_valueAt_34 rfl ?_
          refine g_lmul dX8_valueAt_35 ?_
          refine g_aload_n 5 dX8_valueAt_36 rfl ?_
          refine g_getf 0 dX8_valueAt_37 kX4 (by decide) fX8_22 cg_li_2 rfl ?_
          refine g_iload 2 dX8_valueAt_40 rfl ?_
          refine g_bipush dX8_valueAt_42 (by decide) ?_
          refine g_imul dX8_valueAt_44 ?_
          refine g_iload 0 dX8_valueAt_45 rfl ?_
          refine g_iadd dX8_valueAt_47 ?_
          refine g_laload dX8_valueAt_48 cg_li_3 (by omega) (by omega) (by omega) ?_
          have bk := hN.bd (h := hp) hp (k := j * 41 + i) (by omega) (by omega)
          refine g_ladd dX8_valueAt_49 ?_
          refine g_callV (nc2 := 0) (ns2 := 0) (ci := 1) (As := [.long (gJ (((w) * (x)) + ((f) (((j) * (41)) + (i)))))]) (st := []) rfl dX8_valueAt_50 okX1_mod lX8_26 itX1_mod seX1_mod rfl cg_li_1 (by decide) (by decide) rfl (Nat.le_of_ble_eq_true rfl) (sX1_mod N _ (B + 1) (p : Int) (((w) * (x)) + ((f) (((j) * (41)) + (i)))) (by unfold gX; omega) (by omega) (by omega) cg_li_1) (by omega) (by omega) (fun v205 hc205 q205 => ?_)
          obtain ⟨hq206, rfl⟩ := q205
          rw [gMod_em (show (0 : Int) < p by omega)]
          refine Go.nf (h' := hli) (st' := [.long (gJ ((((w) * (x)) + ((f) (((j) * (41)) + (i)))) % (p : Int)))]) hq206 rfl (Nat.le_refl _) (Nat.le_refl _) ?_
          refine g_lstore (ls2 := [(9, .long (gJ ((((w) * (x)) + ((f) (((j) * (41)) + (i)))) % (p : Int)))), (11, .int (gI (i))), (8, .int (gI (j))), (6, .long (gJ (t))), (0, .ref (B + 4)), (1, .ref (a)), (2, .long (gJ (x))), (4, .long (gJ (y)))]) dX8_valueAt_53 (by decide) rfl ?_
          refine g_iinc 1 (ls2 := [(11, .int (gI (i + (-1)))), (9, .long (gJ ((((w) * (x)) + ((f) (((j) * (41)) + (i)))) % (p : Int)))), (8, .int (gI (j))), (6, .long (gJ (t))), (0, .ref (B + 4)), (1, .ref (a)), (2, .long (gJ (x))), (4, .long (gJ (y)))]) dX8_valueAt_55 rfl (by decide) rfl ?_
          refine g_goto (tgt := 23) dX8_valueAt_58 rfl ?_
          exact ih_li _ (by omega) (i + (-1)) ((((w) * (x)) + ((f) (((j) * (41)) + (i)))) % (p : Int)) hli rfl fr_li (by omega) (by
        rw [hr_, fv_st, show (i + (-1) + 1).toNat = i.toNat by omega, hr_s hp _ _ (show i.toNat < 41 by omega), hN j i (by omega) (by omega) (by omega) (by omega), show i.toNat + 1 = (i + 1).toNat by omega]
        have e9 := cy_zi hp F j.toNat i.toNat
        rw [show ((j.toNat : Nat) : Int) = j by omega, show ((i.toNat : Nat) : Int) = i by omega] at e9
        rw [e9])
      exact li _ (dX hp F) (0) hlj rfl fr_lj (by omega) (by
        rw [hr_z hp (zi hp x) (fun i hi => by
          letI := fR hp
          by_cases z : F j.toNat i = 0
          · exact z
          · have := hB.dg.1.1 _ _ z
            omega), f_zero hp])
  exact lj _ (dY hp F) (0) h rfl (Fr.rf [] h) (by omega) (by
        rw [hr_z hp (zi hp y) (fun j hj => hr_z hp (zi hp x) (fun i hi => by
          letI := fR hp
          by_cases z : F j i = 0
          · exact z
          · have := hB.dg.2.1.1 _ _ z
            omega)), f_zero hp])
