set_option maxHeartbeats 4000000 in
set_option maxRecDepth 100000 in
theorem sC_wholeAct0 (N : GN) (h : GH) (B p : Nat) (hp : prm p) (hp2 : p ≤ 65536) (fa sy : Value) (qa qb : Nat) (F G : Pxy p) (hob : h.2 B = some (cO B fa sy)) (hw4 : h.2 (B + 4) = some (oB 8 [.ref (B + 1), .ref (B + 5)])) (hfl : h.2 (B + 1) = some (oB 1 [.int (gI ((p : Int)))])) (h5 : PA h (B + 5)) (h27 : PA h (B + 27)) (la : B + 58 ≤ qa) (lb : B + 58 ≤ qb) (pa : PP hp h qa F) (pb : PP hp h qb G) : Sp N yX9_wholeAct mX9_wholeAct 0 0 [.ref (B), .int (gI (0)), .ref (qa), .ref (qb)] h (fun v h1 => Fr [B + 27, B + 5] h h1 ∧ PA h1 (B + 5) ∧ ((∃ H, rac hp 0 F G = .inr H ∧ v = some (.int (gI 1)) ∧ PP hp h1 (B + 27) H) ∨ (rac hp 0 F G = .inl (-4) ∧ v = some (.int (gI 0)) ∧ PA h1 (B + 27)))) := by
  refine Sp.of (by decide) rfl rfl (Nat.le_of_ble_eq_true rfl) ?_
  show Go N mX9_wholeAct _ 0 0 h 0 [(0, .ref (B)), (1, .int (gI (0))), (2, .ref (qa)), (3, .ref (qb))] []
  have hp1 := hp.1
  refine g_iload_n 1 dX9_wholeAct_0 rfl ?_
  refine g_tabIn (tgt := 40) dX9_wholeAct_1 (by unfold gW; omega) (by omega) (by omega) rfl rfl ?_
  refine g_aload_n 0 dX9_wholeAct_40 rfl ?_
  refine g_getf 3 dX9_wholeAct_41 kX9 (by decide) fX9_31 hob rfl ?_
  refine g_aload_n 2 dX9_wholeAct_44 rfl ?_
  refine g_aload_n 3 dX9_wholeAct_45 rfl ?_
  refine g_iconst dX9_wholeAct_46 ?_
  refine g_aload_n 0 dX9_wholeAct_47 rfl ?_
  refine g_getf 6 dX9_wholeAct_48 kX9 (by decide) fX9_50 hob rfl ?_
  refine g_callV (nc2 := 0) (ns2 := 0) (ci := 8) (As := [.ref (qa), .ref (qb), .int (gI (1)), .ref (B + 27)]) (st := []) rfl dX9_wholeAct_51 okX8_combine lX9_220 itX8_combine seX8_combine rfl hw4 (by decide) (by decide) rfl (Nat.le_of_ble_eq_true rfl) (sW_combine N _ B (qa) (qb) (B + 27) p hp hp2 (F) (G) (1) (by omega) hw4 hfl pa pb h27 (show AP (qa) (B + 27) by unfold AP; omega) (show AP (qb) (B + 27) by unfold AP; omega) (by omega)) (by omega) (by omega) (fun v1 hc1 q1 => ?_)
  obtain ⟨rfl, frc2, rn2_0⟩ := q1
  have fk3_0 : hc1.2 (B) = some (cO B (fa) (sy)) := Fr.at0 frc2 (Ni.c ⟨(show NE (B) (B + 27) by unfold NE; omega), (show NE (B) (B + 28) by unfold NE; omega)⟩ (Ni.n _)) hob
  have fk3_1 : hc1.2 (B + 4) = some (oB 8 [.ref (B + 1), .ref (B + 5)]) := Fr.at0 frc2 (Ni.c ⟨(show NE (B + 4) (B + 27) by unfold NE; omega), (show NE (B + 4) (B + 28) by unfold NE; omega)⟩ (Ni.n _)) hw4
  have fk3_2 : hc1.2 (B + 1) = some (oB 1 [.int (gI ((p : Int)))]) := Fr.at0 frc2 (Ni.c ⟨(show NE (B + 1) (B + 27) by unfold NE; omega), (show NE (B + 1) (B + 28) by unfold NE; omega)⟩ (Ni.n _)) hfl
  have rk5003_0 : PA hc1 (B + 5) := (h5).fr frc2 (Ai.c (show AP (B + 5) (B + 27) by unfold AP; omega) (Ai.n _))
  have rk5003_2 : PP hp hc1 (qa) (F) := (pa).fr frc2 (Ai.c (show AP (qa) (B + 27) by unfold AP; omega) (Ai.n _))
  have rk5003_3 : PP hp hc1 (qb) (G) := (pb).fr frc2 (Ai.c (show AP (qb) (B + 27) by unfold AP; omega) (Ai.n _))
  have fr3 : Fr [B + 27, B + 5] h hc1 := ((Fr.rf [B + 27, B + 5] h)).tr ((frc2).mo (sub_c (List.Mem.head _) sub_n))
  refine Go.nf (h' := hc1) (st' := []) rfl rfl (Nat.le_refl _) (Nat.le_refl _) ?_
  refine g_iconst dX9_wholeAct_54 ?_
  exact g_zret dX9_wholeAct_55 rfl (by omega) ⟨fr3, rk5003_0, Or.inl ⟨cmb hp (1) (F) (G), rfl, rfl, rn2_0⟩⟩
set_option maxHeartbeats 4000000 in
set_option maxRecDepth 100000 in
theorem sC_wholeAct1 (N : GN) (h : GH) (B p : Nat) (hp : prm p) (hp2 : p ≤ 65536) (fa sy : Value) (qa qb : Nat) (F G : Pxy p) (hob : h.2 B = some (cO B fa sy)) (hw4 : h.2 (B + 4) = some (oB 8 [.ref (B + 1), .ref (B + 5)])) (hfl : h.2 (B + 1) = some (oB 1 [.int (gI ((p : Int)))])) (h5 : PA h (B + 5)) (h27 : PA h (B + 27)) (la : B + 58 ≤ qa) (lb : B + 58 ≤ qb) (pa : PP hp h qa F) (pb : PP hp h qb G) : Sp N yX9_wholeAct mX9_wholeAct 0 0 [.ref (B), .int (gI (1)), .ref (qa), .ref (qb)] h (fun v h1 => Fr [B + 27, B + 5] h h1 ∧ PA h1 (B + 5) ∧ ((∃ H, rac hp 1 F G = .inr H ∧ v = some (.int (gI 1)) ∧ PP hp h1 (B + 27) H) ∨ (rac hp 1 F G = .inl (-4) ∧ v = some (.int (gI 0)) ∧ PA h1 (B + 27)))) := by
  refine Sp.of (by decide) rfl rfl (Nat.le_of_ble_eq_true rfl) ?_
  show Go N mX9_wholeAct _ 0 0 h 0 [(0, .ref (B)), (1, .int (gI (1))), (2, .ref (qa)), (3, .ref (qb))] []
  have hp1 := hp.1
  refine g_iload_n 1 dX9_wholeAct_0 rfl ?_
  refine g_tabIn (tgt := 56) dX9_wholeAct_1 (by unfold gW; omega) (by omega) (by omega) rfl rfl ?_
  refine g_aload_n 0 dX9_wholeAct_56 rfl ?_
  refine g_getf 3 dX9_wholeAct_57 kX9 (by decide) fX9_31 hob rfl ?_
  refine g_aload_n 2 dX9_wholeAct_60 rfl ?_
  refine g_aload_n 3 dX9_wholeAct_61 rfl ?_
  refine g_iconst dX9_wholeAct_62 ?_
  refine g_aload_n 0 dX9_wholeAct_63 rfl ?_
  refine g_getf 6 dX9_wholeAct_64 kX9 (by decide) fX9_50 hob rfl ?_
  refine g_callV (nc2 := 0) (ns2 := 0) (ci := 8) (As := [.ref (qa), .ref (qb), .int (gI (-1)), .ref (B + 27)]) (st := []) rfl dX9_wholeAct_67 okX8_combine lX9_220 itX8_combine seX8_combine rfl hw4 (by decide) (by decide) rfl (Nat.le_of_ble_eq_true rfl) (sW_combine N _ B (qa) (qb) (B + 27) p hp hp2 (F) (G) (-1) (by omega) hw4 hfl pa pb h27 (show AP (qa) (B + 27) by unfold AP; omega) (show AP (qb) (B + 27) by unfold AP; omega) (by omega)) (by omega) (by omega) (fun v1 hc1 q1 => ?_)
  obtain ⟨rfl, frc2, rn2_0⟩ := q1
  have fk3_0 : hc1.2 (B) = some (cO B (fa) (sy)) := Fr.at0 frc2 (Ni.c ⟨(show NE (B) (B + 27) by unfold NE; omega), (show NE (B) (B + 28) by unfold NE; omega)⟩ (Ni.n _)) hob
  have fk3_1 : hc1.2 (B + 4) = some (oB 8 [.ref (B + 1), .ref (B + 5)]) := Fr.at0 frc2 (Ni.c ⟨(show NE (B + 4) (B + 27) by unfold NE; omega), (show NE (B + 4) (B + 28) by unfold NE; omega)⟩ (Ni.n _)) hw4
  have fk3_2 : hc1.2 (B + 1) = some (oB 1 [.int (gI ((p : Int)))]) := Fr.at0 frc2 (Ni.c ⟨(show NE (B + 1) (B + 27) by unfold NE; omega), (show NE (B + 1) (B + 28) by unfold NE; omega)⟩ (Ni.n _)) hfl
  have rk5003_0 : PA hc1 (B + 5) := (h5).fr frc2 (Ai.c (show AP (B + 5) (B + 27) by unfold AP; omega) (Ai.n _))
  have rk5003_2 : PP hp hc1 (qa) (F) := (pa).fr frc2 (Ai.c (show AP (qa) (B + 27) by unfold AP; omega) (Ai.n _))
  have rk5003_3 : PP hp hc1 (qb) (G) := (pb).fr frc2 (Ai.c (show AP (qb) (B + 27) by unfold AP; omega) (Ai.n _))
  have fr3 : Fr [B + 27, B + 5] h hc1 := ((Fr.rf [B + 27, B + 5] h)).tr ((frc2).mo (sub_c (List.Mem.head _) sub_n))
  refine Go.nf (h' := hc1) (st' := []) rfl rfl (Nat.le_refl _) (Nat.le_refl _) ?_
  refine g_iconst dX9_wholeAct_70 ?_
  exact g_zret dX9_wholeAct_71 rfl (by omega) ⟨fr3, rk5003_0, Or.inl ⟨cmb hp (-1) (F) (G), rfl, rfl, rn2_0⟩⟩
set_option maxHeartbeats 4000000 in
set_option maxRecDepth 100000 in
theorem sC_wholeAct2 (N : GN) (h : GH) (B p : Nat) (hp : prm p) (hp2 : p ≤ 65536) (fa sy : Value) (qa qb : Nat) (F G : Pxy p) (hob : h.2 B = some (cO B fa sy)) (hw4 : h.2 (B + 4) = some (oB 8 [.ref (B + 1), .ref (B + 5)])) (hfl : h.2 (B + 1) = some (oB 1 [.int (gI ((p : Int)))])) (h5 : PA h (B + 5)) (h27 : PA h (B + 27)) (la : B + 58 ≤ qa) (lb : B + 58 ≤ qb) (pa : PP hp h qa F) (pb : PP hp h qb G) : Sp N yX9_wholeAct mX9_wholeAct 0 0 [.ref (B), .int (gI (2)), .ref (qa), .ref (qb)] h (fun v h1 => Fr [B + 27, B + 5] h h1 ∧ PA h1 (B + 5) ∧ ((∃ H, rac hp 2 F G = .inr H ∧ v = some (.int (gI 1)) ∧ PP hp h1 (B + 27) H) ∨ (rac hp 2 F G = .inl (-4) ∧ v = some (.int (gI 0)) ∧ PA h1 (B + 27)))) := by
  refine Sp.of (by decide) rfl rfl (Nat.le_of_ble_eq_true rfl) ?_
  show Go N mX9_wholeAct _ 0 0 h 0 [(0, .ref (B)), (1, .int (gI (2))), (2, .ref (qa)), (3, .ref (qb))] []
  have hp1 := hp.1
  refine g_iload_n 1 dX9_wholeAct_0 rfl ?_
  refine g_tabIn (tgt := 72) dX9_wholeAct_1 (by unfold gW; omega) (by omega) (by omega) rfl rfl ?_
  refine g_aload_n 0 dX9_wholeAct_72 rfl ?_
  refine g_getf 3 dX9_wholeAct_73 kX9 (by decide) fX9_31 hob rfl ?_
  refine g_aload_n 2 dX9_wholeAct_76 rfl ?_
  refine g_aload_n 3 dX9_wholeAct_77 rfl ?_
  refine g_aload_n 0 dX9_wholeAct_78 rfl ?_
  refine g_getf 6 dX9_wholeAct_79 kX9 (by decide) fX9_50 hob rfl ?_
  refine g_callV (nc2 := 0) (ns2 := 0) (ci := 8) (As := [.ref (qa), .ref (qb), .ref (B + 27)]) (st := []) rfl dX9_wholeAct_82 okX8_multiply lX9_224 itX8_multiply seX8_multiply rfl hw4 (by decide) (by decide) rfl (Nat.le_of_ble_eq_true rfl) (sW_multiply N _ B (qa) (qb) (B + 27) p hp hp2 (F) (G) hw4 hfl pa pb h27 (show AP (qa) (B + 27) by unfold AP; omega) (show AP (qb) (B + 27) by unfold AP; omega) (by omega)) (by omega) (by omega) (fun v1 hc1 q1 => ?_)
  obtain ⟨frc2, hd2⟩ := q1
  have fk3_0 : hc1.2 (B) = some (cO B (fa) (sy)) := Fr.at0 frc2 (Ni.c ⟨(show NE (B) (B + 27) by unfold NE; omega), (show NE (B) (B + 28) by unfold NE; omega)⟩ (Ni.n _)) hob
  have fk3_1 : hc1.2 (B + 4) = some (oB 8 [.ref (B + 1), .ref (B + 5)]) := Fr.at0 frc2 (Ni.c ⟨(show NE (B + 4) (B + 27) by unfold NE; omega), (show NE (B + 4) (B + 28) by unfold NE; omega)⟩ (Ni.n _)) hw4
  have fk3_2 : hc1.2 (B + 1) = some (oB 1 [.int (gI ((p : Int)))]) := Fr.at0 frc2 (Ni.c ⟨(show NE (B + 1) (B + 27) by unfold NE; omega), (show NE (B + 1) (B + 28) by unfold NE; omega)⟩ (Ni.n _)) hfl
  have rk5003_0 : PA hc1 (B + 5) := (h5).fr frc2 (Ai.c (show AP (B + 5) (B + 27) by unfold AP; omega) (Ai.n _))
  have rk5003_2 : PP hp hc1 (qa) (F) := (pa).fr frc2 (Ai.c (show AP (qa) (B + 27) by unfold AP; omega) (Ai.n _))
  have rk5003_3 : PP hp hc1 (qb) (G) := (pb).fr frc2 (Ai.c (show AP (qb) (B + 27) by unfold AP; omega) (Ai.n _))
  have fr3 : Fr [B + 27, B + 5] h hc1 := ((Fr.rf [B + 27, B + 5] h)).tr ((frc2).mo (sub_c (List.Mem.head _) sub_n))
  rcases hd2 with ⟨rfl, H, y1, y2⟩ | ⟨rfl, y1, y2⟩
  · skip
    refine Go.nf (h' := hc1) (st' := [.int (gI (1))]) rfl rfl (Nat.le_refl _) (Nat.le_refl _) ?_
    exact g_zret dX9_wholeAct_85 rfl (by omega) ⟨fr3, rk5003_0, Or.inl ⟨H, by show oR _ = _; rw [y1]; rfl, rfl, y2⟩⟩
  · skip
    refine Go.nf (h' := hc1) (st' := [.int (gI (0))]) rfl rfl (Nat.le_refl _) (Nat.le_refl _) ?_
    exact g_zret dX9_wholeAct_85 rfl (by omega) ⟨fr3, rk5003_0, Or.inr ⟨by show oR _ = _; rw [y1]; rfl, rfl, y2⟩⟩
set_option maxHeartbeats 4000000 in
set_option maxRecDepth 100000 in
theorem sC_wholeAct3 (N : GN) (h : GH) (B p : Nat) (hp : prm p) (hp2 : p ≤ 65536) (fa sy : Value) (qa qb : Nat) (F G : Pxy p) (hob : h.2 B = some (cO B fa sy)) (hw4 : h.2 (B + 4) = some (oB 8 [.ref (B + 1), .ref (B + 5)])) (hfl : h.2 (B + 1) = some (oB 1 [.int (gI ((p : Int)))])) (h5 : PA h (B + 5)) (h27 : PA h (B + 27)) (la : B + 58 ≤ qa) (lb : B + 58 ≤ qb) (pa : PP hp h qa F) (pb : PP hp h qb G) : Sp N yX9_wholeAct mX9_wholeAct 0 0 [.ref (B), .int (gI (3)), .ref (qa), .ref (qa)] h (fun v h1 => Fr [B + 27, B + 5] h h1 ∧ PA h1 (B + 5) ∧ ((∃ H, rac1 hp 3 F = .inr H ∧ v = some (.int (gI 1)) ∧ PP hp h1 (B + 27) H) ∨ (rac1 hp 3 F = .inl (-4) ∧ v = some (.int (gI 0)) ∧ PA h1 (B + 27)))) := by
  refine Sp.of (by decide) rfl rfl (Nat.le_of_ble_eq_true rfl) ?_
  show Go N mX9_wholeAct _ 0 0 h 0 [(0, .ref (B)), (1, .int (gI (3))), (2, .ref (qa)), (3, .ref (qa))] []
  have hp1 := hp.1
  refine g_iload_n 1 dX9_wholeAct_0 rfl ?_
  refine g_tabIn (tgt := 86) dX9_wholeAct_1 (by unfold gW; omega) (by omega) (by omega) rfl rfl ?_
  refine g_aload_n 0 dX9_wholeAct_86 rfl ?_
  refine g_getf 6 dX9_wholeAct_87 kX9 (by decide) fX9_50 hob rfl ?_
  refine g_callV (nc2 := 0) (ns2 := 0) (ci := 4) (As := []) (st := []) rfl dX9_wholeAct_90 okX4_clear lX9_89 itX4_clear seX4_clear rfl (Classical.choose_spec (PA.o h27)) (by decide) (by decide) rfl (Nat.le_of_ble_eq_true rfl) (sQ_clear N _ (B + 27) p hp hp2 h27) (by omega) (by omega) (fun v1 hc1 q1 => ?_)
  obtain ⟨rfl, frc2, rn2_0⟩ := q1
  have fk3_0 : hc1.2 (B) = some (cO B (fa) (sy)) := Fr.at0 frc2 (Ni.c ⟨(show NE (B) (B + 27) by unfold NE; omega), (show NE (B) (B + 28) by unfold NE; omega)⟩ (Ni.n _)) hob
  have fk3_1 : hc1.2 (B + 4) = some (oB 8 [.ref (B + 1), .ref (B + 5)]) := Fr.at0 frc2 (Ni.c ⟨(show NE (B + 4) (B + 27) by unfold NE; omega), (show NE (B + 4) (B + 28) by unfold NE; omega)⟩ (Ni.n _)) hw4
  have fk3_2 : hc1.2 (B + 1) = some (oB 1 [.int (gI ((p : Int)))]) := Fr.at0 frc2 (Ni.c ⟨(show NE (B + 1) (B + 27) by unfold NE; omega), (show NE (B + 1) (B + 28) by unfold NE; omega)⟩ (Ni.n _)) hfl
  have rk5003_0 : PA hc1 (B + 5) := (h5).fr frc2 (Ai.c (show AP (B + 5) (B + 27) by unfold AP; omega) (Ai.n _))
  have rk5003_2 : PP hp hc1 (qa) (F) := (pa).fr frc2 (Ai.c (show AP (qa) (B + 27) by unfold AP; omega) (Ai.n _))
  have fr3 : Fr [B + 27, B + 5] h hc1 := ((Fr.rf [B + 27, B + 5] h)).tr ((frc2).mo (sub_c (List.Mem.head _) sub_n))
  refine Go.nf (h' := hc1) (st' := []) rfl rfl (Nat.le_refl _) (Nat.le_refl _) ?_
  refine g_aload_n 0 dX9_wholeAct_93 rfl ?_
  refine g_getf 3 dX9_wholeAct_94 kX9 (by decide) fX9_31 fk3_0 rfl ?_
  refine g_aload_n 0 dX9_wholeAct_97 rfl ?_
  refine g_getf 6 dX9_wholeAct_98 kX9 (by decide) fX9_50 fk3_0 rfl ?_
  refine g_aload_n 2 dX9_wholeAct_101 rfl ?_
  refine g_iconst dX9_wholeAct_102 ?_
  refine g_aload_n 0 dX9_wholeAct_103 rfl ?_
  refine g_getf 6 dX9_wholeAct_104 kX9 (by decide) fX9_50 fk3_0 rfl ?_
  refine g_callV (nc2 := 0) (ns2 := 0) (ci := 8) (As := [.ref (B + 27), .ref (qa), .int (gI (-1)), .ref (B + 27)]) (st := []) rfl dX9_wholeAct_107 okX8_combine lX9_220 itX8_combine seX8_combine rfl fk3_1 (by decide) (by decide) rfl (Nat.le_of_ble_eq_true rfl) (sW_combineO N _ B (qa) (B + 27) p hp hp2 (zF hp) (F) (-1) (by omega) fk3_1 fk3_2 rn2_0 rk5003_2 (show AP (qa) (B + 27) by unfold AP; omega) (by omega)) (by omega) (by omega) (fun v4 hc4 q4 => ?_)
  obtain ⟨rfl, frc5, rn5_0⟩ := q4
  have fk6_0 : hc4.2 (B) = some (cO B (fa) (sy)) := Fr.at0 frc5 (Ni.c ⟨(show NE (B) (B + 27) by unfold NE; omega), (show NE (B) (B + 28) by unfold NE; omega)⟩ (Ni.n _)) fk3_0
  have fk6_1 : hc4.2 (B + 4) = some (oB 8 [.ref (B + 1), .ref (B + 5)]) := Fr.at0 frc5 (Ni.c ⟨(show NE (B + 4) (B + 27) by unfold NE; omega), (show NE (B + 4) (B + 28) by unfold NE; omega)⟩ (Ni.n _)) fk3_1
  have fk6_2 : hc4.2 (B + 1) = some (oB 1 [.int (gI ((p : Int)))]) := Fr.at0 frc5 (Ni.c ⟨(show NE (B + 1) (B + 27) by unfold NE; omega), (show NE (B + 1) (B + 28) by unfold NE; omega)⟩ (Ni.n _)) fk3_2
  have rk5006_0 : PA hc4 (B + 5) := (rk5003_0).fr frc5 (Ai.c (show AP (B + 5) (B + 27) by unfold AP; omega) (Ai.n _))
  have rk5006_1 : PP hp hc4 (qa) (F) := (rk5003_2).fr frc5 (Ai.c (show AP (qa) (B + 27) by unfold AP; omega) (Ai.n _))
  have fr6 : Fr [B + 27, B + 5] h hc4 := (fr3).tr ((frc5).mo (sub_c (List.Mem.head _) sub_n))
  refine Go.nf (h' := hc4) (st' := []) rfl rfl (Nat.le_refl _) (Nat.le_refl _) ?_
  refine g_iconst dX9_wholeAct_110 ?_
  exact g_zret dX9_wholeAct_111 rfl (by omega) ⟨fr6, rk5006_0, Or.inl ⟨cmb hp (-1) (zF hp) (F), rfl, rfl, rn5_0⟩⟩
set_option maxHeartbeats 4000000 in
set_option maxRecDepth 100000 in
theorem sC_wholeAct4 (N : GN) (h : GH) (B p : Nat) (hp : prm p) (hp2 : p ≤ 65536) (fa sy : Value) (qa qb : Nat) (F G : Pxy p) (hob : h.2 B = some (cO B fa sy)) (hw4 : h.2 (B + 4) = some (oB 8 [.ref (B + 1), .ref (B + 5)])) (hfl : h.2 (B + 1) = some (oB 1 [.int (gI ((p : Int)))])) (h5 : PA h (B + 5)) (h27 : PA h (B + 27)) (la : B + 58 ≤ qa) (lb : B + 58 ≤ qb) (pa : PP hp h qa F) (pb : PP hp h qb G) : Sp N yX9_wholeAct mX9_wholeAct 0 0 [.ref (B), .int (gI (4)), .ref (qa), .ref (qb)] h (fun v h1 => Fr [B + 27, B + 5] h h1 ∧ PA h1 (B + 5) ∧ ((∃ H, rac hp 4 F G = .inr H ∧ v = some (.int (gI 1)) ∧ PP hp h1 (B + 27) H) ∨ (rac hp 4 F G = .inl (-4) ∧ v = some (.int (gI 0)) ∧ PA h1 (B + 27)))) := by
  refine Sp.of (by decide) rfl rfl (Nat.le_of_ble_eq_true rfl) ?_
  show Go N mX9_wholeAct _ 0 0 h 0 [(0, .ref (B)), (1, .int (gI (4))), (2, .ref (qa)), (3, .ref (qb))] []
  have hp1 := hp.1
  refine g_iload_n 1 dX9_wholeAct_0 rfl ?_
  refine g_tabIn (tgt := 112) dX9_wholeAct_1 (by unfold gW; omega) (by omega) (by omega) rfl rfl ?_
  refine g_aload_n 0 dX9_wholeAct_112 rfl ?_
  refine g_getf 3 dX9_wholeAct_113 kX9 (by decide) fX9_31 hob rfl ?_
  refine g_aload_n 2 dX9_wholeAct_116 rfl ?_
  refine g_aload_n 3 dX9_wholeAct_117 rfl ?_
  refine g_iconst dX9_wholeAct_118 ?_
  refine g_aload_n 0 dX9_wholeAct_119 rfl ?_
  refine g_getf 6 dX9_wholeAct_120 kX9 (by decide) fX9_50 hob rfl ?_
  refine g_callV (nc2 := 0) (ns2 := 0) (ci := 8) (As := [.ref (qa), .ref (qb), .int (gI (1)), .ref (B + 27)]) (st := []) rfl dX9_wholeAct_123 okX8_substitute lX9_228 itX8_substitute seX8_substitute rfl hw4 (by decide) (by decide) rfl (Nat.le_of_ble_eq_true rfl) (sW_substX N _ B (qa) (qb) (B + 27) p hp hp2 (F) (G) hw4 hfl pa pb h27 h5 (show AP (qa) (B + 27) by unfold AP; omega) (show AP (qb) (B + 27) by unfold AP; omega) (by omega) (by omega) (by omega)) (by omega) (by omega) (fun v1 hc1 q1 => ?_)
  obtain ⟨frc2, pa5_2, hd2⟩ := q1
  have fk3_0 : hc1.2 (B) = some (cO B (fa) (sy)) := Fr.at0 frc2 (Ni.c ⟨(show NE (B) (B + 27) by unfold NE; omega), (show NE (B) (B + 28) by unfold NE; omega)⟩ (Ni.c ⟨(show NE (B) (B + 5) by unfold NE; omega), (show NE (B) (B + 6) by unfold NE; omega)⟩ (Ni.n _))) hob
  have fk3_1 : hc1.2 (B + 4) = some (oB 8 [.ref (B + 1), .ref (B + 5)]) := Fr.at0 frc2 (Ni.c ⟨(show NE (B + 4) (B + 27) by unfold NE; omega), (show NE (B + 4) (B + 28) by unfold NE; omega)⟩ (Ni.c ⟨(show NE (B + 4) (B + 5) by unfold NE; omega), (show NE (B + 4) (B + 6) by unfold NE; omega)⟩ (Ni.n _))) hw4
  have fk3_2 : hc1.2 (B + 1) = some (oB 1 [.int (gI ((p : Int)))]) := Fr.at0 frc2 (Ni.c ⟨(show NE (B + 1) (B + 27) by unfold NE; omega), (show NE (B + 1) (B + 28) by unfold NE; omega)⟩ (Ni.c ⟨(show NE (B + 1) (B + 5) by unfold NE; omega), (show NE (B + 1) (B + 6) by unfold NE; omega)⟩ (Ni.n _))) hfl
  have rk5003_2 : PP hp hc1 (qa) (F) := (pa).fr frc2 (Ai.c (show AP (qa) (B + 27) by unfold AP; omega) (Ai.c (show AP (qa) (B + 5) by unfold AP; omega) (Ai.n _)))
  have rk5003_3 : PP hp hc1 (qb) (G) := (pb).fr frc2 (Ai.c (show AP (qb) (B + 27) by unfold AP; omega) (Ai.c (show AP (qb) (B + 5) by unfold AP; omega) (Ai.n _)))
  have fr3 : Fr [B + 27, B + 5] h hc1 := ((Fr.rf [B + 27, B + 5] h)).tr ((frc2).mo (sub_c (List.Mem.head _) (sub_c (List.Mem.tail _ (List.Mem.head _)) sub_n)))
  rcases hd2 with ⟨rfl, H, y1, y2⟩ | ⟨rfl, y1, y2⟩
  · skip
    refine Go.nf (h' := hc1) (st' := [.int (gI (1))]) rfl rfl (Nat.le_refl _) (Nat.le_refl _) ?_
    exact g_zret dX9_wholeAct_126 rfl (by omega) ⟨fr3, pa5_2, Or.inl ⟨H, by show oR _ = _; rw [y1]; rfl, rfl, y2⟩⟩
  · skip
    refine Go.nf (h' := hc1) (st' := [.int (gI (0))]) rfl rfl (Nat.le_refl _) (Nat.le_refl _) ?_
    exact g_zret dX9_wholeAct_126 rfl (by omega) ⟨fr3, pa5_2, Or.inr ⟨by show oR _ = _; rw [y1]; rfl, rfl, y2⟩⟩
set_option maxHeartbeats 4000000 in
set_option maxRecDepth 100000 in
theorem sC_wholeAct5 (N : GN) (h : GH) (B p : Nat) (hp : prm p) (hp2 : p ≤ 65536) (fa sy : Value) (qa qb : Nat) (F G : Pxy p) (hob : h.2 B = some (cO B fa sy)) (hw4 : h.2 (B + 4) = some (oB 8 [.ref (B + 1), .ref (B + 5)])) (hfl : h.2 (B + 1) = some (oB 1 [.int (gI ((p : Int)))])) (h5 : PA h (B + 5)) (h27 : PA h (B + 27)) (la : B + 58 ≤ qa) (lb : B + 58 ≤ qb) (pa : PP hp h qa F) (pb : PP hp h qb G) : Sp N yX9_wholeAct mX9_wholeAct 0 0 [.ref (B), .int (gI (5)), .ref (qa), .ref (qb)] h (fun v h1 => Fr [B + 27, B + 5] h h1 ∧ PA h1 (B + 5) ∧ ((∃ H, rac hp 5 F G = .inr H ∧ v = some (.int (gI 1)) ∧ PP hp h1 (B + 27) H) ∨ (rac hp 5 F G = .inl (-4) ∧ v = some (.int (gI 0)) ∧ PA h1 (B + 27)))) := by
  refine Sp.of (by decide) rfl rfl (Nat.le_of_ble_eq_true rfl) ?_
  show Go N mX9_wholeAct _ 0 0 h 0 [(0, .ref (B)), (1, .int (gI (5))), (2, .ref (qa)), (3, .ref (qb))] []
  have hp1 := hp.1
  refine g_iload_n 1 dX9_wholeAct_0 rfl ?_
  refine g_tabIn (tgt := 127) dX9_wholeAct_1 (by unfold gW; omega) (by omega) (by omega) rfl rfl ?_
  refine g_aload_n 0 dX9_wholeAct_127 rfl ?_
  refine g_getf 3 dX9_wholeAct_128 kX9 (by decide) fX9_31 hob rfl ?_
  refine g_aload_n 2 dX9_wholeAct_131 rfl ?_
  refine g_aload_n 3 dX9_wholeAct_132 rfl ?_
  refine g_iconst dX9_wholeAct_133 ?_
  refine g_aload_n 0 dX9_wholeAct_134 rfl ?_
  refine g_getf 6 dX9_wholeAct_135 kX9 (by decide) fX9_50 hob rfl ?_
  refine g_callV (nc2 := 0) (ns2 := 0) (ci := 8) (As := [.ref (qa), .ref (qb), .int (gI (0)), .ref (B + 27)]) (st := []) rfl dX9_wholeAct_138 okX8_substitute lX9_228 itX8_substitute seX8_substitute rfl hw4 (by decide) (by decide) rfl (Nat.le_of_ble_eq_true rfl) (sW_substY N _ B (qa) (qb) (B + 27) p hp hp2 (F) (G) hw4 hfl pa pb h27 h5 (show AP (qa) (B + 27) by unfold AP; omega) (show AP (qb) (B + 27) by unfold AP; omega) (by omega) (by omega) (by omega)) (by omega) (by omega) (fun v1 hc1 q1 => ?_)
  obtain ⟨frc2, pa5_2, hd2⟩ := q1
  have fk3_0 : hc1.2 (B) = some (cO B (fa) (sy)) := Fr.at0 frc2 (Ni.c ⟨(show NE (B) (B + 27) by unfold NE; omega), (show NE (B) (B + 28) by unfold NE; omega)⟩ (Ni.c ⟨(show NE (B) (B + 5) by unfold NE; omega), (show NE (B) (B + 6) by unfold NE; omega)⟩ (Ni.n _))) hob
  have fk3_1 : hc1.2 (B + 4) = some (oB 8 [.ref (B + 1), .ref (B + 5)]) := Fr.at0 frc2 (Ni.c ⟨(show NE (B + 4) (B + 27) by unfold NE; omega), (show NE (B + 4) (B + 28) by unfold NE; omega)⟩ (Ni.c ⟨(show NE (B + 4) (B + 5) by unfold NE; omega), (show NE (B + 4) (B + 6) by unfold NE; omega)⟩ (Ni.n _))) hw4
  have fk3_2 : hc1.2 (B + 1) = some (oB 1 [.int (gI ((p : Int)))]) := Fr.at0 frc2 (Ni.c ⟨(show NE (B + 1) (B + 27) by unfold NE; omega), (show NE (B + 1) (B + 28) by unfold NE; omega)⟩ (Ni.c ⟨(show NE (B + 1) (B + 5) by unfold NE; omega), (show NE (B + 1) (B + 6) by unfold NE; omega)⟩ (Ni.n _))) hfl
  have rk5003_2 : PP hp hc1 (qa) (F) := (pa).fr frc2 (Ai.c (show AP (qa) (B + 27) by unfold AP; omega) (Ai.c (show AP (qa) (B + 5) by unfold AP; omega) (Ai.n _)))
  have rk5003_3 : PP hp hc1 (qb) (G) := (pb).fr frc2 (Ai.c (show AP (qb) (B + 27) by unfold AP; omega) (Ai.c (show AP (qb) (B + 5) by unfold AP; omega) (Ai.n _)))
  have fr3 : Fr [B + 27, B + 5] h hc1 := ((Fr.rf [B + 27, B + 5] h)).tr ((frc2).mo (sub_c (List.Mem.head _) (sub_c (List.Mem.tail _ (List.Mem.head _)) sub_n)))
  rcases hd2 with ⟨rfl, H, y1, y2⟩ | ⟨rfl, y1, y2⟩
  · skip
    refine Go.nf (h' := hc1) (st' := [.int (gI (1))]) rfl rfl (Nat.le_refl _) (Nat.le_refl _) ?_
    exact g_zret dX9_wholeAct_141 rfl (by omega) ⟨fr3, pa5_2, Or.inl ⟨H, by show oR _ = _; rw [y1]; rfl, rfl, y2⟩⟩
  · skip
    refine Go.nf (h' := hc1) (st' := [.int (gI (0))]) rfl rfl (Nat.le_refl _) (Nat.le_refl _) ?_
    exact g_zret dX9_wholeAct_141 rfl (by omega) ⟨fr3, pa5_2, Or.inr ⟨by show oR _ = _; rw [y1]; rfl, rfl, y2⟩⟩
set_option maxHeartbeats 4000000 in
set_option maxRecDepth 100000 in
theorem sC_wholeAct6 (N : GN) (h : GH) (B p : Nat) (hp : prm p) (hp2 : p ≤ 65536) (fa sy : Value) (qa qb : Nat) (F G : Pxy p) (hob : h.2 B = some (cO B fa sy)) (hw4 : h.2 (B + 4) = some (oB 8 [.ref (B + 1), .ref (B + 5)])) (hfl : h.2 (B + 1) = some (oB 1 [.int (gI ((p : Int)))])) (h5 : PA h (B + 5)) (h27 : PA h (B + 27)) (la : B + 58 ≤ qa) (lb : B + 58 ≤ qb) (pa : PP hp h qa F) (pb : PP hp h qb G) : Sp N yX9_wholeAct mX9_wholeAct 0 0 [.ref (B), .int (gI (6)), .ref (qa), .ref (qa)] h (fun v h1 => Fr [B + 27, B + 5] h h1 ∧ PA h1 (B + 5) ∧ ((∃ H, rac1 hp 6 F = .inr H ∧ v = some (.int (gI 1)) ∧ PP hp h1 (B + 27) H) ∨ (rac1 hp 6 F = .inl (-4) ∧ v = some (.int (gI 0)) ∧ PA h1 (B + 27)))) := by
  refine Sp.of (by decide) rfl rfl (Nat.le_of_ble_eq_true rfl) ?_
  show Go N mX9_wholeAct _ 0 0 h 0 [(0, .ref (B)), (1, .int (gI (6))), (2, .ref (qa)), (3, .ref (qa))] []
  have hp1 := hp.1
  refine g_iload_n 1 dX9_wholeAct_0 rfl ?_
  refine g_tabOut (tgt := 142) dX9_wholeAct_1 (by unfold gW; omega) (by omega) rfl ?_
  refine g_aload_n 0 dX9_wholeAct_142 rfl ?_
  refine g_getf 3 dX9_wholeAct_143 kX9 (by decide) fX9_31 hob rfl ?_
  refine g_aload_n 2 dX9_wholeAct_146 rfl ?_
  refine g_iload_n 1 dX9_wholeAct_147 rfl ?_
  refine g_bipush dX9_wholeAct_148 (by decide) ?_
  refine g_icmp_ne (tgt := 157) dX9_wholeAct_150 rfl (by first | assumption | (unfold gW; omega) | (unfold gW; split <;> omega)) (by first | assumption | (unfold gW; omega) | (unfold gW; split <;> omega)) (fun c1 => absurd c1 (by omega)) (fun c1 => ?_)
  refine g_iconst dX9_wholeAct_153 ?_
  refine g_goto (tgt := 158) dX9_wholeAct_154 rfl ?_
  refine g_aload_n 0 dX9_wholeAct_158 rfl ?_
  refine g_getf 6 dX9_wholeAct_159 kX9 (by decide) fX9_50 hob rfl ?_
  refine g_callV (nc2 := 0) (ns2 := 0) (ci := 8) (As := [.ref (qa), .int (gI (1)), .ref (B + 27)]) (st := []) rfl dX9_wholeAct_162 okX8_derive lX9_232 itX8_derive seX8_derive rfl hw4 (by decide) (by decide) rfl (Nat.le_of_ble_eq_true rfl) (sW_deriveX N _ B (qa) (B + 27) p hp hp2 (F) hw4 hfl pa h27 (show AP (qa) (B + 27) by unfold AP; omega) (by omega)) (by omega) (by omega) (fun v2 hc2 q2 => ?_)
  obtain ⟨rfl, frc3, rn3_0⟩ := q2
  have fk4_0 : hc2.2 (B) = some (cO B (fa) (sy)) := Fr.at0 frc3 (Ni.c ⟨(show NE (B) (B + 27) by unfold NE; omega), (show NE (B) (B + 28) by unfold NE; omega)⟩ (Ni.n _)) hob
  have fk4_1 : hc2.2 (B + 4) = some (oB 8 [.ref (B + 1), .ref (B + 5)]) := Fr.at0 frc3 (Ni.c ⟨(show NE (B + 4) (B + 27) by unfold NE; omega), (show NE (B + 4) (B + 28) by unfold NE; omega)⟩ (Ni.n _)) hw4
  have fk4_2 : hc2.2 (B + 1) = some (oB 1 [.int (gI ((p : Int)))]) := Fr.at0 frc3 (Ni.c ⟨(show NE (B + 1) (B + 27) by unfold NE; omega), (show NE (B + 1) (B + 28) by unfold NE; omega)⟩ (Ni.n _)) hfl
  have rk5004_0 : PA hc2 (B + 5) := (h5).fr frc3 (Ai.c (show AP (B + 5) (B + 27) by unfold AP; omega) (Ai.n _))
  have rk5004_2 : PP hp hc2 (qa) (F) := (pa).fr frc3 (Ai.c (show AP (qa) (B + 27) by unfold AP; omega) (Ai.n _))
  have fr4 : Fr [B + 27, B + 5] h hc2 := ((Fr.rf [B + 27, B + 5] h)).tr ((frc3).mo (sub_c (List.Mem.head _) sub_n))
  refine Go.nf (h' := hc2) (st' := []) rfl rfl (Nat.le_refl _) (Nat.le_refl _) ?_
  refine g_iconst dX9_wholeAct_165 ?_
  exact g_zret dX9_wholeAct_166 rfl (by omega) ⟨fr4, rk5004_0, Or.inl ⟨dvx hp (F), rfl, rfl, rn3_0⟩⟩
set_option maxHeartbeats 4000000 in
set_option maxRecDepth 100000 in
theorem sC_wholeAct7 (N : GN) (h : GH) (B p : Nat) (hp : prm p) (hp2 : p ≤ 65536) (fa sy : Value) (qa qb : Nat) (F G : Pxy p) (hob : h.2 B = some (cO B fa sy)) (hw4 : h.2 (B + 4) = some (oB 8 [.ref (B + 1), .ref (B + 5)])) (hfl : h.2 (B + 1) = some (oB 1 [.int (gI ((p : Int)))])) (h5 : PA h (B + 5)) (h27 : PA h (B + 27)) (la : B + 58 ≤ qa) (lb : B + 58 ≤ qb) (pa : PP hp h qa F) (pb : PP hp h qb G) : Sp N yX9_wholeAct mX9_wholeAct 0 0 [.ref (B), .int (gI (7)), .ref (qa), .ref (qa)] h (fun v h1 => Fr [B + 27, B + 5] h h1 ∧ PA h1 (B + 5) ∧ ((∃ H, rac1 hp 7 F = .inr H ∧ v = some (.int (gI 1)) ∧ PP hp h1 (B + 27) H) ∨ (rac1 hp 7 F = .inl (-4) ∧ v = some (.int (gI 0)) ∧ PA h1 (B + 27)))) := by
  refine Sp.of (by decide) rfl rfl (Nat.le_of_ble_eq_true rfl) ?_
  show Go N mX9_wholeAct _ 0 0 h 0 [(0, .ref (B)), (1, .int (gI (7))), (2, .ref (qa)), (3, .ref (qa))] []
  have hp1 := hp.1
  refine g_iload_n 1 dX9_wholeAct_0 rfl ?_
  refine g_tabOut (tgt := 142) dX9_wholeAct_1 (by unfold gW; omega) (by omega) rfl ?_
  refine g_aload_n 0 dX9_wholeAct_142 rfl ?_
  refine g_getf 3 dX9_wholeAct_143 kX9 (by decide) fX9_31 hob rfl ?_
  refine g_aload_n 2 dX9_wholeAct_146 rfl ?_
  refine g_iload_n 1 dX9_wholeAct_147 rfl ?_
  refine g_bipush dX9_wholeAct_148 (by decide) ?_
  refine g_icmp_ne (tgt := 157) dX9_wholeAct_150 rfl (by first | assumption | (unfold gW; omega) | (unfold gW; split <;> omega)) (by first | assumption | (unfold gW; omega) | (unfold gW; split <;> omega)) (fun c1 => ?_) (fun c1 => absurd c1 (by omega))
  refine g_iconst dX9_wholeAct_157 ?_
  refine g_aload_n 0 dX9_wholeAct_158 rfl ?_
  refine g_getf 6 dX9_wholeAct_159 kX9 (by decide) fX9_50 hob rfl ?_
  refine g_callV (nc2 := 0) (ns2 := 0) (ci := 8) (As := [.ref (qa), .int (gI (0)), .ref (B + 27)]) (st := []) rfl dX9_wholeAct_162 okX8_derive lX9_232 itX8_derive seX8_derive rfl hw4 (by decide) (by decide) rfl (Nat.le_of_ble_eq_true rfl) (sW_deriveY N _ B (qa) (B + 27) p hp hp2 (F) hw4 hfl pa h27 (show AP (qa) (B + 27) by unfold AP; omega) (by omega)) (by omega) (by omega) (fun v2 hc2 q2 => ?_)
  obtain ⟨rfl, frc3, rn3_0⟩ := q2
  have fk4_0 : hc2.2 (B) = some (cO B (fa) (sy)) := Fr.at0 frc3 (Ni.c ⟨(show NE (B) (B + 27) by unfold NE; omega), (show NE (B) (B + 28) by unfold NE; omega)⟩ (Ni.n _)) hob
  have fk4_1 : hc2.2 (B + 4) = some (oB 8 [.ref (B + 1), .ref (B + 5)]) := Fr.at0 frc3 (Ni.c ⟨(show NE (B + 4) (B + 27) by unfold NE; omega), (show NE (B + 4) (B + 28) by unfold NE; omega)⟩ (Ni.n _)) hw4
  have fk4_2 : hc2.2 (B + 1) = some (oB 1 [.int (gI ((p : Int)))]) := Fr.at0 frc3 (Ni.c ⟨(show NE (B + 1) (B + 27) by unfold NE; omega), (show NE (B + 1) (B + 28) by unfold NE; omega)⟩ (Ni.n _)) hfl
  have rk5004_0 : PA hc2 (B + 5) := (h5).fr frc3 (Ai.c (show AP (B + 5) (B + 27) by unfold AP; omega) (Ai.n _))
  have rk5004_2 : PP hp hc2 (qa) (F) := (pa).fr frc3 (Ai.c (show AP (qa) (B + 27) by unfold AP; omega) (Ai.n _))
  have fr4 : Fr [B + 27, B + 5] h hc2 := ((Fr.rf [B + 27, B + 5] h)).tr ((frc3).mo (sub_c (List.Mem.head _) sub_n))
  refine Go.nf (h' := hc2) (st' := []) rfl rfl (Nat.le_refl _) (Nat.le_refl _) ?_
  refine g_iconst dX9_wholeAct_165 ?_
  exact g_zret dX9_wholeAct_166 rfl (by omega) ⟨fr4, rk5004_0, Or.inl ⟨dvy hp (F), rfl, rfl, rn3_0⟩⟩
section
variable {p : Nat}
theorem ivM_is (h : prm p) {a b : Px p} (ha : po (fR h) a) (hb : po (fR h) b) (hd : 0 ≤ dgi h b) (he : ∃ x, isI h a b x) : isI h a b (ivM h a b) := by
  obtain ⟨x, hx⟩ := he
  rw [← ivM_un h ha hb hd hx]; exact hx
end
set_option maxHeartbeats 4000000 in
set_option maxRecDepth 100000 in
theorem sC_divisionQ (N : GN) (h : GH) (B p : Nat) (hp : prm p) (hp2 : p ≤ 65536) (fa sy : Value) (f g : Px p) (hob : h.2 B = some (cO B fa sy)) (hw : PW p B h) (h29 : RP hp 84 h (B + 29) f) (h31 : RP hp 84 h (B + 31) g) (h33 : RA 84 h (B + 33)) : Sp N yX9_division mX9_division 0 0 [.ref (B), .int (gI (1))] h (fun v h1 => Fr [B + 29, B + 33] h h1 ∧ ((dgi hp g < 0 ∧ v = some (.int (gI (-3))) ∧ RA 84 h1 (B + 29) ∧ RA 84 h1 (B + 33)) ∨ (0 ≤ dgi hp g ∧ v = some (.int (gI 0)) ∧ RA 84 h1 (B + 29) ∧ RP hp 84 h1 (B + 33) (qt hp f g)))) := by
  refine Sp.of (by decide) rfl rfl (Nat.le_of_ble_eq_true rfl) ?_
  show Go N mX9_division _ 0 0 h 0 [(0, .ref (B)), (1, .int (gI (1)))] []
  have hp1 := hp.1
  have hgl := h31.lt
  refine g_aload_n 0 dX9_division_0 rfl ?_
  refine g_getf 8 dX9_division_1 kX9 (by decide) fX9_63 hob rfl ?_
  refine g_getf 1 dX9_division_4 kX5 (by decide) fX9_175 (h31).o rfl ?_
  refine g_if_ge (tgt := 13) dX9_division_7 rfl (by first | assumption | (unfold gW; omega) | (unfold gW; split <;> omega)) (fun c1 => ?_) (fun c1 => ?_)
  · skip
    have hl1 := h29.lt
    have hl2 := h31.lt
    refine g_aload_n 0 dX9_division_13 rfl ?_
    refine g_getf 4 dX9_division_14 kX9 (by decide) fX9_38 hob rfl ?_
    refine g_aload_n 0 dX9_division_17 rfl ?_
    refine g_getf 7 dX9_division_18 kX9 (by decide) fX9_59 hob rfl ?_
    refine g_aload_n 0 dX9_division_21 rfl ?_
    refine g_getf 8 dX9_division_22 kX9 (by decide) fX9_63 hob rfl ?_
    refine g_aload_n 0 dX9_division_25 rfl ?_
    refine g_getf 9 dX9_division_26 kX9 (by decide) fX9_66 hob rfl ?_
    refine g_callV (nc2 := 0) (ns2 := 0) (ci := 2) (As := [.ref (B + 29), .ref (B + 31), .ref (B + 33)]) (st := []) rfl dX9_division_29 okX2_reduce lX9_252 itX2_reduce seX2_reduce rfl hw.1 (by decide) (by decide) rfl (Nat.le_of_ble_eq_true rfl) (sP_reduce N _ B (B + 29) (B + 31) (B + 33) 84 84 84 p hp hp2 (dgi hp (f)) ((p : Int)) (f) (g) (by omega) hw.1 hw.2.1 (h29).ru h31 h33 (by omega) (by omega) (show AP (B + 29) (B + 31) by unfold AP; omega) (show AP (B + 29) (B + 33) by unfold AP; omega) (show AP (B + 31) (B + 33) by unfold AP; omega) (by omega) (by omega) (by omega)) (by omega) (by omega) (fun v2 hc2 q2 => ?_)
    obtain ⟨rfl, frc3, rn3_0, rn3_1⟩ := q2
    have fk4_0 : hc2.2 (B) = some (cO B (fa) (sy)) := Fr.at0 frc3 (Ni.c ⟨(show NE (B) (B + 29) by unfold NE; omega), (show NE (B) (B + 30) by unfold NE; omega)⟩ (Ni.c ⟨(show NE (B) (B + 33) by unfold NE; omega), (show NE (B) (B + 34) by unfold NE; omega)⟩ (Ni.n _))) hob
    have fk4_1 : hc2.2 (B + 7) = some (oB 2 [.ref (B + 1), .ref (B + 8), .ref (B + 10), .ref (B + 12), .ref (B + 14), .ref (B + 16), .ref (B + 18), .ref (B + 20), .ref (B + 22)]) := Fr.at0 frc3 (Ni.c ⟨(show NE (B + 7) (B + 29) by unfold NE; omega), (show NE (B + 7) (B + 30) by unfold NE; omega)⟩ (Ni.c ⟨(show NE (B + 7) (B + 33) by unfold NE; omega), (show NE (B + 7) (B + 34) by unfold NE; omega)⟩ (Ni.n _))) hw.1
    have fk4_2 : hc2.2 (B + 1) = some (oB 1 [.int (gI ((p : Int)))]) := Fr.at0 frc3 (Ni.c ⟨(show NE (B + 1) (B + 29) by unfold NE; omega), (show NE (B + 1) (B + 30) by unfold NE; omega)⟩ (Ni.c ⟨(show NE (B + 1) (B + 33) by unfold NE; omega), (show NE (B + 1) (B + 34) by unfold NE; omega)⟩ (Ni.n _))) hw.2.1
    have rk5004_1 : RP hp 84 hc2 (B + 31) (g) := (h31).fr frc3 (Ai.c (show AP (B + 31) (B + 29) by unfold AP; omega) (Ai.c (show AP (B + 31) (B + 33) by unfold AP; omega) (Ai.n _)))
    have fr4 : Fr [B + 29, B + 33] h hc2 := ((Fr.rf [B + 29, B + 33] h)).tr ((frc3).mo (sub_c (List.Mem.head _) (sub_c (List.Mem.tail _ (List.Mem.head _)) sub_n)))
    refine Go.nf (h' := hc2) (st' := []) rfl rfl (Nat.le_refl _) (Nat.le_refl _) ?_
    refine g_iload_n 1 dX9_division_32 rfl ?_
    refine g_if_ne (tgt := 47) dX9_division_33 rfl (by first | assumption | (unfold gW; omega) | (unfold gW; split <;> omega)) (fun c5 => ?_) (fun c5 => absurd c5 (by omega))
    refine g_iconst dX9_division_47 ?_
    exact g_iret dX9_division_48 rfl ⟨fr4, Or.inr ⟨by omega, rfl, (rn3_0).ra, rn3_1⟩⟩
  · skip
    refine g_bipush dX9_division_10 (by decide) ?_
    exact g_iret dX9_division_12 rfl ⟨(Fr.rf [B + 29, B + 33] h), Or.inl ⟨by omega, rfl, (h29).ra, h33⟩⟩
set_option maxHeartbeats 4000000 in
set_option maxRecDepth 100000 in
theorem sC_divisionR (N : GN) (h : GH) (B p : Nat) (hp : prm p) (hp2 : p ≤ 65536) (fa sy : Value) (f g : Px p) (hob : h.2 B = some (cO B fa sy)) (hw : PW p B h) (h29 : RP hp 84 h (B + 29) f) (h31 : RP hp 84 h (B + 31) g) (h33 : RA 84 h (B + 33)) : Sp N yX9_division mX9_division 0 0 [.ref (B), .int (gI (0))] h (fun v h1 => Fr [B + 29, B + 33] h h1 ∧ ((dgi hp g < 0 ∧ v = some (.int (gI (-3))) ∧ RA 84 h1 (B + 29) ∧ RA 84 h1 (B + 33)) ∨ (0 ≤ dgi hp g ∧ v = some (.int (gI 0)) ∧ RA 84 h1 (B + 29) ∧ RP hp 84 h1 (B + 33) (rm hp f g)))) := by
  refine Sp.of (by decide) rfl rfl (Nat.le_of_ble_eq_true rfl) ?_
  show Go N mX9_division _ 0 0 h 0 [(0, .ref (B)), (1, .int (gI (0)))] []
  have hp1 := hp.1
  have hgl := h31.lt
  refine g_aload_n 0 dX9_division_0 rfl ?_
  refine g_getf 8 dX9_division_1 kX9 (by decide) fX9_63 hob rfl ?_
  refine g_getf 1 dX9_division_4 kX5 (by decide) fX9_175 (h31).o rfl ?_
  refine g_if_ge (tgt := 13) dX9_division_7 rfl (by first | assumption | (unfold gW; omega) | (unfold gW; split <;> omega)) (fun c1 => ?_) (fun c1 => ?_)
  · skip
    have hl1 := h29.lt
    have hl2 := h31.lt
    refine g_aload_n 0 dX9_division_13 rfl ?_
    refine g_getf 4 dX9_division_14 kX9 (by decide) fX9_38 hob rfl ?_
    refine g_aload_n 0 dX9_division_17 rfl ?_
    refine g_getf 7 dX9_division_18 kX9 (by decide) fX9_59 hob rfl ?_
    refine g_aload_n 0 dX9_division_21 rfl ?_
    refine g_getf 8 dX9_division_22 kX9 (by decide) fX9_63 hob rfl ?_
    refine g_aload_n 0 dX9_division_25 rfl ?_
    refine g_getf 9 dX9_division_26 kX9 (by decide) fX9_66 hob rfl ?_
    refine g_callV (nc2 := 0) (ns2 := 0) (ci := 2) (As := [.ref (B + 29), .ref (B + 31), .ref (B + 33)]) (st := []) rfl dX9_division_29 okX2_reduce lX9_252 itX2_reduce seX2_reduce rfl hw.1 (by decide) (by decide) rfl (Nat.le_of_ble_eq_true rfl) (sP_reduce N _ B (B + 29) (B + 31) (B + 33) 84 84 84 p hp hp2 (dgi hp (f)) ((p : Int)) (f) (g) (by omega) hw.1 hw.2.1 (h29).ru h31 h33 (by omega) (by omega) (show AP (B + 29) (B + 31) by unfold AP; omega) (show AP (B + 29) (B + 33) by unfold AP; omega) (show AP (B + 31) (B + 33) by unfold AP; omega) (by omega) (by omega) (by omega)) (by omega) (by omega) (fun v2 hc2 q2 => ?_)
    obtain ⟨rfl, frc3, rn3_0, rn3_1⟩ := q2
    have fk4_0 : hc2.2 (B) = some (cO B (fa) (sy)) := Fr.at0 frc3 (Ni.c ⟨(show NE (B) (B + 29) by unfold NE; omega), (show NE (B) (B + 30) by unfold NE; omega)⟩ (Ni.c ⟨(show NE (B) (B + 33) by unfold NE; omega), (show NE (B) (B + 34) by unfold NE; omega)⟩ (Ni.n _))) hob
    have fk4_1 : hc2.2 (B + 7) = some (oB 2 [.ref (B + 1), .ref (B + 8), .ref (B + 10), .ref (B + 12), .ref (B + 14), .ref (B + 16), .ref (B + 18), .ref (B + 20), .ref (B + 22)]) := Fr.at0 frc3 (Ni.c ⟨(show NE (B + 7) (B + 29) by unfold NE; omega), (show NE (B + 7) (B + 30) by unfold NE; omega)⟩ (Ni.c ⟨(show NE (B + 7) (B + 33) by unfold NE; omega), (show NE (B + 7) (B + 34) by unfold NE; omega)⟩ (Ni.n _))) hw.1
    have fk4_2 : hc2.2 (B + 1) = some (oB 1 [.int (gI ((p : Int)))]) := Fr.at0 frc3 (Ni.c ⟨(show NE (B + 1) (B + 29) by unfold NE; omega), (show NE (B + 1) (B + 30) by unfold NE; omega)⟩ (Ni.c ⟨(show NE (B + 1) (B + 33) by unfold NE; omega), (show NE (B + 1) (B + 34) by unfold NE; omega)⟩ (Ni.n _))) hw.2.1
    have rk5004_1 : RP hp 84 hc2 (B + 31) (g) := (h31).fr frc3 (Ai.c (show AP (B + 31) (B + 29) by unfold AP; omega) (Ai.c (show AP (B + 31) (B + 33) by unfold AP; omega) (Ai.n _)))
    have fr4 : Fr [B + 29, B + 33] h hc2 := ((Fr.rf [B + 29, B + 33] h)).tr ((frc3).mo (sub_c (List.Mem.head _) (sub_c (List.Mem.tail _ (List.Mem.head _)) sub_n)))
    refine Go.nf (h' := hc2) (st' := []) rfl rfl (Nat.le_refl _) (Nat.le_refl _) ?_
    refine g_iload_n 1 dX9_division_32 rfl ?_
    refine g_if_ne (tgt := 47) dX9_division_33 rfl (by first | assumption | (unfold gW; omega) | (unfold gW; split <;> omega)) (fun c5 => absurd c5 (by omega)) (fun c5 => ?_)
    have hrl := rm_lt hp h29.po h31.po (by omega)
    refine g_aload_n 0 dX9_division_36 rfl ?_
    refine g_getf 9 dX9_division_37 kX9 (by decide) fX9_66 fk4_0 rfl ?_
    refine g_aload_n 0 dX9_division_40 rfl ?_
    refine g_getf 7 dX9_division_41 kX9 (by decide) fX9_59 fk4_0 rfl ?_
    refine g_callV (nc2 := 0) (ns2 := 0) (ci := 5) (As := [.ref (B + 29)]) (st := []) rfl dX9_division_44 okX5_copy lX9_255 itX5_copy seX5_copy rfl (rn3_1).o (by decide) (by decide) rfl (Nat.le_of_ble_eq_true rfl) (sP_copy N _ (B + 33) (B + 29) 84 84 p hp hp2 (rm hp (f) (g)) (rn3_1).ra rn3_0 (by omega) (show AP (B + 33) (B + 29) by unfold AP; omega)) (by omega) (by omega) (fun v6 hc6 q6 => ?_)
    obtain ⟨rfl, frc7, rn7_0⟩ := q6
    have fk8_0 : hc6.2 (B) = some (cO B (fa) (sy)) := Fr.at0 frc7 (Ni.c ⟨(show NE (B) (B + 33) by unfold NE; omega), (show NE (B) (B + 34) by unfold NE; omega)⟩ (Ni.n _)) fk4_0
    have fk8_1 : hc6.2 (B + 7) = some (oB 2 [.ref (B + 1), .ref (B + 8), .ref (B + 10), .ref (B + 12), .ref (B + 14), .ref (B + 16), .ref (B + 18), .ref (B + 20), .ref (B + 22)]) := Fr.at0 frc7 (Ni.c ⟨(show NE (B + 7) (B + 33) by unfold NE; omega), (show NE (B + 7) (B + 34) by unfold NE; omega)⟩ (Ni.n _)) fk4_1
    have fk8_2 : hc6.2 (B + 1) = some (oB 1 [.int (gI ((p : Int)))]) := Fr.at0 frc7 (Ni.c ⟨(show NE (B + 1) (B + 33) by unfold NE; omega), (show NE (B + 1) (B + 34) by unfold NE; omega)⟩ (Ni.n _)) fk4_2
    have rk5008_0 : RP hp 84 hc6 (B + 31) (g) := (rk5004_1).fr frc7 (Ai.c (show AP (B + 31) (B + 33) by unfold AP; omega) (Ai.n _))
    have rk5008_1 : RP hp 84 hc6 (B + 29) (rm hp (f) (g)) := (rn3_0).fr frc7 (Ai.c (show AP (B + 29) (B + 33) by unfold AP; omega) (Ai.n _))
    have fr8 : Fr [B + 29, B + 33] h hc6 := (fr4).tr ((frc7).mo (sub_c (List.Mem.tail _ (List.Mem.head _)) sub_n))
    refine Go.nf (h' := hc6) (st' := []) rfl rfl (Nat.le_refl _) (Nat.le_refl _) ?_
    refine g_iconst dX9_division_47 ?_
    exact g_iret dX9_division_48 rfl ⟨fr8, Or.inr ⟨by omega, rfl, (rk5008_1).ra, rn7_0⟩⟩
  · skip
    refine g_bipush dX9_division_10 (by decide) ?_
    exact g_iret dX9_division_12 rfl ⟨(Fr.rf [B + 29, B + 33] h), Or.inl ⟨by omega, rfl, (h29).ra, h33⟩⟩
set_option maxHeartbeats 4000000 in
set_option maxRecDepth 100000 in
theorem sC_resultantByX (N : GN) (h : GH) (B p : Nat) (hp : prm p) (hp2 : p ≤ 65536) (fa sy : Value) (f g : Px p) (hob : h.2 B = some (cO B fa sy)) (hw : PW p B h) (h29 : RP hp 84 h (B + 29) f) (h31 : RP hp 84 h (B + 31) g) (h33 : RA 84 h (B + 33)) : Sp N yX9_resultantByX mX9_resultantByX 0 0 [.ref (B)] h (fun v h1 => Fr ((B + 33) :: pl B) h h1 ∧ PW p B h1 ∧ (((dgi hp f < 0 ∨ dgi hp g < 0) ∧ v = some (.int (gI (-3))) ∧ RA 84 h1 (B + 33)) ∨ ((0 ≤ dgi hp f ∧ 0 ≤ dgi hp g) ∧ v = some (.int (gI 0)) ∧ RP hp 84 h1 (B + 33) (cz hp (zi hp (fv (rsE hp 85 f g))))))) := by
  refine Sp.of (by decide) rfl rfl (Nat.le_of_ble_eq_true rfl) ?_
  show Go N mX9_resultantByX _ 0 0 h 0 [(0, .ref (B))] []
  have hp1 := hp.1
  have hgl := h31.lt
  have hfl9 := h29.lt
  refine g_aload_n 0 dX9_resultantByX_0 rfl ?_
  refine g_getf 7 dX9_resultantByX_1 kX9 (by decide) fX9_59 hob rfl ?_
  refine g_getf 1 dX9_resultantByX_4 kX5 (by decide) fX9_175 (h29).o rfl ?_
  refine g_if_lt (tgt := 20) dX9_resultantByX_7 rfl (by first | assumption | (unfold gW; omega) | (unfold gW; split <;> omega)) (fun c1 => ?_) (fun c1 => ?_)
  · skip
    refine g_bipush dX9_resultantByX_20 (by decide) ?_
    exact g_iret dX9_resultantByX_22 rfl ⟨(Fr.rf ((B + 33) :: pl B) h), hw, Or.inl ⟨by omega, rfl, h33⟩⟩
  · skip
    refine g_aload_n 0 dX9_resultantByX_10 rfl ?_
    refine g_getf 8 dX9_resultantByX_11 kX9 (by decide) fX9_63 hob rfl ?_
    refine g_getf 1 dX9_resultantByX_14 kX5 (by decide) fX9_175 (h31).o rfl ?_
    refine g_if_ge (tgt := 23) dX9_resultantByX_17 rfl (by first | assumption | (unfold gW; omega) | (unfold gW; split <;> omega)) (fun c2 => ?_) (fun c2 => ?_)
    · skip
      refine g_aload_n 0 dX9_resultantByX_23 rfl ?_
      refine g_getf 9 dX9_resultantByX_24 kX9 (by decide) fX9_66 hob rfl ?_
      refine g_aload_n 0 dX9_resultantByX_27 rfl ?_
      refine g_getf 4 dX9_resultantByX_28 kX9 (by decide) fX9_38 hob rfl ?_
      refine g_aload_n 0 dX9_resultantByX_31 rfl ?_
      refine g_getf 7 dX9_resultantByX_32 kX9 (by decide) fX9_59 hob rfl ?_
      refine g_aload_n 0 dX9_resultantByX_35 rfl ?_
      refine g_getf 8 dX9_resultantByX_36 kX9 (by decide) fX9_63 hob rfl ?_
      refine g_callV (nc2 := 0) (ns2 := 0) (ci := 2) (As := [.ref (B + 29), .ref (B + 31)]) (st := [.ref (B + 33)]) rfl dX9_resultantByX_39 okX2_resultant lX9_257 itX2_resultant seX2_resultant rfl hw.1 (by decide) (by decide) rfl (Nat.le_of_ble_eq_true rfl) (sP_resultant N _ B (B + 29) (B + 31) p hp hp2 (f) (g) hw h29 h31 (by omega) (by omega) (by omega) (by omega)) (by omega) (by omega) (fun v3 hc3 q3 => ?_)
      obtain ⟨rfl, frc4, rn4_0⟩ := q3
      have fk5_0 : hc3.2 (B) = some (cO B (fa) (sy)) := Fr.at0 frc4 (Ni_pl (by omega)) hob
      have fk5_1 : hc3.2 (B + 7) = some (oB 2 [.ref (B + 1), .ref (B + 8), .ref (B + 10), .ref (B + 12), .ref (B + 14), .ref (B + 16), .ref (B + 18), .ref (B + 20), .ref (B + 22)]) := Fr.at0 frc4 (Ni_pl (by omega)) hw.1
      have fk5_2 : hc3.2 (B + 1) = some (oB 1 [.int (gI ((p : Int)))]) := Fr.at0 frc4 (Ni_pl (by omega)) hw.2.1
      have rk5005_0 : RP hp 84 hc3 (B + 29) (f) := (h29).fr frc4 (Ai_pl (by omega))
      have rk5005_1 : RP hp 84 hc3 (B + 31) (g) := (h31).fr frc4 (Ai_pl (by omega))
      have rk5005_2 : RA 84 hc3 (B + 33) := (h33).fr frc4 (Ai_pl (by omega))
      have fr5 : Fr ((B + 33) :: pl B) h hc3 := ((Fr.rf ((B + 33) :: pl B) h)).tr ((frc4).mo (fun _ hx => (List.Mem.tail _ hx)))
      refine Go.nf (h' := hc3) (st' := [.long (gJ (fv (rsE hp 85 (f) (g)))), .ref (B + 33)]) rfl rfl (Nat.le_refl _) (Nat.le_refl _) ?_
      have hfv := fv_lt (rsE hp 85 f g)
      refine g_callV (nc2 := 0) (ns2 := 0) (ci := 5) (As := [.long (gJ (fv (rsE hp 85 (f) (g))))]) (st := []) rfl dX9_resultantByX_42 okX5_become lX9_261 itX5_become seX5_become rfl (Classical.choose_spec (RA.o rk5005_2)) (by decide) (by decide) rfl (Nat.le_of_ble_eq_true rfl) (sP_become N _ (B + 33) 84 p hp hp2 (fv (rsE hp 85 (f) (g))) (by omega) (by omega) rk5005_2) (by omega) (by omega) (fun v6 hc6 q6 => ?_)
      obtain ⟨rfl, frc7, rn7_0⟩ := q6
      have fk8_0 : hc6.2 (B) = some (cO B (fa) (sy)) := Fr.at0 frc7 (Ni.c ⟨(show NE (B) (B + 33) by unfold NE; omega), (show NE (B) (B + 34) by unfold NE; omega)⟩ (Ni.n _)) fk5_0
      have fk8_1 : hc6.2 (B + 7) = some (oB 2 [.ref (B + 1), .ref (B + 8), .ref (B + 10), .ref (B + 12), .ref (B + 14), .ref (B + 16), .ref (B + 18), .ref (B + 20), .ref (B + 22)]) := Fr.at0 frc7 (Ni.c ⟨(show NE (B + 7) (B + 33) by unfold NE; omega), (show NE (B + 7) (B + 34) by unfold NE; omega)⟩ (Ni.n _)) fk5_1
      have fk8_2 : hc6.2 (B + 1) = some (oB 1 [.int (gI ((p : Int)))]) := Fr.at0 frc7 (Ni.c ⟨(show NE (B + 1) (B + 33) by unfold NE; omega), (show NE (B + 1) (B + 34) by unfold NE; omega)⟩ (Ni.n _)) fk5_2
      have rk8_3 : PW p B hc6 := (rn4_0).fr2 frc7 (ok_c (by omega) (fun _ h => absurd h (List.not_mem_nil)))
      have rk5008_0 : RP hp 84 hc6 (B + 29) (f) := (rk5005_0).fr frc7 (Ai.c (show AP (B + 29) (B + 33) by unfold AP; omega) (Ai.n _))
      have rk5008_1 : RP hp 84 hc6 (B + 31) (g) := (rk5005_1).fr frc7 (Ai.c (show AP (B + 31) (B + 33) by unfold AP; omega) (Ai.n _))
      have fr8 : Fr ((B + 33) :: pl B) h hc6 := (fr5).tr ((frc7).mo (sub_c (List.Mem.head _) sub_n))
      refine Go.nf (h' := hc6) (st' := []) rfl rfl (Nat.le_refl _) (Nat.le_refl _) ?_
      refine g_iconst dX9_resultantByX_45 ?_
      exact g_iret dX9_resultantByX_46 rfl ⟨fr8, rk8_3, Or.inr ⟨by omega, rfl, rn7_0⟩⟩
    · skip
      refine g_bipush dX9_resultantByX_20 (by decide) ?_
      exact g_iret dX9_resultantByX_22 rfl ⟨(Fr.rf ((B + 33) :: pl B) h), hw, Or.inl ⟨by omega, rfl, h33⟩⟩
set_option maxHeartbeats 4000000 in
set_option maxRecDepth 100000 in
theorem sP_invert2 (N : GN) (h : GH) (B a b o p : Nat) (hp : prm p) (hp2 : p ≤ 65536) (fa fb : Px p) (hw : PW p B h) (ha : RP hp 84 h a fa) (hb : RP hp 84 h b fb) (ho : RA 84 h o) (hdb : 1 ≤ dgi hp fb) (oa : B + 24 ≤ a) (ob : B + 24 ≤ b) (oo : B + 24 ≤ o) : Sp N yX2_invert mX2_invert 0 0 [.ref (B + 7), .ref (a), .ref (b), .ref (o)] h (fun v h1 => Fr (o :: pl B) h h1 ∧ PW p B h1 ∧ ((v = some (.int (gI 0)) ∧ (¬ ∃ x, isI hp fa fb x) ∧ RA 84 h1 o) ∨ (v = some (.int (gI 1)) ∧ (∃ x, isI hp fa fb x) ∧ RP hp 84 h1 o (ivM hp fa fb)))) := by
  refine Sp.of (by decide) rfl rfl (Nat.le_of_ble_eq_true rfl) ?_
  show Go N mX2_invert _ 0 0 h 0 [(0, .ref (B + 7)), (1, .ref (a)), (2, .ref (b)), (3, .ref (o))] []
  have hp1 := hp.1
  have hda := ha.lt
  have hdb2 := hb.lt
  have hfa := ha.po
  have hfb := hb.po
  refine g_aload_n 0 dX2_invert_0 rfl ?_
  refine g_getf 3 dX2_invert_1 kX2 (by decide) fX2_23 hw.1 rfl ?_
  refine g_astore (ls2 := [(4, .ref (B + 12)), (0, .ref (B + 7)), (1, .ref (a)), (2, .ref (b)), (3, .ref (o))]) dX2_invert_4 (by decide) rfl ?_
  refine g_aload_n 1 dX2_invert_6 rfl ?_
  refine g_getf 4 dX2_invert_7 kX2 (by decide) fX2_26 hw.1 rfl ?_
  refine g_astore (ls2 := [(5, .ref (B + 14)), (4, .ref (B + 12)), (0, .ref (B + 7)), (1, .ref (a)), (2, .ref (b)), (3, .ref (o))]) dX2_invert_10 (by decide) rfl ?_
  refine g_aload_n 2 dX2_invert_12 rfl ?_
  refine g_getf 5 dX2_invert_13 kX2 (by decide) fX2_29 hw.1 rfl ?_
  refine g_astore (ls2 := [(6, .ref (B + 16)), (5, .ref (B + 14)), (4, .ref (B + 12)), (0, .ref (B + 7)), (1, .ref (a)), (2, .ref (b)), (3, .ref (o))]) dX2_invert_16 (by decide) rfl ?_
  refine g_aload_n 3 dX2_invert_18 rfl ?_
  refine g_getf 6 dX2_invert_19 kX2 (by decide) fX2_32 hw.1 rfl ?_
  refine g_astore (ls2 := [(7, .ref (B + 18)), (6, .ref (B + 16)), (5, .ref (B + 14)), (4, .ref (B + 12)), (0, .ref (B + 7)), (1, .ref (a)), (2, .ref (b)), (3, .ref (o))]) dX2_invert_22 (by decide) rfl ?_
  refine g_aload 3 dX2_invert_24 rfl ?_
  refine g_aload_n 6 dX2_invert_26 rfl ?_
  refine g_callV (nc2 := 0) (ns2 := 0) (ci := 5) (As := [.ref (b)]) (st := []) rfl dX2_invert_27 okX5_copy lX2_62 itX5_copy seX5_copy rfl (Classical.choose_spec (RA.o (hw.r12))) (by decide) (by decide) rfl (Nat.le_of_ble_eq_true rfl) (sP_copy N _ (B + 12) (b) 84 84 p hp hp2 (fb) (hw.r12) hb (by omega) (show AP (B + 12) (b) by unfold AP; omega)) (by omega) (by omega) (fun v1 hc1 q1 => ?_)
  obtain ⟨rfl, frc2, rn2_0⟩ := q1
  have fk3_0 : hc1.2 (B + 7) = some (oB 2 [.ref (B + 1), .ref (B + 8), .ref (B + 10), .ref (B + 12), .ref (B + 14), .ref (B + 16), .ref (B + 18), .ref (B + 20), .ref (B + 22)]) := Fr.at0 frc2 (Ni.c ⟨(show NE (B + 7) (B + 12) by unfold NE; omega), (show NE (B + 7) (B + 13) by unfold NE; omega)⟩ (Ni.n _)) hw.1
  have fk3_1 : hc1.2 (B + 1) = some (oB 1 [.int (gI ((p : Int)))]) := Fr.at0 frc2 (Ni.c ⟨(show NE (B + 1) (B + 12) by unfold NE; omega), (show NE (B + 1) (B + 13) by unfold NE; omega)⟩ (Ni.n _)) hw.2.1
  have rk3_0 : RP hp 84 hc1 (a) (fa) := (ha).fr frc2 (Ai.c (show AP (a) (B + 12) by unfold AP; omega) (Ai.n _))
  have rk3_1 : RP hp 84 hc1 (b) (fb) := (hb).fr frc2 (Ai.c (show AP (b) (B + 12) by unfold AP; omega) (Ai.n _))
  have rk3_2 : RA 84 hc1 (o) := (ho).fr frc2 (Ai.c (show AP (o) (B + 12) by unfold AP; omega) (Ai.n _))
  have rk3_3 : RA 84 hc1 (B + 8) := ((hw.r8)).fr frc2 (Ai.c (show AP (B + 8) (B + 12) by unfold AP; omega) (Ai.n _))
  have rk3_4 : RA 84 hc1 (B + 10) := ((hw.r10)).fr frc2 (Ai.c (show AP (B + 10) (B + 12) by unfold AP; omega) (Ai.n _))
  have rk3_6 : RA 84 hc1 (B + 14) := ((hw.r14)).fr frc2 (Ai.c (show AP (B + 14) (B + 12) by unfold AP; omega) (Ai.n _))
  have rk3_7 : RA 84 hc1 (B + 16) := ((hw.r16)).fr frc2 (Ai.c (show AP (B + 16) (B + 12) by unfold AP; omega) (Ai.n _))
  have rk3_8 : RA 84 hc1 (B + 18) := ((hw.r18)).fr frc2 (Ai.c (show AP (B + 18) (B + 12) by unfold AP; omega) (Ai.n _))
  have fr3 : Fr [o, B + 8, B + 10, B + 12, B + 14, B + 16, B + 18] h hc1 := ((Fr.rf [o, B + 8, B + 10, B + 12, B + 14, B + 16, B + 18] h)).tr ((frc2).mo (sub_c (List.Mem.tail _ (List.Mem.tail _ (List.Mem.tail _ (List.Mem.head _)))) sub_n))
  refine Go.nf (h' := hc1) (st' := []) rfl rfl (Nat.le_refl _) (Nat.le_refl _) ?_
  refine g_aload 2 dX2_invert_30 rfl ?_
  refine g_aload_n 5 dX2_invert_32 rfl ?_
  refine g_callV (nc2 := 0) (ns2 := 0) (ci := 5) (As := [.ref (a)]) (st := []) rfl dX2_invert_33 okX5_copy lX2_62 itX5_copy seX5_copy rfl (Classical.choose_spec (RA.o rk3_6)) (by decide) (by decide) rfl (Nat.le_of_ble_eq_true rfl) (sP_copy N _ (B + 14) (a) 84 84 p hp hp2 (fa) rk3_6 rk3_0 (by omega) (show AP (B + 14) (a) by unfold AP; omega)) (by omega) (by omega) (fun v4 hc4 q4 => ?_)
  obtain ⟨rfl, frc5, rn5_0⟩ := q4
  have fk6_0 : hc4.2 (B + 7) = some (oB 2 [.ref (B + 1), .ref (B + 8), .ref (B + 10), .ref (B + 12), .ref (B + 14), .ref (B + 16), .ref (B + 18), .ref (B + 20), .ref (B + 22)]) := Fr.at0 frc5 (Ni.c ⟨(show NE (B + 7) (B + 14) by unfold NE; omega), (show NE (B + 7) (B + 15) by unfold NE; omega)⟩ (Ni.n _)) fk3_0
  have fk6_1 : hc4.2 (B + 1) = some (oB 1 [.int (gI ((p : Int)))]) := Fr.at0 frc5 (Ni.c ⟨(show NE (B + 1) (B + 14) by unfold NE; omega), (show NE (B + 1) (B + 15) by unfold NE; omega)⟩ (Ni.n _)) fk3_1
  have rk6_0 : RP hp 84 hc4 (a) (fa) := (rk3_0).fr frc5 (Ai.c (show AP (a) (B + 14) by unfold AP; omega) (Ai.n _))
  have rk6_1 : RP hp 84 hc4 (b) (fb) := (rk3_1).fr frc5 (Ai.c (show AP (b) (B + 14) by unfold AP; omega) (Ai.n _))
  have rk6_2 : RA 84 hc4 (o) := (rk3_2).fr frc5 (Ai.c (show AP (o) (B + 14) by unfold AP; omega) (Ai.n _))
  have rk6_3 : RA 84 hc4 (B + 8) := (rk3_3).fr frc5 (Ai.c (show AP (B + 8) (B + 14) by unfold AP; omega) (Ai.n _))
  have rk6_4 : RA 84 hc4 (B + 10) := (rk3_4).fr frc5 (Ai.c (show AP (B + 10) (B + 14) by unfold AP; omega) (Ai.n _))
  have rk6_6 : RA 84 hc4 (B + 16) := (rk3_7).fr frc5 (Ai.c (show AP (B + 16) (B + 14) by unfold AP; omega) (Ai.n _))
  have rk6_7 : RA 84 hc4 (B + 18) := (rk3_8).fr frc5 (Ai.c (show AP (B + 18) (B + 14) by unfold AP; omega) (Ai.n _))
  have rk6_8 : RP hp 84 hc4 (B + 12) (fb) := (rn2_0).fr frc5 (Ai.c (show AP (B + 12) (B + 14) by unfold AP; omega) (Ai.n _))
  have fr6 : Fr [o, B + 8, B + 10, B + 12, B + 14, B + 16, B + 18] h hc4 := (fr3).tr ((frc5).mo (sub_c (List.Mem.tail _ (List.Mem.tail _ (List.Mem.tail _ (List.Mem.tail _ (List.Mem.head _))))) sub_n))
  refine Go.nf (h' := hc4) (st' := []) rfl rfl (Nat.le_refl _) (Nat.le_refl _) ?_
  refine g_aload_n 4 dX2_invert_36 rfl ?_
  refine g_aload 2 dX2_invert_37 rfl ?_
  refine g_aload_n 6 dX2_invert_39 rfl ?_
  refine g_aload_n 4 dX2_invert_40 rfl ?_
  refine g_getf 2 dX2_invert_41 kX2 (by decide) fX2_20 fk6_0 rfl ?_
  refine g_callV (nc2 := 0) (ns2 := 0) (ci := 2) (As := [.ref (B + 14), .ref (b), .ref (B + 10)]) (st := []) rfl dX2_invert_44 okX2_reduce lX2_87 itX2_reduce seX2_reduce rfl fk6_0 (by decide) (by decide) rfl (Nat.le_of_ble_eq_true rfl) (sP_reduce N _ B (B + 14) (b) (B + 10) 84 84 84 p hp hp2 (dgi hp (fa)) ((p : Int)) (fa) (fb) (by omega) fk6_0 fk6_1 (rn5_0).ru rk6_1 rk6_4 (by omega) (by omega) (show AP (B + 14) (b) by unfold AP; omega) (show AP (B + 14) (B + 10) by unfold AP; omega) (show AP (b) (B + 10) by unfold AP; omega) (by omega) (by omega) (by omega)) (by omega) (by omega) (fun v7 hc7 q7 => ?_)
  obtain ⟨rfl, frc8, rn8_0, rn8_1⟩ := q7
  have fk9_0 : hc7.2 (B + 7) = some (oB 2 [.ref (B + 1), .ref (B + 8), .ref (B + 10), .ref (B + 12), .ref (B + 14), .ref (B + 16), .ref (B + 18), .ref (B + 20), .ref (B + 22)]) := Fr.at0 frc8 (Ni.c ⟨(show NE (B + 7) (B + 14) by unfold NE; omega), (show NE (B + 7) (B + 15) by unfold NE; omega)⟩ (Ni.c ⟨(show NE (B + 7) (B + 10) by unfold NE; omega), (show NE (B + 7) (B + 11) by unfold NE; omega)⟩ (Ni.n _))) fk6_0
  have fk9_1 : hc7.2 (B + 1) = some (oB 1 [.int (gI ((p : Int)))]) := Fr.at0 frc8 (Ni.c ⟨(show NE (B + 1) (B + 14) by unfold NE; omega), (show NE (B + 1) (B + 15) by unfold NE; omega)⟩ (Ni.c ⟨(show NE (B + 1) (B + 10) by unfold NE; omega), (show NE (B + 1) (B + 11) by unfold NE; omega)⟩ (Ni.n _))) fk6_1
  have rk9_0 : RP hp 84 hc7 (a) (fa) := (rk6_0).fr frc8 (Ai.c (show AP (a) (B + 14) by unfold AP; omega) (Ai.c (show AP (a) (B + 10) by unfold AP; omega) (Ai.n _)))
  have rk9_1 : RP hp 84 hc7 (b) (fb) := (rk6_1).fr frc8 (Ai.c (show AP (b) (B + 14) by unfold AP; omega) (Ai.c (show AP (b) (B + 10) by unfold AP; omega) (Ai.n _)))
  have rk9_2 : RA 84 hc7 (o) := (rk6_2).fr frc8 (Ai.c (show AP (o) (B + 14) by unfold AP; omega) (Ai.c (show AP (o) (B + 10) by unfold AP; omega) (Ai.n _)))
  have rk9_3 : RA 84 hc7 (B + 8) := (rk6_3).fr frc8 (Ai.c (show AP (B + 8) (B + 14) by unfold AP; omega) (Ai.c (show AP (B + 8) (B + 10) by unfold AP; omega) (Ai.n _)))
  have rk9_5 : RA 84 hc7 (B + 16) := (rk6_6).fr frc8 (Ai.c (show AP (B + 16) (B + 14) by unfold AP; omega) (Ai.c (show AP (B + 16) (B + 10) by unfold AP; omega) (Ai.n _)))
  have rk9_6 : RA 84 hc7 (B + 18) := (rk6_7).fr frc8 (Ai.c (show AP (B + 18) (B + 14) by unfold AP; omega) (Ai.c (show AP (B + 18) (B + 10) by unfold AP; omega) (Ai.n _)))
  have rk9_7 : RP hp 84 hc7 (B + 12) (fb) := (rk6_8).fr frc8 (Ai.c (show AP (B + 12) (B + 14) by unfold AP; omega) (Ai.c (show AP (B + 12) (B + 10) by unfold AP; omega) (Ai.n _)))
  have fr9 : Fr [o, B + 8, B + 10, B + 12, B + 14, B + 16, B + 18] h hc7 := (fr6).tr ((frc8).mo (sub_c (List.Mem.tail _ (List.Mem.tail _ (List.Mem.tail _ (List.Mem.tail _ (List.Mem.head _))))) (sub_c (List.Mem.tail _ (List.Mem.tail _ (List.Mem.head _))) sub_n)))
  refine Go.nf (h' := hc7) (st' := []) rfl rfl (Nat.le_refl _) (Nat.le_refl _) ?_
  refine g_aload 1 dX2_invert_47 rfl ?_
  refine g_lconst0 dX2_invert_49 ?_
  refine g_callV (nc2 := 0) (ns2 := 0) (ci := 5) (As := [.long (gJ (0))]) (st := []) rfl dX2_invert_50 okX5_become lX2_93 itX5_become seX5_become rfl (Classical.choose_spec (RA.o rk9_5)) (by decide) (by decide) rfl (Nat.le_of_ble_eq_true rfl) (sP_become N _ (B + 16) 84 p hp hp2 (0) (by omega) (by omega) rk9_5) (by omega) (by omega) (fun v10 hc10 q10 => ?_)
  obtain ⟨rfl, frc11, rn11_0⟩ := q10
  have fk12_0 : hc10.2 (B + 7) = some (oB 2 [.ref (B + 1), .ref (B + 8), .ref (B + 10), .ref (B + 12), .ref (B + 14), .ref (B + 16), .ref (B + 18), .ref (B + 20), .ref (B + 22)]) := Fr.at0 frc11 (Ni.c ⟨(show NE (B + 7) (B + 16) by unfold NE; omega), (show NE (B + 7) (B + 17) by unfold NE; omega)⟩ (Ni.n _)) fk9_0
  have fk12_1 : hc10.2 (B + 1) = some (oB 1 [.int (gI ((p : Int)))]) := Fr.at0 frc11 (Ni.c ⟨(show NE (B + 1) (B + 16) by unfold NE; omega), (show NE (B + 1) (B + 17) by unfold NE; omega)⟩ (Ni.n _)) fk9_1
  have rk12_0 : RP hp 84 hc10 (a) (fa) := (rk9_0).fr frc11 (Ai.c (show AP (a) (B + 16) by unfold AP; omega) (Ai.n _))
  have rk12_1 : RP hp 84 hc10 (b) (fb) := (rk9_1).fr frc11 (Ai.c (show AP (b) (B + 16) by unfold AP; omega) (Ai.n _))
  have rk12_2 : RA 84 hc10 (o) := (rk9_2).fr frc11 (Ai.c (show AP (o) (B + 16) by unfold AP; omega) (Ai.n _))
  have rk12_3 : RA 84 hc10 (B + 8) := (rk9_3).fr frc11 (Ai.c (show AP (B + 8) (B + 16) by unfold AP; omega) (Ai.n _))
  have rk12_5 : RA 84 hc10 (B + 18) := (rk9_6).fr frc11 (Ai.c (show AP (B + 18) (B + 16) by unfold AP; omega) (Ai.n _))
  have rk12_6 : RP hp 84 hc10 (B + 12) (fb) := (rk9_7).fr frc11 (Ai.c (show AP (B + 12) (B + 16) by unfold AP; omega) (Ai.n _))
  have rk12_7 : RP hp 84 hc10 (B + 14) (rm hp (fa) (fb)) := (rn8_0).fr frc11 (Ai.c (show AP (B + 14) (B + 16) by unfold AP; omega) (Ai.n _))
  have rk12_8 : RP hp 84 hc10 (B + 10) (qt hp (fa) (fb)) := (rn8_1).fr frc11 (Ai.c (show AP (B + 10) (B + 16) by unfold AP; omega) (Ai.n _))
  have fr12 : Fr [o, B + 8, B + 10, B + 12, B + 14, B + 16, B + 18] h hc10 := (fr9).tr ((frc11).mo (sub_c (List.Mem.tail _ (List.Mem.tail _ (List.Mem.tail _ (List.Mem.tail _ (List.Mem.tail _ (List.Mem.head _)))))) sub_n))
  refine Go.nf (h' := hc10) (st' := []) rfl rfl (Nat.le_refl _) (Nat.le_refl _) ?_
  refine g_aload 0 dX2_invert_53 rfl ?_
  refine g_lconst1 dX2_invert_55 ?_
  refine g_callV (nc2 := 0) (ns2 := 0) (ci := 5) (As := [.long (gJ (1))]) (st := []) rfl dX2_invert_56 okX5_become lX2_93 itX5_become seX5_become rfl (Classical.choose_spec (RA.o rk12_5)) (by decide) (by decide) rfl (Nat.le_of_ble_eq_true rfl) (sP_become N _ (B + 18) 84 p hp hp2 (1) (by omega) (by omega) rk12_5) (by omega) (by omega) (fun v13 hc13 q13 => ?_)
  obtain ⟨rfl, frc14, rn14_0⟩ := q13
  have fk15_0 : hc13.2 (B + 7) = some (oB 2 [.ref (B + 1), .ref (B + 8), .ref (B + 10), .ref (B + 12), .ref (B + 14), .ref (B + 16), .ref (B + 18), .ref (B + 20), .ref (B + 22)]) := Fr.at0 frc14 (Ni.c ⟨(show NE (B + 7) (B + 18) by unfold NE; omega), (show NE (B + 7) (B + 19) by unfold NE; omega)⟩ (Ni.n _)) fk12_0
  have fk15_1 : hc13.2 (B + 1) = some (oB 1 [.int (gI ((p : Int)))]) := Fr.at0 frc14 (Ni.c ⟨(show NE (B + 1) (B + 18) by unfold NE; omega), (show NE (B + 1) (B + 19) by unfold NE; omega)⟩ (Ni.n _)) fk12_1
  have rk15_0 : RP hp 84 hc13 (a) (fa) := (rk12_0).fr frc14 (Ai.c (show AP (a) (B + 18) by unfold AP; omega) (Ai.n _))
  have rk15_1 : RP hp 84 hc13 (b) (fb) := (rk12_1).fr frc14 (Ai.c (show AP (b) (B + 18) by unfold AP; omega) (Ai.n _))
  have rk15_2 : RA 84 hc13 (o) := (rk12_2).fr frc14 (Ai.c (show AP (o) (B + 18) by unfold AP; omega) (Ai.n _))
  have rk15_3 : RA 84 hc13 (B + 8) := (rk12_3).fr frc14 (Ai.c (show AP (B + 8) (B + 18) by unfold AP; omega) (Ai.n _))
  have rk15_5 : RP hp 84 hc13 (B + 12) (fb) := (rk12_6).fr frc14 (Ai.c (show AP (B + 12) (B + 18) by unfold AP; omega) (Ai.n _))
  have rk15_6 : RP hp 84 hc13 (B + 14) (rm hp (fa) (fb)) := (rk12_7).fr frc14 (Ai.c (show AP (B + 14) (B + 18) by unfold AP; omega) (Ai.n _))
  have rk15_7 : RP hp 84 hc13 (B + 10) (qt hp (fa) (fb)) := (rk12_8).fr frc14 (Ai.c (show AP (B + 10) (B + 18) by unfold AP; omega) (Ai.n _))
  have rk15_8 : RP hp 84 hc13 (B + 16) (cz hp (zi hp (0))) := (rn11_0).fr frc14 (Ai.c (show AP (B + 16) (B + 18) by unfold AP; omega) (Ai.n _))
  have fr15 : Fr [o, B + 8, B + 10, B + 12, B + 14, B + 16, B + 18] h hc13 := (fr12).tr ((frc14).mo (sub_c (List.Mem.tail _ (List.Mem.tail _ (List.Mem.tail _ (List.Mem.tail _ (List.Mem.tail _ (List.Mem.tail _ (List.Mem.head _))))))) sub_n))
  refine Go.nf (h' := hc13) (st' := []) rfl rfl (Nat.le_refl _) (Nat.le_refl _) ?_
  refine g_iconst dX2_invert_59 ?_
  refine g_istore (ls2 := [(8, .int (gI (0))), (7, .ref (B + 18)), (6, .ref (B + 16)), (5, .ref (B + 14)), (4, .ref (B + 12)), (0, .ref (B + 7)), (1, .ref (a)), (2, .ref (b)), (3, .ref (o))]) dX2_invert_60 (by decide) rfl ?_
  have lg : ∀ (kk : Nat) (turn : Int) (fu : Px p) (fv : Px p) (gu : Px p) (gv : Px p) (uA : Nat) (vA : Nat) (wA : Nat) (zA : Nat) (hlg : GH), kk = (86 - turn).toNat → Fr [o, B + 8, B + 10, B + 12, B + 14, B + 16, B + 18] h hlg → RA 84 hlg (o) → RA 84 hlg (B + 8) → RA 84 hlg (B + 10) → RP hp 84 hlg (uA) (fu) → RP hp 84 hlg (vA) (fv) → RP hp 84 hlg (wA) (gu) → RP hp 84 hlg (zA) (gv) → (0 ≤ turn) → (turn + dgi hp fv ≤ 84) → (ivI hp fa fb fu fv gu gv) → ((uA = B + 12 ∧ vA = B + 14 ∧ wA = B + 16 ∧ zA = B + 18) ∨ (uA = B + 14 ∧ vA = B + 12 ∧ wA = B + 18 ∧ zA = B + 16)) → Go N mX2_invert (fun v h1 => Fr (o :: pl B) h h1 ∧ PW p B h1 ∧ ((v = some (.int (gI 0)) ∧ (¬ ∃ x, isI hp fa fb x) ∧ RA 84 h1 o) ∨ (v = some (.int (gI 1)) ∧ (∃ x, isI hp fa fb x) ∧ RP hp 84 h1 o (ivM hp fa fb)))) 0 0 hlg 62 [(8, .int (gI (turn))), (7, .ref (zA)), (6, .ref (wA)), (5, .ref (vA)), (4, .ref (uA)), (0, .ref (B + 7)), (1, .ref (a)), (2, .ref (b)), (3, .ref (o))] [] := by
    refine Go.ind (fun kk ih_lg => ?_)
    intro turn fu fv gu gv uA vA wA zA hlg hkk_lg fr_lg cr_lg_0 cr_lg_1 cr_lg_2 cr_lg_3 cr_lg_4 cr_lg_5 cr_lg_6 ht htv hI hUV
    have cg_lg_0 : hlg.2 (B + 7) = some (oB 2 [.ref (B + 1), .ref (B + 8), .ref (B + 10), .ref (B + 12), .ref (B + 14), .ref (B + 16), .ref (B + 18), .ref (B + 20), .ref (B + 22)]) := Fr.at0 fr_lg (Ni.c ⟨(show NE (B + 7) (o) by unfold NE; omega), (show NE (B + 7) (o + 1) by unfold NE; omega)⟩ (Ni.c ⟨(show NE (B + 7) (B + 8) by unfold NE; omega), (show NE (B + 7) (B + 9) by unfold NE; omega)⟩ (Ni.c ⟨(show NE (B + 7) (B + 10) by unfold NE; omega), (show NE (B + 7) (B + 11) by unfold NE; omega)⟩ (Ni.c ⟨(show NE (B + 7) (B + 12) by unfold NE; omega), (show NE (B + 7) (B + 13) by unfold NE; omega)⟩ (Ni.c ⟨(show NE (B + 7) (B + 14) by unfold NE; omega), (show NE (B + 7) (B + 15) by unfold NE; omega)⟩ (Ni.c ⟨(show NE (B + 7) (B + 16) by unfold NE; omega), (show NE (B + 7) (B + 17) by unfold NE; omega)⟩ (Ni.c ⟨(show NE (B + 7) (B + 18) by unfold NE; omega), (show NE (B + 7) (B + 19) by unfold NE; omega)⟩ (Ni.n _)))))))) hw.1
    have cg_lg_1 : hlg.2 (B + 1) = some (oB 1 [.int (gI ((p : Int)))]) := Fr.at0 fr_lg (Ni.c ⟨(show NE (B + 1) (o) by unfold NE; omega), (show NE (B + 1) (o + 1) by unfold NE; omega)⟩ (Ni.c ⟨(show NE (B + 1) (B + 8) by unfold NE; omega), (show NE (B + 1) (B + 9) by unfold NE; omega)⟩ (Ni.c ⟨(show NE (B + 1) (B + 10) by unfold NE; omega), (show NE (B + 1) (B + 11) by unfold NE; omega)⟩ (Ni.c ⟨(show NE (B + 1) (B + 12) by unfold NE; omega), (show NE (B + 1) (B + 13) by unfold NE; omega)⟩ (Ni.c ⟨(show NE (B + 1) (B + 14) by unfold NE; omega), (show NE (B + 1) (B + 15) by unfold NE; omega)⟩ (Ni.c ⟨(show NE (B + 1) (B + 16) by unfold NE; omega), (show NE (B + 1) (B + 17) by unfold NE; omega)⟩ (Ni.c ⟨(show NE (B + 1) (B + 18) by unfold NE; omega), (show NE (B + 1) (B + 19) by unfold NE; omega)⟩ (Ni.n _)))))))) hw.2.1
    rcases hUV with ⟨rfl, rfl, rfl, rfl⟩ | ⟨rfl, rfl, rfl, rfl⟩
    · skip
      have hlu := (cr_lg_3).lt
      have hlv := (cr_lg_4).lt
      have hlw := (cr_lg_5).lt
      have hlz := (cr_lg_6).lt
      have hpu := (cr_lg_3).po
      have hpv := (cr_lg_4).po
      refine g_iload 0 dX2_invert_62 rfl ?_
      refine g_bipush dX2_invert_64 (by decide) ?_
      refine g_icmp_gt (tgt := 131) dX2_invert_66 rfl (by unfold gW; omega) (by unfold gW; omega) (fun c116 => ?_) (fun c116 => ?_)
      · skip
        refine g_aload 4 dX2_invert_131 rfl ?_
        refine g_getf 1 dX2_invert_133 kX5 (by decide) fX2_45 (cr_lg_3).o rfl ?_
        refine g_if_eq (tgt := 141) dX2_invert_136 rfl (by unfold gW; omega) (fun c117 => ?_) (fun c117 => ?_)
        · skip
          obtain ⟨g, ⟨x1, x2, x3, x4, x5, x6, x7⟩, xP⟩ := cr_lg_3
          have hg0 := PO_cf xP (k := 0) (by omega) (by omega)
          have hgb := xP.2.1 0 (by omega) (by omega)
          have hyes := ivI_yes hp hfa hfb hpu (by omega) hg0 hI
          have hiv := ivr_in hp (g 0)
          refine g_aload_n 5 dX2_invert_141 rfl ?_
          refine g_aload 2 dX2_invert_142 rfl ?_
          refine g_aload_n 5 dX2_invert_144 rfl ?_
          refine g_getf 0 dX2_invert_145 kX2 (by decide) fX2_41 cg_lg_0 rfl ?_
          refine g_aload 4 dX2_invert_148 rfl ?_
          refine g_getf 0 dX2_invert_150 kX5 (by decide) fX2_49 x1 rfl ?_
          refine g_iconst dX2_invert_153 ?_
          refine g_laload dX2_invert_154 x2 (by omega) (by omega) (by omega) ?_
          refine g_callV (nc2 := 0) (ns2 := 0) (ci := 1) (As := [.long (gJ ((g) (0)))]) (st := [.ref (B + 16), .ref (B + 7)]) rfl dX2_invert_155 okX1_inverse lX2_83 itX1_inverse seX1_inverse rfl cg_lg_1 (by decide) (by decide) rfl (Nat.le_of_ble_eq_true rfl) (sP_inverse N _ (B + 1) p (by omega) hp2 ((g) (0)) (by omega) (by omega) cg_lg_1) (by omega) (by omega) (fun v118 hc118 q118 => ?_)
          obtain ⟨hq119, rfl⟩ := q118
          refine Go.nf (h' := hlg) (st' := [.long (gJ (ivr p ((g) (0)))), .ref (B + 16), .ref (B + 7)]) hq119 rfl (Nat.le_refl _) (Nat.le_refl _) ?_
          refine g_aload_n 8 dX2_invert_158 rfl ?_
          refine g_callV (nc2 := 0) (ns2 := 0) (ci := 2) (As := [.ref (B + 16), .long (gJ (ivr p ((g) (0)))), .ref (o)]) (st := []) rfl dX2_invert_159 okX2_multiplyBy lX2_100 itX2_multiplyBy seX2_multiplyBy rfl cg_lg_0 (by decide) (by decide) rfl (Nat.le_of_ble_eq_true rfl) (sP_multiplyBy N _ B (B + 16) (o) 84 84 p hp hp2 (gu) (ivr p ((g) (0))) (by omega) (by omega) hyes.2.1 cg_lg_0 cg_lg_1 cr_lg_5 cr_lg_0 (by omega) (by omega) (show AP (B + 16) (o) by unfold AP; omega)) (by omega) (by omega) (fun v120 hc120 q120 => ?_)
          obtain ⟨rfl, frc121, rn121_0⟩ := q120
          have fk122_0 : hc120.2 (B + 7) = some (oB 2 [.ref (B + 1), .ref (B + 8), .ref (B + 10), .ref (B + 12), .ref (B + 14), .ref (B + 16), .ref (B + 18), .ref (B + 20), .ref (B + 22)]) := Fr.at0 frc121 (Ni.c ⟨(show NE (B + 7) (o) by unfold NE; omega), (show NE (B + 7) (o + 1) by unfold NE; omega)⟩ (Ni.n _)) cg_lg_0
          have fk122_1 : hc120.2 (B + 1) = some (oB 1 [.int (gI ((p : Int)))]) := Fr.at0 frc121 (Ni.c ⟨(show NE (B + 1) (o) by unfold NE; omega), (show NE (B + 1) (o + 1) by unfold NE; omega)⟩ (Ni.n _)) cg_lg_1
          have fk122_2 : hc120.2 (B + 12) = some (oB 5 [.ref (B + 13), .int (gI (dgi hp (fu)))]) := Fr.at0 frc121 (Ni.c ⟨(show NE (B + 12) (o) by unfold NE; omega), (show NE (B + 12) (o + 1) by unfold NE; omega)⟩ (Ni.n _)) x1
          have fk122_3 : hc120.2 (B + 13) = some (aJ 84 (g)) := Fr.at0 frc121 (Ni.c ⟨(show NE (B + 13) (o) by unfold NE; omega), (show NE (B + 13) (o + 1) by unfold NE; omega)⟩ (Ni.n _)) x2
          have rk122_1 : RA 84 hc120 (B + 8) := (cr_lg_1).fr frc121 (Ai.c (show AP (B + 8) (o) by unfold AP; omega) (Ai.n _))
          have rk122_2 : RA 84 hc120 (B + 10) := (cr_lg_2).fr frc121 (Ai.c (show AP (B + 10) (o) by unfold AP; omega) (Ai.n _))
          have rk122_3 : RP hp 84 hc120 (B + 14) (fv) := (cr_lg_4).fr frc121 (Ai.c (show AP (B + 14) (o) by unfold AP; omega) (Ai.n _))
          have rk122_4 : RP hp 84 hc120 (B + 16) (gu) := (cr_lg_5).fr frc121 (Ai.c (show AP (B + 16) (o) by unfold AP; omega) (Ai.n _))
          have rk122_5 : RP hp 84 hc120 (B + 18) (gv) := (cr_lg_6).fr frc121 (Ai.c (show AP (B + 18) (o) by unfold AP; omega) (Ai.n _))
          have fr122 : Fr [o, B + 8, B + 10, B + 12, B + 14, B + 16, B + 18] h hc120 := (fr_lg).tr ((frc121).mo (sub_c (List.Mem.head _) sub_n))
          refine Go.nf (h' := hc120) (st' := []) rfl rfl (Nat.le_refl _) (Nat.le_refl _) ?_
          refine g_iconst dX2_invert_162 ?_
          exact g_zret dX2_invert_163 rfl (by omega) ⟨(fr122).mo (sub_c (List.Mem.head _) (sub_c (List.Mem.tail _ (List.Mem.head _)) (sub_c (List.Mem.tail _ (List.Mem.tail _ (List.Mem.head _))) (sub_c (List.Mem.tail _ (List.Mem.tail _ (List.Mem.tail _ (List.Mem.head _)))) (sub_c (List.Mem.tail _ (List.Mem.tail _ (List.Mem.tail _ (List.Mem.tail _ (List.Mem.head _))))) (sub_c (List.Mem.tail _ (List.Mem.tail _ (List.Mem.tail _ (List.Mem.tail _ (List.Mem.tail _ (List.Mem.head _)))))) (sub_c (List.Mem.tail _ (List.Mem.tail _ (List.Mem.tail _ (List.Mem.tail _ (List.Mem.tail _ (List.Mem.tail _ (List.Mem.head _))))))) sub_n))))))), (PW.upd hw fr122 (out8_c (by omega) (out8_c (by omega) (out8_c (by omega) (out8_c (by omega) (out8_c (by omega) (out8_c (by omega) (out8_c (by omega) out8_n))))))) (pl_all (Or.inr rk122_1) (Or.inr rk122_2) (Or.inr (⟨_, g, fk122_2, fk122_3, x3, x4, x5, x6, x7⟩ : RA 84 hc120 (B + 12))) (Or.inr (rk122_3).ra) (Or.inr (rk122_4).ra) (Or.inr (rk122_5).ra) (Or.inl (Ai.c (show AP (B + 20) (o) by unfold AP; omega) (Ai.c (show AP (B + 20) (B + 8) by unfold AP; omega) (Ai.c (show AP (B + 20) (B + 10) by unfold AP; omega) (Ai.c (show AP (B + 20) (B + 12) by unfold AP; omega) (Ai.c (show AP (B + 20) (B + 14) by unfold AP; omega) (Ai.c (show AP (B + 20) (B + 16) by unfold AP; omega) (Ai.c (show AP (B + 20) (B + 18) by unfold AP; omega) (Ai.n _))))))))) (Or.inl (Ai.c (show AP (B + 22) (o) by unfold AP; omega) (Ai.c (show AP (B + 22) (B + 8) by unfold AP; omega) (Ai.c (show AP (B + 22) (B + 10) by unfold AP; omega) (Ai.c (show AP (B + 22) (B + 12) by unfold AP; omega) (Ai.c (show AP (B + 22) (B + 14) by unfold AP; omega) (Ai.c (show AP (B + 22) (B + 16) by unfold AP; omega) (Ai.c (show AP (B + 22) (B + 18) by unfold AP; omega) (Ai.n _))))))))))), Or.inr ⟨rfl, ⟨_, ivI_is hp hfa hfb hpu (by omega) hg0 hI⟩, by rw [← hyes.1]; exact rn121_0⟩⟩
        · skip
          refine g_iconst dX2_invert_139 ?_
          exact g_zret dX2_invert_140 rfl (by omega) ⟨(fr_lg).mo (sub_c (List.Mem.head _) (sub_c (List.Mem.tail _ (List.Mem.head _)) (sub_c (List.Mem.tail _ (List.Mem.tail _ (List.Mem.head _))) (sub_c (List.Mem.tail _ (List.Mem.tail _ (List.Mem.tail _ (List.Mem.head _)))) (sub_c (List.Mem.tail _ (List.Mem.tail _ (List.Mem.tail _ (List.Mem.tail _ (List.Mem.head _))))) (sub_c (List.Mem.tail _ (List.Mem.tail _ (List.Mem.tail _ (List.Mem.tail _ (List.Mem.tail _ (List.Mem.head _)))))) (sub_c (List.Mem.tail _ (List.Mem.tail _ (List.Mem.tail _ (List.Mem.tail _ (List.Mem.tail _ (List.Mem.tail _ (List.Mem.head _))))))) sub_n))))))), (PW.upd hw fr_lg (out8_c (by omega) (out8_c (by omega) (out8_c (by omega) (out8_c (by omega) (out8_c (by omega) (out8_c (by omega) (out8_c (by omega) out8_n))))))) (pl_all (Or.inr cr_lg_1) (Or.inr cr_lg_2) (Or.inr (cr_lg_3).ra) (Or.inr (cr_lg_4).ra) (Or.inr (cr_lg_5).ra) (Or.inr (cr_lg_6).ra) (Or.inl (Ai.c (show AP (B + 20) (o) by unfold AP; omega) (Ai.c (show AP (B + 20) (B + 8) by unfold AP; omega) (Ai.c (show AP (B + 20) (B + 10) by unfold AP; omega) (Ai.c (show AP (B + 20) (B + 12) by unfold AP; omega) (Ai.c (show AP (B + 20) (B + 14) by unfold AP; omega) (Ai.c (show AP (B + 20) (B + 16) by unfold AP; omega) (Ai.c (show AP (B + 20) (B + 18) by unfold AP; omega) (Ai.n _))))))))) (Or.inl (Ai.c (show AP (B + 22) (o) by unfold AP; omega) (Ai.c (show AP (B + 22) (B + 8) by unfold AP; omega) (Ai.c (show AP (B + 22) (B + 10) by unfold AP; omega) (Ai.c (show AP (B + 22) (B + 12) by unfold AP; omega) (Ai.c (show AP (B + 22) (B + 14) by unfold AP; omega) (Ai.c (show AP (B + 22) (B + 16) by unfold AP; omega) (Ai.c (show AP (B + 22) (B + 18) by unfold AP; omega) (Ai.n _))))))))))), Or.inl ⟨rfl, ivI_no hp hfa hfb hpu hpv (by omega) (by omega) hI, cr_lg_0⟩⟩
      · skip
        refine g_aload 3 dX2_invert_69 rfl ?_
        refine g_getf 1 dX2_invert_71 kX5 (by decide) fX2_45 (cr_lg_4).o rfl ?_
        refine g_if_lt (tgt := 131) dX2_invert_74 rfl (by unfold gW; omega) (fun c124 => ?_) (fun c124 => ?_)
        · skip
          refine g_aload 4 dX2_invert_131 rfl ?_
          refine g_getf 1 dX2_invert_133 kX5 (by decide) fX2_45 (cr_lg_3).o rfl ?_
          refine g_if_eq (tgt := 141) dX2_invert_136 rfl (by unfold gW; omega) (fun c125 => ?_) (fun c125 => ?_)
          · skip
            obtain ⟨g, ⟨x1, x2, x3, x4, x5, x6, x7⟩, xP⟩ := cr_lg_3
            have hg0 := PO_cf xP (k := 0) (by omega) (by omega)
            have hgb := xP.2.1 0 (by omega) (by omega)
            have hyes := ivI_yes hp hfa hfb hpu (by omega) hg0 hI
            have hiv := ivr_in hp (g 0)
            refine g_aload_n 5 dX2_invert_141 rfl ?_
            refine g_aload 2 dX2_invert_142 rfl ?_
            refine g_aload_n 5 dX2_invert_144 rfl ?_
            refine g_getf 0 dX2_invert_145 kX2 (by decide) fX2_41 cg_lg_0 rfl ?_
            refine g_aload 4 dX2_invert_148 rfl ?_
            refine g_getf 0 dX2_invert_150 kX5 (by decide) fX2_49 x1 rfl ?_
            refine g_iconst dX2_invert_153 ?_
            refine g_laload dX2_invert_154 x2 (by omega) (by omega) (by omega) ?_
            refine g_callV (nc2 := 0) (ns2 := 0) (ci := 1) (As := [.long (gJ ((g) (0)))]) (st := [.ref (B + 16), .ref (B + 7)]) rfl dX2_invert_155 okX1_inverse lX2_83 itX1_inverse seX1_inverse rfl cg_lg_1 (by decide) (by decide) rfl (Nat.le_of_ble_eq_true rfl) (sP_inverse N _ (B + 1) p (by omega) hp2 ((g) (0)) (by omega) (by omega) cg_lg_1) (by omega) (by omega) (fun v126 hc126 q126 => ?_)
            obtain ⟨hq127, rfl⟩ := q126
            refine Go.nf (h' := hlg) (st' := [.long (gJ (ivr p ((g) (0)))), .ref (B + 16), .ref (B + 7)]) hq127 rfl (Nat.le_refl _) (Nat.le_refl _) ?_
            refine g_aload_n 8 dX2_invert_158 rfl ?_
            refine g_callV (nc2 := 0) (ns2 := 0) (ci := 2) (As := [.ref (B + 16), .long (gJ (ivr p ((g) (0)))), .ref (o)]) (st := []) rfl dX2_invert_159 okX2_multiplyBy lX2_100 itX2_multiplyBy seX2_multiplyBy rfl cg_lg_0 (by decide) (by decide) rfl (Nat.le_of_ble_eq_true rfl) (sP_multiplyBy N _ B (B + 16) (o) 84 84 p hp hp2 (gu) (ivr p ((g) (0))) (by omega) (by omega) hyes.2.1 cg_lg_0 cg_lg_1 cr_lg_5 cr_lg_0 (by omega) (by omega) (show AP (B + 16) (o) by unfold AP; omega)) (by omega) (by omega) (fun v128 hc128 q128 => ?_)
            obtain ⟨rfl, frc129, rn129_0⟩ := q128
            have fk130_0 : hc128.2 (B + 7) = some (oB 2 [.ref (B + 1), .ref (B + 8), .ref (B + 10), .ref (B + 12), .ref (B + 14), .ref (B + 16), .ref (B + 18), .ref (B + 20), .ref (B + 22)]) := Fr.at0 frc129 (Ni.c ⟨(show NE (B + 7) (o) by unfold NE; omega), (show NE (B + 7) (o + 1) by unfold NE; omega)⟩ (Ni.n _)) cg_lg_0
            have fk130_1 : hc128.2 (B + 1) = some (oB 1 [.int (gI ((p : Int)))]) := Fr.at0 frc129 (Ni.c ⟨(show NE (B + 1) (o) by unfold NE; omega), (show NE (B + 1) (o + 1) by unfold NE; omega)⟩ (Ni.n _)) cg_lg_1
            have fk130_2 : hc128.2 (B + 12) = some (oB 5 [.ref (B + 13), .int (gI (dgi hp (fu)))]) := Fr.at0 frc129 (Ni.c ⟨(show NE (B + 12) (o) by unfold NE; omega), (show NE (B + 12) (o + 1) by unfold NE; omega)⟩ (Ni.n _)) x1
            have fk130_3 : hc128.2 (B + 13) = some (aJ 84 (g)) := Fr.at0 frc129 (Ni.c ⟨(show NE (B + 13) (o) by unfold NE; omega), (show NE (B + 13) (o + 1) by unfold NE; omega)⟩ (Ni.n _)) x2
            have rk130_1 : RA 84 hc128 (B + 8) := (cr_lg_1).fr frc129 (Ai.c (show AP (B + 8) (o) by unfold AP; omega) (Ai.n _))
            have rk130_2 : RA 84 hc128 (B + 10) := (cr_lg_2).fr frc129 (Ai.c (show AP (B + 10) (o) by unfold AP; omega) (Ai.n _))
            have rk130_3 : RP hp 84 hc128 (B + 14) (fv) := (cr_lg_4).fr frc129 (Ai.c (show AP (B + 14) (o) by unfold AP; omega) (Ai.n _))
            have rk130_4 : RP hp 84 hc128 (B + 16) (gu) := (cr_lg_5).fr frc129 (Ai.c (show AP (B + 16) (o) by unfold AP; omega) (Ai.n _))
            have rk130_5 : RP hp 84 hc128 (B + 18) (gv) := (cr_lg_6).fr frc129 (Ai.c (show AP (B + 18) (o) by unfold AP; omega) (Ai.n _))
            have fr130 : Fr [o, B + 8, B + 10, B + 12, B + 14, B + 16, B + 18] h hc128 := (fr_lg).tr ((frc129).mo (sub_c (List.Mem.head _) sub_n))
            refine Go.nf (h' := hc128) (st' := []) rfl rfl (Nat.le_refl _) (Nat.le_refl _) ?_
            refine g_iconst dX2_invert_162 ?_
            exact g_zret dX2_invert_163 rfl (by omega) ⟨(fr130).mo (sub_c (List.Mem.head _) (sub_c (List.Mem.tail _ (List.Mem.head _)) (sub_c (List.Mem.tail _ (List.Mem.tail _ (List.Mem.head _))) (sub_c (List.Mem.tail _ (List.Mem.tail _ (List.Mem.tail _ (List.Mem.head _)))) (sub_c (List.Mem.tail _ (List.Mem.tail _ (List.Mem.tail _ (List.Mem.tail _ (List.Mem.head _))))) (sub_c (List.Mem.tail _ (List.Mem.tail _ (List.Mem.tail _ (List.Mem.tail _ (List.Mem.tail _ (List.Mem.head _)))))) (sub_c (List.Mem.tail _ (List.Mem.tail _ (List.Mem.tail _ (List.Mem.tail _ (List.Mem.tail _ (List.Mem.tail _ (List.Mem.head _))))))) sub_n))))))), (PW.upd hw fr130 (out8_c (by omega) (out8_c (by omega) (out8_c (by omega) (out8_c (by omega) (out8_c (by omega) (out8_c (by omega) (out8_c (by omega) out8_n))))))) (pl_all (Or.inr rk130_1) (Or.inr rk130_2) (Or.inr (⟨_, g, fk130_2, fk130_3, x3, x4, x5, x6, x7⟩ : RA 84 hc128 (B + 12))) (Or.inr (rk130_3).ra) (Or.inr (rk130_4).ra) (Or.inr (rk130_5).ra) (Or.inl (Ai.c (show AP (B + 20) (o) by unfold AP; omega) (Ai.c (show AP (B + 20) (B + 8) by unfold AP; omega) (Ai.c (show AP (B + 20) (B + 10) by unfold AP; omega) (Ai.c (show AP (B + 20) (B + 12) by unfold AP; omega) (Ai.c (show AP (B + 20) (B + 14) by unfold AP; omega) (Ai.c (show AP (B + 20) (B + 16) by unfold AP; omega) (Ai.c (show AP (B + 20) (B + 18) by unfold AP; omega) (Ai.n _))))))))) (Or.inl (Ai.c (show AP (B + 22) (o) by unfold AP; omega) (Ai.c (show AP (B + 22) (B + 8) by unfold AP; omega) (Ai.c (show AP (B + 22) (B + 10) by unfold AP; omega) (Ai.c (show AP (B + 22) (B + 12) by unfold AP; omega) (Ai.c (show AP (B + 22) (B + 14) by unfold AP; omega) (Ai.c (show AP (B + 22) (B + 16) by unfold AP; omega) (Ai.c (show AP (B + 22) (B + 18) by unfold AP; omega) (Ai.n _))))))))))), Or.inr ⟨rfl, ⟨_, ivI_is hp hfa hfb hpu (by omega) hg0 hI⟩, by rw [← hyes.1]; exact rn129_0⟩⟩
          · skip
            refine g_iconst dX2_invert_139 ?_
            exact g_zret dX2_invert_140 rfl (by omega) ⟨(fr_lg).mo (sub_c (List.Mem.head _) (sub_c (List.Mem.tail _ (List.Mem.head _)) (sub_c (List.Mem.tail _ (List.Mem.tail _ (List.Mem.head _))) (sub_c (List.Mem.tail _ (List.Mem.tail _ (List.Mem.tail _ (List.Mem.head _)))) (sub_c (List.Mem.tail _ (List.Mem.tail _ (List.Mem.tail _ (List.Mem.tail _ (List.Mem.head _))))) (sub_c (List.Mem.tail _ (List.Mem.tail _ (List.Mem.tail _ (List.Mem.tail _ (List.Mem.tail _ (List.Mem.head _)))))) (sub_c (List.Mem.tail _ (List.Mem.tail _ (List.Mem.tail _ (List.Mem.tail _ (List.Mem.tail _ (List.Mem.tail _ (List.Mem.head _))))))) sub_n))))))), (PW.upd hw fr_lg (out8_c (by omega) (out8_c (by omega) (out8_c (by omega) (out8_c (by omega) (out8_c (by omega) (out8_c (by omega) (out8_c (by omega) out8_n))))))) (pl_all (Or.inr cr_lg_1) (Or.inr cr_lg_2) (Or.inr (cr_lg_3).ra) (Or.inr (cr_lg_4).ra) (Or.inr (cr_lg_5).ra) (Or.inr (cr_lg_6).ra) (Or.inl (Ai.c (show AP (B + 20) (o) by unfold AP; omega) (Ai.c (show AP (B + 20) (B + 8) by unfold AP; omega) (Ai.c (show AP (B + 20) (B + 10) by unfold AP; omega) (Ai.c (show AP (B + 20) (B + 12) by unfold AP; omega) (Ai.c (show AP (B + 20) (B + 14) by unfold AP; omega) (Ai.c (show AP (B + 20) (B + 16) by unfold AP; omega) (Ai.c (show AP (B + 20) (B + 18) by unfold AP; omega) (Ai.n _))))))))) (Or.inl (Ai.c (show AP (B + 22) (o) by unfold AP; omega) (Ai.c (show AP (B + 22) (B + 8) by unfold AP; omega) (Ai.c (show AP (B + 22) (B + 10) by unfold AP; omega) (Ai.c (show AP (B + 22) (B + 12) by unfold AP; omega) (Ai.c (show AP (B + 22) (B + 14) by unfold AP; omega) (Ai.c (show AP (B + 22) (B + 16) by unfold AP; omega) (Ai.c (show AP (B + 22) (B + 18) by unfold AP; omega) (Ai.n _))))))))))), Or.inl ⟨rfl, ivI_no hp hfa hfb hpu hpv (by omega) (by omega) hI, cr_lg_0⟩⟩
        · skip
          refine g_aload_n 5 dX2_invert_77 rfl ?_
          refine g_aload 4 dX2_invert_78 rfl ?_
          refine g_aload 3 dX2_invert_80 rfl ?_
          refine g_aload_n 5 dX2_invert_82 rfl ?_
          refine g_getf 2 dX2_invert_83 kX2 (by decide) fX2_20 cg_lg_0 rfl ?_
          refine g_callV (nc2 := 0) (ns2 := 0) (ci := 2) (As := [.ref (B + 12), .ref (B + 14), .ref (B + 10)]) (st := []) rfl dX2_invert_86 okX2_reduce lX2_87 itX2_reduce seX2_reduce rfl cg_lg_0 (by decide) (by decide) rfl (Nat.le_of_ble_eq_true rfl) (sP_reduce N _ B (B + 12) (B + 14) (B + 10) 84 84 84 p hp hp2 (dgi hp (fu)) ((p : Int)) (fu) (fv) (by omega) cg_lg_0 cg_lg_1 (cr_lg_3).ru cr_lg_4 cr_lg_2 (by omega) (by omega) (show AP (B + 12) (B + 14) by unfold AP; omega) (show AP (B + 12) (B + 10) by unfold AP; omega) (show AP (B + 14) (B + 10) by unfold AP; omega) (by omega) (by omega) (by omega)) (by omega) (by omega) (fun v132 hc132 q132 => ?_)
          obtain ⟨rfl, frc133, rn133_0, rn133_1⟩ := q132
          have fk134_0 : hc132.2 (B + 7) = some (oB 2 [.ref (B + 1), .ref (B + 8), .ref (B + 10), .ref (B + 12), .ref (B + 14), .ref (B + 16), .ref (B + 18), .ref (B + 20), .ref (B + 22)]) := Fr.at0 frc133 (Ni.c ⟨(show NE (B + 7) (B + 12) by unfold NE; omega), (show NE (B + 7) (B + 13) by unfold NE; omega)⟩ (Ni.c ⟨(show NE (B + 7) (B + 10) by unfold NE; omega), (show NE (B + 7) (B + 11) by unfold NE; omega)⟩ (Ni.n _))) cg_lg_0
          have fk134_1 : hc132.2 (B + 1) = some (oB 1 [.int (gI ((p : Int)))]) := Fr.at0 frc133 (Ni.c ⟨(show NE (B + 1) (B + 12) by unfold NE; omega), (show NE (B + 1) (B + 13) by unfold NE; omega)⟩ (Ni.c ⟨(show NE (B + 1) (B + 10) by unfold NE; omega), (show NE (B + 1) (B + 11) by unfold NE; omega)⟩ (Ni.n _))) cg_lg_1
          have rk134_0 : RA 84 hc132 (o) := (cr_lg_0).fr frc133 (Ai.c (show AP (o) (B + 12) by unfold AP; omega) (Ai.c (show AP (o) (B + 10) by unfold AP; omega) (Ai.n _)))
          have rk134_1 : RA 84 hc132 (B + 8) := (cr_lg_1).fr frc133 (Ai.c (show AP (B + 8) (B + 12) by unfold AP; omega) (Ai.c (show AP (B + 8) (B + 10) by unfold AP; omega) (Ai.n _)))
          have rk134_4 : RP hp 84 hc132 (B + 14) (fv) := (cr_lg_4).fr frc133 (Ai.c (show AP (B + 14) (B + 12) by unfold AP; omega) (Ai.c (show AP (B + 14) (B + 10) by unfold AP; omega) (Ai.n _)))
          have rk134_5 : RP hp 84 hc132 (B + 16) (gu) := (cr_lg_5).fr frc133 (Ai.c (show AP (B + 16) (B + 12) by unfold AP; omega) (Ai.c (show AP (B + 16) (B + 10) by unfold AP; omega) (Ai.n _)))
          have rk134_6 : RP hp 84 hc132 (B + 18) (gv) := (cr_lg_6).fr frc133 (Ai.c (show AP (B + 18) (B + 12) by unfold AP; omega) (Ai.c (show AP (B + 18) (B + 10) by unfold AP; omega) (Ai.n _)))
          have fr134 : Fr [o, B + 8, B + 10, B + 12, B + 14, B + 16, B + 18] h hc132 := (fr_lg).tr ((frc133).mo (sub_c (List.Mem.tail _ (List.Mem.tail _ (List.Mem.tail _ (List.Mem.head _)))) (sub_c (List.Mem.tail _ (List.Mem.tail _ (List.Mem.head _))) sub_n)))
          refine Go.nf (h' := hc132) (st' := []) rfl rfl (Nat.le_refl _) (Nat.le_refl _) ?_
          have hstep := ivI_s hp hfa hfb hpu hpv (by omega) hI
          refine g_aload_n 5 dX2_invert_89 rfl ?_
          refine g_aload 2 dX2_invert_90 rfl ?_
          refine g_aload_n 5 dX2_invert_92 rfl ?_
          refine g_getf 2 dX2_invert_93 kX2 (by decide) fX2_20 fk134_0 rfl ?_
          refine g_aload 1 dX2_invert_96 rfl ?_
          refine g_callV (nc2 := 0) (ns2 := 0) (ci := 2) (As := [.ref (B + 16), .ref (B + 10), .ref (B + 18)]) (st := []) rfl dX2_invert_98 okX2_lessen lX2_97 itX2_lessen seX2_lessen rfl fk134_0 (by decide) (by decide) rfl (Nat.le_of_ble_eq_true rfl) (sP_lessen N _ B (B + 16) (B + 10) (B + 18) p hp hp2 (gu) (qt hp (fu) (fv)) (gv) fk134_0 fk134_1 rk134_5 rn133_1 rk134_6 rk134_1 (by omega) (by omega) (by omega) (by omega)) (by omega) (by omega) (fun v135 hc135 q135 => ?_)
          obtain ⟨rfl, frc136, rn136_0, rn136_1⟩ := q135
          have fk137_0 : hc135.2 (B + 7) = some (oB 2 [.ref (B + 1), .ref (B + 8), .ref (B + 10), .ref (B + 12), .ref (B + 14), .ref (B + 16), .ref (B + 18), .ref (B + 20), .ref (B + 22)]) := Fr.at0 frc136 (Ni.c ⟨(show NE (B + 7) (B + 16) by unfold NE; omega), (show NE (B + 7) (B + 17) by unfold NE; omega)⟩ (Ni.c ⟨(show NE (B + 7) (B + 8) by unfold NE; omega), (show NE (B + 7) (B + 9) by unfold NE; omega)⟩ (Ni.n _))) fk134_0
          have fk137_1 : hc135.2 (B + 1) = some (oB 1 [.int (gI ((p : Int)))]) := Fr.at0 frc136 (Ni.c ⟨(show NE (B + 1) (B + 16) by unfold NE; omega), (show NE (B + 1) (B + 17) by unfold NE; omega)⟩ (Ni.c ⟨(show NE (B + 1) (B + 8) by unfold NE; omega), (show NE (B + 1) (B + 9) by unfold NE; omega)⟩ (Ni.n _))) fk134_1
          have rk137_0 : RA 84 hc135 (o) := (rk134_0).fr frc136 (Ai.c (show AP (o) (B + 16) by unfold AP; omega) (Ai.c (show AP (o) (B + 8) by unfold AP; omega) (Ai.n _)))
          have rk137_2 : RP hp 84 hc135 (B + 14) (fv) := (rk134_4).fr frc136 (Ai.c (show AP (B + 14) (B + 16) by unfold AP; omega) (Ai.c (show AP (B + 14) (B + 8) by unfold AP; omega) (Ai.n _)))
          have rk137_4 : RP hp 84 hc135 (B + 18) (gv) := (rk134_6).fr frc136 (Ai.c (show AP (B + 18) (B + 16) by unfold AP; omega) (Ai.c (show AP (B + 18) (B + 8) by unfold AP; omega) (Ai.n _)))
          have rk137_5 : RP hp 84 hc135 (B + 12) (rm hp (fu) (fv)) := (rn133_0).fr frc136 (Ai.c (show AP (B + 12) (B + 16) by unfold AP; omega) (Ai.c (show AP (B + 12) (B + 8) by unfold AP; omega) (Ai.n _)))
          have rk137_6 : RP hp 84 hc135 (B + 10) (qt hp (fu) (fv)) := (rn133_1).fr frc136 (Ai.c (show AP (B + 10) (B + 16) by unfold AP; omega) (Ai.c (show AP (B + 10) (B + 8) by unfold AP; omega) (Ai.n _)))
          have fr137 : Fr [o, B + 8, B + 10, B + 12, B + 14, B + 16, B + 18] h hc135 := (fr134).tr ((frc136).mo (sub_c (List.Mem.tail _ (List.Mem.tail _ (List.Mem.tail _ (List.Mem.tail _ (List.Mem.tail _ (List.Mem.head _)))))) (sub_c (List.Mem.tail _ (List.Mem.head _)) sub_n)))
          refine Go.nf (h' := hc135) (st' := []) rfl rfl (Nat.le_refl _) (Nat.le_refl _) ?_
          refine g_aload 4 dX2_invert_101 rfl ?_
          refine g_astore (ls2 := [(9, .ref (B + 12)), (8, .int (gI (turn))), (7, .ref (B + 18)), (6, .ref (B + 16)), (5, .ref (B + 14)), (4, .ref (B + 12)), (0, .ref (B + 7)), (1, .ref (a)), (2, .ref (b)), (3, .ref (o))]) dX2_invert_103 (by decide) rfl ?_
          refine g_aload 4 dX2_invert_105 rfl ?_
          refine g_astore (ls2 := [(4, .ref (B + 14)), (9, .ref (B + 12)), (8, .int (gI (turn))), (7, .ref (B + 18)), (6, .ref (B + 16)), (5, .ref (B + 14)), (0, .ref (B + 7)), (1, .ref (a)), (2, .ref (b)), (3, .ref (o))]) dX2_invert_107 (by decide) rfl ?_
          refine g_aload 1 dX2_invert_109 rfl ?_
          refine g_astore (ls2 := [(5, .ref (B + 12)), (4, .ref (B + 14)), (9, .ref (B + 12)), (8, .int (gI (turn))), (7, .ref (B + 18)), (6, .ref (B + 16)), (0, .ref (B + 7)), (1, .ref (a)), (2, .ref (b)), (3, .ref (o))]) dX2_invert_111 (by decide) rfl ?_
          refine g_aload 5 dX2_invert_113 rfl ?_
          refine g_astore (ls2 := [(9, .ref (B + 16)), (5, .ref (B + 12)), (4, .ref (B + 14)), (8, .int (gI (turn))), (7, .ref (B + 18)), (6, .ref (B + 16)), (0, .ref (B + 7)), (1, .ref (a)), (2, .ref (b)), (3, .ref (o))]) dX2_invert_115 (by decide) rfl ?_
          refine g_aload 4 dX2_invert_117 rfl ?_
          refine g_astore (ls2 := [(6, .ref (B + 18)), (9, .ref (B + 16)), (5, .ref (B + 12)), (4, .ref (B + 14)), (8, .int (gI (turn))), (7, .ref (B + 18)), (0, .ref (B + 7)), (1, .ref (a)), (2, .ref (b)), (3, .ref (o))]) dX2_invert_119 (by decide) rfl ?_
          refine g_aload 1 dX2_invert_121 rfl ?_
          refine g_astore (ls2 := [(7, .ref (B + 16)), (6, .ref (B + 18)), (9, .ref (B + 16)), (5, .ref (B + 12)), (4, .ref (B + 14)), (8, .int (gI (turn))), (0, .ref (B + 7)), (1, .ref (a)), (2, .ref (b)), (3, .ref (o))]) dX2_invert_123 (by decide) rfl ?_
          refine g_iinc 5 (ls2 := [(8, .int (gI (turn + 1))), (7, .ref (B + 16)), (6, .ref (B + 18)), (9, .ref (B + 16)), (5, .ref (B + 12)), (4, .ref (B + 14)), (0, .ref (B + 7)), (1, .ref (a)), (2, .ref (b)), (3, .ref (o))]) dX2_invert_125 rfl (by decide) rfl ?_
          refine g_goto (tgt := 62) dX2_invert_128 rfl ?_
          refine Go.sub [0, 1, 2, 4, 5, 6, 7, 8, 9] rfl ?_
          exact ih_lg _ (by omega) (turn + 1) (fv) (rm hp fu fv) (gv) (psb hp gu (pml hp (qt hp fu fv) gv)) (B + 14) (B + 12) (B + 18) (B + 16) hc135 rfl fr137 rk137_0 rn136_1 (rk137_6).ra rk137_2 rk137_5 rk137_4 rn136_0 (by omega) (by have := rm_lt hp hpu hpv (by omega); omega) hstep.2 (Or.inr ⟨rfl, rfl, rfl, rfl⟩)
    · skip
      have hlu := (cr_lg_3).lt
      have hlv := (cr_lg_4).lt
      have hlw := (cr_lg_5).lt
      have hlz := (cr_lg_6).lt
      have hpu := (cr_lg_3).po
      have hpv := (cr_lg_4).po
      refine g_iload 0 dX2_invert_62 rfl ?_
      refine g_bipush dX2_invert_64 (by decide) ?_
      refine g_icmp_gt (tgt := 131) dX2_invert_66 rfl (by unfold gW; omega) (by unfold gW; omega) (fun c338 => ?_) (fun c338 => ?_)
      · skip
        refine g_aload 4 dX2_invert_131 rfl ?_
        refine g_getf 1 dX2_invert_133 kX5 (by decide) fX2_45 (cr_lg_3).o rfl ?_
        refine g_if_eq (tgt := 141) dX2_invert_136 rfl (by unfold gW; omega) (fun c339 => ?_) (fun c339 => ?_)
        · skip
          obtain ⟨g, ⟨x1, x2, x3, x4, x5, x6, x7⟩, xP⟩ := cr_lg_3
          have hg0 := PO_cf xP (k := 0) (by omega) (by omega)
          have hgb := xP.2.1 0 (by omega) (by omega)
          have hyes := ivI_yes hp hfa hfb hpu (by omega) hg0 hI
          have hiv := ivr_in hp (g 0)
          refine g_aload_n 5 dX2_invert_141 rfl ?_
          refine g_aload 2 dX2_invert_142 rfl ?_
          refine g_aload_n 5 dX2_invert_144 rfl ?_
          refine g_getf 0 dX2_invert_145 kX2 (by decide) fX2_41 cg_lg_0 rfl ?_
          refine g_aload 4 dX2_invert_148 rfl ?_
          refine g_getf 0 dX2_invert_150 kX5 (by decide) fX2_49 x1 rfl ?_
          refine g_iconst dX2_invert_153 ?_
          refine g_laload dX2_invert_154 x2 (by omega) (by omega) (by omega) ?_
          refine g_callV (nc2 := 0) (ns2 := 0) (ci := 1) (As := [.long (gJ ((g) (0)))]) (st := [.ref (B + 18), .ref (B + 7)]) rfl dX2_invert_155 okX1_inverse lX2_83 itX1_inverse seX1_inverse rfl cg_lg_1 (by decide) (by decide) rfl (Nat.le_of_ble_eq_true rfl) (sP_inverse N _ (B + 1) p (by omega) hp2 ((g) (0)) (by omega) (by omega) cg_lg_1) (by omega) (by omega) (fun v340 hc340 q340 => ?_)
          obtain ⟨hq341, rfl⟩ := q340
          refine Go.nf (h' := hlg) (st' := [.long (gJ (ivr p ((g) (0)))), .ref (B + 18), .ref (B + 7)]) hq341 rfl (Nat.le_refl _) (Nat.le_refl _) ?_
          refine g_aload_n 8 dX2_invert_158 rfl ?_
          refine g_callV (nc2 := 0) (ns2 := 0) (ci := 2) (As := [.ref (B + 18), .long (gJ (ivr p ((g) (0)))), .ref (o)]) (st := []) rfl dX2_invert_159 okX2_multiplyBy lX2_100 itX2_multiplyBy seX2_multiplyBy rfl cg_lg_0 (by decide) (by decide) rfl (Nat.le_of_ble_eq_true rfl) (sP_multiplyBy N _ B (B + 18) (o) 84 84 p hp hp2 (gu) (ivr p ((g) (0))) (by omega) (by omega) hyes.2.1 cg_lg_0 cg_lg_1 cr_lg_5 cr_lg_0 (by omega) (by omega) (show AP (B + 18) (o) by unfold AP; omega)) (by omega) (by omega) (fun v342 hc342 q342 => ?_)
          obtain ⟨rfl, frc343, rn343_0⟩ := q342
          have fk344_0 : hc342.2 (B + 7) = some (oB 2 [.ref (B + 1), .ref (B + 8), .ref (B + 10), .ref (B + 12), .ref (B + 14), .ref (B + 16), .ref (B + 18), .ref (B + 20), .ref (B + 22)]) := Fr.at0 frc343 (Ni.c ⟨(show NE (B + 7) (o) by unfold NE; omega), (show NE (B + 7) (o + 1) by unfold NE; omega)⟩ (Ni.n _)) cg_lg_0
          have fk344_1 : hc342.2 (B + 1) = some (oB 1 [.int (gI ((p : Int)))]) := Fr.at0 frc343 (Ni.c ⟨(show NE (B + 1) (o) by unfold NE; omega), (show NE (B + 1) (o + 1) by unfold NE; omega)⟩ (Ni.n _)) cg_lg_1
          have fk344_2 : hc342.2 (B + 14) = some (oB 5 [.ref (B + 15), .int (gI (dgi hp (fu)))]) := Fr.at0 frc343 (Ni.c ⟨(show NE (B + 14) (o) by unfold NE; omega), (show NE (B + 14) (o + 1) by unfold NE; omega)⟩ (Ni.n _)) x1
          have fk344_3 : hc342.2 (B + 15) = some (aJ 84 (g)) := Fr.at0 frc343 (Ni.c ⟨(show NE (B + 15) (o) by unfold NE; omega), (show NE (B + 15) (o + 1) by unfold NE; omega)⟩ (Ni.n _)) x2
          have rk344_1 : RA 84 hc342 (B + 8) := (cr_lg_1).fr frc343 (Ai.c (show AP (B + 8) (o) by unfold AP; omega) (Ai.n _))
          have rk344_2 : RA 84 hc342 (B + 10) := (cr_lg_2).fr frc343 (Ai.c (show AP (B + 10) (o) by unfold AP; omega) (Ai.n _))
          have rk344_3 : RP hp 84 hc342 (B + 12) (fv) := (cr_lg_4).fr frc343 (Ai.c (show AP (B + 12) (o) by unfold AP; omega) (Ai.n _))
          have rk344_4 : RP hp 84 hc342 (B + 18) (gu) := (cr_lg_5).fr frc343 (Ai.c (show AP (B + 18) (o) by unfold AP; omega) (Ai.n _))
          have rk344_5 : RP hp 84 hc342 (B + 16) (gv) := (cr_lg_6).fr frc343 (Ai.c (show AP (B + 16) (o) by unfold AP; omega) (Ai.n _))
          have fr344 : Fr [o, B + 8, B + 10, B + 12, B + 14, B + 16, B + 18] h hc342 := (fr_lg).tr ((frc343).mo (sub_c (List.Mem.head _) sub_n))
          refine Go.nf (h' := hc342) (st' := []) rfl rfl (Nat.le_refl _) (Nat.le_refl _) ?_
          refine g_iconst dX2_invert_162 ?_
          exact g_zret dX2_invert_163 rfl (by omega) ⟨(fr344).mo (sub_c (List.Mem.head _) (sub_c (List.Mem.tail _ (List.Mem.head _)) (sub_c (List.Mem.tail _ (List.Mem.tail _ (List.Mem.head _))) (sub_c (List.Mem.tail _ (List.Mem.tail _ (List.Mem.tail _ (List.Mem.head _)))) (sub_c (List.Mem.tail _ (List.Mem.tail _ (List.Mem.tail _ (List.Mem.tail _ (List.Mem.head _))))) (sub_c (List.Mem.tail _ (List.Mem.tail _ (List.Mem.tail _ (List.Mem.tail _ (List.Mem.tail _ (List.Mem.head _)))))) (sub_c (List.Mem.tail _ (List.Mem.tail _ (List.Mem.tail _ (List.Mem.tail _ (List.Mem.tail _ (List.Mem.tail _ (List.Mem.head _))))))) sub_n))))))), (PW.upd hw fr344 (out8_c (by omega) (out8_c (by omega) (out8_c (by omega) (out8_c (by omega) (out8_c (by omega) (out8_c (by omega) (out8_c (by omega) out8_n))))))) (pl_all (Or.inr rk344_1) (Or.inr rk344_2) (Or.inr (rk344_3).ra) (Or.inr (⟨_, g, fk344_2, fk344_3, x3, x4, x5, x6, x7⟩ : RA 84 hc342 (B + 14))) (Or.inr (rk344_5).ra) (Or.inr (rk344_4).ra) (Or.inl (Ai.c (show AP (B + 20) (o) by unfold AP; omega) (Ai.c (show AP (B + 20) (B + 8) by unfold AP; omega) (Ai.c (show AP (B + 20) (B + 10) by unfold AP; omega) (Ai.c (show AP (B + 20) (B + 12) by unfold AP; omega) (Ai.c (show AP (B + 20) (B + 14) by unfold AP; omega) (Ai.c (show AP (B + 20) (B + 16) by unfold AP; omega) (Ai.c (show AP (B + 20) (B + 18) by unfold AP; omega) (Ai.n _))))))))) (Or.inl (Ai.c (show AP (B + 22) (o) by unfold AP; omega) (Ai.c (show AP (B + 22) (B + 8) by unfold AP; omega) (Ai.c (show AP (B + 22) (B + 10) by unfold AP; omega) (Ai.c (show AP (B + 22) (B + 12) by unfold AP; omega) (Ai.c (show AP (B + 22) (B + 14) by unfold AP; omega) (Ai.c (show AP (B + 22) (B + 16) by unfold AP; omega) (Ai.c (show AP (B + 22) (B + 18) by unfold AP; omega) (Ai.n _))))))))))), Or.inr ⟨rfl, ⟨_, ivI_is hp hfa hfb hpu (by omega) hg0 hI⟩, by rw [← hyes.1]; exact rn343_0⟩⟩
        · skip
          refine g_iconst dX2_invert_139 ?_
          exact g_zret dX2_invert_140 rfl (by omega) ⟨(fr_lg).mo (sub_c (List.Mem.head _) (sub_c (List.Mem.tail _ (List.Mem.head _)) (sub_c (List.Mem.tail _ (List.Mem.tail _ (List.Mem.head _))) (sub_c (List.Mem.tail _ (List.Mem.tail _ (List.Mem.tail _ (List.Mem.head _)))) (sub_c (List.Mem.tail _ (List.Mem.tail _ (List.Mem.tail _ (List.Mem.tail _ (List.Mem.head _))))) (sub_c (List.Mem.tail _ (List.Mem.tail _ (List.Mem.tail _ (List.Mem.tail _ (List.Mem.tail _ (List.Mem.head _)))))) (sub_c (List.Mem.tail _ (List.Mem.tail _ (List.Mem.tail _ (List.Mem.tail _ (List.Mem.tail _ (List.Mem.tail _ (List.Mem.head _))))))) sub_n))))))), (PW.upd hw fr_lg (out8_c (by omega) (out8_c (by omega) (out8_c (by omega) (out8_c (by omega) (out8_c (by omega) (out8_c (by omega) (out8_c (by omega) out8_n))))))) (pl_all (Or.inr cr_lg_1) (Or.inr cr_lg_2) (Or.inr (cr_lg_4).ra) (Or.inr (cr_lg_3).ra) (Or.inr (cr_lg_6).ra) (Or.inr (cr_lg_5).ra) (Or.inl (Ai.c (show AP (B + 20) (o) by unfold AP; omega) (Ai.c (show AP (B + 20) (B + 8) by unfold AP; omega) (Ai.c (show AP (B + 20) (B + 10) by unfold AP; omega) (Ai.c (show AP (B + 20) (B + 12) by unfold AP; omega) (Ai.c (show AP (B + 20) (B + 14) by unfold AP; omega) (Ai.c (show AP (B + 20) (B + 16) by unfold AP; omega) (Ai.c (show AP (B + 20) (B + 18) by unfold AP; omega) (Ai.n _))))))))) (Or.inl (Ai.c (show AP (B + 22) (o) by unfold AP; omega) (Ai.c (show AP (B + 22) (B + 8) by unfold AP; omega) (Ai.c (show AP (B + 22) (B + 10) by unfold AP; omega) (Ai.c (show AP (B + 22) (B + 12) by unfold AP; omega) (Ai.c (show AP (B + 22) (B + 14) by unfold AP; omega) (Ai.c (show AP (B + 22) (B + 16) by unfold AP; omega) (Ai.c (show AP (B + 22) (B + 18) by unfold AP; omega) (Ai.n _))))))))))), Or.inl ⟨rfl, ivI_no hp hfa hfb hpu hpv (by omega) (by omega) hI, cr_lg_0⟩⟩
      · skip
        refine g_aload 3 dX2_invert_69 rfl ?_
        refine g_getf 1 dX2_invert_71 kX5 (by decide) fX2_45 (cr_lg_4).o rfl ?_
        refine g_if_lt (tgt := 131) dX2_invert_74 rfl (by unfold gW; omega) (fun c346 => ?_) (fun c346 => ?_)
        · skip
          refine g_aload 4 dX2_invert_131 rfl ?_
          refine g_getf 1 dX2_invert_133 kX5 (by decide) fX2_45 (cr_lg_3).o rfl ?_
          refine g_if_eq (tgt := 141) dX2_invert_136 rfl (by unfold gW; omega) (fun c347 => ?_) (fun c347 => ?_)
          · skip
            obtain ⟨g, ⟨x1, x2, x3, x4, x5, x6, x7⟩, xP⟩ := cr_lg_3
            have hg0 := PO_cf xP (k := 0) (by omega) (by omega)
            have hgb := xP.2.1 0 (by omega) (by omega)
            have hyes := ivI_yes hp hfa hfb hpu (by omega) hg0 hI
            have hiv := ivr_in hp (g 0)
            refine g_aload_n 5 dX2_invert_141 rfl ?_
            refine g_aload 2 dX2_invert_142 rfl ?_
            refine g_aload_n 5 dX2_invert_144 rfl ?_
            refine g_getf 0 dX2_invert_145 kX2 (by decide) fX2_41 cg_lg_0 rfl ?_
            refine g_aload 4 dX2_invert_148 rfl ?_
            refine g_getf 0 dX2_invert_150 kX5 (by decide) fX2_49 x1 rfl ?_
            refine g_iconst dX2_invert_153 ?_
            refine g_laload dX2_invert_154 x2 (by omega) (by omega) (by omega) ?_
            refine g_callV (nc2 := 0) (ns2 := 0) (ci := 1) (As := [.long (gJ ((g) (0)))]) (st := [.ref (B + 18), .ref (B + 7)]) rfl dX2_invert_155 okX1_inverse lX2_83 itX1_inverse seX1_inverse rfl cg_lg_1 (by decide) (by decide) rfl (Nat.le_of_ble_eq_true rfl) (sP_inverse N _ (B + 1) p (by omega) hp2 ((g) (0)) (by omega) (by omega) cg_lg_1) (by omega) (by omega) (fun v348 hc348 q348 => ?_)
            obtain ⟨hq349, rfl⟩ := q348
            refine Go.nf (h' := hlg) (st' := [.long (gJ (ivr p ((g) (0)))), .ref (B + 18), .ref (B + 7)]) hq349 rfl (Nat.le_refl _) (Nat.le_refl _) ?_
            refine g_aload_n 8 dX2_invert_158 rfl ?_
            refine g_callV (nc2 := 0) (ns2 := 0) (ci := 2) (As := [.ref (B + 18), .long (gJ (ivr p ((g) (0)))), .ref (o)]) (st := []) rfl dX2_invert_159 okX2_multiplyBy lX2_100 itX2_multiplyBy seX2_multiplyBy rfl cg_lg_0 (by decide) (by decide) rfl (Nat.le_of_ble_eq_true rfl) (sP_multiplyBy N _ B (B + 18) (o) 84 84 p hp hp2 (gu) (ivr p ((g) (0))) (by omega) (by omega) hyes.2.1 cg_lg_0 cg_lg_1 cr_lg_5 cr_lg_0 (by omega) (by omega) (show AP (B + 18) (o) by unfold AP; omega)) (by omega) (by omega) (fun v350 hc350 q350 => ?_)
            obtain ⟨rfl, frc351, rn351_0⟩ := q350
            have fk352_0 : hc350.2 (B + 7) = some (oB 2 [.ref (B + 1), .ref (B + 8), .ref (B + 10), .ref (B + 12), .ref (B + 14), .ref (B + 16), .ref (B + 18), .ref (B + 20), .ref (B + 22)]) := Fr.at0 frc351 (Ni.c ⟨(show NE (B + 7) (o) by unfold NE; omega), (show NE (B + 7) (o + 1) by unfold NE; omega)⟩ (Ni.n _)) cg_lg_0
            have fk352_1 : hc350.2 (B + 1) = some (oB 1 [.int (gI ((p : Int)))]) := Fr.at0 frc351 (Ni.c ⟨(show NE (B + 1) (o) by unfold NE; omega), (show NE (B + 1) (o + 1) by unfold NE; omega)⟩ (Ni.n _)) cg_lg_1
            have fk352_2 : hc350.2 (B + 14) = some (oB 5 [.ref (B + 15), .int (gI (dgi hp (fu)))]) := Fr.at0 frc351 (Ni.c ⟨(show NE (B + 14) (o) by unfold NE; omega), (show NE (B + 14) (o + 1) by unfold NE; omega)⟩ (Ni.n _)) x1
            have fk352_3 : hc350.2 (B + 15) = some (aJ 84 (g)) := Fr.at0 frc351 (Ni.c ⟨(show NE (B + 15) (o) by unfold NE; omega), (show NE (B + 15) (o + 1) by unfold NE; omega)⟩ (Ni.n _)) x2
            have rk352_1 : RA 84 hc350 (B + 8) := (cr_lg_1).fr frc351 (Ai.c (show AP (B + 8) (o) by unfold AP; omega) (Ai.n _))
            have rk352_2 : RA 84 hc350 (B + 10) := (cr_lg_2).fr frc351 (Ai.c (show AP (B + 10) (o) by unfold AP; omega) (Ai.n _))
            have rk352_3 : RP hp 84 hc350 (B + 12) (fv) := (cr_lg_4).fr frc351 (Ai.c (show AP (B + 12) (o) by unfold AP; omega) (Ai.n _))
            have rk352_4 : RP hp 84 hc350 (B + 18) (gu) := (cr_lg_5).fr frc351 (Ai.c (show AP (B + 18) (o) by unfold AP; omega) (Ai.n _))
            have rk352_5 : RP hp 84 hc350 (B + 16) (gv) := (cr_lg_6).fr frc351 (Ai.c (show AP (B + 16) (o) by unfold AP; omega) (Ai.n _))
            have fr352 : Fr [o, B + 8, B + 10, B + 12, B + 14, B + 16, B + 18] h hc350 := (fr_lg).tr ((frc351).mo (sub_c (List.Mem.head _) sub_n))
            refine Go.nf (h' := hc350) (st' := []) rfl rfl (Nat.le_refl _) (Nat.le_refl _) ?_
            refine g_iconst dX2_invert_162 ?_
            exact g_zret dX2_invert_163 rfl (by omega) ⟨(fr352).mo (sub_c (List.Mem.head _) (sub_c (List.Mem.tail _ (List.Mem.head _)) (sub_c (List.Mem.tail _ (List.Mem.tail _ (List.Mem.head _))) (sub_c (List.Mem.tail _ (List.Mem.tail _ (List.Mem.tail _ (List.Mem.head _)))) (sub_c (List.Mem.tail _ (List.Mem.tail _ (List.Mem.tail _ (List.Mem.tail _ (List.Mem.head _))))) (sub_c (List.Mem.tail _ (List.Mem.tail _ (List.Mem.tail _ (List.Mem.tail _ (List.Mem.tail _ (List.Mem.head _)))))) (sub_c (List.Mem.tail _ (List.Mem.tail _ (List.Mem.tail _ (List.Mem.tail _ (List.Mem.tail _ (List.Mem.tail _ (List.Mem.head _))))))) sub_n))))))), (PW.upd hw fr352 (out8_c (by omega) (out8_c (by omega) (out8_c (by omega) (out8_c (by omega) (out8_c (by omega) (out8_c (by omega) (out8_c (by omega) out8_n))))))) (pl_all (Or.inr rk352_1) (Or.inr rk352_2) (Or.inr (rk352_3).ra) (Or.inr (⟨_, g, fk352_2, fk352_3, x3, x4, x5, x6, x7⟩ : RA 84 hc350 (B + 14))) (Or.inr (rk352_5).ra) (Or.inr (rk352_4).ra) (Or.inl (Ai.c (show AP (B + 20) (o) by unfold AP; omega) (Ai.c (show AP (B + 20) (B + 8) by unfold AP; omega) (Ai.c (show AP (B + 20) (B + 10) by unfold AP; omega) (Ai.c (show AP (B + 20) (B + 12) by unfold AP; omega) (Ai.c (show AP (B + 20) (B + 14) by unfold AP; omega) (Ai.c (show AP (B + 20) (B + 16) by unfold AP; omega) (Ai.c (show AP (B + 20) (B + 18) by unfold AP; omega) (Ai.n _))))))))) (Or.inl (Ai.c (show AP (B + 22) (o) by unfold AP; omega) (Ai.c (show AP (B + 22) (B + 8) by unfold AP; omega) (Ai.c (show AP (B + 22) (B + 10) by unfold AP; omega) (Ai.c (show AP (B + 22) (B + 12) by unfold AP; omega) (Ai.c (show AP (B + 22) (B + 14) by unfold AP; omega) (Ai.c (show AP (B + 22) (B + 16) by unfold AP; omega) (Ai.c (show AP (B + 22) (B + 18) by unfold AP; omega) (Ai.n _))))))))))), Or.inr ⟨rfl, ⟨_, ivI_is hp hfa hfb hpu (by omega) hg0 hI⟩, by rw [← hyes.1]; exact rn351_0⟩⟩
          · skip
            refine g_iconst dX2_invert_139 ?_
            exact g_zret dX2_invert_140 rfl (by omega) ⟨(fr_lg).mo (sub_c (List.Mem.head _) (sub_c (List.Mem.tail _ (List.Mem.head _)) (sub_c (List.Mem.tail _ (List.Mem.tail _ (List.Mem.head _))) (sub_c (List.Mem.tail _ (List.Mem.tail _ (List.Mem.tail _ (List.Mem.head _)))) (sub_c (List.Mem.tail _ (List.Mem.tail _ (List.Mem.tail _ (List.Mem.tail _ (List.Mem.head _))))) (sub_c (List.Mem.tail _ (List.Mem.tail _ (List.Mem.tail _ (List.Mem.tail _ (List.Mem.tail _ (List.Mem.head _)))))) (sub_c (List.Mem.tail _ (List.Mem.tail _ (List.Mem.tail _ (List.Mem.tail _ (List.Mem.tail _ (List.Mem.tail _ (List.Mem.head _))))))) sub_n))))))), (PW.upd hw fr_lg (out8_c (by omega) (out8_c (by omega) (out8_c (by omega) (out8_c (by omega) (out8_c (by omega) (out8_c (by omega) (out8_c (by omega) out8_n))))))) (pl_all (Or.inr cr_lg_1) (Or.inr cr_lg_2) (Or.inr (cr_lg_4).ra) (Or.inr (cr_lg_3).ra) (Or.inr (cr_lg_6).ra) (Or.inr (cr_lg_5).ra) (Or.inl (Ai.c (show AP (B + 20) (o) by unfold AP; omega) (Ai.c (show AP (B + 20) (B + 8) by unfold AP; omega) (Ai.c (show AP (B + 20) (B + 10) by unfold AP; omega) (Ai.c (show AP (B + 20) (B + 12) by unfold AP; omega) (Ai.c (show AP (B + 20) (B + 14) by unfold AP; omega) (Ai.c (show AP (B + 20) (B + 16) by unfold AP; omega) (Ai.c (show AP (B + 20) (B + 18) by unfold AP; omega) (Ai.n _))))))))) (Or.inl (Ai.c (show AP (B + 22) (o) by unfold AP; omega) (Ai.c (show AP (B + 22) (B + 8) by unfold AP; omega) (Ai.c (show AP (B + 22) (B + 10) by unfold AP; omega) (Ai.c (show AP (B + 22) (B + 12) by unfold AP; omega) (Ai.c (show AP (B + 22) (B + 14) by unfold AP; omega) (Ai.c (show AP (B + 22) (B + 16) by unfold AP; omega) (Ai.c (show AP (B + 22) (B + 18) by unfold AP; omega) (Ai.n _))))))))))), Or.inl ⟨rfl, ivI_no hp hfa hfb hpu hpv (by omega) (by omega) hI, cr_lg_0⟩⟩
        · skip
          refine g_aload_n 5 dX2_invert_77 rfl ?_
          refine g_aload 4 dX2_invert_78 rfl ?_
          refine g_aload 3 dX2_invert_80 rfl ?_
          refine g_aload_n 5 dX2_invert_82 rfl ?_
          refine g_getf 2 dX2_invert_83 kX2 (by decide) fX2_20 cg_lg_0 rfl ?_
          refine g_callV (nc2 := 0) (ns2 := 0) (ci := 2) (As := [.ref (B + 14), .ref (B + 12), .ref (B + 10)]) (st := []) rfl dX2_invert_86 okX2_reduce lX2_87 itX2_reduce seX2_reduce rfl cg_lg_0 (by decide) (by decide) rfl (Nat.le_of_ble_eq_true rfl) (sP_reduce N _ B (B + 14) (B + 12) (B + 10) 84 84 84 p hp hp2 (dgi hp (fu)) ((p : Int)) (fu) (fv) (by omega) cg_lg_0 cg_lg_1 (cr_lg_3).ru cr_lg_4 cr_lg_2 (by omega) (by omega) (show AP (B + 14) (B + 12) by unfold AP; omega) (show AP (B + 14) (B + 10) by unfold AP; omega) (show AP (B + 12) (B + 10) by unfold AP; omega) (by omega) (by omega) (by omega)) (by omega) (by omega) (fun v354 hc354 q354 => ?_)
          obtain ⟨rfl, frc355, rn355_0, rn355_1⟩ := q354
          have fk356_0 : hc354.2 (B + 7) = some (oB 2 [.ref (B + 1), .ref (B + 8), .ref (B + 10), .ref (B + 12), .ref (B + 14), .ref (B + 16), .ref (B + 18), .ref (B + 20), .ref (B + 22)]) := Fr.at0 frc355 (Ni.c ⟨(show NE (B + 7) (B + 14) by unfold NE; omega), (show NE (B + 7) (B + 15) by unfold NE; omega)⟩ (Ni.c ⟨(show NE (B + 7) (B + 10) by unfold NE; omega), (show NE (B + 7) (B + 11) by unfold NE; omega)⟩ (Ni.n _))) cg_lg_0
          have fk356_1 : hc354.2 (B + 1) = some (oB 1 [.int (gI ((p : Int)))]) := Fr.at0 frc355 (Ni.c ⟨(show NE (B + 1) (B + 14) by unfold NE; omega), (show NE (B + 1) (B + 15) by unfold NE; omega)⟩ (Ni.c ⟨(show NE (B + 1) (B + 10) by unfold NE; omega), (show NE (B + 1) (B + 11) by unfold NE; omega)⟩ (Ni.n _))) cg_lg_1
          have rk356_0 : RA 84 hc354 (o) := (cr_lg_0).fr frc355 (Ai.c (show AP (o) (B + 14) by unfold AP; omega) (Ai.c (show AP (o) (B + 10) by unfold AP; omega) (Ai.n _)))
          have rk356_1 : RA 84 hc354 (B + 8) := (cr_lg_1).fr frc355 (Ai.c (show AP (B + 8) (B + 14) by unfold AP; omega) (Ai.c (show AP (B + 8) (B + 10) by unfold AP; omega) (Ai.n _)))
          have rk356_4 : RP hp 84 hc354 (B + 12) (fv) := (cr_lg_4).fr frc355 (Ai.c (show AP (B + 12) (B + 14) by unfold AP; omega) (Ai.c (show AP (B + 12) (B + 10) by unfold AP; omega) (Ai.n _)))
          have rk356_5 : RP hp 84 hc354 (B + 18) (gu) := (cr_lg_5).fr frc355 (Ai.c (show AP (B + 18) (B + 14) by unfold AP; omega) (Ai.c (show AP (B + 18) (B + 10) by unfold AP; omega) (Ai.n _)))
          have rk356_6 : RP hp 84 hc354 (B + 16) (gv) := (cr_lg_6).fr frc355 (Ai.c (show AP (B + 16) (B + 14) by unfold AP; omega) (Ai.c (show AP (B + 16) (B + 10) by unfold AP; omega) (Ai.n _)))
          have fr356 : Fr [o, B + 8, B + 10, B + 12, B + 14, B + 16, B + 18] h hc354 := (fr_lg).tr ((frc355).mo (sub_c (List.Mem.tail _ (List.Mem.tail _ (List.Mem.tail _ (List.Mem.tail _ (List.Mem.head _))))) (sub_c (List.Mem.tail _ (List.Mem.tail _ (List.Mem.head _))) sub_n)))
          refine Go.nf (h' := hc354) (st' := []) rfl rfl (Nat.le_refl _) (Nat.le_refl _) ?_
          have hstep := ivI_s hp hfa hfb hpu hpv (by omega) hI
          refine g_aload_n 5 dX2_invert_89 rfl ?_
          refine g_aload 2 dX2_invert_90 rfl ?_
          refine g_aload_n 5 dX2_invert_92 rfl ?_
          refine g_getf 2 dX2_invert_93 kX2 (by decide) fX2_20 fk356_0 rfl ?_
          refine g_aload 1 dX2_invert_96 rfl ?_
          refine g_callV (nc2 := 0) (ns2 := 0) (ci := 2) (As := [.ref (B + 18), .ref (B + 10), .ref (B + 16)]) (st := []) rfl dX2_invert_98 okX2_lessen lX2_97 itX2_lessen seX2_lessen rfl fk356_0 (by decide) (by decide) rfl (Nat.le_of_ble_eq_true rfl) (sP_lessen N _ B (B + 18) (B + 10) (B + 16) p hp hp2 (gu) (qt hp (fu) (fv)) (gv) fk356_0 fk356_1 rk356_5 rn355_1 rk356_6 rk356_1 (by omega) (by omega) (by omega) (by omega)) (by omega) (by omega) (fun v357 hc357 q357 => ?_)
          obtain ⟨rfl, frc358, rn358_0, rn358_1⟩ := q357
          have fk359_0 : hc357.2 (B + 7) = some (oB 2 [.ref (B + 1), .ref (B + 8), .ref (B + 10), .ref (B + 12), .ref (B + 14), .ref (B + 16), .ref (B + 18), .ref (B + 20), .ref (B + 22)]) := Fr.at0 frc358 (Ni.c ⟨(show NE (B + 7) (B + 18) by unfold NE; omega), (show NE (B + 7) (B + 19) by unfold NE; omega)⟩ (Ni.c ⟨(show NE (B + 7) (B + 8) by unfold NE; omega), (show NE (B + 7) (B + 9) by unfold NE; omega)⟩ (Ni.n _))) fk356_0
          have fk359_1 : hc357.2 (B + 1) = some (oB 1 [.int (gI ((p : Int)))]) := Fr.at0 frc358 (Ni.c ⟨(show NE (B + 1) (B + 18) by unfold NE; omega), (show NE (B + 1) (B + 19) by unfold NE; omega)⟩ (Ni.c ⟨(show NE (B + 1) (B + 8) by unfold NE; omega), (show NE (B + 1) (B + 9) by unfold NE; omega)⟩ (Ni.n _))) fk356_1
          have rk359_0 : RA 84 hc357 (o) := (rk356_0).fr frc358 (Ai.c (show AP (o) (B + 18) by unfold AP; omega) (Ai.c (show AP (o) (B + 8) by unfold AP; omega) (Ai.n _)))
          have rk359_2 : RP hp 84 hc357 (B + 12) (fv) := (rk356_4).fr frc358 (Ai.c (show AP (B + 12) (B + 18) by unfold AP; omega) (Ai.c (show AP (B + 12) (B + 8) by unfold AP; omega) (Ai.n _)))
          have rk359_4 : RP hp 84 hc357 (B + 16) (gv) := (rk356_6).fr frc358 (Ai.c (show AP (B + 16) (B + 18) by unfold AP; omega) (Ai.c (show AP (B + 16) (B + 8) by unfold AP; omega) (Ai.n _)))
          have rk359_5 : RP hp 84 hc357 (B + 14) (rm hp (fu) (fv)) := (rn355_0).fr frc358 (Ai.c (show AP (B + 14) (B + 18) by unfold AP; omega) (Ai.c (show AP (B + 14) (B + 8) by unfold AP; omega) (Ai.n _)))
          have rk359_6 : RP hp 84 hc357 (B + 10) (qt hp (fu) (fv)) := (rn355_1).fr frc358 (Ai.c (show AP (B + 10) (B + 18) by unfold AP; omega) (Ai.c (show AP (B + 10) (B + 8) by unfold AP; omega) (Ai.n _)))
          have fr359 : Fr [o, B + 8, B + 10, B + 12, B + 14, B + 16, B + 18] h hc357 := (fr356).tr ((frc358).mo (sub_c (List.Mem.tail _ (List.Mem.tail _ (List.Mem.tail _ (List.Mem.tail _ (List.Mem.tail _ (List.Mem.tail _ (List.Mem.head _))))))) (sub_c (List.Mem.tail _ (List.Mem.head _)) sub_n)))
          refine Go.nf (h' := hc357) (st' := []) rfl rfl (Nat.le_refl _) (Nat.le_refl _) ?_
          refine g_aload 4 dX2_invert_101 rfl ?_
          refine g_astore (ls2 := [(9, .ref (B + 14)), (8, .int (gI (turn))), (7, .ref (B + 16)), (6, .ref (B + 18)), (5, .ref (B + 12)), (4, .ref (B + 14)), (0, .ref (B + 7)), (1, .ref (a)), (2, .ref (b)), (3, .ref (o))]) dX2_invert_103 (by decide) rfl ?_
          refine g_aload 4 dX2_invert_105 rfl ?_
          refine g_astore (ls2 := [(4, .ref (B + 12)), (9, .ref (B + 14)), (8, .int (gI (turn))), (7, .ref (B + 16)), (6, .ref (B + 18)), (5, .ref (B + 12)), (0, .ref (B + 7)), (1, .ref (a)), (2, .ref (b)), (3, .ref (o))]) dX2_invert_107 (by decide) rfl ?_
          refine g_aload 1 dX2_invert_109 rfl ?_
          refine g_astore (ls2 := [(5, .ref (B + 14)), (4, .ref (B + 12)), (9, .ref (B + 14)), (8, .int (gI (turn))), (7, .ref (B + 16)), (6, .ref (B + 18)), (0, .ref (B + 7)), (1, .ref (a)), (2, .ref (b)), (3, .ref (o))]) dX2_invert_111 (by decide) rfl ?_
          refine g_aload 5 dX2_invert_113 rfl ?_
          refine g_astore (ls2 := [(9, .ref (B + 18)), (5, .ref (B + 14)), (4, .ref (B + 12)), (8, .int (gI (turn))), (7, .ref (B + 16)), (6, .ref (B + 18)), (0, .ref (B + 7)), (1, .ref (a)), (2, .ref (b)), (3, .ref (o))]) dX2_invert_115 (by decide) rfl ?_
          refine g_aload 4 dX2_invert_117 rfl ?_
          refine g_astore (ls2 := [(6, .ref (B + 16)), (9, .ref (B + 18)), (5, .ref (B + 14)), (4, .ref (B + 12)), (8, .int (gI (turn))), (7, .ref (B + 16)), (0, .ref (B + 7)), (1, .ref (a)), (2, .ref (b)), (3, .ref (o))]) dX2_invert_119 (by decide) rfl ?_
          refine g_aload 1 dX2_invert_121 rfl ?_
          refine g_astore (ls2 := [(7, .ref (B + 18)), (6, .ref (B + 16)), (9, .ref (B + 18)), (5, .ref (B + 14)), (4, .ref (B + 12)), (8, .int (gI (turn))), (0, .ref (B + 7)), (1, .ref (a)), (2, .ref (b)), (3, .ref (o))]) dX2_invert_123 (by decide) rfl ?_
          refine g_iinc 5 (ls2 := [(8, .int (gI (turn + 1))), (7, .ref (B + 18)), (6, .ref (B + 16)), (9, .ref (B + 18)), (5, .ref (B + 14)), (4, .ref (B + 12)), (0, .ref (B + 7)), (1, .ref (a)), (2, .ref (b)), (3, .ref (o))]) dX2_invert_125 rfl (by decide) rfl ?_
          refine g_goto (tgt := 62) dX2_invert_128 rfl ?_
          refine Go.sub [0, 1, 2, 4, 5, 6, 7, 8, 9] rfl ?_
          exact ih_lg _ (by omega) (turn + 1) (fv) (rm hp fu fv) (gv) (psb hp gu (pml hp (qt hp fu fv) gv)) (B + 12) (B + 14) (B + 16) (B + 18) hc357 rfl fr359 rk359_0 rn358_1 (rk359_6).ra rk359_2 rk359_5 rk359_4 rn358_0 (by omega) (by have := rm_lt hp hpu hpv (by omega); omega) hstep.2 (Or.inl ⟨rfl, rfl, rfl, rfl⟩)
  exact lg _ (0) (fb) (rm hp fa fb) (cz hp (zi hp 0)) (cz hp (zi hp 1)) (B + 12) (B + 14) (B + 16) (B + 18) hc13 rfl fr15 rk15_2 rk15_3 (rk15_7).ra rk15_5 rk15_6 rk15_8 rn14_0 (by omega) (by have := rm_lt hp hfa hfb (by omega); omega) (ivI_0 hp hfa hfb (by omega)) (Or.inl ⟨rfl, rfl, rfl, rfl⟩)
set_option maxHeartbeats 4000000 in
set_option maxRecDepth 100000 in
theorem sC_plainAct8 (N : GN) (h : GH) (B p : Nat) (hp : prm p) (hp2 : p ≤ 65536) (fa sy : Value) (qa qb : Nat) (F G : Pxy p) (hob : h.2 B = some (cO B fa sy)) (hw : PW p B h) (h27 : PA h (B + 27)) (h29 : RA 84 h (B + 29)) (h31 : RA 84 h (B + 31)) (h33 : RA 84 h (B + 33)) (la : B + 58 ≤ qa) (lb : B + 58 ≤ qb) (pa : PP hp h qa F) (pb : PP hp h qb G) : Sp N yX9_plainAct mX9_plainAct 0 0 [.ref (B), .int (gI (8)), .ref (qa), .ref (qb)] h (fun v h1 => Fr ((B + 29) :: (B + 31) :: (B + 33) :: (B + 27) :: pl B) h h1 ∧ PW p B h1 ∧ RA 84 h1 (B + 29) ∧ RA 84 h1 (B + 31) ∧ RA 84 h1 (B + 33) ∧ ((∃ H, rac hp 8 F G = .inr H ∧ v = some (.int (gI 0)) ∧ PP hp h1 (B + 27) H) ∨ (∃ r, r < 0 ∧ rac hp 8 F G = .inl r ∧ v = some (.int (gI r)) ∧ PA h1 (B + 27)))) := by
  refine Sp.of (by decide) rfl rfl (Nat.le_of_ble_eq_true rfl) ?_
  show Go N mX9_plainAct _ 0 0 h 0 [(0, .ref (B)), (1, .int (gI (8))), (2, .ref (qa)), (3, .ref (qb))] []
  have hp1 := hp.1
  refine g_aload_n 2 dX9_plainAct_0 rfl ?_
  refine g_callV (nc2 := 0) (ns2 := 0) (ci := 4) (As := []) (st := []) rfl dX9_plainAct_1 okX4_isPlain lX9_131 itX4_isPlain seX4_isPlain rfl (pa).o (by decide) (by decide) rfl (Nat.le_of_ble_eq_true rfl) (sQ_isPlain N _ (qa) p hp F pa) (by omega) (by omega) (fun v1 hc1 q1 => ?_)
  obtain ⟨hq2, rfl⟩ := q1
  refine Go.nf (h' := h) (st' := [.int (gI (if dY hp F < 1 then 1 else 0))]) hq2 rfl (Nat.le_refl _) (Nat.le_refl _) ?_
  refine g_if_eq (tgt := 14) dX9_plainAct_4 rfl (by first | assumption | (unfold gW; omega) | (unfold gW; split <;> omega)) (fun c3 => ?_) (fun c3 => ?_)
  · skip
    have hyF : ¬ dY hp F < 1 := fun z => by rw [if_pos z] at c3; omega
    clear c3
    refine g_bipush dX9_plainAct_14 (by decide) ?_
    exact g_iret dX9_plainAct_16 rfl ⟨(Fr.rf ((B + 29) :: (B + 31) :: (B + 33) :: (B + 27) :: pl B) h), hw, h29, h31, h33, Or.inr ⟨-2, by omega, by show pl2 hp F G _ = _; unfold pl2; rw [if_neg (by omega)], rfl, h27⟩⟩
  · skip
    have hyF : dY hp F < 1 := by
                                                                      by_cases z : dY hp F < 1
                                                                      · exact z
                                                                      · rw [if_neg z] at c3; omega
    clear c3
    refine g_aload_n 3 dX9_plainAct_7 rfl ?_
    refine g_callV (nc2 := 0) (ns2 := 0) (ci := 4) (As := []) (st := []) rfl dX9_plainAct_8 okX4_isPlain lX9_131 itX4_isPlain seX4_isPlain rfl (pb).o (by decide) (by decide) rfl (Nat.le_of_ble_eq_true rfl) (sQ_isPlain N _ (qb) p hp G pb) (by omega) (by omega) (fun v4 hc4 q4 => ?_)
    obtain ⟨hq5, rfl⟩ := q4
    refine Go.nf (h' := h) (st' := [.int (gI (if dY hp G < 1 then 1 else 0))]) hq5 rfl (Nat.le_refl _) (Nat.le_refl _) ?_
    refine g_if_ne (tgt := 17) dX9_plainAct_11 rfl (by first | assumption | (unfold gW; omega) | (unfold gW; split <;> omega)) (fun c6 => ?_) (fun c6 => ?_)
    · skip
      have hyG : dY hp G < 1 := by
                                                                      by_cases z : dY hp G < 1
                                                                      · exact z
                                                                      · rw [if_neg z] at c6; omega
      clear c6
      have hFr := row_po hp pa.pb 0
      have hGr := row_po hp pb.pb 0
      have hFg := dgi_ge hp hFr.1
      have hGg := dgi_ge hp hGr.1
      refine g_aload_n 2 dX9_plainAct_17 rfl ?_
      refine g_aload_n 0 dX9_plainAct_18 rfl ?_
      refine g_getf 7 dX9_plainAct_19 kX9 (by decide) fX9_59 hob rfl ?_
      refine g_callV (nc2 := 0) (ns2 := 0) (ci := 4) (As := [.ref (B + 29)]) (st := []) rfl dX9_plainAct_22 okX4_toRow lX9_138 itX4_toRow seX4_toRow rfl (pa).o (by decide) (by decide) rfl (Nat.le_of_ble_eq_true rfl) (sQ_toRow N _ (qa) (B + 29) p hp hp2 (F) pa h29 (show AP (qa) (B + 29) by unfold AP; omega)) (by omega) (by omega) (fun v7 hc7 q7 => ?_)
      obtain ⟨rfl, frc8, rn8_0⟩ := q7
      have fk9_0 : hc7.2 (B) = some (cO B (fa) (sy)) := Fr.at0 frc8 (Ni.c ⟨(show NE (B) (B + 29) by unfold NE; omega), (show NE (B) (B + 30) by unfold NE; omega)⟩ (Ni.n _)) hob
      have fk9_1 : hc7.2 (B + 7) = some (oB 2 [.ref (B + 1), .ref (B + 8), .ref (B + 10), .ref (B + 12), .ref (B + 14), .ref (B + 16), .ref (B + 18), .ref (B + 20), .ref (B + 22)]) := Fr.at0 frc8 (Ni.c ⟨(show NE (B + 7) (B + 29) by unfold NE; omega), (show NE (B + 7) (B + 30) by unfold NE; omega)⟩ (Ni.n _)) hw.1
      have fk9_2 : hc7.2 (B + 1) = some (oB 1 [.int (gI ((p : Int)))]) := Fr.at0 frc8 (Ni.c ⟨(show NE (B + 1) (B + 29) by unfold NE; omega), (show NE (B + 1) (B + 30) by unfold NE; omega)⟩ (Ni.n _)) hw.2.1
      have rk9_0 : PW p B hc7 := (hw).fr2 frc8 (ok_c (by omega) (fun _ h => absurd h (List.not_mem_nil)))
      have rk5009_0 : PA hc7 (B + 27) := (h27).fr frc8 (Ai.c (show AP (B + 27) (B + 29) by unfold AP; omega) (Ai.n _))
      have rk5009_2 : RA 84 hc7 (B + 31) := (h31).fr frc8 (Ai.c (show AP (B + 31) (B + 29) by unfold AP; omega) (Ai.n _))
      have rk5009_3 : RA 84 hc7 (B + 33) := (h33).fr frc8 (Ai.c (show AP (B + 33) (B + 29) by unfold AP; omega) (Ai.n _))
      have rk5009_4 : PP hp hc7 (qa) (F) := (pa).fr frc8 (Ai.c (show AP (qa) (B + 29) by unfold AP; omega) (Ai.n _))
      have rk5009_5 : PP hp hc7 (qb) (G) := (pb).fr frc8 (Ai.c (show AP (qb) (B + 29) by unfold AP; omega) (Ai.n _))
      have fr9 : Fr ((B + 29) :: (B + 31) :: (B + 33) :: (B + 27) :: pl B) h hc7 := ((Fr.rf ((B + 29) :: (B + 31) :: (B + 33) :: (B + 27) :: pl B) h)).tr ((frc8).mo (sub_c (List.Mem.head _) sub_n))
      refine Go.nf (h' := hc7) (st' := []) rfl rfl (Nat.le_refl _) (Nat.le_refl _) ?_
      refine g_aload_n 3 dX9_plainAct_25 rfl ?_
      refine g_aload_n 0 dX9_plainAct_26 rfl ?_
      refine g_getf 8 dX9_plainAct_27 kX9 (by decide) fX9_63 fk9_0 rfl ?_
      refine g_callV (nc2 := 0) (ns2 := 0) (ci := 4) (As := [.ref (B + 31)]) (st := []) rfl dX9_plainAct_30 okX4_toRow lX9_138 itX4_toRow seX4_toRow rfl (rk5009_5).o (by decide) (by decide) rfl (Nat.le_of_ble_eq_true rfl) (sQ_toRow N _ (qb) (B + 31) p hp hp2 (G) rk5009_5 rk5009_2 (show AP (qb) (B + 31) by unfold AP; omega)) (by omega) (by omega) (fun v10 hc10 q10 => ?_)
      obtain ⟨rfl, frc11, rn11_0⟩ := q10
      have fk12_0 : hc10.2 (B) = some (cO B (fa) (sy)) := Fr.at0 frc11 (Ni.c ⟨(show NE (B) (B + 31) by unfold NE; omega), (show NE (B) (B + 32) by unfold NE; omega)⟩ (Ni.n _)) fk9_0
      have fk12_1 : hc10.2 (B + 7) = some (oB 2 [.ref (B + 1), .ref (B + 8), .ref (B + 10), .ref (B + 12), .ref (B + 14), .ref (B + 16), .ref (B + 18), .ref (B + 20), .ref (B + 22)]) := Fr.at0 frc11 (Ni.c ⟨(show NE (B + 7) (B + 31) by unfold NE; omega), (show NE (B + 7) (B + 32) by unfold NE; omega)⟩ (Ni.n _)) fk9_1
      have fk12_2 : hc10.2 (B + 1) = some (oB 1 [.int (gI ((p : Int)))]) := Fr.at0 frc11 (Ni.c ⟨(show NE (B + 1) (B + 31) by unfold NE; omega), (show NE (B + 1) (B + 32) by unfold NE; omega)⟩ (Ni.n _)) fk9_2
      have rk12_5 : PW p B hc10 := (rk9_0).fr2 frc11 (ok_c (by omega) (fun _ h => absurd h (List.not_mem_nil)))
      have rk5012_0 : PA hc10 (B + 27) := (rk5009_0).fr frc11 (Ai.c (show AP (B + 27) (B + 31) by unfold AP; omega) (Ai.n _))
      have rk5012_2 : RA 84 hc10 (B + 33) := (rk5009_3).fr frc11 (Ai.c (show AP (B + 33) (B + 31) by unfold AP; omega) (Ai.n _))
      have rk5012_3 : PP hp hc10 (qa) (F) := (rk5009_4).fr frc11 (Ai.c (show AP (qa) (B + 31) by unfold AP; omega) (Ai.n _))
      have rk5012_4 : PP hp hc10 (qb) (G) := (rk5009_5).fr frc11 (Ai.c (show AP (qb) (B + 31) by unfold AP; omega) (Ai.n _))
      have rk5012_5 : RP hp 84 hc10 (B + 29) (F 0) := (rn8_0).fr frc11 (Ai.c (show AP (B + 29) (B + 31) by unfold AP; omega) (Ai.n _))
      have fr12 : Fr ((B + 29) :: (B + 31) :: (B + 33) :: (B + 27) :: pl B) h hc10 := (fr9).tr ((frc11).mo (sub_c (List.Mem.tail _ (List.Mem.head _)) sub_n))
      refine Go.nf (h' := hc10) (st' := []) rfl rfl (Nat.le_refl _) (Nat.le_refl _) ?_
      refine g_iload_n 1 dX9_plainAct_33 rfl ?_
      refine g_bipush dX9_plainAct_34 (by decide) ?_
      refine g_icmp_ne (tgt := 48) dX9_plainAct_36 rfl (by first | assumption | (unfold gW; omega) | (unfold gW; split <;> omega)) (by first | assumption | (unfold gW; omega) | (unfold gW; split <;> omega)) (fun c13 => ?_) (fun c13 => absurd c13 (by omega))
      refine g_iload_n 1 dX9_plainAct_48 rfl ?_
      refine g_bipush dX9_plainAct_49 (by decide) ?_
      refine g_icmp_ne (tgt := 97) dX9_plainAct_51 rfl (by first | assumption | (unfold gW; omega) | (unfold gW; split <;> omega)) (by first | assumption | (unfold gW; omega) | (unfold gW; split <;> omega)) (fun c14 => ?_) (fun c14 => absurd c14 (by omega))
      refine g_iload_n 1 dX9_plainAct_97 rfl ?_
      refine g_bipush dX9_plainAct_98 (by decide) ?_
      refine g_icmp_ne (tgt := 128) dX9_plainAct_100 rfl (by first | assumption | (unfold gW; omega) | (unfold gW; split <;> omega)) (by first | assumption | (unfold gW; omega) | (unfold gW; split <;> omega)) (fun c15 => ?_) (fun c15 => absurd c15 (by omega))
      refine g_aload_n 0 dX9_plainAct_128 rfl ?_
      refine g_iload_n 1 dX9_plainAct_129 rfl ?_
      refine g_bipush dX9_plainAct_130 (by decide) ?_
      refine g_icmp_ne (tgt := 139) dX9_plainAct_132 rfl (by first | assumption | (unfold gW; omega) | (unfold gW; split <;> omega)) (by first | assumption | (unfold gW; omega) | (unfold gW; split <;> omega)) (fun c16 => absurd c16 (by omega)) (fun c16 => ?_)
      refine g_iconst dX9_plainAct_135 ?_
      refine g_goto (tgt := 140) dX9_plainAct_136 rfl ?_
      refine g_callV (nc2 := 0) (ns2 := 0) (ci := 9) (As := [.int (gI (1))]) (st := []) rfl dX9_plainAct_140 okX9_division lX9_248 itX9_division seX9_division rfl fk12_0 (by decide) (by decide) rfl (Nat.le_of_ble_eq_true rfl) (sC_divisionQ N _ B p hp hp2 fa sy (F 0) (G 0) fk12_0 rk12_5 rk5012_5 rn11_0 rk5012_2) (by omega) (by omega) (fun v17 hc17 q17 => ?_)
      obtain ⟨frc18, hd18⟩ := q17
      have fk19_0 : hc17.2 (B) = some (cO B (fa) (sy)) := Fr.at0 frc18 (Ni.c ⟨(show NE (B) (B + 29) by unfold NE; omega), (show NE (B) (B + 30) by unfold NE; omega)⟩ (Ni.c ⟨(show NE (B) (B + 33) by unfold NE; omega), (show NE (B) (B + 34) by unfold NE; omega)⟩ (Ni.n _))) fk12_0
      have fk19_1 : hc17.2 (B + 7) = some (oB 2 [.ref (B + 1), .ref (B + 8), .ref (B + 10), .ref (B + 12), .ref (B + 14), .ref (B + 16), .ref (B + 18), .ref (B + 20), .ref (B + 22)]) := Fr.at0 frc18 (Ni.c ⟨(show NE (B + 7) (B + 29) by unfold NE; omega), (show NE (B + 7) (B + 30) by unfold NE; omega)⟩ (Ni.c ⟨(show NE (B + 7) (B + 33) by unfold NE; omega), (show NE (B + 7) (B + 34) by unfold NE; omega)⟩ (Ni.n _))) fk12_1
      have fk19_2 : hc17.2 (B + 1) = some (oB 1 [.int (gI ((p : Int)))]) := Fr.at0 frc18 (Ni.c ⟨(show NE (B + 1) (B + 29) by unfold NE; omega), (show NE (B + 1) (B + 30) by unfold NE; omega)⟩ (Ni.c ⟨(show NE (B + 1) (B + 33) by unfold NE; omega), (show NE (B + 1) (B + 34) by unfold NE; omega)⟩ (Ni.n _))) fk12_2
      have rk19_5 : PW p B hc17 := (rk12_5).fr2 frc18 (ok_c (by omega) (ok_c (by omega) (fun _ h => absurd h (List.not_mem_nil))))
      have rk5019_0 : PA hc17 (B + 27) := (rk5012_0).fr frc18 (Ai.c (show AP (B + 27) (B + 29) by unfold AP; omega) (Ai.c (show AP (B + 27) (B + 33) by unfold AP; omega) (Ai.n _)))
      have rk5019_2 : PP hp hc17 (qa) (F) := (rk5012_3).fr frc18 (Ai.c (show AP (qa) (B + 29) by unfold AP; omega) (Ai.c (show AP (qa) (B + 33) by unfold AP; omega) (Ai.n _)))
      have rk5019_3 : PP hp hc17 (qb) (G) := (rk5012_4).fr frc18 (Ai.c (show AP (qb) (B + 29) by unfold AP; omega) (Ai.c (show AP (qb) (B + 33) by unfold AP; omega) (Ai.n _)))
      have rk5019_5 : RP hp 84 hc17 (B + 31) (G 0) := (rn11_0).fr frc18 (Ai.c (show AP (B + 31) (B + 29) by unfold AP; omega) (Ai.c (show AP (B + 31) (B + 33) by unfold AP; omega) (Ai.n _)))
      have fr19 : Fr ((B + 29) :: (B + 31) :: (B + 33) :: (B + 27) :: pl B) h hc17 := (fr12).tr ((frc18).mo (sub_c (List.Mem.head _) (sub_c (List.Mem.tail _ (List.Mem.tail _ (List.Mem.head _))) sub_n)))
      rcases hd18 with ⟨y1, rfl, y2, y3⟩ | ⟨y1, rfl, y2, y3⟩
      · skip
        refine Go.nf (h' := hc17) (st' := [.int (gI ((-3)))]) rfl rfl (Nat.le_refl _) (Nat.le_refl _) ?_
        refine g_istore (ls2 := [(4, .int (gI ((-3)))), (0, .ref (B)), (1, .int (gI (8))), (2, .ref (qa)), (3, .ref (qb))]) dX9_plainAct_143 (by decide) rfl ?_
        refine g_iload 0 dX9_plainAct_145 rfl ?_
        refine g_if_ne (tgt := 161) dX9_plainAct_147 rfl (by first | assumption | (unfold gW; omega) | (unfold gW; split <;> omega)) (fun c20 => ?_) (fun c20 => absurd c20 (by omega))
        refine g_iload 0 dX9_plainAct_161 rfl ?_
        exact g_iret dX9_plainAct_163 rfl ⟨fr19, rk19_5, y2, (rk5019_5).ra, y3, Or.inr ⟨-3, by omega, by show pl2 hp F G _ = _; unfold pl2; rw [if_pos ⟨hyF, hyG⟩]; unfold pa8; rw [if_pos (by omega)], rfl, rk5019_0⟩⟩
      · skip
        refine Go.nf (h' := hc17) (st' := [.int (gI (0))]) rfl rfl (Nat.le_refl _) (Nat.le_refl _) ?_
        refine g_istore (ls2 := [(4, .int (gI (0))), (0, .ref (B)), (1, .int (gI (8))), (2, .ref (qa)), (3, .ref (qb))]) dX9_plainAct_143 (by decide) rfl ?_
        refine g_iload 0 dX9_plainAct_145 rfl ?_
        refine g_if_ne (tgt := 161) dX9_plainAct_147 rfl (by first | assumption | (unfold gW; omega) | (unfold gW; split <;> omega)) (fun c21 => absurd c21 (by omega)) (fun c21 => ?_)
        have hd40 : dgi hp (qt hp (F 0) (G 0)) ≤ 40 := by
                                                                      have := qt_dgi hp hFr.1 hGr.1 (by omega)
                                                                      omega
        refine g_aload_n 1 dX9_plainAct_150 rfl ?_
        refine g_getf 6 dX9_plainAct_151 kX9 (by decide) fX9_50 fk19_0 rfl ?_
        refine g_aload_n 1 dX9_plainAct_154 rfl ?_
        refine g_getf 9 dX9_plainAct_155 kX9 (by decide) fX9_66 fk19_0 rfl ?_
        refine g_callV (nc2 := 0) (ns2 := 0) (ci := 4) (As := [.ref (B + 33)]) (st := []) rfl dX9_plainAct_158 okX4_fromRow lX9_146 itX4_fromRow seX4_fromRow rfl (Classical.choose_spec (PA.o rk5019_0)) (by decide) (by decide) rfl (Nat.le_of_ble_eq_true rfl) (sQ_fromRow N _ (B + 27) (B + 33) 84 p hp hp2 (qt hp (F 0) (G 0)) rk5019_0 y3 hd40 (show AP (B + 27) (B + 33) by unfold AP; omega)) (by omega) (by omega) (fun v22 hc22 q22 => ?_)
        obtain ⟨rfl, frc23, rn23_0⟩ := q22
        have fk24_0 : hc22.2 (B) = some (cO B (fa) (sy)) := Fr.at0 frc23 (Ni.c ⟨(show NE (B) (B + 27) by unfold NE; omega), (show NE (B) (B + 28) by unfold NE; omega)⟩ (Ni.n _)) fk19_0
        have fk24_1 : hc22.2 (B + 7) = some (oB 2 [.ref (B + 1), .ref (B + 8), .ref (B + 10), .ref (B + 12), .ref (B + 14), .ref (B + 16), .ref (B + 18), .ref (B + 20), .ref (B + 22)]) := Fr.at0 frc23 (Ni.c ⟨(show NE (B + 7) (B + 27) by unfold NE; omega), (show NE (B + 7) (B + 28) by unfold NE; omega)⟩ (Ni.n _)) fk19_1
        have fk24_2 : hc22.2 (B + 1) = some (oB 1 [.int (gI ((p : Int)))]) := Fr.at0 frc23 (Ni.c ⟨(show NE (B + 1) (B + 27) by unfold NE; omega), (show NE (B + 1) (B + 28) by unfold NE; omega)⟩ (Ni.n _)) fk19_2
        have rk24_4 : PW p B hc22 := (rk19_5).fr2 frc23 (ok_c (by omega) (fun _ h => absurd h (List.not_mem_nil)))
        have rk5024_1 : PP hp hc22 (qa) (F) := (rk5019_2).fr frc23 (Ai.c (show AP (qa) (B + 27) by unfold AP; omega) (Ai.n _))
        have rk5024_2 : PP hp hc22 (qb) (G) := (rk5019_3).fr frc23 (Ai.c (show AP (qb) (B + 27) by unfold AP; omega) (Ai.n _))
        have rk5024_3 : RP hp 84 hc22 (B + 31) (G 0) := (rk5019_5).fr frc23 (Ai.c (show AP (B + 31) (B + 27) by unfold AP; omega) (Ai.n _))
        have rk5024_4 : RA 84 hc22 (B + 29) := (y2).fr frc23 (Ai.c (show AP (B + 29) (B + 27) by unfold AP; omega) (Ai.n _))
        have rk5024_5 : RP hp 84 hc22 (B + 33) (qt hp (F 0) (G 0)) := (y3).fr frc23 (Ai.c (show AP (B + 33) (B + 27) by unfold AP; omega) (Ai.n _))
        have fr24 : Fr ((B + 29) :: (B + 31) :: (B + 33) :: (B + 27) :: pl B) h hc22 := (fr19).tr ((frc23).mo (sub_c (List.Mem.tail _ (List.Mem.tail _ (List.Mem.tail _ (List.Mem.head _)))) sub_n))
        refine Go.nf (h' := hc22) (st' := []) rfl rfl (Nat.le_refl _) (Nat.le_refl _) ?_
        refine g_iload 0 dX9_plainAct_161 rfl ?_
        exact g_iret dX9_plainAct_163 rfl ⟨fr24, rk24_4, rk5024_4, (rk5024_3).ra, (rk5024_5).ra, Or.inl ⟨pF hp (qt hp (F 0) (G 0)), by show pl2 hp F G _ = _; unfold pl2; rw [if_pos ⟨hyF, hyG⟩]; unfold pa8; rw [if_neg (by omega)]; exact kR_i hp hd40, rfl, rn23_0⟩⟩
    · skip
      have hyG : ¬ dY hp G < 1 := fun z => by rw [if_pos z] at c6; omega
      clear c6
      refine g_bipush dX9_plainAct_14 (by decide) ?_
      exact g_iret dX9_plainAct_16 rfl ⟨(Fr.rf ((B + 29) :: (B + 31) :: (B + 33) :: (B + 27) :: pl B) h), hw, h29, h31, h33, Or.inr ⟨-2, by omega, by show pl2 hp F G _ = _; unfold pl2; rw [if_neg (by omega)], rfl, h27⟩⟩
set_option maxHeartbeats 4000000 in
set_option maxRecDepth 100000 in
theorem sC_plainAct9 (N : GN) (h : GH) (B p : Nat) (hp : prm p) (hp2 : p ≤ 65536) (fa sy : Value) (qa qb : Nat) (F G : Pxy p) (hob : h.2 B = some (cO B fa sy)) (hw : PW p B h) (h27 : PA h (B + 27)) (h29 : RA 84 h (B + 29)) (h31 : RA 84 h (B + 31)) (h33 : RA 84 h (B + 33)) (la : B + 58 ≤ qa) (lb : B + 58 ≤ qb) (pa : PP hp h qa F) (pb : PP hp h qb G) : Sp N yX9_plainAct mX9_plainAct 0 0 [.ref (B), .int (gI (9)), .ref (qa), .ref (qb)] h (fun v h1 => Fr ((B + 29) :: (B + 31) :: (B + 33) :: (B + 27) :: pl B) h h1 ∧ PW p B h1 ∧ RA 84 h1 (B + 29) ∧ RA 84 h1 (B + 31) ∧ RA 84 h1 (B + 33) ∧ ((∃ H, rac hp 9 F G = .inr H ∧ v = some (.int (gI 0)) ∧ PP hp h1 (B + 27) H) ∨ (∃ r, r < 0 ∧ rac hp 9 F G = .inl r ∧ v = some (.int (gI r)) ∧ PA h1 (B + 27)))) := by
  refine Sp.of (by decide) rfl rfl (Nat.le_of_ble_eq_true rfl) ?_
  show Go N mX9_plainAct _ 0 0 h 0 [(0, .ref (B)), (1, .int (gI (9))), (2, .ref (qa)), (3, .ref (qb))] []
  have hp1 := hp.1
  refine g_aload_n 2 dX9_plainAct_0 rfl ?_
  refine g_callV (nc2 := 0) (ns2 := 0) (ci := 4) (As := []) (st := []) rfl dX9_plainAct_1 okX4_isPlain lX9_131 itX4_isPlain seX4_isPlain rfl (pa).o (by decide) (by decide) rfl (Nat.le_of_ble_eq_true rfl) (sQ_isPlain N _ (qa) p hp F pa) (by omega) (by omega) (fun v1 hc1 q1 => ?_)
  obtain ⟨hq2, rfl⟩ := q1
  refine Go.nf (h' := h) (st' := [.int (gI (if dY hp F < 1 then 1 else 0))]) hq2 rfl (Nat.le_refl _) (Nat.le_refl _) ?_
  refine g_if_eq (tgt := 14) dX9_plainAct_4 rfl (by first | assumption | (unfold gW; omega) | (unfold gW; split <;> omega)) (fun c3 => ?_) (fun c3 => ?_)
  · skip
    have hyF : ¬ dY hp F < 1 := fun z => by rw [if_pos z] at c3; omega
    clear c3
    refine g_bipush dX9_plainAct_14 (by decide) ?_
    exact g_iret dX9_plainAct_16 rfl ⟨(Fr.rf ((B + 29) :: (B + 31) :: (B + 33) :: (B + 27) :: pl B) h), hw, h29, h31, h33, Or.inr ⟨-2, by omega, by show pl2 hp F G _ = _; unfold pl2; rw [if_neg (by omega)], rfl, h27⟩⟩
  · skip
    have hyF : dY hp F < 1 := by
                                                                      by_cases z : dY hp F < 1
                                                                      · exact z
                                                                      · rw [if_neg z] at c3; omega
    clear c3
    refine g_aload_n 3 dX9_plainAct_7 rfl ?_
    refine g_callV (nc2 := 0) (ns2 := 0) (ci := 4) (As := []) (st := []) rfl dX9_plainAct_8 okX4_isPlain lX9_131 itX4_isPlain seX4_isPlain rfl (pb).o (by decide) (by decide) rfl (Nat.le_of_ble_eq_true rfl) (sQ_isPlain N _ (qb) p hp G pb) (by omega) (by omega) (fun v4 hc4 q4 => ?_)
    obtain ⟨hq5, rfl⟩ := q4
    refine Go.nf (h' := h) (st' := [.int (gI (if dY hp G < 1 then 1 else 0))]) hq5 rfl (Nat.le_refl _) (Nat.le_refl _) ?_
    refine g_if_ne (tgt := 17) dX9_plainAct_11 rfl (by first | assumption | (unfold gW; omega) | (unfold gW; split <;> omega)) (fun c6 => ?_) (fun c6 => ?_)
    · skip
      have hyG : dY hp G < 1 := by
                                                                      by_cases z : dY hp G < 1
                                                                      · exact z
                                                                      · rw [if_neg z] at c6; omega
      clear c6
      have hFr := row_po hp pa.pb 0
      have hGr := row_po hp pb.pb 0
      have hFg := dgi_ge hp hFr.1
      have hGg := dgi_ge hp hGr.1
      refine g_aload_n 2 dX9_plainAct_17 rfl ?_
      refine g_aload_n 0 dX9_plainAct_18 rfl ?_
      refine g_getf 7 dX9_plainAct_19 kX9 (by decide) fX9_59 hob rfl ?_
      refine g_callV (nc2 := 0) (ns2 := 0) (ci := 4) (As := [.ref (B + 29)]) (st := []) rfl dX9_plainAct_22 okX4_toRow lX9_138 itX4_toRow seX4_toRow rfl (pa).o (by decide) (by decide) rfl (Nat.le_of_ble_eq_true rfl) (sQ_toRow N _ (qa) (B + 29) p hp hp2 (F) pa h29 (show AP (qa) (B + 29) by unfold AP; omega)) (by omega) (by omega) (fun v7 hc7 q7 => ?_)
      obtain ⟨rfl, frc8, rn8_0⟩ := q7
      have fk9_0 : hc7.2 (B) = some (cO B (fa) (sy)) := Fr.at0 frc8 (Ni.c ⟨(show NE (B) (B + 29) by unfold NE; omega), (show NE (B) (B + 30) by unfold NE; omega)⟩ (Ni.n _)) hob
      have fk9_1 : hc7.2 (B + 7) = some (oB 2 [.ref (B + 1), .ref (B + 8), .ref (B + 10), .ref (B + 12), .ref (B + 14), .ref (B + 16), .ref (B + 18), .ref (B + 20), .ref (B + 22)]) := Fr.at0 frc8 (Ni.c ⟨(show NE (B + 7) (B + 29) by unfold NE; omega), (show NE (B + 7) (B + 30) by unfold NE; omega)⟩ (Ni.n _)) hw.1
      have fk9_2 : hc7.2 (B + 1) = some (oB 1 [.int (gI ((p : Int)))]) := Fr.at0 frc8 (Ni.c ⟨(show NE (B + 1) (B + 29) by unfold NE; omega), (show NE (B + 1) (B + 30) by unfold NE; omega)⟩ (Ni.n _)) hw.2.1
      have rk9_0 : PW p B hc7 := (hw).fr2 frc8 (ok_c (by omega) (fun _ h => absurd h (List.not_mem_nil)))
      have rk5009_0 : PA hc7 (B + 27) := (h27).fr frc8 (Ai.c (show AP (B + 27) (B + 29) by unfold AP; omega) (Ai.n _))
      have rk5009_2 : RA 84 hc7 (B + 31) := (h31).fr frc8 (Ai.c (show AP (B + 31) (B + 29) by unfold AP; omega) (Ai.n _))
      have rk5009_3 : RA 84 hc7 (B + 33) := (h33).fr frc8 (Ai.c (show AP (B + 33) (B + 29) by unfold AP; omega) (Ai.n _))
      have rk5009_4 : PP hp hc7 (qa) (F) := (pa).fr frc8 (Ai.c (show AP (qa) (B + 29) by unfold AP; omega) (Ai.n _))
      have rk5009_5 : PP hp hc7 (qb) (G) := (pb).fr frc8 (Ai.c (show AP (qb) (B + 29) by unfold AP; omega) (Ai.n _))
      have fr9 : Fr ((B + 29) :: (B + 31) :: (B + 33) :: (B + 27) :: pl B) h hc7 := ((Fr.rf ((B + 29) :: (B + 31) :: (B + 33) :: (B + 27) :: pl B) h)).tr ((frc8).mo (sub_c (List.Mem.head _) sub_n))
      refine Go.nf (h' := hc7) (st' := []) rfl rfl (Nat.le_refl _) (Nat.le_refl _) ?_
      refine g_aload_n 3 dX9_plainAct_25 rfl ?_
      refine g_aload_n 0 dX9_plainAct_26 rfl ?_
      refine g_getf 8 dX9_plainAct_27 kX9 (by decide) fX9_63 fk9_0 rfl ?_
      refine g_callV (nc2 := 0) (ns2 := 0) (ci := 4) (As := [.ref (B + 31)]) (st := []) rfl dX9_plainAct_30 okX4_toRow lX9_138 itX4_toRow seX4_toRow rfl (rk5009_5).o (by decide) (by decide) rfl (Nat.le_of_ble_eq_true rfl) (sQ_toRow N _ (qb) (B + 31) p hp hp2 (G) rk5009_5 rk5009_2 (show AP (qb) (B + 31) by unfold AP; omega)) (by omega) (by omega) (fun v10 hc10 q10 => ?_)
      obtain ⟨rfl, frc11, rn11_0⟩ := q10
      have fk12_0 : hc10.2 (B) = some (cO B (fa) (sy)) := Fr.at0 frc11 (Ni.c ⟨(show NE (B) (B + 31) by unfold NE; omega), (show NE (B) (B + 32) by unfold NE; omega)⟩ (Ni.n _)) fk9_0
      have fk12_1 : hc10.2 (B + 7) = some (oB 2 [.ref (B + 1), .ref (B + 8), .ref (B + 10), .ref (B + 12), .ref (B + 14), .ref (B + 16), .ref (B + 18), .ref (B + 20), .ref (B + 22)]) := Fr.at0 frc11 (Ni.c ⟨(show NE (B + 7) (B + 31) by unfold NE; omega), (show NE (B + 7) (B + 32) by unfold NE; omega)⟩ (Ni.n _)) fk9_1
      have fk12_2 : hc10.2 (B + 1) = some (oB 1 [.int (gI ((p : Int)))]) := Fr.at0 frc11 (Ni.c ⟨(show NE (B + 1) (B + 31) by unfold NE; omega), (show NE (B + 1) (B + 32) by unfold NE; omega)⟩ (Ni.n _)) fk9_2
      have rk12_5 : PW p B hc10 := (rk9_0).fr2 frc11 (ok_c (by omega) (fun _ h => absurd h (List.not_mem_nil)))
      have rk5012_0 : PA hc10 (B + 27) := (rk5009_0).fr frc11 (Ai.c (show AP (B + 27) (B + 31) by unfold AP; omega) (Ai.n _))
      have rk5012_2 : RA 84 hc10 (B + 33) := (rk5009_3).fr frc11 (Ai.c (show AP (B + 33) (B + 31) by unfold AP; omega) (Ai.n _))
      have rk5012_3 : PP hp hc10 (qa) (F) := (rk5009_4).fr frc11 (Ai.c (show AP (qa) (B + 31) by unfold AP; omega) (Ai.n _))
      have rk5012_4 : PP hp hc10 (qb) (G) := (rk5009_5).fr frc11 (Ai.c (show AP (qb) (B + 31) by unfold AP; omega) (Ai.n _))
      have rk5012_5 : RP hp 84 hc10 (B + 29) (F 0) := (rn8_0).fr frc11 (Ai.c (show AP (B + 29) (B + 31) by unfold AP; omega) (Ai.n _))
      have fr12 : Fr ((B + 29) :: (B + 31) :: (B + 33) :: (B + 27) :: pl B) h hc10 := (fr9).tr ((frc11).mo (sub_c (List.Mem.tail _ (List.Mem.head _)) sub_n))
      refine Go.nf (h' := hc10) (st' := []) rfl rfl (Nat.le_refl _) (Nat.le_refl _) ?_
      refine g_iload_n 1 dX9_plainAct_33 rfl ?_
      refine g_bipush dX9_plainAct_34 (by decide) ?_
      refine g_icmp_ne (tgt := 48) dX9_plainAct_36 rfl (by first | assumption | (unfold gW; omega) | (unfold gW; split <;> omega)) (by first | assumption | (unfold gW; omega) | (unfold gW; split <;> omega)) (fun c13 => ?_) (fun c13 => absurd c13 (by omega))
      refine g_iload_n 1 dX9_plainAct_48 rfl ?_
      refine g_bipush dX9_plainAct_49 (by decide) ?_
      refine g_icmp_ne (tgt := 97) dX9_plainAct_51 rfl (by first | assumption | (unfold gW; omega) | (unfold gW; split <;> omega)) (by first | assumption | (unfold gW; omega) | (unfold gW; split <;> omega)) (fun c14 => ?_) (fun c14 => absurd c14 (by omega))
      refine g_iload_n 1 dX9_plainAct_97 rfl ?_
      refine g_bipush dX9_plainAct_98 (by decide) ?_
      refine g_icmp_ne (tgt := 128) dX9_plainAct_100 rfl (by first | assumption | (unfold gW; omega) | (unfold gW; split <;> omega)) (by first | assumption | (unfold gW; omega) | (unfold gW; split <;> omega)) (fun c15 => ?_) (fun c15 => absurd c15 (by omega))
      refine g_aload_n 0 dX9_plainAct_128 rfl ?_
      refine g_iload_n 1 dX9_plainAct_129 rfl ?_
      refine g_bipush dX9_plainAct_130 (by decide) ?_
      refine g_icmp_ne (tgt := 139) dX9_plainAct_132 rfl (by first | assumption | (unfold gW; omega) | (unfold gW; split <;> omega)) (by first | assumption | (unfold gW; omega) | (unfold gW; split <;> omega)) (fun c16 => ?_) (fun c16 => absurd c16 (by omega))
      refine g_iconst dX9_plainAct_139 ?_
      refine g_callV (nc2 := 0) (ns2 := 0) (ci := 9) (As := [.int (gI (0))]) (st := []) rfl dX9_plainAct_140 okX9_division lX9_248 itX9_division seX9_division rfl fk12_0 (by decide) (by decide) rfl (Nat.le_of_ble_eq_true rfl) (sC_divisionR N _ B p hp hp2 fa sy (F 0) (G 0) fk12_0 rk12_5 rk5012_5 rn11_0 rk5012_2) (by omega) (by omega) (fun v17 hc17 q17 => ?_)
      obtain ⟨frc18, hd18⟩ := q17
      have fk19_0 : hc17.2 (B) = some (cO B (fa) (sy)) := Fr.at0 frc18 (Ni.c ⟨(show NE (B) (B + 29) by unfold NE; omega), (show NE (B) (B + 30) by unfold NE; omega)⟩ (Ni.c ⟨(show NE (B) (B + 33) by unfold NE; omega), (show NE (B) (B + 34) by unfold NE; omega)⟩ (Ni.n _))) fk12_0
      have fk19_1 : hc17.2 (B + 7) = some (oB 2 [.ref (B + 1), .ref (B + 8), .ref (B + 10), .ref (B + 12), .ref (B + 14), .ref (B + 16), .ref (B + 18), .ref (B + 20), .ref (B + 22)]) := Fr.at0 frc18 (Ni.c ⟨(show NE (B + 7) (B + 29) by unfold NE; omega), (show NE (B + 7) (B + 30) by unfold NE; omega)⟩ (Ni.c ⟨(show NE (B + 7) (B + 33) by unfold NE; omega), (show NE (B + 7) (B + 34) by unfold NE; omega)⟩ (Ni.n _))) fk12_1
      have fk19_2 : hc17.2 (B + 1) = some (oB 1 [.int (gI ((p : Int)))]) := Fr.at0 frc18 (Ni.c ⟨(show NE (B + 1) (B + 29) by unfold NE; omega), (show NE (B + 1) (B + 30) by unfold NE; omega)⟩ (Ni.c ⟨(show NE (B + 1) (B + 33) by unfold NE; omega), (show NE (B + 1) (B + 34) by unfold NE; omega)⟩ (Ni.n _))) fk12_2
      have rk19_5 : PW p B hc17 := (rk12_5).fr2 frc18 (ok_c (by omega) (ok_c (by omega) (fun _ h => absurd h (List.not_mem_nil))))
      have rk5019_0 : PA hc17 (B + 27) := (rk5012_0).fr frc18 (Ai.c (show AP (B + 27) (B + 29) by unfold AP; omega) (Ai.c (show AP (B + 27) (B + 33) by unfold AP; omega) (Ai.n _)))
      have rk5019_2 : PP hp hc17 (qa) (F) := (rk5012_3).fr frc18 (Ai.c (show AP (qa) (B + 29) by unfold AP; omega) (Ai.c (show AP (qa) (B + 33) by unfold AP; omega) (Ai.n _)))
      have rk5019_3 : PP hp hc17 (qb) (G) := (rk5012_4).fr frc18 (Ai.c (show AP (qb) (B + 29) by unfold AP; omega) (Ai.c (show AP (qb) (B + 33) by unfold AP; omega) (Ai.n _)))
      have rk5019_5 : RP hp 84 hc17 (B + 31) (G 0) := (rn11_0).fr frc18 (Ai.c (show AP (B + 31) (B + 29) by unfold AP; omega) (Ai.c (show AP (B + 31) (B + 33) by unfold AP; omega) (Ai.n _)))
      have fr19 : Fr ((B + 29) :: (B + 31) :: (B + 33) :: (B + 27) :: pl B) h hc17 := (fr12).tr ((frc18).mo (sub_c (List.Mem.head _) (sub_c (List.Mem.tail _ (List.Mem.tail _ (List.Mem.head _))) sub_n)))
      rcases hd18 with ⟨y1, rfl, y2, y3⟩ | ⟨y1, rfl, y2, y3⟩
      · skip
        refine Go.nf (h' := hc17) (st' := [.int (gI ((-3)))]) rfl rfl (Nat.le_refl _) (Nat.le_refl _) ?_
        refine g_istore (ls2 := [(4, .int (gI ((-3)))), (0, .ref (B)), (1, .int (gI (9))), (2, .ref (qa)), (3, .ref (qb))]) dX9_plainAct_143 (by decide) rfl ?_
        refine g_iload 0 dX9_plainAct_145 rfl ?_
        refine g_if_ne (tgt := 161) dX9_plainAct_147 rfl (by first | assumption | (unfold gW; omega) | (unfold gW; split <;> omega)) (fun c20 => ?_) (fun c20 => absurd c20 (by omega))
        refine g_iload 0 dX9_plainAct_161 rfl ?_
        exact g_iret dX9_plainAct_163 rfl ⟨fr19, rk19_5, y2, (rk5019_5).ra, y3, Or.inr ⟨-3, by omega, by show pl2 hp F G _ = _; unfold pl2; rw [if_pos ⟨hyF, hyG⟩]; unfold pa9; rw [if_pos (by omega)], rfl, rk5019_0⟩⟩
      · skip
        refine Go.nf (h' := hc17) (st' := [.int (gI (0))]) rfl rfl (Nat.le_refl _) (Nat.le_refl _) ?_
        refine g_istore (ls2 := [(4, .int (gI (0))), (0, .ref (B)), (1, .int (gI (9))), (2, .ref (qa)), (3, .ref (qb))]) dX9_plainAct_143 (by decide) rfl ?_
        refine g_iload 0 dX9_plainAct_145 rfl ?_
        refine g_if_ne (tgt := 161) dX9_plainAct_147 rfl (by first | assumption | (unfold gW; omega) | (unfold gW; split <;> omega)) (fun c21 => absurd c21 (by omega)) (fun c21 => ?_)
        have hd40 : dgi hp (rm hp (F 0) (G 0)) ≤ 40 := by
                                                                      have := rm_lt hp hFr.1 hGr.1 (by omega)
                                                                      omega
        refine g_aload_n 1 dX9_plainAct_150 rfl ?_
        refine g_getf 6 dX9_plainAct_151 kX9 (by decide) fX9_50 fk19_0 rfl ?_
        refine g_aload_n 1 dX9_plainAct_154 rfl ?_
        refine g_getf 9 dX9_plainAct_155 kX9 (by decide) fX9_66 fk19_0 rfl ?_
        refine g_callV (nc2 := 0) (ns2 := 0) (ci := 4) (As := [.ref (B + 33)]) (st := []) rfl dX9_plainAct_158 okX4_fromRow lX9_146 itX4_fromRow seX4_fromRow rfl (Classical.choose_spec (PA.o rk5019_0)) (by decide) (by decide) rfl (Nat.le_of_ble_eq_true rfl) (sQ_fromRow N _ (B + 27) (B + 33) 84 p hp hp2 (rm hp (F 0) (G 0)) rk5019_0 y3 hd40 (show AP (B + 27) (B + 33) by unfold AP; omega)) (by omega) (by omega) (fun v22 hc22 q22 => ?_)
        obtain ⟨rfl, frc23, rn23_0⟩ := q22
        have fk24_0 : hc22.2 (B) = some (cO B (fa) (sy)) := Fr.at0 frc23 (Ni.c ⟨(show NE (B) (B + 27) by unfold NE; omega), (show NE (B) (B + 28) by unfold NE; omega)⟩ (Ni.n _)) fk19_0
        have fk24_1 : hc22.2 (B + 7) = some (oB 2 [.ref (B + 1), .ref (B + 8), .ref (B + 10), .ref (B + 12), .ref (B + 14), .ref (B + 16), .ref (B + 18), .ref (B + 20), .ref (B + 22)]) := Fr.at0 frc23 (Ni.c ⟨(show NE (B + 7) (B + 27) by unfold NE; omega), (show NE (B + 7) (B + 28) by unfold NE; omega)⟩ (Ni.n _)) fk19_1
        have fk24_2 : hc22.2 (B + 1) = some (oB 1 [.int (gI ((p : Int)))]) := Fr.at0 frc23 (Ni.c ⟨(show NE (B + 1) (B + 27) by unfold NE; omega), (show NE (B + 1) (B + 28) by unfold NE; omega)⟩ (Ni.n _)) fk19_2
        have rk24_4 : PW p B hc22 := (rk19_5).fr2 frc23 (ok_c (by omega) (fun _ h => absurd h (List.not_mem_nil)))
        have rk5024_1 : PP hp hc22 (qa) (F) := (rk5019_2).fr frc23 (Ai.c (show AP (qa) (B + 27) by unfold AP; omega) (Ai.n _))
        have rk5024_2 : PP hp hc22 (qb) (G) := (rk5019_3).fr frc23 (Ai.c (show AP (qb) (B + 27) by unfold AP; omega) (Ai.n _))
        have rk5024_3 : RP hp 84 hc22 (B + 31) (G 0) := (rk5019_5).fr frc23 (Ai.c (show AP (B + 31) (B + 27) by unfold AP; omega) (Ai.n _))
        have rk5024_4 : RA 84 hc22 (B + 29) := (y2).fr frc23 (Ai.c (show AP (B + 29) (B + 27) by unfold AP; omega) (Ai.n _))
        have rk5024_5 : RP hp 84 hc22 (B + 33) (rm hp (F 0) (G 0)) := (y3).fr frc23 (Ai.c (show AP (B + 33) (B + 27) by unfold AP; omega) (Ai.n _))
        have fr24 : Fr ((B + 29) :: (B + 31) :: (B + 33) :: (B + 27) :: pl B) h hc22 := (fr19).tr ((frc23).mo (sub_c (List.Mem.tail _ (List.Mem.tail _ (List.Mem.tail _ (List.Mem.head _)))) sub_n))
        refine Go.nf (h' := hc22) (st' := []) rfl rfl (Nat.le_refl _) (Nat.le_refl _) ?_
        refine g_iload 0 dX9_plainAct_161 rfl ?_
        exact g_iret dX9_plainAct_163 rfl ⟨fr24, rk24_4, rk5024_4, (rk5024_3).ra, (rk5024_5).ra, Or.inl ⟨pF hp (rm hp (F 0) (G 0)), by show pl2 hp F G _ = _; unfold pl2; rw [if_pos ⟨hyF, hyG⟩]; unfold pa9; rw [if_neg (by omega)]; exact kR_i hp hd40, rfl, rn23_0⟩⟩
    · skip
      have hyG : ¬ dY hp G < 1 := fun z => by rw [if_pos z] at c6; omega
      clear c6
      refine g_bipush dX9_plainAct_14 (by decide) ?_
      exact g_iret dX9_plainAct_16 rfl ⟨(Fr.rf ((B + 29) :: (B + 31) :: (B + 33) :: (B + 27) :: pl B) h), hw, h29, h31, h33, Or.inr ⟨-2, by omega, by show pl2 hp F G _ = _; unfold pl2; rw [if_neg (by omega)], rfl, h27⟩⟩
set_option maxHeartbeats 4000000 in
set_option maxRecDepth 100000 in
theorem sC_plainAct10 (N : GN) (h : GH) (B p : Nat) (hp : prm p) (hp2 : p ≤ 65536) (fa sy : Value) (qa qb : Nat) (F G : Pxy p) (hob : h.2 B = some (cO B fa sy)) (hw : PW p B h) (h27 : PA h (B + 27)) (h29 : RA 84 h (B + 29)) (h31 : RA 84 h (B + 31)) (h33 : RA 84 h (B + 33)) (la : B + 58 ≤ qa) (lb : B + 58 ≤ qb) (pa : PP hp h qa F) (pb : PP hp h qb G) : Sp N yX9_plainAct mX9_plainAct 0 0 [.ref (B), .int (gI (10)), .ref (qa), .ref (qb)] h (fun v h1 => Fr ((B + 29) :: (B + 31) :: (B + 33) :: (B + 27) :: pl B) h h1 ∧ PW p B h1 ∧ RA 84 h1 (B + 29) ∧ RA 84 h1 (B + 31) ∧ RA 84 h1 (B + 33) ∧ ((∃ H, rac hp 10 F G = .inr H ∧ v = some (.int (gI 0)) ∧ PP hp h1 (B + 27) H) ∨ (∃ r, r < 0 ∧ rac hp 10 F G = .inl r ∧ v = some (.int (gI r)) ∧ PA h1 (B + 27)))) := by
  refine Sp.of (by decide) rfl rfl (Nat.le_of_ble_eq_true rfl) ?_
  show Go N mX9_plainAct _ 0 0 h 0 [(0, .ref (B)), (1, .int (gI (10))), (2, .ref (qa)), (3, .ref (qb))] []
  have hp1 := hp.1
  refine g_aload_n 2 dX9_plainAct_0 rfl ?_
  refine g_callV (nc2 := 0) (ns2 := 0) (ci := 4) (As := []) (st := []) rfl dX9_plainAct_1 okX4_isPlain lX9_131 itX4_isPlain seX4_isPlain rfl (pa).o (by decide) (by decide) rfl (Nat.le_of_ble_eq_true rfl) (sQ_isPlain N _ (qa) p hp F pa) (by omega) (by omega) (fun v1 hc1 q1 => ?_)
  obtain ⟨hq2, rfl⟩ := q1
  refine Go.nf (h' := h) (st' := [.int (gI (if dY hp F < 1 then 1 else 0))]) hq2 rfl (Nat.le_refl _) (Nat.le_refl _) ?_
  refine g_if_eq (tgt := 14) dX9_plainAct_4 rfl (by first | assumption | (unfold gW; omega) | (unfold gW; split <;> omega)) (fun c3 => ?_) (fun c3 => ?_)
  · skip
    have hyF : ¬ dY hp F < 1 := fun z => by rw [if_pos z] at c3; omega
    clear c3
    refine g_bipush dX9_plainAct_14 (by decide) ?_
    exact g_iret dX9_plainAct_16 rfl ⟨(Fr.rf ((B + 29) :: (B + 31) :: (B + 33) :: (B + 27) :: pl B) h), hw, h29, h31, h33, Or.inr ⟨-2, by omega, by show pl2 hp F G _ = _; unfold pl2; rw [if_neg (by omega)], rfl, h27⟩⟩
  · skip
    have hyF : dY hp F < 1 := by
                                                                      by_cases z : dY hp F < 1
                                                                      · exact z
                                                                      · rw [if_neg z] at c3; omega
    clear c3
    refine g_aload_n 3 dX9_plainAct_7 rfl ?_
    refine g_callV (nc2 := 0) (ns2 := 0) (ci := 4) (As := []) (st := []) rfl dX9_plainAct_8 okX4_isPlain lX9_131 itX4_isPlain seX4_isPlain rfl (pb).o (by decide) (by decide) rfl (Nat.le_of_ble_eq_true rfl) (sQ_isPlain N _ (qb) p hp G pb) (by omega) (by omega) (fun v4 hc4 q4 => ?_)
    obtain ⟨hq5, rfl⟩ := q4
    refine Go.nf (h' := h) (st' := [.int (gI (if dY hp G < 1 then 1 else 0))]) hq5 rfl (Nat.le_refl _) (Nat.le_refl _) ?_
    refine g_if_ne (tgt := 17) dX9_plainAct_11 rfl (by first | assumption | (unfold gW; omega) | (unfold gW; split <;> omega)) (fun c6 => ?_) (fun c6 => ?_)
    · skip
      have hyG : dY hp G < 1 := by
                                                                      by_cases z : dY hp G < 1
                                                                      · exact z
                                                                      · rw [if_neg z] at c6; omega
      clear c6
      have hFr := row_po hp pa.pb 0
      have hGr := row_po hp pb.pb 0
      have hFg := dgi_ge hp hFr.1
      have hGg := dgi_ge hp hGr.1
      refine g_aload_n 2 dX9_plainAct_17 rfl ?_
      refine g_aload_n 0 dX9_plainAct_18 rfl ?_
      refine g_getf 7 dX9_plainAct_19 kX9 (by decide) fX9_59 hob rfl ?_
      refine g_callV (nc2 := 0) (ns2 := 0) (ci := 4) (As := [.ref (B + 29)]) (st := []) rfl dX9_plainAct_22 okX4_toRow lX9_138 itX4_toRow seX4_toRow rfl (pa).o (by decide) (by decide) rfl (Nat.le_of_ble_eq_true rfl) (sQ_toRow N _ (qa) (B + 29) p hp hp2 (F) pa h29 (show AP (qa) (B + 29) by unfold AP; omega)) (by omega) (by omega) (fun v7 hc7 q7 => ?_)
      obtain ⟨rfl, frc8, rn8_0⟩ := q7
      have fk9_0 : hc7.2 (B) = some (cO B (fa) (sy)) := Fr.at0 frc8 (Ni.c ⟨(show NE (B) (B + 29) by unfold NE; omega), (show NE (B) (B + 30) by unfold NE; omega)⟩ (Ni.n _)) hob
      have fk9_1 : hc7.2 (B + 7) = some (oB 2 [.ref (B + 1), .ref (B + 8), .ref (B + 10), .ref (B + 12), .ref (B + 14), .ref (B + 16), .ref (B + 18), .ref (B + 20), .ref (B + 22)]) := Fr.at0 frc8 (Ni.c ⟨(show NE (B + 7) (B + 29) by unfold NE; omega), (show NE (B + 7) (B + 30) by unfold NE; omega)⟩ (Ni.n _)) hw.1
      have fk9_2 : hc7.2 (B + 1) = some (oB 1 [.int (gI ((p : Int)))]) := Fr.at0 frc8 (Ni.c ⟨(show NE (B + 1) (B + 29) by unfold NE; omega), (show NE (B + 1) (B + 30) by unfold NE; omega)⟩ (Ni.n _)) hw.2.1
      have rk9_0 : PW p B hc7 := (hw).fr2 frc8 (ok_c (by omega) (fun _ h => absurd h (List.not_mem_nil)))
      have rk5009_0 : PA hc7 (B + 27) := (h27).fr frc8 (Ai.c (show AP (B + 27) (B + 29) by unfold AP; omega) (Ai.n _))
      have rk5009_2 : RA 84 hc7 (B + 31) := (h31).fr frc8 (Ai.c (show AP (B + 31) (B + 29) by unfold AP; omega) (Ai.n _))
      have rk5009_3 : RA 84 hc7 (B + 33) := (h33).fr frc8 (Ai.c (show AP (B + 33) (B + 29) by unfold AP; omega) (Ai.n _))
      have rk5009_4 : PP hp hc7 (qa) (F) := (pa).fr frc8 (Ai.c (show AP (qa) (B + 29) by unfold AP; omega) (Ai.n _))
      have rk5009_5 : PP hp hc7 (qb) (G) := (pb).fr frc8 (Ai.c (show AP (qb) (B + 29) by unfold AP; omega) (Ai.n _))
      have fr9 : Fr ((B + 29) :: (B + 31) :: (B + 33) :: (B + 27) :: pl B) h hc7 := ((Fr.rf ((B + 29) :: (B + 31) :: (B + 33) :: (B + 27) :: pl B) h)).tr ((frc8).mo (sub_c (List.Mem.head _) sub_n))
      refine Go.nf (h' := hc7) (st' := []) rfl rfl (Nat.le_refl _) (Nat.le_refl _) ?_
      refine g_aload_n 3 dX9_plainAct_25 rfl ?_
      refine g_aload_n 0 dX9_plainAct_26 rfl ?_
      refine g_getf 8 dX9_plainAct_27 kX9 (by decide) fX9_63 fk9_0 rfl ?_
      refine g_callV (nc2 := 0) (ns2 := 0) (ci := 4) (As := [.ref (B + 31)]) (st := []) rfl dX9_plainAct_30 okX4_toRow lX9_138 itX4_toRow seX4_toRow rfl (rk5009_5).o (by decide) (by decide) rfl (Nat.le_of_ble_eq_true rfl) (sQ_toRow N _ (qb) (B + 31) p hp hp2 (G) rk5009_5 rk5009_2 (show AP (qb) (B + 31) by unfold AP; omega)) (by omega) (by omega) (fun v10 hc10 q10 => ?_)
      obtain ⟨rfl, frc11, rn11_0⟩ := q10
      have fk12_0 : hc10.2 (B) = some (cO B (fa) (sy)) := Fr.at0 frc11 (Ni.c ⟨(show NE (B) (B + 31) by unfold NE; omega), (show NE (B) (B + 32) by unfold NE; omega)⟩ (Ni.n _)) fk9_0
      have fk12_1 : hc10.2 (B + 7) = some (oB 2 [.ref (B + 1), .ref (B + 8), .ref (B + 10), .ref (B + 12), .ref (B + 14), .ref (B + 16), .ref (B + 18), .ref (B + 20), .ref (B + 22)]) := Fr.at0 frc11 (Ni.c ⟨(show NE (B + 7) (B + 31) by unfold NE; omega), (show NE (B + 7) (B + 32) by unfold NE; omega)⟩ (Ni.n _)) fk9_1
      have fk12_2 : hc10.2 (B + 1) = some (oB 1 [.int (gI ((p : Int)))]) := Fr.at0 frc11 (Ni.c ⟨(show NE (B + 1) (B + 31) by unfold NE; omega), (show NE (B + 1) (B + 32) by unfold NE; omega)⟩ (Ni.n _)) fk9_2
      have rk12_5 : PW p B hc10 := (rk9_0).fr2 frc11 (ok_c (by omega) (fun _ h => absurd h (List.not_mem_nil)))
      have rk5012_0 : PA hc10 (B + 27) := (rk5009_0).fr frc11 (Ai.c (show AP (B + 27) (B + 31) by unfold AP; omega) (Ai.n _))
      have rk5012_2 : RA 84 hc10 (B + 33) := (rk5009_3).fr frc11 (Ai.c (show AP (B + 33) (B + 31) by unfold AP; omega) (Ai.n _))
      have rk5012_3 : PP hp hc10 (qa) (F) := (rk5009_4).fr frc11 (Ai.c (show AP (qa) (B + 31) by unfold AP; omega) (Ai.n _))
      have rk5012_4 : PP hp hc10 (qb) (G) := (rk5009_5).fr frc11 (Ai.c (show AP (qb) (B + 31) by unfold AP; omega) (Ai.n _))
      have rk5012_5 : RP hp 84 hc10 (B + 29) (F 0) := (rn8_0).fr frc11 (Ai.c (show AP (B + 29) (B + 31) by unfold AP; omega) (Ai.n _))
      have fr12 : Fr ((B + 29) :: (B + 31) :: (B + 33) :: (B + 27) :: pl B) h hc10 := (fr9).tr ((frc11).mo (sub_c (List.Mem.tail _ (List.Mem.head _)) sub_n))
      refine Go.nf (h' := hc10) (st' := []) rfl rfl (Nat.le_refl _) (Nat.le_refl _) ?_
      refine g_iload_n 1 dX9_plainAct_33 rfl ?_
      refine g_bipush dX9_plainAct_34 (by decide) ?_
      refine g_icmp_ne (tgt := 48) dX9_plainAct_36 rfl (by first | assumption | (unfold gW; omega) | (unfold gW; split <;> omega)) (by first | assumption | (unfold gW; omega) | (unfold gW; split <;> omega)) (fun c13 => ?_) (fun c13 => absurd c13 (by omega))
      refine g_iload_n 1 dX9_plainAct_48 rfl ?_
      refine g_bipush dX9_plainAct_49 (by decide) ?_
      refine g_icmp_ne (tgt := 97) dX9_plainAct_51 rfl (by first | assumption | (unfold gW; omega) | (unfold gW; split <;> omega)) (by first | assumption | (unfold gW; omega) | (unfold gW; split <;> omega)) (fun c14 => ?_) (fun c14 => absurd c14 (by omega))
      refine g_iload_n 1 dX9_plainAct_97 rfl ?_
      refine g_bipush dX9_plainAct_98 (by decide) ?_
      refine g_icmp_ne (tgt := 128) dX9_plainAct_100 rfl (by first | assumption | (unfold gW; omega) | (unfold gW; split <;> omega)) (by first | assumption | (unfold gW; omega) | (unfold gW; split <;> omega)) (fun c15 => absurd c15 (by omega)) (fun c15 => ?_)
      refine g_aload_n 0 dX9_plainAct_103 rfl ?_
      refine g_getf 4 dX9_plainAct_104 kX9 (by decide) fX9_38 fk12_0 rfl ?_
      refine g_aload_n 0 dX9_plainAct_107 rfl ?_
      refine g_getf 7 dX9_plainAct_108 kX9 (by decide) fX9_59 fk12_0 rfl ?_
      refine g_aload_n 0 dX9_plainAct_111 rfl ?_
      refine g_getf 8 dX9_plainAct_112 kX9 (by decide) fX9_63 fk12_0 rfl ?_
      refine g_aload_n 0 dX9_plainAct_115 rfl ?_
      refine g_getf 9 dX9_plainAct_116 kX9 (by decide) fX9_66 fk12_0 rfl ?_
      refine g_callV (nc2 := 0) (ns2 := 0) (ci := 2) (As := [.ref (B + 29), .ref (B + 31), .ref (B + 33)]) (st := []) rfl dX9_plainAct_119 okX2_commonDivisor lX9_244 itX2_commonDivisor seX2_commonDivisor rfl fk12_1 (by decide) (by decide) rfl (Nat.le_of_ble_eq_true rfl) (sP_common N _ B (B + 29) (B + 31) (B + 33) p hp hp2 (F 0) (G 0) rk12_5 rk5012_5 rn11_0 rk5012_2 (by omega) (by omega) (by omega)) (by omega) (by omega) (fun v16 hc16 q16 => ?_)
      obtain ⟨rfl, frc17, rn17_0, rn17_1⟩ := q16
      have fk18_0 : hc16.2 (B) = some (cO B (fa) (sy)) := Fr.at0 frc17 (Ni.c ⟨(show NE (B) (B + 33) by unfold NE; omega), (show NE (B) (B + 34) by unfold NE; omega)⟩ (Ni_pl (by omega))) fk12_0
      have fk18_1 : hc16.2 (B + 7) = some (oB 2 [.ref (B + 1), .ref (B + 8), .ref (B + 10), .ref (B + 12), .ref (B + 14), .ref (B + 16), .ref (B + 18), .ref (B + 20), .ref (B + 22)]) := Fr.at0 frc17 (Ni.c ⟨(show NE (B + 7) (B + 33) by unfold NE; omega), (show NE (B + 7) (B + 34) by unfold NE; omega)⟩ (Ni_pl (by omega))) fk12_1
      have fk18_2 : hc16.2 (B + 1) = some (oB 1 [.int (gI ((p : Int)))]) := Fr.at0 frc17 (Ni.c ⟨(show NE (B + 1) (B + 33) by unfold NE; omega), (show NE (B + 1) (B + 34) by unfold NE; omega)⟩ (Ni_pl (by omega))) fk12_2
      have rk5018_0 : PA hc16 (B + 27) := (rk5012_0).fr frc17 (Ai.c (show AP (B + 27) (B + 33) by unfold AP; omega) (Ai_pl (by omega)))
      have rk5018_2 : PP hp hc16 (qa) (F) := (rk5012_3).fr frc17 (Ai.c (show AP (qa) (B + 33) by unfold AP; omega) (Ai_pl (by omega)))
      have rk5018_3 : PP hp hc16 (qb) (G) := (rk5012_4).fr frc17 (Ai.c (show AP (qb) (B + 33) by unfold AP; omega) (Ai_pl (by omega)))
      have rk5018_4 : RP hp 84 hc16 (B + 29) (F 0) := (rk5012_5).fr frc17 (Ai.c (show AP (B + 29) (B + 33) by unfold AP; omega) (Ai_pl (by omega)))
      have rk5018_5 : RP hp 84 hc16 (B + 31) (G 0) := (rn11_0).fr frc17 (Ai.c (show AP (B + 31) (B + 33) by unfold AP; omega) (Ai_pl (by omega)))
      have fr18 : Fr ((B + 29) :: (B + 31) :: (B + 33) :: (B + 27) :: pl B) h hc16 := (fr12).tr ((frc17).mo (sub_c (List.Mem.tail _ (List.Mem.tail _ (List.Mem.head _))) (fun _ hx => (List.Mem.tail _ (List.Mem.tail _ (List.Mem.tail _ (List.Mem.tail _ hx)))))))
      refine Go.nf (h' := hc16) (st' := []) rfl rfl (Nat.le_refl _) (Nat.le_refl _) ?_
      refine g_iconst dX9_plainAct_122 ?_
      refine g_istore (ls2 := [(4, .int (gI (0))), (0, .ref (B)), (1, .int (gI (10))), (2, .ref (qa)), (3, .ref (qb))]) dX9_plainAct_123 (by decide) rfl ?_
      refine g_goto (tgt := 145) dX9_plainAct_125 rfl ?_
      refine g_iload 0 dX9_plainAct_145 rfl ?_
      refine g_if_ne (tgt := 161) dX9_plainAct_147 rfl (by first | assumption | (unfold gW; omega) | (unfold gW; split <;> omega)) (fun c19 => absurd c19 (by omega)) (fun c19 => ?_)
      have hd40 : dgi hp (gP hp (F 0) (G 0)) ≤ 40 := by
                                                                      have := gP_dl hp hFr.1 hGr.1 (n := 41) (by omega) (by omega) (by omega)
                                                                      omega
      refine g_aload_n 1 dX9_plainAct_150 rfl ?_
      refine g_getf 6 dX9_plainAct_151 kX9 (by decide) fX9_50 fk18_0 rfl ?_
      refine g_aload_n 1 dX9_plainAct_154 rfl ?_
      refine g_getf 9 dX9_plainAct_155 kX9 (by decide) fX9_66 fk18_0 rfl ?_
      refine g_callV (nc2 := 0) (ns2 := 0) (ci := 4) (As := [.ref (B + 33)]) (st := []) rfl dX9_plainAct_158 okX4_fromRow lX9_146 itX4_fromRow seX4_fromRow rfl (Classical.choose_spec (PA.o rk5018_0)) (by decide) (by decide) rfl (Nat.le_of_ble_eq_true rfl) (sQ_fromRow N _ (B + 27) (B + 33) 84 p hp hp2 (gP hp (F 0) (G 0)) rk5018_0 rn17_0 hd40 (show AP (B + 27) (B + 33) by unfold AP; omega)) (by omega) (by omega) (fun v20 hc20 q20 => ?_)
      obtain ⟨rfl, frc21, rn21_0⟩ := q20
      have fk22_0 : hc20.2 (B) = some (cO B (fa) (sy)) := Fr.at0 frc21 (Ni.c ⟨(show NE (B) (B + 27) by unfold NE; omega), (show NE (B) (B + 28) by unfold NE; omega)⟩ (Ni.n _)) fk18_0
      have fk22_1 : hc20.2 (B + 7) = some (oB 2 [.ref (B + 1), .ref (B + 8), .ref (B + 10), .ref (B + 12), .ref (B + 14), .ref (B + 16), .ref (B + 18), .ref (B + 20), .ref (B + 22)]) := Fr.at0 frc21 (Ni.c ⟨(show NE (B + 7) (B + 27) by unfold NE; omega), (show NE (B + 7) (B + 28) by unfold NE; omega)⟩ (Ni.n _)) fk18_1
      have fk22_2 : hc20.2 (B + 1) = some (oB 1 [.int (gI ((p : Int)))]) := Fr.at0 frc21 (Ni.c ⟨(show NE (B + 1) (B + 27) by unfold NE; omega), (show NE (B + 1) (B + 28) by unfold NE; omega)⟩ (Ni.n _)) fk18_2
      have rk22_6 : PW p B hc20 := (rn17_1).fr2 frc21 (ok_c (by omega) (fun _ h => absurd h (List.not_mem_nil)))
      have rk5022_1 : PP hp hc20 (qa) (F) := (rk5018_2).fr frc21 (Ai.c (show AP (qa) (B + 27) by unfold AP; omega) (Ai.n _))
      have rk5022_2 : PP hp hc20 (qb) (G) := (rk5018_3).fr frc21 (Ai.c (show AP (qb) (B + 27) by unfold AP; omega) (Ai.n _))
      have rk5022_3 : RP hp 84 hc20 (B + 29) (F 0) := (rk5018_4).fr frc21 (Ai.c (show AP (B + 29) (B + 27) by unfold AP; omega) (Ai.n _))
      have rk5022_4 : RP hp 84 hc20 (B + 31) (G 0) := (rk5018_5).fr frc21 (Ai.c (show AP (B + 31) (B + 27) by unfold AP; omega) (Ai.n _))
      have rk5022_5 : RP hp 84 hc20 (B + 33) (gP hp (F 0) (G 0)) := (rn17_0).fr frc21 (Ai.c (show AP (B + 33) (B + 27) by unfold AP; omega) (Ai.n _))
      have fr22 : Fr ((B + 29) :: (B + 31) :: (B + 33) :: (B + 27) :: pl B) h hc20 := (fr18).tr ((frc21).mo (sub_c (List.Mem.tail _ (List.Mem.tail _ (List.Mem.tail _ (List.Mem.head _)))) sub_n))
      refine Go.nf (h' := hc20) (st' := []) rfl rfl (Nat.le_refl _) (Nat.le_refl _) ?_
      refine g_iload 0 dX9_plainAct_161 rfl ?_
      exact g_iret dX9_plainAct_163 rfl ⟨fr22, rk22_6, (rk5022_3).ra, (rk5022_4).ra, (rk5022_5).ra, Or.inl ⟨pF hp (gP hp (F 0) (G 0)), by show pl2 hp F G _ = _; unfold pl2; rw [if_pos ⟨hyF, hyG⟩]; unfold pa10; exact kR_i hp hd40, rfl, rn21_0⟩⟩
    · skip
      have hyG : ¬ dY hp G < 1 := fun z => by rw [if_pos z] at c6; omega
      clear c6
      refine g_bipush dX9_plainAct_14 (by decide) ?_
      exact g_iret dX9_plainAct_16 rfl ⟨(Fr.rf ((B + 29) :: (B + 31) :: (B + 33) :: (B + 27) :: pl B) h), hw, h29, h31, h33, Or.inr ⟨-2, by omega, by show pl2 hp F G _ = _; unfold pl2; rw [if_neg (by omega)], rfl, h27⟩⟩
set_option maxHeartbeats 4000000 in
set_option maxRecDepth 100000 in
theorem sC_plainAct13 (N : GN) (h : GH) (B p : Nat) (hp : prm p) (hp2 : p ≤ 65536) (fa sy : Value) (qa qb : Nat) (F G : Pxy p) (hob : h.2 B = some (cO B fa sy)) (hw : PW p B h) (h27 : PA h (B + 27)) (h29 : RA 84 h (B + 29)) (h31 : RA 84 h (B + 31)) (h33 : RA 84 h (B + 33)) (la : B + 58 ≤ qa) (lb : B + 58 ≤ qb) (pa : PP hp h qa F) (pb : PP hp h qb G) : Sp N yX9_plainAct mX9_plainAct 0 0 [.ref (B), .int (gI (13)), .ref (qa), .ref (qb)] h (fun v h1 => Fr ((B + 29) :: (B + 31) :: (B + 33) :: (B + 27) :: pl B) h h1 ∧ PW p B h1 ∧ RA 84 h1 (B + 29) ∧ RA 84 h1 (B + 31) ∧ RA 84 h1 (B + 33) ∧ ((∃ H, rac hp 13 F G = .inr H ∧ v = some (.int (gI 0)) ∧ PP hp h1 (B + 27) H) ∨ (∃ r, r < 0 ∧ rac hp 13 F G = .inl r ∧ v = some (.int (gI r)) ∧ PA h1 (B + 27)))) := by
  refine Sp.of (by decide) rfl rfl (Nat.le_of_ble_eq_true rfl) ?_
  show Go N mX9_plainAct _ 0 0 h 0 [(0, .ref (B)), (1, .int (gI (13))), (2, .ref (qa)), (3, .ref (qb))] []
  have hp1 := hp.1
  refine g_aload_n 2 dX9_plainAct_0 rfl ?_
  refine g_callV (nc2 := 0) (ns2 := 0) (ci := 4) (As := []) (st := []) rfl dX9_plainAct_1 okX4_isPlain lX9_131 itX4_isPlain seX4_isPlain rfl (pa).o (by decide) (by decide) rfl (Nat.le_of_ble_eq_true rfl) (sQ_isPlain N _ (qa) p hp F pa) (by omega) (by omega) (fun v1 hc1 q1 => ?_)
  obtain ⟨hq2, rfl⟩ := q1
  refine Go.nf (h' := h) (st' := [.int (gI (if dY hp F < 1 then 1 else 0))]) hq2 rfl (Nat.le_refl _) (Nat.le_refl _) ?_
  refine g_if_eq (tgt := 14) dX9_plainAct_4 rfl (by first | assumption | (unfold gW; omega) | (unfold gW; split <;> omega)) (fun c3 => ?_) (fun c3 => ?_)
  · skip
    have hyF : ¬ dY hp F < 1 := fun z => by rw [if_pos z] at c3; omega
    clear c3
    refine g_bipush dX9_plainAct_14 (by decide) ?_
    exact g_iret dX9_plainAct_16 rfl ⟨(Fr.rf ((B + 29) :: (B + 31) :: (B + 33) :: (B + 27) :: pl B) h), hw, h29, h31, h33, Or.inr ⟨-2, by omega, by show pl2 hp F G _ = _; unfold pl2; rw [if_neg (by omega)], rfl, h27⟩⟩
  · skip
    have hyF : dY hp F < 1 := by
                                                                      by_cases z : dY hp F < 1
                                                                      · exact z
                                                                      · rw [if_neg z] at c3; omega
    clear c3
    refine g_aload_n 3 dX9_plainAct_7 rfl ?_
    refine g_callV (nc2 := 0) (ns2 := 0) (ci := 4) (As := []) (st := []) rfl dX9_plainAct_8 okX4_isPlain lX9_131 itX4_isPlain seX4_isPlain rfl (pb).o (by decide) (by decide) rfl (Nat.le_of_ble_eq_true rfl) (sQ_isPlain N _ (qb) p hp G pb) (by omega) (by omega) (fun v4 hc4 q4 => ?_)
    obtain ⟨hq5, rfl⟩ := q4
    refine Go.nf (h' := h) (st' := [.int (gI (if dY hp G < 1 then 1 else 0))]) hq5 rfl (Nat.le_refl _) (Nat.le_refl _) ?_
    refine g_if_ne (tgt := 17) dX9_plainAct_11 rfl (by first | assumption | (unfold gW; omega) | (unfold gW; split <;> omega)) (fun c6 => ?_) (fun c6 => ?_)
    · skip
      have hyG : dY hp G < 1 := by
                                                                      by_cases z : dY hp G < 1
                                                                      · exact z
                                                                      · rw [if_neg z] at c6; omega
      clear c6
      have hFr := row_po hp pa.pb 0
      have hGr := row_po hp pb.pb 0
      have hFg := dgi_ge hp hFr.1
      have hGg := dgi_ge hp hGr.1
      refine g_aload_n 2 dX9_plainAct_17 rfl ?_
      refine g_aload_n 0 dX9_plainAct_18 rfl ?_
      refine g_getf 7 dX9_plainAct_19 kX9 (by decide) fX9_59 hob rfl ?_
      refine g_callV (nc2 := 0) (ns2 := 0) (ci := 4) (As := [.ref (B + 29)]) (st := []) rfl dX9_plainAct_22 okX4_toRow lX9_138 itX4_toRow seX4_toRow rfl (pa).o (by decide) (by decide) rfl (Nat.le_of_ble_eq_true rfl) (sQ_toRow N _ (qa) (B + 29) p hp hp2 (F) pa h29 (show AP (qa) (B + 29) by unfold AP; omega)) (by omega) (by omega) (fun v7 hc7 q7 => ?_)
      obtain ⟨rfl, frc8, rn8_0⟩ := q7
      have fk9_0 : hc7.2 (B) = some (cO B (fa) (sy)) := Fr.at0 frc8 (Ni.c ⟨(show NE (B) (B + 29) by unfold NE; omega), (show NE (B) (B + 30) by unfold NE; omega)⟩ (Ni.n _)) hob
      have fk9_1 : hc7.2 (B + 7) = some (oB 2 [.ref (B + 1), .ref (B + 8), .ref (B + 10), .ref (B + 12), .ref (B + 14), .ref (B + 16), .ref (B + 18), .ref (B + 20), .ref (B + 22)]) := Fr.at0 frc8 (Ni.c ⟨(show NE (B + 7) (B + 29) by unfold NE; omega), (show NE (B + 7) (B + 30) by unfold NE; omega)⟩ (Ni.n _)) hw.1
      have fk9_2 : hc7.2 (B + 1) = some (oB 1 [.int (gI ((p : Int)))]) := Fr.at0 frc8 (Ni.c ⟨(show NE (B + 1) (B + 29) by unfold NE; omega), (show NE (B + 1) (B + 30) by unfold NE; omega)⟩ (Ni.n _)) hw.2.1
      have rk9_0 : PW p B hc7 := (hw).fr2 frc8 (ok_c (by omega) (fun _ h => absurd h (List.not_mem_nil)))
      have rk5009_0 : PA hc7 (B + 27) := (h27).fr frc8 (Ai.c (show AP (B + 27) (B + 29) by unfold AP; omega) (Ai.n _))
      have rk5009_2 : RA 84 hc7 (B + 31) := (h31).fr frc8 (Ai.c (show AP (B + 31) (B + 29) by unfold AP; omega) (Ai.n _))
      have rk5009_3 : RA 84 hc7 (B + 33) := (h33).fr frc8 (Ai.c (show AP (B + 33) (B + 29) by unfold AP; omega) (Ai.n _))
      have rk5009_4 : PP hp hc7 (qa) (F) := (pa).fr frc8 (Ai.c (show AP (qa) (B + 29) by unfold AP; omega) (Ai.n _))
      have rk5009_5 : PP hp hc7 (qb) (G) := (pb).fr frc8 (Ai.c (show AP (qb) (B + 29) by unfold AP; omega) (Ai.n _))
      have fr9 : Fr ((B + 29) :: (B + 31) :: (B + 33) :: (B + 27) :: pl B) h hc7 := ((Fr.rf ((B + 29) :: (B + 31) :: (B + 33) :: (B + 27) :: pl B) h)).tr ((frc8).mo (sub_c (List.Mem.head _) sub_n))
      refine Go.nf (h' := hc7) (st' := []) rfl rfl (Nat.le_refl _) (Nat.le_refl _) ?_
      refine g_aload_n 3 dX9_plainAct_25 rfl ?_
      refine g_aload_n 0 dX9_plainAct_26 rfl ?_
      refine g_getf 8 dX9_plainAct_27 kX9 (by decide) fX9_63 fk9_0 rfl ?_
      refine g_callV (nc2 := 0) (ns2 := 0) (ci := 4) (As := [.ref (B + 31)]) (st := []) rfl dX9_plainAct_30 okX4_toRow lX9_138 itX4_toRow seX4_toRow rfl (rk5009_5).o (by decide) (by decide) rfl (Nat.le_of_ble_eq_true rfl) (sQ_toRow N _ (qb) (B + 31) p hp hp2 (G) rk5009_5 rk5009_2 (show AP (qb) (B + 31) by unfold AP; omega)) (by omega) (by omega) (fun v10 hc10 q10 => ?_)
      obtain ⟨rfl, frc11, rn11_0⟩ := q10
      have fk12_0 : hc10.2 (B) = some (cO B (fa) (sy)) := Fr.at0 frc11 (Ni.c ⟨(show NE (B) (B + 31) by unfold NE; omega), (show NE (B) (B + 32) by unfold NE; omega)⟩ (Ni.n _)) fk9_0
      have fk12_1 : hc10.2 (B + 7) = some (oB 2 [.ref (B + 1), .ref (B + 8), .ref (B + 10), .ref (B + 12), .ref (B + 14), .ref (B + 16), .ref (B + 18), .ref (B + 20), .ref (B + 22)]) := Fr.at0 frc11 (Ni.c ⟨(show NE (B + 7) (B + 31) by unfold NE; omega), (show NE (B + 7) (B + 32) by unfold NE; omega)⟩ (Ni.n _)) fk9_1
      have fk12_2 : hc10.2 (B + 1) = some (oB 1 [.int (gI ((p : Int)))]) := Fr.at0 frc11 (Ni.c ⟨(show NE (B + 1) (B + 31) by unfold NE; omega), (show NE (B + 1) (B + 32) by unfold NE; omega)⟩ (Ni.n _)) fk9_2
      have rk12_5 : PW p B hc10 := (rk9_0).fr2 frc11 (ok_c (by omega) (fun _ h => absurd h (List.not_mem_nil)))
      have rk5012_0 : PA hc10 (B + 27) := (rk5009_0).fr frc11 (Ai.c (show AP (B + 27) (B + 31) by unfold AP; omega) (Ai.n _))
      have rk5012_2 : RA 84 hc10 (B + 33) := (rk5009_3).fr frc11 (Ai.c (show AP (B + 33) (B + 31) by unfold AP; omega) (Ai.n _))
      have rk5012_3 : PP hp hc10 (qa) (F) := (rk5009_4).fr frc11 (Ai.c (show AP (qa) (B + 31) by unfold AP; omega) (Ai.n _))
      have rk5012_4 : PP hp hc10 (qb) (G) := (rk5009_5).fr frc11 (Ai.c (show AP (qb) (B + 31) by unfold AP; omega) (Ai.n _))
      have rk5012_5 : RP hp 84 hc10 (B + 29) (F 0) := (rn8_0).fr frc11 (Ai.c (show AP (B + 29) (B + 31) by unfold AP; omega) (Ai.n _))
      have fr12 : Fr ((B + 29) :: (B + 31) :: (B + 33) :: (B + 27) :: pl B) h hc10 := (fr9).tr ((frc11).mo (sub_c (List.Mem.tail _ (List.Mem.head _)) sub_n))
      refine Go.nf (h' := hc10) (st' := []) rfl rfl (Nat.le_refl _) (Nat.le_refl _) ?_
      refine g_iload_n 1 dX9_plainAct_33 rfl ?_
      refine g_bipush dX9_plainAct_34 (by decide) ?_
      refine g_icmp_ne (tgt := 48) dX9_plainAct_36 rfl (by first | assumption | (unfold gW; omega) | (unfold gW; split <;> omega)) (by first | assumption | (unfold gW; omega) | (unfold gW; split <;> omega)) (fun c13 => absurd c13 (by omega)) (fun c13 => ?_)
      refine g_aload_n 0 dX9_plainAct_39 rfl ?_
      refine g_callV (nc2 := 0) (ns2 := 0) (ci := 9) (As := []) (st := []) rfl dX9_plainAct_40 okX9_resultantByX lX9_236 itX9_resultantByX seX9_resultantByX rfl fk12_0 (by decide) (by decide) rfl (Nat.le_of_ble_eq_true rfl) (sC_resultantByX N _ B p hp hp2 fa sy (F 0) (G 0) fk12_0 rk12_5 rk5012_5 rn11_0 rk5012_2) (by omega) (by omega) (fun v14 hc14 q14 => ?_)
      obtain ⟨frc15, pw15, hd15⟩ := q14
      have fk16_0 : hc14.2 (B) = some (cO B (fa) (sy)) := Fr.at0 frc15 (Ni.c ⟨(show NE (B) (B + 33) by unfold NE; omega), (show NE (B) (B + 34) by unfold NE; omega)⟩ (Ni_pl (by omega))) fk12_0
      have fk16_1 : hc14.2 (B + 7) = some (oB 2 [.ref (B + 1), .ref (B + 8), .ref (B + 10), .ref (B + 12), .ref (B + 14), .ref (B + 16), .ref (B + 18), .ref (B + 20), .ref (B + 22)]) := Fr.at0 frc15 (Ni.c ⟨(show NE (B + 7) (B + 33) by unfold NE; omega), (show NE (B + 7) (B + 34) by unfold NE; omega)⟩ (Ni_pl (by omega))) fk12_1
      have fk16_2 : hc14.2 (B + 1) = some (oB 1 [.int (gI ((p : Int)))]) := Fr.at0 frc15 (Ni.c ⟨(show NE (B + 1) (B + 33) by unfold NE; omega), (show NE (B + 1) (B + 34) by unfold NE; omega)⟩ (Ni_pl (by omega))) fk12_2
      have rk5016_0 : PA hc14 (B + 27) := (rk5012_0).fr frc15 (Ai.c (show AP (B + 27) (B + 33) by unfold AP; omega) (Ai_pl (by omega)))
      have rk5016_2 : PP hp hc14 (qa) (F) := (rk5012_3).fr frc15 (Ai.c (show AP (qa) (B + 33) by unfold AP; omega) (Ai_pl (by omega)))
      have rk5016_3 : PP hp hc14 (qb) (G) := (rk5012_4).fr frc15 (Ai.c (show AP (qb) (B + 33) by unfold AP; omega) (Ai_pl (by omega)))
      have rk5016_4 : RP hp 84 hc14 (B + 29) (F 0) := (rk5012_5).fr frc15 (Ai.c (show AP (B + 29) (B + 33) by unfold AP; omega) (Ai_pl (by omega)))
      have rk5016_5 : RP hp 84 hc14 (B + 31) (G 0) := (rn11_0).fr frc15 (Ai.c (show AP (B + 31) (B + 33) by unfold AP; omega) (Ai_pl (by omega)))
      have fr16 : Fr ((B + 29) :: (B + 31) :: (B + 33) :: (B + 27) :: pl B) h hc14 := (fr12).tr ((frc15).mo (sub_c (List.Mem.tail _ (List.Mem.tail _ (List.Mem.head _))) (fun _ hx => (List.Mem.tail _ (List.Mem.tail _ (List.Mem.tail _ (List.Mem.tail _ hx)))))))
      rcases hd15 with ⟨y1, rfl, y3⟩ | ⟨y1, rfl, y3⟩
      · skip
        refine Go.nf (h' := hc14) (st' := [.int (gI ((-3)))]) rfl rfl (Nat.le_refl _) (Nat.le_refl _) ?_
        refine g_istore (ls2 := [(4, .int (gI ((-3)))), (0, .ref (B)), (1, .int (gI (13))), (2, .ref (qa)), (3, .ref (qb))]) dX9_plainAct_43 (by decide) rfl ?_
        refine g_goto (tgt := 145) dX9_plainAct_45 rfl ?_
        refine g_iload 0 dX9_plainAct_145 rfl ?_
        refine g_if_ne (tgt := 161) dX9_plainAct_147 rfl (by first | assumption | (unfold gW; omega) | (unfold gW; split <;> omega)) (fun c17 => ?_) (fun c17 => absurd c17 (by omega))
        refine g_iload 0 dX9_plainAct_161 rfl ?_
        exact g_iret dX9_plainAct_163 rfl ⟨fr16, pw15, (rk5016_4).ra, (rk5016_5).ra, y3, Or.inr ⟨-3, by omega, by show pl2 hp F G _ = _; unfold pl2; rw [if_pos ⟨hyF, hyG⟩]; unfold pa13; rw [if_pos (by omega)], rfl, rk5016_0⟩⟩
      · skip
        refine Go.nf (h' := hc14) (st' := [.int (gI (0))]) rfl rfl (Nat.le_refl _) (Nat.le_refl _) ?_
        refine g_istore (ls2 := [(4, .int (gI (0))), (0, .ref (B)), (1, .int (gI (13))), (2, .ref (qa)), (3, .ref (qb))]) dX9_plainAct_43 (by decide) rfl ?_
        refine g_goto (tgt := 145) dX9_plainAct_45 rfl ?_
        refine g_iload 0 dX9_plainAct_145 rfl ?_
        refine g_if_ne (tgt := 161) dX9_plainAct_147 rfl (by first | assumption | (unfold gW; omega) | (unfold gW; split <;> omega)) (fun c18 => absurd c18 (by omega)) (fun c18 => ?_)
        have hd40 : dgi hp (cz hp (zi hp (fv (rsE hp 85 (F 0) (G 0))))) ≤ 40 := cz_dgi40 hp _
        refine g_aload_n 1 dX9_plainAct_150 rfl ?_
        refine g_getf 6 dX9_plainAct_151 kX9 (by decide) fX9_50 fk16_0 rfl ?_
        refine g_aload_n 1 dX9_plainAct_154 rfl ?_
        refine g_getf 9 dX9_plainAct_155 kX9 (by decide) fX9_66 fk16_0 rfl ?_
        refine g_callV (nc2 := 0) (ns2 := 0) (ci := 4) (As := [.ref (B + 33)]) (st := []) rfl dX9_plainAct_158 okX4_fromRow lX9_146 itX4_fromRow seX4_fromRow rfl (Classical.choose_spec (PA.o rk5016_0)) (by decide) (by decide) rfl (Nat.le_of_ble_eq_true rfl) (sQ_fromRow N _ (B + 27) (B + 33) 84 p hp hp2 (cz hp (zi hp (fv (rsE hp 85 (F 0) (G 0))))) rk5016_0 y3 hd40 (show AP (B + 27) (B + 33) by unfold AP; omega)) (by omega) (by omega) (fun v19 hc19 q19 => ?_)
        obtain ⟨rfl, frc20, rn20_0⟩ := q19
        have fk21_0 : hc19.2 (B) = some (cO B (fa) (sy)) := Fr.at0 frc20 (Ni.c ⟨(show NE (B) (B + 27) by unfold NE; omega), (show NE (B) (B + 28) by unfold NE; omega)⟩ (Ni.n _)) fk16_0
        have fk21_1 : hc19.2 (B + 7) = some (oB 2 [.ref (B + 1), .ref (B + 8), .ref (B + 10), .ref (B + 12), .ref (B + 14), .ref (B + 16), .ref (B + 18), .ref (B + 20), .ref (B + 22)]) := Fr.at0 frc20 (Ni.c ⟨(show NE (B + 7) (B + 27) by unfold NE; omega), (show NE (B + 7) (B + 28) by unfold NE; omega)⟩ (Ni.n _)) fk16_1
        have fk21_2 : hc19.2 (B + 1) = some (oB 1 [.int (gI ((p : Int)))]) := Fr.at0 frc20 (Ni.c ⟨(show NE (B + 1) (B + 27) by unfold NE; omega), (show NE (B + 1) (B + 28) by unfold NE; omega)⟩ (Ni.n _)) fk16_2
        have rk21_5 : PW p B hc19 := (pw15).fr2 frc20 (ok_c (by omega) (fun _ h => absurd h (List.not_mem_nil)))
        have rk5021_1 : PP hp hc19 (qa) (F) := (rk5016_2).fr frc20 (Ai.c (show AP (qa) (B + 27) by unfold AP; omega) (Ai.n _))
        have rk5021_2 : PP hp hc19 (qb) (G) := (rk5016_3).fr frc20 (Ai.c (show AP (qb) (B + 27) by unfold AP; omega) (Ai.n _))
        have rk5021_3 : RP hp 84 hc19 (B + 29) (F 0) := (rk5016_4).fr frc20 (Ai.c (show AP (B + 29) (B + 27) by unfold AP; omega) (Ai.n _))
        have rk5021_4 : RP hp 84 hc19 (B + 31) (G 0) := (rk5016_5).fr frc20 (Ai.c (show AP (B + 31) (B + 27) by unfold AP; omega) (Ai.n _))
        have rk5021_5 : RP hp 84 hc19 (B + 33) (cz hp (zi hp (fv (rsE hp 85 (F 0) (G 0))))) := (y3).fr frc20 (Ai.c (show AP (B + 33) (B + 27) by unfold AP; omega) (Ai.n _))
        have fr21 : Fr ((B + 29) :: (B + 31) :: (B + 33) :: (B + 27) :: pl B) h hc19 := (fr16).tr ((frc20).mo (sub_c (List.Mem.tail _ (List.Mem.tail _ (List.Mem.tail _ (List.Mem.head _)))) sub_n))
        refine Go.nf (h' := hc19) (st' := []) rfl rfl (Nat.le_refl _) (Nat.le_refl _) ?_
        refine g_iload 0 dX9_plainAct_161 rfl ?_
        exact g_iret dX9_plainAct_163 rfl ⟨fr21, rk21_5, (rk5021_3).ra, (rk5021_4).ra, (rk5021_5).ra, Or.inl ⟨pF hp (cz hp (zi hp (fv (rsE hp 85 (F 0) (G 0))))), by show pl2 hp F G _ = _; unfold pl2; rw [if_pos ⟨hyF, hyG⟩]; unfold pa13; rw [if_neg (by omega), ← rsE_D hp 85 _ _ hFr.1 hGr.1 (by omega) (by omega) (by omega), kR_i hp (cz_dgi40 hp _), zi_of], rfl, rn20_0⟩⟩
    · skip
      have hyG : ¬ dY hp G < 1 := fun z => by rw [if_pos z] at c6; omega
      clear c6
      refine g_bipush dX9_plainAct_14 (by decide) ?_
      exact g_iret dX9_plainAct_16 rfl ⟨(Fr.rf ((B + 29) :: (B + 31) :: (B + 33) :: (B + 27) :: pl B) h), hw, h29, h31, h33, Or.inr ⟨-2, by omega, by show pl2 hp F G _ = _; unfold pl2; rw [if_neg (by omega)], rfl, h27⟩⟩
set_option maxHeartbeats 4000000 in
set_option maxRecDepth 100000 in
theorem sC_plainAct11 (N : GN) (h : GH) (B p : Nat) (hp : prm p) (hp2 : p ≤ 65536) (fa sy : Value) (qa qb : Nat) (F G : Pxy p) (hob : h.2 B = some (cO B fa sy)) (hw : PW p B h) (h27 : PA h (B + 27)) (h29 : RA 84 h (B + 29)) (h31 : RA 84 h (B + 31)) (h33 : RA 84 h (B + 33)) (la : B + 58 ≤ qa) (lb : B + 58 ≤ qb) (pa : PP hp h qa F) (pb : PP hp h qb G) : Sp N yX9_plainAct mX9_plainAct 0 0 [.ref (B), .int (gI (11)), .ref (qa), .ref (qb)] h (fun v h1 => Fr ((B + 29) :: (B + 31) :: (B + 33) :: (B + 27) :: pl B) h h1 ∧ PW p B h1 ∧ RA 84 h1 (B + 29) ∧ RA 84 h1 (B + 31) ∧ RA 84 h1 (B + 33) ∧ ((∃ H, rac hp 11 F G = .inr H ∧ v = some (.int (gI 0)) ∧ PP hp h1 (B + 27) H) ∨ (∃ r, r < 0 ∧ rac hp 11 F G = .inl r ∧ v = some (.int (gI r)) ∧ PA h1 (B + 27)))) := by
  refine Sp.of (by decide) rfl rfl (Nat.le_of_ble_eq_true rfl) ?_
  show Go N mX9_plainAct _ 0 0 h 0 [(0, .ref (B)), (1, .int (gI (11))), (2, .ref (qa)), (3, .ref (qb))] []
  have hp1 := hp.1
  refine g_aload_n 2 dX9_plainAct_0 rfl ?_
  refine g_callV (nc2 := 0) (ns2 := 0) (ci := 4) (As := []) (st := []) rfl dX9_plainAct_1 okX4_isPlain lX9_131 itX4_isPlain seX4_isPlain rfl (pa).o (by decide) (by decide) rfl (Nat.le_of_ble_eq_true rfl) (sQ_isPlain N _ (qa) p hp F pa) (by omega) (by omega) (fun v1 hc1 q1 => ?_)
  obtain ⟨hq2, rfl⟩ := q1
  refine Go.nf (h' := h) (st' := [.int (gI (if dY hp F < 1 then 1 else 0))]) hq2 rfl (Nat.le_refl _) (Nat.le_refl _) ?_
  refine g_if_eq (tgt := 14) dX9_plainAct_4 rfl (by first | assumption | (unfold gW; omega) | (unfold gW; split <;> omega)) (fun c3 => ?_) (fun c3 => ?_)
  · skip
    have hyF : ¬ dY hp F < 1 := fun z => by rw [if_pos z] at c3; omega
    clear c3
    refine g_bipush dX9_plainAct_14 (by decide) ?_
    exact g_iret dX9_plainAct_16 rfl ⟨(Fr.rf ((B + 29) :: (B + 31) :: (B + 33) :: (B + 27) :: pl B) h), hw, h29, h31, h33, Or.inr ⟨-2, by omega, by show pl2 hp F G _ = _; unfold pl2; rw [if_neg (by omega)], rfl, h27⟩⟩
  · skip
    have hyF : dY hp F < 1 := by
                                                                      by_cases z : dY hp F < 1
                                                                      · exact z
                                                                      · rw [if_neg z] at c3; omega
    clear c3
    refine g_aload_n 3 dX9_plainAct_7 rfl ?_
    refine g_callV (nc2 := 0) (ns2 := 0) (ci := 4) (As := []) (st := []) rfl dX9_plainAct_8 okX4_isPlain lX9_131 itX4_isPlain seX4_isPlain rfl (pb).o (by decide) (by decide) rfl (Nat.le_of_ble_eq_true rfl) (sQ_isPlain N _ (qb) p hp G pb) (by omega) (by omega) (fun v4 hc4 q4 => ?_)
    obtain ⟨hq5, rfl⟩ := q4
    refine Go.nf (h' := h) (st' := [.int (gI (if dY hp G < 1 then 1 else 0))]) hq5 rfl (Nat.le_refl _) (Nat.le_refl _) ?_
    refine g_if_ne (tgt := 17) dX9_plainAct_11 rfl (by first | assumption | (unfold gW; omega) | (unfold gW; split <;> omega)) (fun c6 => ?_) (fun c6 => ?_)
    · skip
      have hyG : dY hp G < 1 := by
                                                                      by_cases z : dY hp G < 1
                                                                      · exact z
                                                                      · rw [if_neg z] at c6; omega
      clear c6
      have hFr := row_po hp pa.pb 0
      have hGr := row_po hp pb.pb 0
      have hFg := dgi_ge hp hFr.1
      have hGg := dgi_ge hp hGr.1
      refine g_aload_n 2 dX9_plainAct_17 rfl ?_
      refine g_aload_n 0 dX9_plainAct_18 rfl ?_
      refine g_getf 7 dX9_plainAct_19 kX9 (by decide) fX9_59 hob rfl ?_
      refine g_callV (nc2 := 0) (ns2 := 0) (ci := 4) (As := [.ref (B + 29)]) (st := []) rfl dX9_plainAct_22 okX4_toRow lX9_138 itX4_toRow seX4_toRow rfl (pa).o (by decide) (by decide) rfl (Nat.le_of_ble_eq_true rfl) (sQ_toRow N _ (qa) (B + 29) p hp hp2 (F) pa h29 (show AP (qa) (B + 29) by unfold AP; omega)) (by omega) (by omega) (fun v7 hc7 q7 => ?_)
      obtain ⟨rfl, frc8, rn8_0⟩ := q7
      have fk9_0 : hc7.2 (B) = some (cO B (fa) (sy)) := Fr.at0 frc8 (Ni.c ⟨(show NE (B) (B + 29) by unfold NE; omega), (show NE (B) (B + 30) by unfold NE; omega)⟩ (Ni.n _)) hob
      have fk9_1 : hc7.2 (B + 7) = some (oB 2 [.ref (B + 1), .ref (B + 8), .ref (B + 10), .ref (B + 12), .ref (B + 14), .ref (B + 16), .ref (B + 18), .ref (B + 20), .ref (B + 22)]) := Fr.at0 frc8 (Ni.c ⟨(show NE (B + 7) (B + 29) by unfold NE; omega), (show NE (B + 7) (B + 30) by unfold NE; omega)⟩ (Ni.n _)) hw.1
      have fk9_2 : hc7.2 (B + 1) = some (oB 1 [.int (gI ((p : Int)))]) := Fr.at0 frc8 (Ni.c ⟨(show NE (B + 1) (B + 29) by unfold NE; omega), (show NE (B + 1) (B + 30) by unfold NE; omega)⟩ (Ni.n _)) hw.2.1
      have rk9_0 : PW p B hc7 := (hw).fr2 frc8 (ok_c (by omega) (fun _ h => absurd h (List.not_mem_nil)))
      have rk5009_0 : PA hc7 (B + 27) := (h27).fr frc8 (Ai.c (show AP (B + 27) (B + 29) by unfold AP; omega) (Ai.n _))
      have rk5009_2 : RA 84 hc7 (B + 31) := (h31).fr frc8 (Ai.c (show AP (B + 31) (B + 29) by unfold AP; omega) (Ai.n _))
      have rk5009_3 : RA 84 hc7 (B + 33) := (h33).fr frc8 (Ai.c (show AP (B + 33) (B + 29) by unfold AP; omega) (Ai.n _))
      have rk5009_4 : PP hp hc7 (qa) (F) := (pa).fr frc8 (Ai.c (show AP (qa) (B + 29) by unfold AP; omega) (Ai.n _))
      have rk5009_5 : PP hp hc7 (qb) (G) := (pb).fr frc8 (Ai.c (show AP (qb) (B + 29) by unfold AP; omega) (Ai.n _))
      have fr9 : Fr ((B + 29) :: (B + 31) :: (B + 33) :: (B + 27) :: pl B) h hc7 := ((Fr.rf ((B + 29) :: (B + 31) :: (B + 33) :: (B + 27) :: pl B) h)).tr ((frc8).mo (sub_c (List.Mem.head _) sub_n))
      refine Go.nf (h' := hc7) (st' := []) rfl rfl (Nat.le_refl _) (Nat.le_refl _) ?_
      refine g_aload_n 3 dX9_plainAct_25 rfl ?_
      refine g_aload_n 0 dX9_plainAct_26 rfl ?_
      refine g_getf 8 dX9_plainAct_27 kX9 (by decide) fX9_63 fk9_0 rfl ?_
      refine g_callV (nc2 := 0) (ns2 := 0) (ci := 4) (As := [.ref (B + 31)]) (st := []) rfl dX9_plainAct_30 okX4_toRow lX9_138 itX4_toRow seX4_toRow rfl (rk5009_5).o (by decide) (by decide) rfl (Nat.le_of_ble_eq_true rfl) (sQ_toRow N _ (qb) (B + 31) p hp hp2 (G) rk5009_5 rk5009_2 (show AP (qb) (B + 31) by unfold AP; omega)) (by omega) (by omega) (fun v10 hc10 q10 => ?_)
      obtain ⟨rfl, frc11, rn11_0⟩ := q10
      have fk12_0 : hc10.2 (B) = some (cO B (fa) (sy)) := Fr.at0 frc11 (Ni.c ⟨(show NE (B) (B + 31) by unfold NE; omega), (show NE (B) (B + 32) by unfold NE; omega)⟩ (Ni.n _)) fk9_0
      have fk12_1 : hc10.2 (B + 7) = some (oB 2 [.ref (B + 1), .ref (B + 8), .ref (B + 10), .ref (B + 12), .ref (B + 14), .ref (B + 16), .ref (B + 18), .ref (B + 20), .ref (B + 22)]) := Fr.at0 frc11 (Ni.c ⟨(show NE (B + 7) (B + 31) by unfold NE; omega), (show NE (B + 7) (B + 32) by unfold NE; omega)⟩ (Ni.n _)) fk9_1
      have fk12_2 : hc10.2 (B + 1) = some (oB 1 [.int (gI ((p : Int)))]) := Fr.at0 frc11 (Ni.c ⟨(show NE (B + 1) (B + 31) by unfold NE; omega), (show NE (B + 1) (B + 32) by unfold NE; omega)⟩ (Ni.n _)) fk9_2
      have rk12_5 : PW p B hc10 := (rk9_0).fr2 frc11 (ok_c (by omega) (fun _ h => absurd h (List.not_mem_nil)))
      have rk5012_0 : PA hc10 (B + 27) := (rk5009_0).fr frc11 (Ai.c (show AP (B + 27) (B + 31) by unfold AP; omega) (Ai.n _))
      have rk5012_2 : RA 84 hc10 (B + 33) := (rk5009_3).fr frc11 (Ai.c (show AP (B + 33) (B + 31) by unfold AP; omega) (Ai.n _))
      have rk5012_3 : PP hp hc10 (qa) (F) := (rk5009_4).fr frc11 (Ai.c (show AP (qa) (B + 31) by unfold AP; omega) (Ai.n _))
      have rk5012_4 : PP hp hc10 (qb) (G) := (rk5009_5).fr frc11 (Ai.c (show AP (qb) (B + 31) by unfold AP; omega) (Ai.n _))
      have rk5012_5 : RP hp 84 hc10 (B + 29) (F 0) := (rn8_0).fr frc11 (Ai.c (show AP (B + 29) (B + 31) by unfold AP; omega) (Ai.n _))
      have fr12 : Fr ((B + 29) :: (B + 31) :: (B + 33) :: (B + 27) :: pl B) h hc10 := (fr9).tr ((frc11).mo (sub_c (List.Mem.tail _ (List.Mem.head _)) sub_n))
      refine Go.nf (h' := hc10) (st' := []) rfl rfl (Nat.le_refl _) (Nat.le_refl _) ?_
      refine g_iload_n 1 dX9_plainAct_33 rfl ?_
      refine g_bipush dX9_plainAct_34 (by decide) ?_
      refine g_icmp_ne (tgt := 48) dX9_plainAct_36 rfl (by first | assumption | (unfold gW; omega) | (unfold gW; split <;> omega)) (by first | assumption | (unfold gW; omega) | (unfold gW; split <;> omega)) (fun c13 => ?_) (fun c13 => absurd c13 (by omega))
      refine g_iload_n 1 dX9_plainAct_48 rfl ?_
      refine g_bipush dX9_plainAct_49 (by decide) ?_
      refine g_icmp_ne (tgt := 97) dX9_plainAct_51 rfl (by first | assumption | (unfold gW; omega) | (unfold gW; split <;> omega)) (by first | assumption | (unfold gW; omega) | (unfold gW; split <;> omega)) (fun c14 => absurd c14 (by omega)) (fun c14 => ?_)
      refine g_aload_n 0 dX9_plainAct_54 rfl ?_
      refine g_getf 8 dX9_plainAct_55 kX9 (by decide) fX9_63 fk12_0 rfl ?_
      refine g_getf 1 dX9_plainAct_58 kX5 (by decide) fX9_175 (rn11_0).o rfl ?_
      refine g_if_le (tgt := 90) dX9_plainAct_61 rfl (by first | assumption | (unfold gW; omega) | (unfold gW; split <;> omega)) (fun c15 => ?_) (fun c15 => ?_)
      · skip
        refine g_bipush dX9_plainAct_90 (by decide) ?_
        refine g_istore (ls2 := [(4, .int (gI (-3))), (0, .ref (B)), (1, .int (gI (11))), (2, .ref (qa)), (3, .ref (qb))]) dX9_plainAct_92 (by decide) rfl ?_
        refine g_goto (tgt := 145) dX9_plainAct_94 rfl ?_
        refine g_iload 0 dX9_plainAct_145 rfl ?_
        refine g_if_ne (tgt := 161) dX9_plainAct_147 rfl (by first | assumption | (unfold gW; omega) | (unfold gW; split <;> omega)) (fun c16 => ?_) (fun c16 => absurd c16 (by omega))
        refine g_iload 0 dX9_plainAct_161 rfl ?_
        exact g_iret dX9_plainAct_163 rfl ⟨fr12, rk12_5, (rk5012_5).ra, (rn11_0).ra, rk5012_2, Or.inr ⟨-3, by omega, by show pl2 hp F G _ = _; unfold pl2; rw [if_pos ⟨hyF, hyG⟩]; unfold pa11; rw [if_neg (fun z => by omega)], rfl, rk5012_0⟩⟩
      · skip
        refine g_aload_n 0 dX9_plainAct_64 rfl ?_
        refine g_getf 4 dX9_plainAct_65 kX9 (by decide) fX9_38 fk12_0 rfl ?_
        refine g_aload_n 0 dX9_plainAct_68 rfl ?_
        refine g_getf 7 dX9_plainAct_69 kX9 (by decide) fX9_59 fk12_0 rfl ?_
        refine g_aload_n 0 dX9_plainAct_72 rfl ?_
        refine g_getf 8 dX9_plainAct_73 kX9 (by decide) fX9_63 fk12_0 rfl ?_
        refine g_aload_n 0 dX9_plainAct_76 rfl ?_
        refine g_getf 9 dX9_plainAct_77 kX9 (by decide) fX9_66 fk12_0 rfl ?_
        refine g_callV (nc2 := 0) (ns2 := 0) (ci := 2) (As := [.ref (B + 29), .ref (B + 31), .ref (B + 33)]) (st := []) rfl dX9_plainAct_80 okX2_invert lX9_240 itX2_invert seX2_invert rfl fk12_1 (by decide) (by decide) rfl (Nat.le_of_ble_eq_true rfl) (sP_invert2 N _ B (B + 29) (B + 31) (B + 33) p hp hp2 (F 0) (G 0) rk12_5 rk5012_5 rn11_0 rk5012_2 (by omega) (by omega) (by omega) (by omega)) (by omega) (by omega) (fun v17 hc17 q17 => ?_)
        obtain ⟨frc18, pw18, hd18⟩ := q17
        have fk19_0 : hc17.2 (B) = some (cO B (fa) (sy)) := Fr.at0 frc18 (Ni.c ⟨(show NE (B) (B + 33) by unfold NE; omega), (show NE (B) (B + 34) by unfold NE; omega)⟩ (Ni_pl (by omega))) fk12_0
        have fk19_1 : hc17.2 (B + 7) = some (oB 2 [.ref (B + 1), .ref (B + 8), .ref (B + 10), .ref (B + 12), .ref (B + 14), .ref (B + 16), .ref (B + 18), .ref (B + 20), .ref (B + 22)]) := Fr.at0 frc18 (Ni.c ⟨(show NE (B + 7) (B + 33) by unfold NE; omega), (show NE (B + 7) (B + 34) by unfold NE; omega)⟩ (Ni_pl (by omega))) fk12_1
        have fk19_2 : hc17.2 (B + 1) = some (oB 1 [.int (gI ((p : Int)))]) := Fr.at0 frc18 (Ni.c ⟨(show NE (B + 1) (B + 33) by unfold NE; omega), (show NE (B + 1) (B + 34) by unfold NE; omega)⟩ (Ni_pl (by omega))) fk12_2
        have rk5019_0 : PA hc17 (B + 27) := (rk5012_0).fr frc18 (Ai.c (show AP (B + 27) (B + 33) by unfold AP; omega) (Ai_pl (by omega)))
        have rk5019_2 : PP hp hc17 (qa) (F) := (rk5012_3).fr frc18 (Ai.c (show AP (qa) (B + 33) by unfold AP; omega) (Ai_pl (by omega)))
        have rk5019_3 : PP hp hc17 (qb) (G) := (rk5012_4).fr frc18 (Ai.c (show AP (qb) (B + 33) by unfold AP; omega) (Ai_pl (by omega)))
        have rk5019_4 : RP hp 84 hc17 (B + 29) (F 0) := (rk5012_5).fr frc18 (Ai.c (show AP (B + 29) (B + 33) by unfold AP; omega) (Ai_pl (by omega)))
        have rk5019_5 : RP hp 84 hc17 (B + 31) (G 0) := (rn11_0).fr frc18 (Ai.c (show AP (B + 31) (B + 33) by unfold AP; omega) (Ai_pl (by omega)))
        have fr19 : Fr ((B + 29) :: (B + 31) :: (B + 33) :: (B + 27) :: pl B) h hc17 := (fr12).tr ((frc18).mo (sub_c (List.Mem.tail _ (List.Mem.tail _ (List.Mem.head _))) (fun _ hx => (List.Mem.tail _ (List.Mem.tail _ (List.Mem.tail _ (List.Mem.tail _ hx)))))))
        rcases hd18 with ⟨rfl, y1, y2⟩ | ⟨rfl, hyI, y2⟩
        · skip
          refine Go.nf (h' := hc17) (st' := [.int (gI (0))]) rfl rfl (Nat.le_refl _) (Nat.le_refl _) ?_
          refine g_if_eq (tgt := 90) dX9_plainAct_83 rfl (by first | assumption | (unfold gW; omega) | (unfold gW; split <;> omega)) (fun c20 => ?_) (fun c20 => absurd c20 (by omega))
          refine g_bipush dX9_plainAct_90 (by decide) ?_
          refine g_istore (ls2 := [(4, .int (gI (-3))), (0, .ref (B)), (1, .int (gI (11))), (2, .ref (qa)), (3, .ref (qb))]) dX9_plainAct_92 (by decide) rfl ?_
          refine g_goto (tgt := 145) dX9_plainAct_94 rfl ?_
          refine g_iload 0 dX9_plainAct_145 rfl ?_
          refine g_if_ne (tgt := 161) dX9_plainAct_147 rfl (by first | assumption | (unfold gW; omega) | (unfold gW; split <;> omega)) (fun c21 => ?_) (fun c21 => absurd c21 (by omega))
          refine g_iload 0 dX9_plainAct_161 rfl ?_
          exact g_iret dX9_plainAct_163 rfl ⟨fr19, pw18, (rk5019_4).ra, (rk5019_5).ra, y2, Or.inr ⟨-3, by omega, by show pl2 hp F G _ = _; unfold pl2; rw [if_pos ⟨hyF, hyG⟩]; unfold pa11; rw [if_neg (fun z => y1 z.2)], rfl, rk5019_0⟩⟩
        · skip
          refine Go.nf (h' := hc17) (st' := [.int (gI (1))]) rfl rfl (Nat.le_refl _) (Nat.le_refl _) ?_
          refine g_if_eq (tgt := 90) dX9_plainAct_83 rfl (by first | assumption | (unfold gW; omega) | (unfold gW; split <;> omega)) (fun c22 => absurd c22 (by omega)) (fun c22 => ?_)
          refine g_iconst dX9_plainAct_86 ?_
          refine g_goto (tgt := 92) dX9_plainAct_87 rfl ?_
          refine g_istore (ls2 := [(4, .int (gI (0))), (0, .ref (B)), (1, .int (gI (11))), (2, .ref (qa)), (3, .ref (qb))]) dX9_plainAct_92 (by decide) rfl ?_
          refine g_goto (tgt := 145) dX9_plainAct_94 rfl ?_
          refine g_iload 0 dX9_plainAct_145 rfl ?_
          refine g_if_ne (tgt := 161) dX9_plainAct_147 rfl (by first | assumption | (unfold gW; omega) | (unfold gW; split <;> omega)) (fun c23 => absurd c23 (by omega)) (fun c23 => ?_)
          have hyes : isI hp (F 0) (G 0) (ivM hp (F 0) (G 0)) := ivM_is hp hFr.1 hGr.1 (by omega) hyI
          have hd40 : dgi hp (ivM hp (F 0) (G 0)) ≤ 40 := by
                                                                      have := hyes.2.1
                                                                      omega
          refine g_aload_n 1 dX9_plainAct_150 rfl ?_
          refine g_getf 6 dX9_plainAct_151 kX9 (by decide) fX9_50 fk19_0 rfl ?_
          refine g_aload_n 1 dX9_plainAct_154 rfl ?_
          refine g_getf 9 dX9_plainAct_155 kX9 (by decide) fX9_66 fk19_0 rfl ?_
          refine g_callV (nc2 := 0) (ns2 := 0) (ci := 4) (As := [.ref (B + 33)]) (st := []) rfl dX9_plainAct_158 okX4_fromRow lX9_146 itX4_fromRow seX4_fromRow rfl (Classical.choose_spec (PA.o rk5019_0)) (by decide) (by decide) rfl (Nat.le_of_ble_eq_true rfl) (sQ_fromRow N _ (B + 27) (B + 33) 84 p hp hp2 (ivM hp (F 0) (G 0)) rk5019_0 y2 hd40 (show AP (B + 27) (B + 33) by unfold AP; omega)) (by omega) (by omega) (fun v24 hc24 q24 => ?_)
          obtain ⟨rfl, frc25, rn25_0⟩ := q24
          have fk26_0 : hc24.2 (B) = some (cO B (fa) (sy)) := Fr.at0 frc25 (Ni.c ⟨(show NE (B) (B + 27) by unfold NE; omega), (show NE (B) (B + 28) by unfold NE; omega)⟩ (Ni.n _)) fk19_0
          have fk26_1 : hc24.2 (B + 7) = some (oB 2 [.ref (B + 1), .ref (B + 8), .ref (B + 10), .ref (B + 12), .ref (B + 14), .ref (B + 16), .ref (B + 18), .ref (B + 20), .ref (B + 22)]) := Fr.at0 frc25 (Ni.c ⟨(show NE (B + 7) (B + 27) by unfold NE; omega), (show NE (B + 7) (B + 28) by unfold NE; omega)⟩ (Ni.n _)) fk19_1
          have fk26_2 : hc24.2 (B + 1) = some (oB 1 [.int (gI ((p : Int)))]) := Fr.at0 frc25 (Ni.c ⟨(show NE (B + 1) (B + 27) by unfold NE; omega), (show NE (B + 1) (B + 28) by unfold NE; omega)⟩ (Ni.n _)) fk19_2
          have rk26_5 : PW p B hc24 := (pw18).fr2 frc25 (ok_c (by omega) (fun _ h => absurd h (List.not_mem_nil)))
          have rk5026_1 : PP hp hc24 (qa) (F) := (rk5019_2).fr frc25 (Ai.c (show AP (qa) (B + 27) by unfold AP; omega) (Ai.n _))
          have rk5026_2 : PP hp hc24 (qb) (G) := (rk5019_3).fr frc25 (Ai.c (show AP (qb) (B + 27) by unfold AP; omega) (Ai.n _))
          have rk5026_3 : RP hp 84 hc24 (B + 29) (F 0) := (rk5019_4).fr frc25 (Ai.c (show AP (B + 29) (B + 27) by unfold AP; omega) (Ai.n _))
          have rk5026_4 : RP hp 84 hc24 (B + 31) (G 0) := (rk5019_5).fr frc25 (Ai.c (show AP (B + 31) (B + 27) by unfold AP; omega) (Ai.n _))
          have rk5026_5 : RP hp 84 hc24 (B + 33) (ivM hp (F 0) (G 0)) := (y2).fr frc25 (Ai.c (show AP (B + 33) (B + 27) by unfold AP; omega) (Ai.n _))
          have fr26 : Fr ((B + 29) :: (B + 31) :: (B + 33) :: (B + 27) :: pl B) h hc24 := (fr19).tr ((frc25).mo (sub_c (List.Mem.tail _ (List.Mem.tail _ (List.Mem.tail _ (List.Mem.head _)))) sub_n))
          refine Go.nf (h' := hc24) (st' := []) rfl rfl (Nat.le_refl _) (Nat.le_refl _) ?_
          refine g_iload 0 dX9_plainAct_161 rfl ?_
          exact g_iret dX9_plainAct_163 rfl ⟨fr26, rk26_5, (rk5026_3).ra, (rk5026_4).ra, (rk5026_5).ra, Or.inl ⟨pF hp (ivM hp (F 0) (G 0)), by show pl2 hp F G _ = _; unfold pl2; rw [if_pos ⟨hyF, hyG⟩]; unfold pa11; rw [if_pos ⟨by omega, _, hyes⟩]; exact kR_i hp hd40, rfl, rn25_0⟩⟩
    · skip
      have hyG : ¬ dY hp G < 1 := fun z => by rw [if_pos z] at c6; omega
      clear c6
      refine g_bipush dX9_plainAct_14 (by decide) ?_
      exact g_iret dX9_plainAct_16 rfl ⟨(Fr.rf ((B + 29) :: (B + 31) :: (B + 33) :: (B + 27) :: pl B) h), hw, h29, h31, h33, Or.inr ⟨-2, by omega, by show pl2 hp F G _ = _; unfold pl2; rw [if_neg (by omega)], rfl, h27⟩⟩
theorem rac_gW {p : Nat} {hp : prm p} {k : Nat} {F G : Pxy p} {r : Int} (h : rac hp k F G = .inl r) : gW r := by
  have key : ∀ {x : Rs p} {c : Int}, x = .inl c → x = .inl r → c = r := fun h1 h2 => Sum.inl.inj (h1.symm.trans h2)
  have hk : ∀ f : Px p, kR hp f = .inl r → r = -4 := fun f e => by
    unfold kR at e
    split at e
    · exact (Sum.inl.inj e).symm
    · exact absurd e (by simp)
  have ho : ∀ x : Option (Pxy p), oR x = .inl r → r = -4 := fun x e => by
    cases x with
    | none => exact (Sum.inl.inj e).symm
    | some H => exact absurd e (by simp [oR])
  have hpl : ∀ x : Rs p, pl2 hp F G x = .inl r → r = -2 ∨ x = .inl r := fun x e => by
    unfold pl2 at e
    split at e
    · exact Or.inr e
    · exact Or.inl (Sum.inl.inj e).symm
  have fin : r = -2 ∨ r = -3 ∨ r = -4 → gW r := fun z => by unfold gW; omega
  apply fin
  unfold rac at h
  split at h
  · exact absurd h (by simp)
  · exact absurd h (by simp)
  · exact Or.inr (Or.inr (ho _ h))
  · exact Or.inr (Or.inr (ho _ h))
  · exact Or.inr (Or.inr (ho _ h))
  · rcases hpl _ h with z | z
    · exact Or.inl z
    · unfold pa8 at z
      split at z
      · exact Or.inr (Or.inl (Sum.inl.inj z).symm)
      · exact Or.inr (Or.inr (hk _ z))
  · rcases hpl _ h with z | z
    · exact Or.inl z
    · unfold pa9 at z
      split at z
      · exact Or.inr (Or.inl (Sum.inl.inj z).symm)
      · exact Or.inr (Or.inr (hk _ z))
  · rcases hpl _ h with z | z
    · exact Or.inl z
    · exact Or.inr (Or.inr (hk _ z))
  · rcases hpl _ h with z | z
    · exact Or.inl z
    · unfold pa11 at z
      split at z
      · exact Or.inr (Or.inr (hk _ z))
      · exact Or.inr (Or.inl (Sum.inl.inj z).symm)
  · unfold pa12 at h
    split at h
    · exact Or.inl (Sum.inl.inj h).symm
    · exact Or.inr (Or.inr (hk _ h))
  · rcases hpl _ h with z | z
    · exact Or.inl z
    · unfold pa13 at z
      split at z
      · exact Or.inr (Or.inl (Sum.inl.inj z).symm)
      · exact Or.inr (Or.inr (hk _ z))
set_option maxHeartbeats 4000000 in
set_option maxRecDepth 100000 in
theorem sC_applyB (N : GN) (h : GH) (B p : Nat) (hp : prm p) (hp2 : p ≤ 65536) (c : Int) (X V : Int → Int) (fa sy : Value) (T : PT p) (k a b : Int) (gW_k : gW k) (hk : k < 0 ∨ 13 < k) (hcs : CSt p B h c X V fa sy) (hT : CP hp B h T)  : Sp N yX9_apply mX9_apply 2 290 [.ref (B), .int (gI (k)), .int (gI (a)), .int (gI (b))] h (fun v h1 => FK (pK B) h h1 ∧ ∃ w T2, Ou T (.inl (-2)) w T2 ∧ v = some (.int (gI w)) ∧ CSt p B h1 c X V fa sy ∧ CP hp B h1 T2) := by
  refine Sp.of (by decide) rfl rfl (Nat.le_of_ble_eq_true rfl) ?_
  show Go N mX9_apply _ 2 290 h 0 [(0, .ref (B)), (1, .int (gI (k))), (2, .int (gI (a))), (3, .int (gI (b)))] []
  have hp1 := hp.1
  have hcs0 := hcs
  obtain ⟨hob, hw, hw4, h5, h27, h29, h31, h33, hpt, hlo⟩ := hcs0
  refine g_iload_n 1 dX9_apply_0 rfl ?_
  refine g_if_lt (tgt := 10) dX9_apply_1 rfl (by first | assumption | (unfold gW; omega)) (fun c1 => ?_) (fun c1 => ?_)
  · skip
    refine g_bipush dX9_apply_10 (by decide) ?_
    exact g_iret dX9_apply_12 rfl ⟨(FK.fr (Fr.rf [] h) (fun x e hx hk => Ni_hi hk.1 (fun _ h => absurd h (List.not_mem_nil)))), (-2), T, ⟨rfl, rfl⟩, rfl, ⟨hob, hw, hw4, h5, h27, h29, h31, h33, hpt, (by rw [((Fr.rf [] h)).1]; exact hlo)⟩, hT⟩
  · skip
    refine g_iload_n 1 dX9_apply_4 rfl ?_
    refine g_bipush dX9_apply_5 (by decide) ?_
    refine g_icmp_le (tgt := 13) dX9_apply_7 rfl (by first | assumption | (unfold gW; omega)) (by first | assumption | (unfold gW; omega)) (fun c2 => ?_) (fun c2 => ?_)
    · skip
      exfalso; omega
    · skip
      refine g_bipush dX9_apply_10 (by decide) ?_
      exact g_iret dX9_apply_12 rfl ⟨(FK.fr (Fr.rf [] h) (fun x e hx hk => Ni_hi hk.1 (fun _ h => absurd h (List.not_mem_nil)))), (-2), T, ⟨rfl, rfl⟩, rfl, ⟨hob, hw, hw4, h5, h27, h29, h31, h33, hpt, (by rw [((Fr.rf [] h)).1]; exact hlo)⟩, hT⟩
set_option maxHeartbeats 4000000 in
set_option maxRecDepth 100000 in
theorem sC_apply0 (N : GN) (h : GH) (B p : Nat) (hp : prm p) (hp2 : p ≤ 65536) (c : Int) (X V : Int → Int) (fa sy : Value) (T : PT p) (a b : Int) (gW_a : gW a) (gW_b : gW b) (hcs : CSt p B h c X V fa sy) (hT : CP hp B h T)  : Sp N yX9_apply mX9_apply 2 290 [.ref (B), .int (gI (0)), .int (gI (a)), .int (gI (b))] h (fun v h1 => FK (pK B) h h1 ∧ ∃ w T2, Ou T (ap2 T a b (rac hp 0)) w T2 ∧ v = some (.int (gI w)) ∧ CSt p B h1 c X V fa sy ∧ CP hp B h1 T2) := by
  refine Sp.of (by decide) rfl rfl (Nat.le_of_ble_eq_true rfl) ?_
  show Go N mX9_apply _ 2 290 h 0 [(0, .ref (B)), (1, .int (gI (0))), (2, .int (gI (a))), (3, .int (gI (b)))] []
  have hp1 := hp.1
  have hcs0 := hcs
  obtain ⟨hob, hw, hw4, h5, h27, h29, h31, h33, hpt, hlo⟩ := hcs0
  refine g_iload_n 1 dX9_apply_0 rfl ?_
  refine g_if_lt (tgt := 10) dX9_apply_1 rfl (by first | assumption | (unfold gW; omega)) (fun c1 => absurd c1 (by omega)) (fun c1 => ?_)
  refine g_iload_n 1 dX9_apply_4 rfl ?_
  refine g_bipush dX9_apply_5 (by decide) ?_
  refine g_icmp_le (tgt := 13) dX9_apply_7 rfl (by first | assumption | (unfold gW; omega)) (by first | assumption | (unfold gW; omega)) (fun c2 => ?_) (fun c2 => absurd c2 (by omega))
  refine g_iload_n 1 dX9_apply_13 rfl ?_
  refine g_iconst dX9_apply_14 ?_
  refine g_icmp_eq (tgt := 30) dX9_apply_15 rfl (by first | assumption | (unfold gW; omega)) (by first | assumption | (unfold gW; omega)) (fun c3 => absurd c3 (by omega)) (fun c3 => ?_)
  refine g_iload_n 1 dX9_apply_18 rfl ?_
  refine g_bipush dX9_apply_19 (by decide) ?_
  refine g_icmp_eq (tgt := 30) dX9_apply_21 rfl (by first | assumption | (unfold gW; omega)) (by first | assumption | (unfold gW; omega)) (fun c4 => absurd c4 (by omega)) (fun c4 => ?_)
  refine g_iload_n 1 dX9_apply_24 rfl ?_
  refine g_bipush dX9_apply_25 (by decide) ?_
  refine g_icmp_ne (tgt := 34) dX9_apply_27 rfl (by first | assumption | (unfold gW; omega)) (by first | assumption | (unfold gW; omega)) (fun c5 => ?_) (fun c5 => absurd c5 (by omega))
  refine g_iconst dX9_apply_34 ?_
  refine g_istore (ls2 := [(4, .int (gI (0))), (0, .ref (B)), (1, .int (gI (0))), (2, .int (gI (a))), (3, .int (gI (b)))]) dX9_apply_35 (by decide) rfl ?_
  refine g_aload_n 1 dX9_apply_37 rfl ?_
  refine g_iload_n 3 dX9_apply_38 rfl ?_
  refine g_callV (nc2 := 0) (ns2 := 0) (ci := 9) (As := [.int (gI (a))]) (st := []) rfl dX9_apply_39 okX9_find lX9_107 itX9_find seX9_find rfl hob (by decide) (by decide) rfl (Nat.le_of_ble_eq_true rfl) (sC_find N _ B p hp fa sy T (a) gW_a hob hT) (by omega) (by omega) (fun v6 hc6 q6 => ?_)
  obtain ⟨hq7, hr7⟩ := q6
  rcases hr7 with ⟨F, qa, g_a, rfl, l_a, pp_a⟩ | ⟨g_a, rfl⟩
  · skip
    refine Go.nf (h' := h) (st' := [.ref (qa)]) hq7 rfl (Nat.le_refl _) (Nat.le_refl _) ?_
    refine g_astore (ls2 := [(5, .ref (qa)), (4, .int (gI (0))), (0, .ref (B)), (1, .int (gI (0))), (2, .int (gI (a))), (3, .int (gI (b)))]) dX9_apply_42 (by decide) rfl ?_
    refine g_iload 1 dX9_apply_44 rfl ?_
    refine g_if_eq (tgt := 54) dX9_apply_46 rfl (by first | assumption | (unfold gW; omega)) (fun c8 => ?_) (fun c8 => absurd c8 (by omega))
    refine g_aload_n 2 dX9_apply_54 rfl ?_
    refine g_iload_n 5 dX9_apply_55 rfl ?_
    refine g_callV (nc2 := 0) (ns2 := 0) (ci := 9) (As := [.int (gI (b))]) (st := []) rfl dX9_apply_56 okX9_find lX9_107 itX9_find seX9_find rfl hob (by decide) (by decide) rfl (Nat.le_of_ble_eq_true rfl) (sC_find N _ B p hp fa sy T (b) gW_b hob hT) (by omega) (by omega) (fun v9 hc9 q9 => ?_)
    obtain ⟨hq10, hr10⟩ := q9
    rcases hr10 with ⟨G, qb, g_b, rfl, l_b, pp_b⟩ | ⟨g_b, rfl⟩
    · skip
      refine Go.nf (h' := h) (st' := [.ref (qb)]) hq10 rfl (Nat.le_refl _) (Nat.le_refl _) ?_
      refine g_astore (ls2 := [(6, .ref (qb)), (5, .ref (qa)), (4, .int (gI (0))), (0, .ref (B)), (1, .int (gI (0))), (2, .int (gI (a))), (3, .int (gI (b)))]) dX9_apply_59 (by decide) rfl ?_
      refine g_aload 1 dX9_apply_61 rfl ?_
      refine g_ifnull (tgt := 71) dX9_apply_63 rfl ?_
      refine g_aload 0 dX9_apply_66 rfl ?_
      refine g_ifnn (tgt := 73) dX9_apply_68 rfl ?_
      refine g_iload_n 4 dX9_apply_73 rfl ?_
      refine g_bipush dX9_apply_74 (by decide) ?_
      refine g_icmp_ge (tgt := 102) dX9_apply_76 rfl (by first | assumption | (unfold gW; omega)) (by first | assumption | (unfold gW; omega)) (fun c11 => absurd c11 (by omega)) (fun c11 => ?_)
      refine g_aload_n 3 dX9_apply_79 rfl ?_
      refine g_iload_n 4 dX9_apply_80 rfl ?_
      refine g_aload 1 dX9_apply_81 rfl ?_
      refine g_aload 0 dX9_apply_83 rfl ?_
      refine g_callV (nc2 := 0) (ns2 := 0) (ci := 9) (As := [.int (gI (0)), .ref (qa), .ref (qb)]) (st := []) rfl dX9_apply_85 okX9_wholeAct lX9_111 itX9_wholeAct seX9_wholeAct rfl hob (by decide) (by decide) rfl (Nat.le_of_ble_eq_true rfl) (sC_wholeAct0 N _ B p hp hp2 fa sy qa qb F G hob hw4 hw.2.1 h5 h27 (by omega) (by omega) pp_a pp_b) (by omega) (by omega) (fun v12 hc12 q12 => ?_)
      obtain ⟨frc13, pa5_13, hd13⟩ := q12
      have fk14_0 : hc12.2 (B) = some (cO B (fa) (sy)) := Fr.at0 frc13 (Ni.c ⟨(show NE (B) (B + 27) by unfold NE; omega), (show NE (B) (B + 28) by unfold NE; omega)⟩ (Ni.c ⟨(show NE (B) (B + 5) by unfold NE; omega), (show NE (B) (B + 6) by unfold NE; omega)⟩ (Ni.n _))) hob
      have fk14_1 : hc12.2 (B + 4) = some (oB 8 [.ref (B + 1), .ref (B + 5)]) := Fr.at0 frc13 (Ni.c ⟨(show NE (B + 4) (B + 27) by unfold NE; omega), (show NE (B + 4) (B + 28) by unfold NE; omega)⟩ (Ni.c ⟨(show NE (B + 4) (B + 5) by unfold NE; omega), (show NE (B + 4) (B + 6) by unfold NE; omega)⟩ (Ni.n _))) hw4
      have fk14_2 : hc12.2 (B + 7) = some (oB 2 [.ref (B + 1), .ref (B + 8), .ref (B + 10), .ref (B + 12), .ref (B + 14), .ref (B + 16), .ref (B + 18), .ref (B + 20), .ref (B + 22)]) := Fr.at0 frc13 (Ni.c ⟨(show NE (B + 7) (B + 27) by unfold NE; omega), (show NE (B + 7) (B + 28) by unfold NE; omega)⟩ (Ni.c ⟨(show NE (B + 7) (B + 5) by unfold NE; omega), (show NE (B + 7) (B + 6) by unfold NE; omega)⟩ (Ni.n _))) hw.1
      have fk14_3 : hc12.2 (B + 1) = some (oB 1 [.int (gI ((p : Int)))]) := Fr.at0 frc13 (Ni.c ⟨(show NE (B + 1) (B + 27) by unfold NE; omega), (show NE (B + 1) (B + 28) by unfold NE; omega)⟩ (Ni.c ⟨(show NE (B + 1) (B + 5) by unfold NE; omega), (show NE (B + 1) (B + 6) by unfold NE; omega)⟩ (Ni.n _))) hw.2.1
      have rk14_0 : PW p B hc12 := (hw).fr2 frc13 (ok_c (by omega) (ok_c (by omega) (fun _ h => absurd h (List.not_mem_nil))))
      have rk14_6 : CPt p B hc12 (c) X V := (hpt).fr frc13 (Ni.c ⟨(show NE (B + 24) (B + 27) by unfold NE; omega), (show NE (B + 24) (B + 28) by unfold NE; omega)⟩ (Ni.c ⟨(show NE (B + 24) (B + 5) by unfold NE; omega), (show NE (B + 24) (B + 6) by unfold NE; omega)⟩ (Ni.n _))) (Ni.c ⟨(show NE (B + 25) (B + 27) by unfold NE; omega), (show NE (B + 25) (B + 28) by unfold NE; omega)⟩ (Ni.c ⟨(show NE (B + 25) (B + 5) by unfold NE; omega), (show NE (B + 25) (B + 6) by unfold NE; omega)⟩ (Ni.n _))) (Ni.c ⟨(show NE (B + 26) (B + 27) by unfold NE; omega), (show NE (B + 26) (B + 28) by unfold NE; omega)⟩ (Ni.c ⟨(show NE (B + 26) (B + 5) by unfold NE; omega), (show NE (B + 26) (B + 6) by unfold NE; omega)⟩ (Ni.n _)))
      have rk14_7 : CP hp B hc12 (T) := (hT).fr frc13 (Ni.c ⟨(show NE (B + 2) (B + 27) by unfold NE; omega), (show NE (B + 2) (B + 28) by unfold NE; omega)⟩ (Ni.c ⟨(show NE (B + 2) (B + 5) by unfold NE; omega), (show NE (B + 2) (B + 6) by unfold NE; omega)⟩ (Ni.n _))) (Ni.c ⟨(show NE (B + 3) (B + 27) by unfold NE; omega), (show NE (B + 3) (B + 28) by unfold NE; omega)⟩ (Ni.c ⟨(show NE (B + 3) (B + 5) by unfold NE; omega), (show NE (B + 3) (B + 6) by unfold NE; omega)⟩ (Ni.n _))) (lo_c (by omega) (lo_c (by omega) (fun _ h => absurd h (List.not_mem_nil))))
      have rk5014_2 : RA 84 hc12 (B + 29) := (h29).fr frc13 (Ai.c (show AP (B + 29) (B + 27) by unfold AP; omega) (Ai.c (show AP (B + 29) (B + 5) by unfold AP; omega) (Ai.n _)))
      have rk5014_3 : RA 84 hc12 (B + 31) := (h31).fr frc13 (Ai.c (show AP (B + 31) (B + 27) by unfold AP; omega) (Ai.c (show AP (B + 31) (B + 5) by unfold AP; omega) (Ai.n _)))
      have rk5014_4 : RA 84 hc12 (B + 33) := (h33).fr frc13 (Ai.c (show AP (B + 33) (B + 27) by unfold AP; omega) (Ai.c (show AP (B + 33) (B + 5) by unfold AP; omega) (Ai.n _)))
      have rk5014_5 : PP hp hc12 (qa) (F) := (pp_a).fr frc13 (Ai.c (show AP (qa) (B + 27) by unfold AP; omega) (Ai.c (show AP (qa) (B + 5) by unfold AP; omega) (Ai.n _)))
      have rk5014_6 : PP hp hc12 (qb) (G) := (pp_b).fr frc13 (Ai.c (show AP (qb) (B + 27) by unfold AP; omega) (Ai.c (show AP (qb) (B + 5) by unfold AP; omega) (Ai.n _)))
      have fr14 : Fr [B + 27, B + 5] h hc12 := ((Fr.rf [B + 27, B + 5] h)).tr ((frc13).mo (sub_c (List.Mem.head _) (sub_c (List.Mem.tail _ (List.Mem.head _)) sub_n)))
      rcases hd13 with ⟨H, y1, rfl, y2⟩ | ⟨y1, rfl, y2⟩
      · skip
        refine Go.nf (h' := hc12) (st' := [.int (gI (1))]) rfl rfl (Nat.le_refl _) (Nat.le_refl _) ?_
        refine g_if_eq (tgt := 95) dX9_apply_88 rfl (by first | assumption | (unfold gW; omega)) (fun c15 => absurd c15 (by omega)) (fun c15 => ?_)
        refine g_iconst dX9_apply_91 ?_
        refine g_goto (tgt := 97) dX9_apply_92 rfl ?_
        refine g_istore (ls2 := [(7, .int (gI (0))), (6, .ref (qb)), (5, .ref (qa)), (4, .int (gI (0))), (0, .ref (B)), (1, .int (gI (0))), (2, .int (gI (a))), (3, .int (gI (b)))]) dX9_apply_97 (by decide) rfl ?_
        refine g_goto (tgt := 132) dX9_apply_99 rfl ?_
        refine g_iload 0 dX9_apply_132 rfl ?_
        refine g_if_ge (tgt := 142) dX9_apply_134 rfl (by first | assumption | (unfold gW; omega)) (fun c16 => ?_) (fun c16 => absurd c16 (by omega))
        refine g_aload_n 4 dX9_apply_142 rfl ?_
        refine g_aload_n 4 dX9_apply_143 rfl ?_
        refine g_getf 6 dX9_apply_144 kX9 (by decide) fX9_50 fk14_0 rfl ?_
        refine g_callV (nc2 := 2) (ns2 := 290) (ci := 9) (As := [.ref (B + 27)]) (st := []) rfl dX9_apply_147 okX9_keep lX9_103 itX9_keep seX9_keep rfl fk14_0 (by decide) (by decide) rfl (Nat.le_of_ble_eq_true rfl) (sC_keep N _ B p hp hp2 c X V fa sy T (H) (⟨fk14_0, rk14_0, fk14_1, pa5_13, (y2).ra, rk5014_2, rk5014_3, rk5014_4, rk14_6, (by rw [(fr14).1]; exact hlo)⟩) rk14_7 y2) (by omega) (by omega) (fun v17 hc17 q17 => ?_)
        obtain ⟨w18, hK18, rfl, cp18, fk18⟩ := q17
        have cs18 := CSt.fk ⟨fk14_0, rk14_0, fk14_1, pa5_13, (y2).ra, rk5014_2, rk5014_3, rk5014_4, rk14_6, (by rw [(fr14).1]; exact hlo)⟩ fk18
        have fz18 : FK (pK B) h hc17 := FK.tr (FK.fr fr14 (fun x e hx hk => Ni_hi hk.1 (hi_c (by omega) (hi_c (by omega) (fun _ h => absurd h (List.not_mem_nil)))))) (fk18.mo (fun x e _ hk => kpK_pK hk))
        refine Go.nf (h' := hc17) (st' := [.int (gI (w18))]) rfl rfl (Nat.le_refl _) (Nat.le_refl _) ?_
        exact g_iret dX9_apply_150 rfl ⟨fz18, w18, _, (by rw [ap2_s g_a g_b]; rw [y1]; exact ⟨hK18, rfl⟩), rfl, cs18, cp18⟩
      · skip
        refine Go.nf (h' := hc12) (st' := [.int (gI (0))]) rfl rfl (Nat.le_refl _) (Nat.le_refl _) ?_
        refine g_if_eq (tgt := 95) dX9_apply_88 rfl (by first | assumption | (unfold gW; omega)) (fun c19 => ?_) (fun c19 => absurd c19 (by omega))
        refine g_bipush dX9_apply_95 (by decide) ?_
        refine g_istore (ls2 := [(7, .int (gI (-4))), (6, .ref (qb)), (5, .ref (qa)), (4, .int (gI (0))), (0, .ref (B)), (1, .int (gI (0))), (2, .int (gI (a))), (3, .int (gI (b)))]) dX9_apply_97 (by decide) rfl ?_
        refine g_goto (tgt := 132) dX9_apply_99 rfl ?_
        refine g_iload 0 dX9_apply_132 rfl ?_
        refine g_if_ge (tgt := 142) dX9_apply_134 rfl (by first | assumption | (unfold gW; omega)) (fun c20 => absurd c20 (by omega)) (fun c20 => ?_)
        refine g_iload 0 dX9_apply_137 rfl ?_
        refine g_goto (tgt := 150) dX9_apply_139 rfl ?_
        exact g_iret dX9_apply_150 rfl ⟨(FK.fr fr14 (fun x e hx hk => Ni_hi hk.1 (hi_c (by omega) (hi_c (by omega) (fun _ h => absurd h (List.not_mem_nil)))))), (-4), T, (by rw [ap2_s g_a g_b]; rw [y1]; exact ⟨rfl, rfl⟩), rfl, ⟨fk14_0, rk14_0, fk14_1, pa5_13, y2, rk5014_2, rk5014_3, rk5014_4, rk14_6, (by rw [(fr14).1]; exact hlo)⟩, rk14_7⟩
    · skip
      refine Go.nf (h' := h) (st' := [.null]) hq10 rfl (Nat.le_refl _) (Nat.le_refl _) ?_
      refine g_astoreN (ls2 := [(6, .null), (5, .ref (qa)), (4, .int (gI (0))), (0, .ref (B)), (1, .int (gI (0))), (2, .int (gI (a))), (3, .int (gI (b)))]) dX9_apply_59 (by decide) rfl ?_
      refine g_aload 1 dX9_apply_61 rfl ?_
      refine g_ifnull (tgt := 71) dX9_apply_63 rfl ?_
      refine g_aloadN 0 dX9_apply_66 rfl ?_
      refine g_ifnnN (x := 0) (tgt := 73) dX9_apply_68 rfl ?_
      refine g_iconst dX9_apply_71 ?_
      exact g_iret dX9_apply_72 rfl ⟨(FK.fr (Fr.rf [B + 27, B + 5] h) (fun x e hx hk => Ni_hi hk.1 (hi_c (by omega) (hi_c (by omega) (fun _ h => absurd h (List.not_mem_nil)))))), (-1), T, (by rw [ap2_nb g_b]; exact ⟨rfl, rfl⟩), rfl, ⟨hob, hw, hw4, h5, h27, h29, h31, h33, hpt, (by rw [((Fr.rf [B + 27, B + 5] h)).1]; exact hlo)⟩, hT⟩
  · skip
    refine Go.nf (h' := h) (st' := [.null]) hq7 rfl (Nat.le_refl _) (Nat.le_refl _) ?_
    refine g_astoreN (ls2 := [(5, .null), (4, .int (gI (0))), (0, .ref (B)), (1, .int (gI (0))), (2, .int (gI (a))), (3, .int (gI (b)))]) dX9_apply_42 (by decide) rfl ?_
    refine g_iload 1 dX9_apply_44 rfl ?_
    refine g_if_eq (tgt := 54) dX9_apply_46 rfl (by first | assumption | (unfold gW; omega)) (fun c21 => ?_) (fun c21 => absurd c21 (by omega))
    refine g_aload_n 2 dX9_apply_54 rfl ?_
    refine g_iload_n 5 dX9_apply_55 rfl ?_
    refine g_callV (nc2 := 0) (ns2 := 0) (ci := 9) (As := [.int (gI (b))]) (st := []) rfl dX9_apply_56 okX9_find lX9_107 itX9_find seX9_find rfl hob (by decide) (by decide) rfl (Nat.le_of_ble_eq_true rfl) (sC_find N _ B p hp fa sy T (b) gW_b hob hT) (by omega) (by omega) (fun v22 hc22 q22 => ?_)
    obtain ⟨hq23, hr23⟩ := q22
    rcases hr23 with ⟨G, qb, g_b, rfl, l_b, pp_b⟩ | ⟨g_b, rfl⟩
    · skip
      refine Go.nf (h' := h) (st' := [.ref (qb)]) hq23 rfl (Nat.le_refl _) (Nat.le_refl _) ?_
      refine g_astore (ls2 := [(6, .ref (qb)), (5, .null), (4, .int (gI (0))), (0, .ref (B)), (1, .int (gI (0))), (2, .int (gI (a))), (3, .int (gI (b)))]) dX9_apply_59 (by decide) rfl ?_
      refine g_aloadN 1 dX9_apply_61 rfl ?_
      refine g_ifnullN (x := 0) (tgt := 71) dX9_apply_63 rfl ?_
      refine g_iconst dX9_apply_71 ?_
      exact g_iret dX9_apply_72 rfl ⟨(FK.fr (Fr.rf [B + 27, B + 5] h) (fun x e hx hk => Ni_hi hk.1 (hi_c (by omega) (hi_c (by omega) (fun _ h => absurd h (List.not_mem_nil)))))), (-1), T, (by rw [ap2_na g_a]; exact ⟨rfl, rfl⟩), rfl, ⟨hob, hw, hw4, h5, h27, h29, h31, h33, hpt, (by rw [((Fr.rf [B + 27, B + 5] h)).1]; exact hlo)⟩, hT⟩
    · skip
      refine Go.nf (h' := h) (st' := [.null]) hq23 rfl (Nat.le_refl _) (Nat.le_refl _) ?_
      refine g_astoreN (ls2 := [(6, .null), (5, .null), (4, .int (gI (0))), (0, .ref (B)), (1, .int (gI (0))), (2, .int (gI (a))), (3, .int (gI (b)))]) dX9_apply_59 (by decide) rfl ?_
      refine g_aloadN 1 dX9_apply_61 rfl ?_
      refine g_ifnullN (x := 0) (tgt := 71) dX9_apply_63 rfl ?_
      refine g_iconst dX9_apply_71 ?_
      exact g_iret dX9_apply_72 rfl ⟨(FK.fr (Fr.rf [B + 27, B + 5] h) (fun x e hx hk => Ni_hi hk.1 (hi_c (by omega) (hi_c (by omega) (fun _ h => absurd h (List.not_mem_nil)))))), (-1), T, (by rw [ap2_na g_a]; exact ⟨rfl, rfl⟩), rfl, ⟨hob, hw, hw4, h5, h27, h29, h31, h33, hpt, (by rw [((Fr.rf [B + 27, B + 5] h)).1]; exact hlo)⟩, hT⟩
set_option maxHeartbeats 4000000 in
set_option maxRecDepth 100000 in
theorem sC_apply1 (N : GN) (h : GH) (B p : Nat) (hp : prm p) (hp2 : p ≤ 65536) (c : Int) (X V : Int → Int) (fa sy : Value) (T : PT p) (a b : Int) (gW_a : gW a) (gW_b : gW b) (hcs : CSt p B h c X V fa sy) (hT : CP hp B h T)  : Sp N yX9_apply mX9_apply 2 290 [.ref (B), .int (gI (1)), .int (gI (a)), .int (gI (b))] h (fun v h1 => FK (pK B) h h1 ∧ ∃ w T2, Ou T (ap2 T a b (rac hp 1)) w T2 ∧ v = some (.int (gI w)) ∧ CSt p B h1 c X V fa sy ∧ CP hp B h1 T2) := by
  refine Sp.of (by decide) rfl rfl (Nat.le_of_ble_eq_true rfl) ?_
  show Go N mX9_apply _ 2 290 h 0 [(0, .ref (B)), (1, .int (gI (1))), (2, .int (gI (a))), (3, .int (gI (b)))] []
  have hp1 := hp.1
  have hcs0 := hcs
  obtain ⟨hob, hw, hw4, h5, h27, h29, h31, h33, hpt, hlo⟩ := hcs0
  refine g_iload_n 1 dX9_apply_0 rfl ?_
  refine g_if_lt (tgt := 10) dX9_apply_1 rfl (by first | assumption | (unfold gW; omega)) (fun c1 => absurd c1 (by omega)) (fun c1 => ?_)
  refine g_iload_n 1 dX9_apply_4 rfl ?_
  refine g_bipush dX9_apply_5 (by decide) ?_
  refine g_icmp_le (tgt := 13) dX9_apply_7 rfl (by first | assumption | (unfold gW; omega)) (by first | assumption | (unfold gW; omega)) (fun c2 => ?_) (fun c2 => absurd c2 (by omega))
  refine g_iload_n 1 dX9_apply_13 rfl ?_
  refine g_iconst dX9_apply_14 ?_
  refine g_icmp_eq (tgt := 30) dX9_apply_15 rfl (by first | assumption | (unfold gW; omega)) (by first | assumption | (unfold gW; omega)) (fun c3 => absurd c3 (by omega)) (fun c3 => ?_)
  refine g_iload_n 1 dX9_apply_18 rfl ?_
  refine g_bipush dX9_apply_19 (by decide) ?_
  refine g_icmp_eq (tgt := 30) dX9_apply_21 rfl (by first | assumption | (unfold gW; omega)) (by first | assumption | (unfold gW; omega)) (fun c4 => absurd c4 (by omega)) (fun c4 => ?_)
  refine g_iload_n 1 dX9_apply_24 rfl ?_
  refine g_bipush dX9_apply_25 (by decide) ?_
  refine g_icmp_ne (tgt := 34) dX9_apply_27 rfl (by first | assumption | (unfold gW; omega)) (by first | assumption | (unfold gW; omega)) (fun c5 => ?_) (fun c5 => absurd c5 (by omega))
  refine g_iconst dX9_apply_34 ?_
  refine g_istore (ls2 := [(4, .int (gI (0))), (0, .ref (B)), (1, .int (gI (1))), (2, .int (gI (a))), (3, .int (gI (b)))]) dX9_apply_35 (by decide) rfl ?_
  refine g_aload_n 1 dX9_apply_37 rfl ?_
  refine g_iload_n 3 dX9_apply_38 rfl ?_
  refine g_callV (nc2 := 0) (ns2 := 0) (ci := 9) (As := [.int (gI (a))]) (st := []) rfl dX9_apply_39 okX9_find lX9_107 itX9_find seX9_find rfl hob (by decide) (by decide) rfl (Nat.le_of_ble_eq_true rfl) (sC_find N _ B p hp fa sy T (a) gW_a hob hT) (by omega) (by omega) (fun v6 hc6 q6 => ?_)
  obtain ⟨hq7, hr7⟩ := q6
  rcases hr7 with ⟨F, qa, g_a, rfl, l_a, pp_a⟩ | ⟨g_a, rfl⟩
  · skip
    refine Go.nf (h' := h) (st' := [.ref (qa)]) hq7 rfl (Nat.le_refl _) (Nat.le_refl _) ?_
    refine g_astore (ls2 := [(5, .ref (qa)), (4, .int (gI (0))), (0, .ref (B)), (1, .int (gI (1))), (2, .int (gI (a))), (3, .int (gI (b)))]) dX9_apply_42 (by decide) rfl ?_
    refine g_iload 1 dX9_apply_44 rfl ?_
    refine g_if_eq (tgt := 54) dX9_apply_46 rfl (by first | assumption | (unfold gW; omega)) (fun c8 => ?_) (fun c8 => absurd c8 (by omega))
    refine g_aload_n 2 dX9_apply_54 rfl ?_
    refine g_iload_n 5 dX9_apply_55 rfl ?_
    refine g_callV (nc2 := 0) (ns2 := 0) (ci := 9) (As := [.int (gI (b))]) (st := []) rfl dX9_apply_56 okX9_find lX9_107 itX9_find seX9_find rfl hob (by decide) (by decide) rfl (Nat.le_of_ble_eq_true rfl) (sC_find N _ B p hp fa sy T (b) gW_b hob hT) (by omega) (by omega) (fun v9 hc9 q9 => ?_)
    obtain ⟨hq10, hr10⟩ := q9
    rcases hr10 with ⟨G, qb, g_b, rfl, l_b, pp_b⟩ | ⟨g_b, rfl⟩
    · skip
      refine Go.nf (h' := h) (st' := [.ref (qb)]) hq10 rfl (Nat.le_refl _) (Nat.le_refl _) ?_
      refine g_astore (ls2 := [(6, .ref (qb)), (5, .ref (qa)), (4, .int (gI (0))), (0, .ref (B)), (1, .int (gI (1))), (2, .int (gI (a))), (3, .int (gI (b)))]) dX9_apply_59 (by decide) rfl ?_
      refine g_aload 1 dX9_apply_61 rfl ?_
      refine g_ifnull (tgt := 71) dX9_apply_63 rfl ?_
      refine g_aload 0 dX9_apply_66 rfl ?_
      refine g_ifnn (tgt := 73) dX9_apply_68 rfl ?_
      refine g_iload_n 4 dX9_apply_73 rfl ?_
      refine g_bipush dX9_apply_74 (by decide) ?_
      refine g_icmp_ge (tgt := 102) dX9_apply_76 rfl (by first | assumption | (unfold gW; omega)) (by first | assumption | (unfold gW; omega)) (fun c11 => absurd c11 (by omega)) (fun c11 => ?_)
      refine g_aload_n 3 dX9_apply_79 rfl ?_
      refine g_iload_n 4 dX9_apply_80 rfl ?_
      refine g_aload 1 dX9_apply_81 rfl ?_
      refine g_aload 0 dX9_apply_83 rfl ?_
      refine g_callV (nc2 := 0) (ns2 := 0) (ci := 9) (As := [.int (gI (1)), .ref (qa), .ref (qb)]) (st := []) rfl dX9_apply_85 okX9_wholeAct lX9_111 itX9_wholeAct seX9_wholeAct rfl hob (by decide) (by decide) rfl (Nat.le_of_ble_eq_true rfl) (sC_wholeAct1 N _ B p hp hp2 fa sy qa qb F G hob hw4 hw.2.1 h5 h27 (by omega) (by omega) pp_a pp_b) (by omega) (by omega) (fun v12 hc12 q12 => ?_)
      obtain ⟨frc13, pa5_13, hd13⟩ := q12
      have fk14_0 : hc12.2 (B) = some (cO B (fa) (sy)) := Fr.at0 frc13 (Ni.c ⟨(show NE (B) (B + 27) by unfold NE; omega), (show NE (B) (B + 28) by unfold NE; omega)⟩ (Ni.c ⟨(show NE (B) (B + 5) by unfold NE; omega), (show NE (B) (B + 6) by unfold NE; omega)⟩ (Ni.n _))) hob
      have fk14_1 : hc12.2 (B + 4) = some (oB 8 [.ref (B + 1), .ref (B + 5)]) := Fr.at0 frc13 (Ni.c ⟨(show NE (B + 4) (B + 27) by unfold NE; omega), (show NE (B + 4) (B + 28) by unfold NE; omega)⟩ (Ni.c ⟨(show NE (B + 4) (B + 5) by unfold NE; omega), (show NE (B + 4) (B + 6) by unfold NE; omega)⟩ (Ni.n _))) hw4
      have fk14_2 : hc12.2 (B + 7) = some (oB 2 [.ref (B + 1), .ref (B + 8), .ref (B + 10), .ref (B + 12), .ref (B + 14), .ref (B + 16), .ref (B + 18), .ref (B + 20), .ref (B + 22)]) := Fr.at0 frc13 (Ni.c ⟨(show NE (B + 7) (B + 27) by unfold NE; omega), (show NE (B + 7) (B + 28) by unfold NE; omega)⟩ (Ni.c ⟨(show NE (B + 7) (B + 5) by unfold NE; omega), (show NE (B + 7) (B + 6) by unfold NE; omega)⟩ (Ni.n _))) hw.1
      have fk14_3 : hc12.2 (B + 1) = some (oB 1 [.int (gI ((p : Int)))]) := Fr.at0 frc13 (Ni.c ⟨(show NE (B + 1) (B + 27) by unfold NE; omega), (show NE (B + 1) (B + 28) by unfold NE; omega)⟩ (Ni.c ⟨(show NE (B + 1) (B + 5) by unfold NE; omega), (show NE (B + 1) (B + 6) by unfold NE; omega)⟩ (Ni.n _))) hw.2.1
      have rk14_0 : PW p B hc12 := (hw).fr2 frc13 (ok_c (by omega) (ok_c (by omega) (fun _ h => absurd h (List.not_mem_nil))))
      have rk14_6 : CPt p B hc12 (c) X V := (hpt).fr frc13 (Ni.c ⟨(show NE (B + 24) (B + 27) by unfold NE; omega), (show NE (B + 24) (B + 28) by unfold NE; omega)⟩ (Ni.c ⟨(show NE (B + 24) (B + 5) by unfold NE; omega), (show NE (B + 24) (B + 6) by unfold NE; omega)⟩ (Ni.n _))) (Ni.c ⟨(show NE (B + 25) (B + 27) by unfold NE; omega), (show NE (B + 25) (B + 28) by unfold NE; omega)⟩ (Ni.c ⟨(show NE (B + 25) (B + 5) by unfold NE; omega), (show NE (B + 25) (B + 6) by unfold NE; omega)⟩ (Ni.n _))) (Ni.c ⟨(show NE (B + 26) (B + 27) by unfold NE; omega), (show NE (B + 26) (B + 28) by unfold NE; omega)⟩ (Ni.c ⟨(show NE (B + 26) (B + 5) by unfold NE; omega), (show NE (B + 26) (B + 6) by unfold NE; omega)⟩ (Ni.n _)))
      have rk14_7 : CP hp B hc12 (T) := (hT).fr frc13 (Ni.c ⟨(show NE (B + 2) (B + 27) by unfold NE; omega), (show NE (B + 2) (B + 28) by unfold NE; omega)⟩ (Ni.c ⟨(show NE (B + 2) (B + 5) by unfold NE; omega), (show NE (B + 2) (B + 6) by unfold NE; omega)⟩ (Ni.n _))) (Ni.c ⟨(show NE (B + 3) (B + 27) by unfold NE; omega), (show NE (B + 3) (B + 28) by unfold NE; omega)⟩ (Ni.c ⟨(show NE (B + 3) (B + 5) by unfold NE; omega), (show NE (B + 3) (B + 6) by unfold NE; omega)⟩ (Ni.n _))) (lo_c (by omega) (lo_c (by omega) (fun _ h => absurd h (List.not_mem_nil))))
      have rk5014_2 : RA 84 hc12 (B + 29) := (h29).fr frc13 (Ai.c (show AP (B + 29) (B + 27) by unfold AP; omega) (Ai.c (show AP (B + 29) (B + 5) by unfold AP; omega) (Ai.n _)))
      have rk5014_3 : RA 84 hc12 (B + 31) := (h31).fr frc13 (Ai.c (show AP (B + 31) (B + 27) by unfold AP; omega) (Ai.c (show AP (B + 31) (B + 5) by unfold AP; omega) (Ai.n _)))
      have rk5014_4 : RA 84 hc12 (B + 33) := (h33).fr frc13 (Ai.c (show AP (B + 33) (B + 27) by unfold AP; omega) (Ai.c (show AP (B + 33) (B + 5) by unfold AP; omega) (Ai.n _)))
      have rk5014_5 : PP hp hc12 (qa) (F) := (pp_a).fr frc13 (Ai.c (show AP (qa) (B + 27) by unfold AP; omega) (Ai.c (show AP (qa) (B + 5) by unfold AP; omega) (Ai.n _)))
      have rk5014_6 : PP hp hc12 (qb) (G) := (pp_b).fr frc13 (Ai.c (show AP (qb) (B + 27) by unfold AP; omega) (Ai.c (show AP (qb) (B + 5) by unfold AP; omega) (Ai.n _)))
      have fr14 : Fr [B + 27, B + 5] h hc12 := ((Fr.rf [B + 27, B + 5] h)).tr ((frc13).mo (sub_c (List.Mem.head _) (sub_c (List.Mem.tail _ (List.Mem.head _)) sub_n)))
      rcases hd13 with ⟨H, y1, rfl, y2⟩ | ⟨y1, rfl, y2⟩
      · skip
        refine Go.nf (h' := hc12) (st' := [.int (gI (1))]) rfl rfl (Nat.le_refl _) (Nat.le_refl _) ?_
        refine g_if_eq (tgt := 95) dX9_apply_88 rfl (by first | assumption | (unfold gW; omega)) (fun c15 => absurd c15 (by omega)) (fun c15 => ?_)
        refine g_iconst dX9_apply_91 ?_
        refine g_goto (tgt := 97) dX9_apply_92 rfl ?_
        refine g_istore (ls2 := [(7, .int (gI (0))), (6, .ref (qb)), (5, .ref (qa)), (4, .int (gI (0))), (0, .ref (B)), (1, .int (gI (1))), (2, .int (gI (a))), (3, .int (gI (b)))]) dX9_apply_97 (by decide) rfl ?_
        refine g_goto (tgt := 132) dX9_apply_99 rfl ?_
        refine g_iload 0 dX9_apply_132 rfl ?_
        refine g_if_ge (tgt := 142) dX9_apply_134 rfl (by first | assumption | (unfold gW; omega)) (fun c16 => ?_) (fun c16 => absurd c16 (by omega))
        refine g_aload_n 4 dX9_apply_142 rfl ?_
        refine g_aload_n 4 dX9_apply_143 rfl ?_
        refine g_getf 6 dX9_apply_144 kX9 (by decide) fX9_50 fk14_0 rfl ?_
        refine g_callV (nc2 := 2) (ns2 := 290) (ci := 9) (As := [.ref (B + 27)]) (st := []) rfl dX9_apply_147 okX9_keep lX9_103 itX9_keep seX9_keep rfl fk14_0 (by decide) (by decide) rfl (Nat.le_of_ble_eq_true rfl) (sC_keep N _ B p hp hp2 c X V fa sy T (H) (⟨fk14_0, rk14_0, fk14_1, pa5_13, (y2).ra, rk5014_2, rk5014_3, rk5014_4, rk14_6, (by rw [(fr14).1]; exact hlo)⟩) rk14_7 y2) (by omega) (by omega) (fun v17 hc17 q17 => ?_)
        obtain ⟨w18, hK18, rfl, cp18, fk18⟩ := q17
        have cs18 := CSt.fk ⟨fk14_0, rk14_0, fk14_1, pa5_13, (y2).ra, rk5014_2, rk5014_3, rk5014_4, rk14_6, (by rw [(fr14).1]; exact hlo)⟩ fk18
        have fz18 : FK (pK B) h hc17 := FK.tr (FK.fr fr14 (fun x e hx hk => Ni_hi hk.1 (hi_c (by omega) (hi_c (by omega) (fun _ h => absurd h (List.not_mem_nil)))))) (fk18.mo (fun x e _ hk => kpK_pK hk))
        refine Go.nf (h' := hc17) (st' := [.int (gI (w18))]) rfl rfl (Nat.le_refl _) (Nat.le_refl _) ?_
        exact g_iret dX9_apply_150 rfl ⟨fz18, w18, _, (by rw [ap2_s g_a g_b]; rw [y1]; exact ⟨hK18, rfl⟩), rfl, cs18, cp18⟩
      · skip
        refine Go.nf (h' := hc12) (st' := [.int (gI (0))]) rfl rfl (Nat.le_refl _) (Nat.le_refl _) ?_
        refine g_if_eq (tgt := 95) dX9_apply_88 rfl (by first | assumption | (unfold gW; omega)) (fun c19 => ?_) (fun c19 => absurd c19 (by omega))
        refine g_bipush dX9_apply_95 (by decide) ?_
        refine g_istore (ls2 := [(7, .int (gI (-4))), (6, .ref (qb)), (5, .ref (qa)), (4, .int (gI (0))), (0, .ref (B)), (1, .int (gI (1))), (2, .int (gI (a))), (3, .int (gI (b)))]) dX9_apply_97 (by decide) rfl ?_
        refine g_goto (tgt := 132) dX9_apply_99 rfl ?_
        refine g_iload 0 dX9_apply_132 rfl ?_
        refine g_if_ge (tgt := 142) dX9_apply_134 rfl (by first | assumption | (unfold gW; omega)) (fun c20 => absurd c20 (by omega)) (fun c20 => ?_)
        refine g_iload 0 dX9_apply_137 rfl ?_
        refine g_goto (tgt := 150) dX9_apply_139 rfl ?_
        exact g_iret dX9_apply_150 rfl ⟨(FK.fr fr14 (fun x e hx hk => Ni_hi hk.1 (hi_c (by omega) (hi_c (by omega) (fun _ h => absurd h (List.not_mem_nil)))))), (-4), T, (by rw [ap2_s g_a g_b]; rw [y1]; exact ⟨rfl, rfl⟩), rfl, ⟨fk14_0, rk14_0, fk14_1, pa5_13, y2, rk5014_2, rk5014_3, rk5014_4, rk14_6, (by rw [(fr14).1]; exact hlo)⟩, rk14_7⟩
    · skip
      refine Go.nf (h' := h) (st' := [.null]) hq10 rfl (Nat.le_refl _) (Nat.le_refl _) ?_
      refine g_astoreN (ls2 := [(6, .null), (5, .ref (qa)), (4, .int (gI (0))), (0, .ref (B)), (1, .int (gI (1))), (2, .int (gI (a))), (3, .int (gI (b)))]) dX9_apply_59 (by decide) rfl ?_
      refine g_aload 1 dX9_apply_61 rfl ?_
      refine g_ifnull (tgt := 71) dX9_apply_63 rfl ?_
      refine g_aloadN 0 dX9_apply_66 rfl ?_
      refine g_ifnnN (x := 0) (tgt := 73) dX9_apply_68 rfl ?_
      refine g_iconst dX9_apply_71 ?_
      exact g_iret dX9_apply_72 rfl ⟨(FK.fr (Fr.rf [B + 27, B + 5] h) (fun x e hx hk => Ni_hi hk.1 (hi_c (by omega) (hi_c (by omega) (fun _ h => absurd h (List.not_mem_nil)))))), (-1), T, (by rw [ap2_nb g_b]; exact ⟨rfl, rfl⟩), rfl, ⟨hob, hw, hw4, h5, h27, h29, h31, h33, hpt, (by rw [((Fr.rf [B + 27, B + 5] h)).1]; exact hlo)⟩, hT⟩
  · skip
    refine Go.nf (h' := h) (st' := [.null]) hq7 rfl (Nat.le_refl _) (Nat.le_refl _) ?_
    refine g_astoreN (ls2 := [(5, .null), (4, .int (gI (0))), (0, .ref (B)), (1, .int (gI (1))), (2, .int (gI (a))), (3, .int (gI (b)))]) dX9_apply_42 (by decide) rfl ?_
    refine g_iload 1 dX9_apply_44 rfl ?_
    refine g_if_eq (tgt := 54) dX9_apply_46 rfl (by first | assumption | (unfold gW; omega)) (fun c21 => ?_) (fun c21 => absurd c21 (by omega))
    refine g_aload_n 2 dX9_apply_54 rfl ?_
    refine g_iload_n 5 dX9_apply_55 rfl ?_
    refine g_callV (nc2 := 0) (ns2 := 0) (ci := 9) (As := [.int (gI (b))]) (st := []) rfl dX9_apply_56 okX9_find lX9_107 itX9_find seX9_find rfl hob (by decide) (by decide) rfl (Nat.le_of_ble_eq_true rfl) (sC_find N _ B p hp fa sy T (b) gW_b hob hT) (by omega) (by omega) (fun v22 hc22 q22 => ?_)
    obtain ⟨hq23, hr23⟩ := q22
    rcases hr23 with ⟨G, qb, g_b, rfl, l_b, pp_b⟩ | ⟨g_b, rfl⟩
    · skip
      refine Go.nf (h' := h) (st' := [.ref (qb)]) hq23 rfl (Nat.le_refl _) (Nat.le_refl _) ?_
      refine g_astore (ls2 := [(6, .ref (qb)), (5, .null), (4, .int (gI (0))), (0, .ref (B)), (1, .int (gI (1))), (2, .int (gI (a))), (3, .int (gI (b)))]) dX9_apply_59 (by decide) rfl ?_
      refine g_aloadN 1 dX9_apply_61 rfl ?_
      refine g_ifnullN (x := 0) (tgt := 71) dX9_apply_63 rfl ?_
      refine g_iconst dX9_apply_71 ?_
      exact g_iret dX9_apply_72 rfl ⟨(FK.fr (Fr.rf [B + 27, B + 5] h) (fun x e hx hk => Ni_hi hk.1 (hi_c (by omega) (hi_c (by omega) (fun _ h => absurd h (List.not_mem_nil)))))), (-1), T, (by rw [ap2_na g_a]; exact ⟨rfl, rfl⟩), rfl, ⟨hob, hw, hw4, h5, h27, h29, h31, h33, hpt, (by rw [((Fr.rf [B + 27, B + 5] h)).1]; exact hlo)⟩, hT⟩
    · skip
      refine Go.nf (h' := h) (st' := [.null]) hq23 rfl (Nat.le_refl _) (Nat.le_refl _) ?_
      refine g_astoreN (ls2 := [(6, .null), (5, .null), (4, .int (gI (0))), (0, .ref (B)), (1, .int (gI (1))), (2, .int (gI (a))), (3, .int (gI (b)))]) dX9_apply_59 (by decide) rfl ?_
      refine g_aloadN 1 dX9_apply_61 rfl ?_
      refine g_ifnullN (x := 0) (tgt := 71) dX9_apply_63 rfl ?_
      refine g_iconst dX9_apply_71 ?_
      exact g_iret dX9_apply_72 rfl ⟨(FK.fr (Fr.rf [B + 27, B + 5] h) (fun x e hx hk => Ni_hi hk.1 (hi_c (by omega) (hi_c (by omega) (fun _ h => absurd h (List.not_mem_nil)))))), (-1), T, (by rw [ap2_na g_a]; exact ⟨rfl, rfl⟩), rfl, ⟨hob, hw, hw4, h5, h27, h29, h31, h33, hpt, (by rw [((Fr.rf [B + 27, B + 5] h)).1]; exact hlo)⟩, hT⟩
set_option maxHeartbeats 4000000 in
set_option maxRecDepth 100000 in
theorem sC_apply2 (N : GN) (h : GH) (B p : Nat) (hp : prm p) (hp2 : p ≤ 65536) (c : Int) (X V : Int → Int) (fa sy : Value) (T : PT p) (a b : Int) (gW_a : gW a) (gW_b : gW b) (hcs : CSt p B h c X V fa sy) (hT : CP hp B h T)  : Sp N yX9_apply mX9_apply 2 290 [.ref (B), .int (gI (2)), .int (gI (a)), .int (gI (b))] h (fun v h1 => FK (pK B) h h1 ∧ ∃ w T2, Ou T (ap2 T a b (rac hp 2)) w T2 ∧ v = some (.int (gI w)) ∧ CSt p B h1 c X V fa sy ∧ CP hp B h1 T2) := by
  refine Sp.of (by decide) rfl rfl (Nat.le_of_ble_eq_true rfl) ?_
  show Go N mX9_apply _ 2 290 h 0 [(0, .ref (B)), (1, .int (gI (2))), (2, .int (gI (a))), (3, .int (gI (b)))] []
  have hp1 := hp.1
  have hcs0 := hcs
  obtain ⟨hob, hw, hw4, h5, h27, h29, h31, h33, hpt, hlo⟩ := hcs0
  refine g_iload_n 1 dX9_apply_0 rfl ?_
  refine g_if_lt (tgt := 10) dX9_apply_1 rfl (by first | assumption | (unfold gW; omega)) (fun c1 => absurd c1 (by omega)) (fun c1 => ?_)
  refine g_iload_n 1 dX9_apply_4 rfl ?_
  refine g_bipush dX9_apply_5 (by decide) ?_
  refine g_icmp_le (tgt := 13) dX9_apply_7 rfl (by first | assumption | (unfold gW; omega)) (by first | assumption | (unfold gW; omega)) (fun c2 => ?_) (fun c2 => absurd c2 (by omega))
  refine g_iload_n 1 dX9_apply_13 rfl ?_
  refine g_iconst dX9_apply_14 ?_
  refine g_icmp_eq (tgt := 30) dX9_apply_15 rfl (by first | assumption | (unfold gW; omega)) (by first | assumption | (unfold gW; omega)) (fun c3 => absurd c3 (by omega)) (fun c3 => ?_)
  refine g_iload_n 1 dX9_apply_18 rfl ?_
  refine g_bipush dX9_apply_19 (by decide) ?_
  refine g_icmp_eq (tgt := 30) dX9_apply_21 rfl (by first | assumption | (unfold gW; omega)) (by first | assumption | (unfold gW; omega)) (fun c4 => absurd c4 (by omega)) (fun c4 => ?_)
  refine g_iload_n 1 dX9_apply_24 rfl ?_
  refine g_bipush dX9_apply_25 (by decide) ?_
  refine g_icmp_ne (tgt := 34) dX9_apply_27 rfl (by first | assumption | (unfold gW; omega)) (by first | assumption | (unfold gW; omega)) (fun c5 => ?_) (fun c5 => absurd c5 (by omega))
  refine g_iconst dX9_apply_34 ?_
  refine g_istore (ls2 := [(4, .int (gI (0))), (0, .ref (B)), (1, .int (gI (2))), (2, .int (gI (a))), (3, .int (gI (b)))]) dX9_apply_35 (by decide) rfl ?_
  refine g_aload_n 1 dX9_apply_37 rfl ?_
  refine g_iload_n 3 dX9_apply_38 rfl ?_
  refine g_callV (nc2 := 0) (ns2 := 0) (ci := 9) (As := [.int (gI (a))]) (st := []) rfl dX9_apply_39 okX9_find lX9_107 itX9_find seX9_find rfl hob (by decide) (by decide) rfl (Nat.le_of_ble_eq_true rfl) (sC_find N _ B p hp fa sy T (a) gW_a hob hT) (by omega) (by omega) (fun v6 hc6 q6 => ?_)
  obtain ⟨hq7, hr7⟩ := q6
  rcases hr7 with ⟨F, qa, g_a, rfl, l_a, pp_a⟩ | ⟨g_a, rfl⟩
  · skip
    refine Go.nf (h' := h) (st' := [.ref (qa)]) hq7 rfl (Nat.le_refl _) (Nat.le_refl _) ?_
    refine g_astore (ls2 := [(5, .ref (qa)), (4, .int (gI (0))), (0, .ref (B)), (1, .int (gI (2))), (2, .int (gI (a))), (3, .int (gI (b)))]) dX9_apply_42 (by decide) rfl ?_
    refine g_iload 1 dX9_apply_44 rfl ?_
    refine g_if_eq (tgt := 54) dX9_apply_46 rfl (by first | assumption | (unfold gW; omega)) (fun c8 => ?_) (fun c8 => absurd c8 (by omega))
    refine g_aload_n 2 dX9_apply_54 rfl ?_
    refine g_iload_n 5 dX9_apply_55 rfl ?_
    refine g_callV (nc2 := 0) (ns2 := 0) (ci := 9) (As := [.int (gI (b))]) (st := []) rfl dX9_apply_56 okX9_find lX9_107 itX9_find seX9_find rfl hob (by decide) (by decide) rfl (Nat.le_of_ble_eq_true rfl) (sC_find N _ B p hp fa sy T (b) gW_b hob hT) (by omega) (by omega) (fun v9 hc9 q9 => ?_)
    obtain ⟨hq10, hr10⟩ := q9
    rcases hr10 with ⟨G, qb, g_b, rfl, l_b, pp_b⟩ | ⟨g_b, rfl⟩
    · skip
      refine Go.nf (h' := h) (st' := [.ref (qb)]) hq10 rfl (Nat.le_refl _) (Nat.le_refl _) ?_
      refine g_astore (ls2 := [(6, .ref (qb)), (5, .ref (qa)), (4, .int (gI (0))), (0, .ref (B)), (1, .int (gI (2))), (2, .int (gI (a))), (3, .int (gI (b)))]) dX9_apply_59 (by decide) rfl ?_
      refine g_aload 1 dX9_apply_61 rfl ?_
      refine g_ifnull (tgt := 71) dX9_apply_63 rfl ?_
      refine g_aload 0 dX9_apply_66 rfl ?_
      refine g_ifnn (tgt := 73) dX9_apply_68 rfl ?_
      refine g_iload_n 4 dX9_apply_73 rfl ?_
      refine g_bipush dX9_apply_74 (by decide) ?_
      refine g_icmp_ge (tgt := 102) dX9_apply_76 rfl (by first | assumption | (unfold gW; omega)) (by first | assumption | (unfold gW; omega)) (fun c11 => absurd c11 (by omega)) (fun c11 => ?_)
      refine g_aload_n 3 dX9_apply_79 rfl ?_
      refine g_iload_n 4 dX9_apply_80 rfl ?_
      refine g_aload 1 dX9_apply_81 rfl ?_
      refine g_aload 0 dX9_apply_83 rfl ?_
      refine g_callV (nc2 := 0) (ns2 := 0) (ci := 9) (As := [.int (gI (2)), .ref (qa), .ref (qb)]) (st := []) rfl dX9_apply_85 okX9_wholeAct lX9_111 itX9_wholeAct seX9_wholeAct rfl hob (by decide) (by decide) rfl (Nat.le_of_ble_eq_true rfl) (sC_wholeAct2 N _ B p hp hp2 fa sy qa qb F G hob hw4 hw.2.1 h5 h27 (by omega) (by omega) pp_a pp_b) (by omega) (by omega) (fun v12 hc12 q12 => ?_)
      obtain ⟨frc13, pa5_13, hd13⟩ := q12
      have fk14_0 : hc12.2 (B) = some (cO B (fa) (sy)) := Fr.at0 frc13 (Ni.c ⟨(show NE (B) (B + 27) by unfold NE; omega), (show NE (B) (B + 28) by unfold NE; omega)⟩ (Ni.c ⟨(show NE (B) (B + 5) by unfold NE; omega), (show NE (B) (B + 6) by unfold NE; omega)⟩ (Ni.n _))) hob
      have fk14_1 : hc12.2 (B + 4) = some (oB 8 [.ref (B + 1), .ref (B + 5)]) := Fr.at0 frc13 (Ni.c ⟨(show NE (B + 4) (B + 27) by unfold NE; omega), (show NE (B + 4) (B + 28) by unfold NE; omega)⟩ (Ni.c ⟨(show NE (B + 4) (B + 5) by unfold NE; omega), (show NE (B + 4) (B + 6) by unfold NE; omega)⟩ (Ni.n _))) hw4
      have fk14_2 : hc12.2 (B + 7) = some (oB 2 [.ref (B + 1), .ref (B + 8), .ref (B + 10), .ref (B + 12), .ref (B + 14), .ref (B + 16), .ref (B + 18), .ref (B + 20), .ref (B + 22)]) := Fr.at0 frc13 (Ni.c ⟨(show NE (B + 7) (B + 27) by unfold NE; omega), (show NE (B + 7) (B + 28) by unfold NE; omega)⟩ (Ni.c ⟨(show NE (B + 7) (B + 5) by unfold NE; omega), (show NE (B + 7) (B + 6) by unfold NE; omega)⟩ (Ni.n _))) hw.1
      have fk14_3 : hc12.2 (B + 1) = some (oB 1 [.int (gI ((p : Int)))]) := Fr.at0 frc13 (Ni.c ⟨(show NE (B + 1) (B + 27) by unfold NE; omega), (show NE (B + 1) (B + 28) by unfold NE; omega)⟩ (Ni.c ⟨(show NE (B + 1) (B + 5) by unfold NE; omega), (show NE (B + 1) (B + 6) by unfold NE; omega)⟩ (Ni.n _))) hw.2.1
      have rk14_0 : PW p B hc12 := (hw).fr2 frc13 (ok_c (by omega) (ok_c (by omega) (fun _ h => absurd h (List.not_mem_nil))))
      have rk14_6 : CPt p B hc12 (c) X V := (hpt).fr frc13 (Ni.c ⟨(show NE (B + 24) (B + 27) by unfold NE; omega), (show NE (B + 24) (B + 28) by unfold NE; omega)⟩ (Ni.c ⟨(show NE (B + 24) (B + 5) by unfold NE; omega), (show NE (B + 24) (B + 6) by unfold NE; omega)⟩ (Ni.n _))) (Ni.c ⟨(show NE (B + 25) (B + 27) by unfold NE; omega), (show NE (B + 25) (B + 28) by unfold NE; omega)⟩ (Ni.c ⟨(show NE (B + 25) (B + 5) by unfold NE; omega), (show NE (B + 25) (B + 6) by unfold NE; omega)⟩ (Ni.n _))) (Ni.c ⟨(show NE (B + 26) (B + 27) by unfold NE; omega), (show NE (B + 26) (B + 28) by unfold NE; omega)⟩ (Ni.c ⟨(show NE (B + 26) (B + 5) by unfold NE; omega), (show NE (B + 26) (B + 6) by unfold NE; omega)⟩ (Ni.n _)))
      have rk14_7 : CP hp B hc12 (T) := (hT).fr frc13 (Ni.c ⟨(show NE (B + 2) (B + 27) by unfold NE; omega), (show NE (B + 2) (B + 28) by unfold NE; omega)⟩ (Ni.c ⟨(show NE (B + 2) (B + 5) by unfold NE; omega), (show NE (B + 2) (B + 6) by unfold NE; omega)⟩ (Ni.n _))) (Ni.c ⟨(show NE (B + 3) (B + 27) by unfold NE; omega), (show NE (B + 3) (B + 28) by unfold NE; omega)⟩ (Ni.c ⟨(show NE (B + 3) (B + 5) by unfold NE; omega), (show NE (B + 3) (B + 6) by unfold NE; omega)⟩ (Ni.n _))) (lo_c (by omega) (lo_c (by omega) (fun _ h => absurd h (List.not_mem_nil))))
      have rk5014_2 : RA 84 hc12 (B + 29) := (h29).fr frc13 (Ai.c (show AP (B + 29) (B + 27) by unfold AP; omega) (Ai.c (show AP (B + 29) (B + 5) by unfold AP; omega) (Ai.n _)))
      have rk5014_3 : RA 84 hc12 (B + 31) := (h31).fr frc13 (Ai.c (show AP (B + 31) (B + 27) by unfold AP; omega) (Ai.c (show AP (B + 31) (B + 5) by unfold AP; omega) (Ai.n _)))
      have rk5014_4 : RA 84 hc12 (B + 33) := (h33).fr frc13 (Ai.c (show AP (B + 33) (B + 27) by unfold AP; omega) (Ai.c (show AP (B + 33) (B + 5) by unfold AP; omega) (Ai.n _)))
      have rk5014_5 : PP hp hc12 (qa) (F) := (pp_a).fr frc13 (Ai.c (show AP (qa) (B + 27) by unfold AP; omega) (Ai.c (show AP (qa) (B + 5) by unfold AP; omega) (Ai.n _)))
      have rk5014_6 : PP hp hc12 (qb) (G) := (pp_b).fr frc13 (Ai.c (show AP (qb) (B + 27) by unfold AP; omega) (Ai.c (show AP (qb) (B + 5) by unfold AP; omega) (Ai.n _)))
      have fr14 : Fr [B + 27, B + 5] h hc12 := ((Fr.rf [B + 27, B + 5] h)).tr ((frc13).mo (sub_c (List.Mem.head _) (sub_c (List.Mem.tail _ (List.Mem.head _)) sub_n)))
      rcases hd13 with ⟨H, y1, rfl, y2⟩ | ⟨y1, rfl, y2⟩
      · skip
        refine Go.nf (h' := hc12) (st' := [.int (gI (1))]) rfl rfl (Nat.le_refl _) (Nat.le_refl _) ?_
        refine g_if_eq (tgt := 95) dX9_apply_88 rfl (by first | assumption | (unfold gW; omega)) (fun c15 => absurd c15 (by omega)) (fun c15 => ?_)
        refine g_iconst dX9_apply_91 ?_
        refine g_goto (tgt := 97) dX9_apply_92 rfl ?_
        refine g_istore (ls2 := [(7, .int (gI (0))), (6, .ref (qb)), (5, .ref (qa)), (4, .int (gI (0))), (0, .ref (B)), (1, .int (gI (2))), (2, .int (gI (a))), (3, .int (gI (b)))]) dX9_apply_97 (by decide) rfl ?_
        refine g_goto (tgt := 132) dX9_apply_99 rfl ?_
        refine g_iload 0 dX9_apply_132 rfl ?_
        refine g_if_ge (tgt := 142) dX9_apply_134 rfl (by first | assumption | (unfold gW; omega)) (fun c16 => ?_) (fun c16 => absurd c16 (by omega))
        refine g_aload_n 4 dX9_apply_142 rfl ?_
        refine g_aload_n 4 dX9_apply_143 rfl ?_
        refine g_getf 6 dX9_apply_144 kX9 (by decide) fX9_50 fk14_0 rfl ?_
        refine g_callV (nc2 := 2) (ns2 := 290) (ci := 9) (As := [.ref (B + 27)]) (st := []) rfl dX9_apply_147 okX9_keep lX9_103 itX9_keep seX9_keep rfl fk14_0 (by decide) (by decide) rfl (Nat.le_of_ble_eq_true rfl) (sC_keep N _ B p hp hp2 c X V fa sy T (H) (⟨fk14_0, rk14_0, fk14_1, pa5_13, (y2).ra, rk5014_2, rk5014_3, rk5014_4, rk14_6, (by rw [(fr14).1]; exact hlo)⟩) rk14_7 y2) (by omega) (by omega) (fun v17 hc17 q17 => ?_)
        obtain ⟨w18, hK18, rfl, cp18, fk18⟩ := q17
        have cs18 := CSt.fk ⟨fk14_0, rk14_0, fk14_1, pa5_13, (y2).ra, rk5014_2, rk5014_3, rk5014_4, rk14_6, (by rw [(fr14).1]; exact hlo)⟩ fk18
        have fz18 : FK (pK B) h hc17 := FK.tr (FK.fr fr14 (fun x e hx hk => Ni_hi hk.1 (hi_c (by omega) (hi_c (by omega) (fun _ h => absurd h (List.not_mem_nil)))))) (fk18.mo (fun x e _ hk => kpK_pK hk))
        refine Go.nf (h' := hc17) (st' := [.int (gI (w18))]) rfl rfl (Nat.le_refl _) (Nat.le_refl _) ?_
        exact g_iret dX9_apply_150 rfl ⟨fz18, w18, _, (by rw [ap2_s g_a g_b]; rw [y1]; exact ⟨hK18, rfl⟩), rfl, cs18, cp18⟩
      · skip
        refine Go.nf (h' := hc12) (st' := [.int (gI (0))]) rfl rfl (Nat.le_refl _) (Nat.le_refl _) ?_
        refine g_if_eq (tgt := 95) dX9_apply_88 rfl (by first | assumption | (unfold gW; omega)) (fun c19 => ?_) (fun c19 => absurd c19 (by omega))
        refine g_bipush dX9_apply_95 (by decide) ?_
        refine g_istore (ls2 := [(7, .int (gI (-4))), (6, .ref (qb)), (5, .ref (qa)), (4, .int (gI (0))), (0, .ref (B)), (1, .int (gI (2))), (2, .int (gI (a))), (3, .int (gI (b)))]) dX9_apply_97 (by decide) rfl ?_
        refine g_goto (tgt := 132) dX9_apply_99 rfl ?_
        refine g_iload 0 dX9_apply_132 rfl ?_
        refine g_if_ge (tgt := 142) dX9_apply_134 rfl (by first | assumption | (unfold gW; omega)) (fun c20 => absurd c20 (by omega)) (fun c20 => ?_)
        refine g_iload 0 dX9_apply_137 rfl ?_
        refine g_goto (tgt := 150) dX9_apply_139 rfl ?_
        exact g_iret dX9_apply_150 rfl ⟨(FK.fr fr14 (fun x e hx hk => Ni_hi hk.1 (hi_c (by omega) (hi_c (by omega) (fun _ h => absurd h (List.not_mem_nil)))))), (-4), T, (by rw [ap2_s g_a g_b]; rw [y1]; exact ⟨rfl, rfl⟩), rfl, ⟨fk14_0, rk14_0, fk14_1, pa5_13, y2, rk5014_2, rk5014_3, rk5014_4, rk14_6, (by rw [(fr14).1]; exact hlo)⟩, rk14_7⟩
    · skip
      refine Go.nf (h' := h) (st' := [.null]) hq10 rfl (Nat.le_refl _) (Nat.le_refl _) ?_
      refine g_astoreN (ls2 := [(6, .null), (5, .ref (qa)), (4, .int (gI (0))), (0, .ref (B)), (1, .int (gI (2))), (2, .int (gI (a))), (3, .int (gI (b)))]) dX9_apply_59 (by decide) rfl ?_
      refine g_aload 1 dX9_apply_61 rfl ?_
      refine g_ifnull (tgt := 71) dX9_apply_63 rfl ?_
      refine g_aloadN 0 dX9_apply_66 rfl ?_
      refine g_ifnnN (x := 0) (tgt := 73) dX9_apply_68 rfl ?_
      refine g_iconst dX9_apply_71 ?_
      exact g_iret dX9_apply_72 rfl ⟨(FK.fr (Fr.rf [B + 27, B + 5] h) (fun x e hx hk => Ni_hi hk.1 (hi_c (by omega) (hi_c (by omega) (fun _ h => absurd h (List.not_mem_nil)))))), (-1), T, (by rw [ap2_nb g_b]; exact ⟨rfl, rfl⟩), rfl, ⟨hob, hw, hw4, h5, h27, h29, h31, h33, hpt, (by rw [((Fr.rf [B + 27, B + 5] h)).1]; exact hlo)⟩, hT⟩
  · skip
    refine Go.nf (h' := h) (st' := [.null]) hq7 rfl (Nat.le_refl _) (Nat.le_refl _) ?_
    refine g_astoreN (ls2 := [(5, .null), (4, .int (gI (0))), (0, .ref (B)), (1, .int (gI (2))), (2, .int (gI (a))), (3, .int (gI (b)))]) dX9_apply_42 (by decide) rfl ?_
    refine g_iload 1 dX9_apply_44 rfl ?_
    refine g_if_eq (tgt := 54) dX9_apply_46 rfl (by first | assumption | (unfold gW; omega)) (fun c21 => ?_) (fun c21 => absurd c21 (by omega))
    refine g_aload_n 2 dX9_apply_54 rfl ?_
    refine g_iload_n 5 dX9_apply_55 rfl ?_
    refine g_callV (nc2 := 0) (ns2 := 0) (ci := 9) (As := [.int (gI (b))]) (st := []) rfl dX9_apply_56 okX9_find lX9_107 itX9_find seX9_find rfl hob (by decide) (by decide) rfl (Nat.le_of_ble_eq_true rfl) (sC_find N _ B p hp fa sy T (b) gW_b hob hT) (by omega) (by omega) (fun v22 hc22 q22 => ?_)
    obtain ⟨hq23, hr23⟩ := q22
    rcases hr23 with ⟨G, qb, g_b, rfl, l_b, pp_b⟩ | ⟨g_b, rfl⟩
    · skip
      refine Go.nf (h' := h) (st' := [.ref (qb)]) hq23 rfl (Nat.le_refl _) (Nat.le_refl _) ?_
      refine g_astore (ls2 := [(6, .ref (qb)), (5, .null), (4, .int (gI (0))), (0, .ref (B)), (1, .int (gI (2))), (2, .int (gI (a))), (3, .int (gI (b)))]) dX9_apply_59 (by decide) rfl ?_
      refine g_aloadN 1 dX9_apply_61 rfl ?_
      refine g_ifnullN (x := 0) (tgt := 71) dX9_apply_63 rfl ?_
      refine g_iconst dX9_apply_71 ?_
      exact g_iret dX9_apply_72 rfl ⟨(FK.fr (Fr.rf [B + 27, B + 5] h) (fun x e hx hk => Ni_hi hk.1 (hi_c (by omega) (hi_c (by omega) (fun _ h => absurd h (List.not_mem_nil)))))), (-1), T, (by rw [ap2_na g_a]; exact ⟨rfl, rfl⟩), rfl, ⟨hob, hw, hw4, h5, h27, h29, h31, h33, hpt, (by rw [((Fr.rf [B + 27, B + 5] h)).1]; exact hlo)⟩, hT⟩
    · skip
      refine Go.nf (h' := h) (st' := [.null]) hq23 rfl (Nat.le_refl _) (Nat.le_refl _) ?_
      refine g_astoreN (ls2 := [(6, .null), (5, .null), (4, .int (gI (0))), (0, .ref (B)), (1, .int (gI (2))), (2, .int (gI (a))), (3, .int (gI (b)))]) dX9_apply_59 (by decide) rfl ?_
      refine g_aloadN 1 dX9_apply_61 rfl ?_
      refine g_ifnullN (x := 0) (tgt := 71) dX9_apply_63 rfl ?_
      refine g_iconst dX9_apply_71 ?_
      exact g_iret dX9_apply_72 rfl ⟨(FK.fr (Fr.rf [B + 27, B + 5] h) (fun x e hx hk => Ni_hi hk.1 (hi_c (by omega) (hi_c (by omega) (fun _ h => absurd h (List.not_mem_nil)))))), (-1), T, (by rw [ap2_na g_a]; exact ⟨rfl, rfl⟩), rfl, ⟨hob, hw, hw4, h5, h27, h29, h31, h33, hpt, (by rw [((Fr.rf [B + 27, B + 5] h)).1]; exact hlo)⟩, hT⟩
set_option maxHeartbeats 4000000 in
set_option maxRecDepth 100000 in
theorem sC_apply3 (N : GN) (h : GH) (B p : Nat) (hp : prm p) (hp2 : p ≤ 65536) (c : Int) (X V : Int → Int) (fa sy : Value) (T : PT p) (a b : Int) (gW_a : gW a) (gW_b : gW b) (hcs : CSt p B h c X V fa sy) (hT : CP hp B h T)  : Sp N yX9_apply mX9_apply 2 290 [.ref (B), .int (gI (3)), .int (gI (a)), .int (gI (b))] h (fun v h1 => FK (pK B) h h1 ∧ ∃ w T2, Ou T (ap1 T a (rac1 hp 3)) w T2 ∧ v = some (.int (gI w)) ∧ CSt p B h1 c X V fa sy ∧ CP hp B h1 T2) := by
  refine Sp.of (by decide) rfl rfl (Nat.le_of_ble_eq_true rfl) ?_
  show Go N mX9_apply _ 2 290 h 0 [(0, .ref (B)), (1, .int (gI (3))), (2, .int (gI (a))), (3, .int (gI (b)))] []
  have hp1 := hp.1
  have hcs0 := hcs
  obtain ⟨hob, hw, hw4, h5, h27, h29, h31, h33, hpt, hlo⟩ := hcs0
  refine g_iload_n 1 dX9_apply_0 rfl ?_
  refine g_if_lt (tgt := 10) dX9_apply_1 rfl (by first | assumption | (unfold gW; omega)) (fun c1 => absurd c1 (by omega)) (fun c1 => ?_)
  refine g_iload_n 1 dX9_apply_4 rfl ?_
  refine g_bipush dX9_apply_5 (by decide) ?_
  refine g_icmp_le (tgt := 13) dX9_apply_7 rfl (by first | assumption | (unfold gW; omega)) (by first | assumption | (unfold gW; omega)) (fun c2 => ?_) (fun c2 => absurd c2 (by omega))
  refine g_iload_n 1 dX9_apply_13 rfl ?_
  refine g_iconst dX9_apply_14 ?_
  refine g_icmp_eq (tgt := 30) dX9_apply_15 rfl (by first | assumption | (unfold gW; omega)) (by first | assumption | (unfold gW; omega)) (fun c3 => ?_) (fun c3 => absurd c3 (by omega))
  refine g_iconst dX9_apply_30 ?_
  refine g_goto (tgt := 35) dX9_apply_31 rfl ?_
  refine g_istore (ls2 := [(4, .int (gI (1))), (0, .ref (B)), (1, .int (gI (3))), (2, .int (gI (a))), (3, .int (gI (b)))]) dX9_apply_35 (by decide) rfl ?_
  refine g_aload_n 1 dX9_apply_37 rfl ?_
  refine g_iload_n 3 dX9_apply_38 rfl ?_
  refine g_callV (nc2 := 0) (ns2 := 0) (ci := 9) (As := [.int (gI (a))]) (st := []) rfl dX9_apply_39 okX9_find lX9_107 itX9_find seX9_find rfl hob (by decide) (by decide) rfl (Nat.le_of_ble_eq_true rfl) (sC_find N _ B p hp fa sy T (a) gW_a hob hT) (by omega) (by omega) (fun v4 hc4 q4 => ?_)
  obtain ⟨hq5, hr5⟩ := q4
  rcases hr5 with ⟨F, qa, g_a, rfl, l_a, pp_a⟩ | ⟨g_a, rfl⟩
  · skip
    refine Go.nf (h' := h) (st' := [.ref (qa)]) hq5 rfl (Nat.le_refl _) (Nat.le_refl _) ?_
    refine g_astore (ls2 := [(5, .ref (qa)), (4, .int (gI (1))), (0, .ref (B)), (1, .int (gI (3))), (2, .int (gI (a))), (3, .int (gI (b)))]) dX9_apply_42 (by decide) rfl ?_
    refine g_iload 1 dX9_apply_44 rfl ?_
    refine g_if_eq (tgt := 54) dX9_apply_46 rfl (by first | assumption | (unfold gW; omega)) (fun c6 => absurd c6 (by omega)) (fun c6 => ?_)
    refine g_aload 0 dX9_apply_49 rfl ?_
    refine g_goto (tgt := 59) dX9_apply_51 rfl ?_
    refine g_astore (ls2 := [(6, .ref (qa)), (5, .ref (qa)), (4, .int (gI (1))), (0, .ref (B)), (1, .int (gI (3))), (2, .int (gI (a))), (3, .int (gI (b)))]) dX9_apply_59 (by decide) rfl ?_
    refine g_aload 1 dX9_apply_61 rfl ?_
    refine g_ifnull (tgt := 71) dX9_apply_63 rfl ?_
    refine g_aload 0 dX9_apply_66 rfl ?_
    refine g_ifnn (tgt := 73) dX9_apply_68 rfl ?_
    refine g_iload_n 4 dX9_apply_73 rfl ?_
    refine g_bipush dX9_apply_74 (by decide) ?_
    refine g_icmp_ge (tgt := 102) dX9_apply_76 rfl (by first | assumption | (unfold gW; omega)) (by first | assumption | (unfold gW; omega)) (fun c7 => absurd c7 (by omega)) (fun c7 => ?_)
    refine g_aload_n 3 dX9_apply_79 rfl ?_
    refine g_iload_n 4 dX9_apply_80 rfl ?_
    refine g_aload 1 dX9_apply_81 rfl ?_
    refine g_aload 0 dX9_apply_83 rfl ?_
    refine g_callV (nc2 := 0) (ns2 := 0) (ci := 9) (As := [.int (gI (3)), .ref (qa), .ref (qa)]) (st := []) rfl dX9_apply_85 okX9_wholeAct lX9_111 itX9_wholeAct seX9_wholeAct rfl hob (by decide) (by decide) rfl (Nat.le_of_ble_eq_true rfl) (sC_wholeAct3 N _ B p hp hp2 fa sy qa qa F F hob hw4 hw.2.1 h5 h27 (by omega) (by omega) pp_a pp_a) (by omega) (by omega) (fun v8 hc8 q8 => ?_)
    obtain ⟨frc9, pa5_9, hd9⟩ := q8
    have fk10_0 : hc8.2 (B) = some (cO B (fa) (sy)) := Fr.at0 frc9 (Ni.c ⟨(show NE (B) (B + 27) by unfold NE; omega), (show NE (B) (B + 28) by unfold NE; omega)⟩ (Ni.c ⟨(show NE (B) (B + 5) by unfold NE; omega), (show NE (B) (B + 6) by unfold NE; omega)⟩ (Ni.n _))) hob
    have fk10_1 : hc8.2 (B + 4) = some (oB 8 [.ref (B + 1), .ref (B + 5)]) := Fr.at0 frc9 (Ni.c ⟨(show NE (B + 4) (B + 27) by unfold NE; omega), (show NE (B + 4) (B + 28) by unfold NE; omega)⟩ (Ni.c ⟨(show NE (B + 4) (B + 5) by unfold NE; omega), (show NE (B + 4) (B + 6) by unfold NE; omega)⟩ (Ni.n _))) hw4
    have fk10_2 : hc8.2 (B + 7) = some (oB 2 [.ref (B + 1), .ref (B + 8), .ref (B + 10), .ref (B + 12), .ref (B + 14), .ref (B + 16), .ref (B + 18), .ref (B + 20), .ref (B + 22)]) := Fr.at0 frc9 (Ni.c ⟨(show NE (B + 7) (B + 27) by unfold NE; omega), (show NE (B + 7) (B + 28) by unfold NE; omega)⟩ (Ni.c ⟨(show NE (B + 7) (B + 5) by unfold NE; omega), (show NE (B + 7) (B + 6) by unfold NE; omega)⟩ (Ni.n _))) hw.1
    have fk10_3 : hc8.2 (B + 1) = some (oB 1 [.int (gI ((p : Int)))]) := Fr.at0 frc9 (Ni.c ⟨(show NE (B + 1) (B + 27) by unfold NE; omega), (show NE (B + 1) (B + 28) by unfold NE; omega)⟩ (Ni.c ⟨(show NE (B + 1) (B + 5) by unfold NE; omega), (show NE (B + 1) (B + 6) by unfold NE; omega)⟩ (Ni.n _))) hw.2.1
    have rk10_0 : PW p B hc8 := (hw).fr2 frc9 (ok_c (by omega) (ok_c (by omega) (fun _ h => absurd h (List.not_mem_nil))))
    have rk10_6 : CPt p B hc8 (c) X V := (hpt).fr frc9 (Ni.c ⟨(show NE (B + 24) (B + 27) by unfold NE; omega), (show NE (B + 24) (B + 28) by unfold NE; omega)⟩ (Ni.c ⟨(show NE (B + 24) (B + 5) by unfold NE; omega), (show NE (B + 24) (B + 6) by unfold NE; omega)⟩ (Ni.n _))) (Ni.c ⟨(show NE (B + 25) (B + 27) by unfold NE; omega), (show NE (B + 25) (B + 28) by unfold NE; omega)⟩ (Ni.c ⟨(show NE (B + 25) (B + 5) by unfold NE; omega), (show NE (B + 25) (B + 6) by unfold NE; omega)⟩ (Ni.n _))) (Ni.c ⟨(show NE (B + 26) (B + 27) by unfold NE; omega), (show NE (B + 26) (B + 28) by unfold NE; omega)⟩ (Ni.c ⟨(show NE (B + 26) (B + 5) by unfold NE; omega), (show NE (B + 26) (B + 6) by unfold NE; omega)⟩ (Ni.n _)))
    have rk10_7 : CP hp B hc8 (T) := (hT).fr frc9 (Ni.c ⟨(show NE (B + 2) (B + 27) by unfold NE; omega), (show NE (B + 2) (B + 28) by unfold NE; omega)⟩ (Ni.c ⟨(show NE (B + 2) (B + 5) by unfold NE; omega), (show NE (B + 2) (B + 6) by unfold NE; omega)⟩ (Ni.n _))) (Ni.c ⟨(show NE (B + 3) (B + 27) by unfold NE; omega), (show NE (B + 3) (B + 28) by unfold NE; omega)⟩ (Ni.c ⟨(show NE (B + 3) (B + 5) by unfold NE; omega), (show NE (B + 3) (B + 6) by unfold NE; omega)⟩ (Ni.n _))) (lo_c (by omega) (lo_c (by omega) (fun _ h => absurd h (List.not_mem_nil))))
    have rk5010_2 : RA 84 hc8 (B + 29) := (h29).fr frc9 (Ai.c (show AP (B + 29) (B + 27) by unfold AP; omega) (Ai.c (show AP (B + 29) (B + 5) by unfold AP; omega) (Ai.n _)))
    have rk5010_3 : RA 84 hc8 (B + 31) := (h31).fr frc9 (Ai.c (show AP (B + 31) (B + 27) by unfold AP; omega) (Ai.c (show AP (B + 31) (B + 5) by unfold AP; omega) (Ai.n _)))
    have rk5010_4 : RA 84 hc8 (B + 33) := (h33).fr frc9 (Ai.c (show AP (B + 33) (B + 27) by unfold AP; omega) (Ai.c (show AP (B + 33) (B + 5) by unfold AP; omega) (Ai.n _)))
    have rk5010_5 : PP hp hc8 (qa) (F) := (pp_a).fr frc9 (Ai.c (show AP (qa) (B + 27) by unfold AP; omega) (Ai.c (show AP (qa) (B + 5) by unfold AP; omega) (Ai.n _)))
    have fr10 : Fr [B + 27, B + 5] h hc8 := ((Fr.rf [B + 27, B + 5] h)).tr ((frc9).mo (sub_c (List.Mem.head _) (sub_c (List.Mem.tail _ (List.Mem.head _)) sub_n)))
    rcases hd9 with ⟨H, y1, rfl, y2⟩ | ⟨y1, rfl, y2⟩
    · skip
      refine Go.nf (h' := hc8) (st' := [.int (gI (1))]) rfl rfl (Nat.le_refl _) (Nat.le_refl _) ?_
      refine g_if_eq (tgt := 95) dX9_apply_88 rfl (by first | assumption | (unfold gW; omega)) (fun c11 => absurd c11 (by omega)) (fun c11 => ?_)
      refine g_iconst dX9_apply_91 ?_
      refine g_goto (tgt := 97) dX9_apply_92 rfl ?_
      refine g_istore (ls2 := [(7, .int (gI (0))), (6, .ref (qa)), (5, .ref (qa)), (4, .int (gI (1))), (0, .ref (B)), (1, .int (gI (3))), (2, .int (gI (a))), (3, .int (gI (b)))]) dX9_apply_97 (by decide) rfl ?_
      refine g_goto (tgt := 132) dX9_apply_99 rfl ?_
      refine g_iload 0 dX9_apply_132 rfl ?_
      refine g_if_ge (tgt := 142) dX9_apply_134 rfl (by first | assumption | (unfold gW; omega)) (fun c12 => ?_) (fun c12 => absurd c12 (by omega))
      refine g_aload_n 4 dX9_apply_142 rfl ?_
      refine g_aload_n 4 dX9_apply_143 rfl ?_
      refine g_getf 6 dX9_apply_144 kX9 (by decide) fX9_50 fk10_0 rfl ?_
      refine g_callV (nc2 := 2) (ns2 := 290) (ci := 9) (As := [.ref (B + 27)]) (st := []) rfl dX9_apply_147 okX9_keep lX9_103 itX9_keep seX9_keep rfl fk10_0 (by decide) (by decide) rfl (Nat.le_of_ble_eq_true rfl) (sC_keep N _ B p hp hp2 c X V fa sy T (H) (⟨fk10_0, rk10_0, fk10_1, pa5_9, (y2).ra, rk5010_2, rk5010_3, rk5010_4, rk10_6, (by rw [(fr10).1]; exact hlo)⟩) rk10_7 y2) (by omega) (by omega) (fun v13 hc13 q13 => ?_)
      obtain ⟨w14, hK14, rfl, cp14, fk14⟩ := q13
      have cs14 := CSt.fk ⟨fk10_0, rk10_0, fk10_1, pa5_9, (y2).ra, rk5010_2, rk5010_3, rk5010_4, rk10_6, (by rw [(fr10).1]; exact hlo)⟩ fk14
      have fz14 : FK (pK B) h hc13 := FK.tr (FK.fr fr10 (fun x e hx hk => Ni_hi hk.1 (hi_c (by omega) (hi_c (by omega) (fun _ h => absurd h (List.not_mem_nil)))))) (fk14.mo (fun x e _ hk => kpK_pK hk))
      refine Go.nf (h' := hc13) (st' := [.int (gI (w14))]) rfl rfl (Nat.le_refl _) (Nat.le_refl _) ?_
      exact g_iret dX9_apply_150 rfl ⟨fz14, w14, _, (by rw [ap1_s g_a]; rw [y1]; exact ⟨hK14, rfl⟩), rfl, cs14, cp14⟩
    · skip
      refine Go.nf (h' := hc8) (st' := [.int (gI (0))]) rfl rfl (Nat.le_refl _) (Nat.le_refl _) ?_
      refine g_if_eq (tgt := 95) dX9_apply_88 rfl (by first | assumption | (unfold gW; omega)) (fun c15 => ?_) (fun c15 => absurd c15 (by omega))
      refine g_bipush dX9_apply_95 (by decide) ?_
      refine g_istore (ls2 := [(7, .int (gI (-4))), (6, .ref (qa)), (5, .ref (qa)), (4, .int (gI (1))), (0, .ref (B)), (1, .int (gI (3))), (2, .int (gI (a))), (3, .int (gI (b)))]) dX9_apply_97 (by decide) rfl ?_
      refine g_goto (tgt := 132) dX9_apply_99 rfl ?_
      refine g_iload 0 dX9_apply_132 rfl ?_
      refine g_if_ge (tgt := 142) dX9_apply_134 rfl (by first | assumption | (unfold gW; omega)) (fun c16 => absurd c16 (by omega)) (fun c16 => ?_)
      refine g_iload 0 dX9_apply_137 rfl ?_
      refine g_goto (tgt := 150) dX9_apply_139 rfl ?_
      exact g_iret dX9_apply_150 rfl ⟨(FK.fr fr10 (fun x e hx hk => Ni_hi hk.1 (hi_c (by omega) (hi_c (by omega) (fun _ h => absurd h (List.not_mem_nil)))))), (-4), T, (by rw [ap1_s g_a]; rw [y1]; exact ⟨rfl, rfl⟩), rfl, ⟨fk10_0, rk10_0, fk10_1, pa5_9, y2, rk5010_2, rk5010_3, rk5010_4, rk10_6, (by rw [(fr10).1]; exact hlo)⟩, rk10_7⟩
  · skip
    refine Go.nf (h' := h) (st' := [.null]) hq5 rfl (Nat.le_refl _) (Nat.le_refl _) ?_
    refine g_astoreN (ls2 := [(5, .null), (4, .int (gI (1))), (0, .ref (B)), (1, .int (gI (3))), (2, .int (gI (a))), (3, .int (gI (b)))]) dX9_apply_42 (by decide) rfl ?_
    refine g_iload 1 dX9_apply_44 rfl ?_
    refine g_if_eq (tgt := 54) dX9_apply_46 rfl (by first | assumption | (unfold gW; omega)) (fun c17 => absurd c17 (by omega)) (fun c17 => ?_)
    refine g_aloadN 0 dX9_apply_49 rfl ?_
    refine g_goto (tgt := 59) dX9_apply_51 rfl ?_
    refine g_astoreN (ls2 := [(6, .null), (5, .null), (4, .int (gI (1))), (0, .ref (B)), (1, .int (gI (3))), (2, .int (gI (a))), (3, .int (gI (b)))]) dX9_apply_59 (by decide) rfl ?_
    refine g_aloadN 1 dX9_apply_61 rfl ?_
    refine g_ifnullN (x := 0) (tgt := 71) dX9_apply_63 rfl ?_
    refine g_iconst dX9_apply_71 ?_
    exact g_iret dX9_apply_72 rfl ⟨(FK.fr (Fr.rf [B + 27, B + 5] h) (fun x e hx hk => Ni_hi hk.1 (hi_c (by omega) (hi_c (by omega) (fun _ h => absurd h (List.not_mem_nil)))))), (-1), T, (by rw [ap1_n g_a]; exact ⟨rfl, rfl⟩), rfl, ⟨hob, hw, hw4, h5, h27, h29, h31, h33, hpt, (by rw [((Fr.rf [B + 27, B + 5] h)).1]; exact hlo)⟩, hT⟩
set_option maxHeartbeats 4000000 in
set_option maxRecDepth 100000 in
theorem sC_apply4 (N : GN) (h : GH) (B p : Nat) (hp : prm p) (hp2 : p ≤ 65536) (c : Int) (X V : Int → Int) (fa sy : Value) (T : PT p) (a b : Int) (gW_a : gW a) (gW_b : gW b) (hcs : CSt p B h c X V fa sy) (hT : CP hp B h T)  : Sp N yX9_apply mX9_apply 2 290 [.ref (B), .int (gI (4)), .int (gI (a)), .int (gI (b))] h (fun v h1 => FK (pK B) h h1 ∧ ∃ w T2, Ou T (ap2 T a b (rac hp 4)) w T2 ∧ v = some (.int (gI w)) ∧ CSt p B h1 c X V fa sy ∧ CP hp B h1 T2) := by
  refine Sp.of (by decide) rfl rfl (Nat.le_of_ble_eq_true rfl) ?_
  show Go N mX9_apply _ 2 290 h 0 [(0, .ref (B)), (1, .int (gI (4))), (2, .int (gI (a))), (3, .int (gI (b)))] []
  have hp1 := hp.1
  have hcs0 := hcs
  obtain ⟨hob, hw, hw4, h5, h27, h29, h31, h33, hpt, hlo⟩ := hcs0
  refine g_iload_n 1 dX9_apply_0 rfl ?_
  refine g_if_lt (tgt := 10) dX9_apply_1 rfl (by first | assumption | (unfold gW; omega)) (fun c1 => absurd c1 (by omega)) (fun c1 => ?_)
  refine g_iload_n 1 dX9_apply_4 rfl ?_
  refine g_bipush dX9_apply_5 (by decide) ?_
  refine g_icmp_le (tgt := 13) dX9_apply_7 rfl (by first | assumption | (unfold gW; omega)) (by first | assumption | (unfold gW; omega)) (fun c2 => ?_) (fun c2 => absurd c2 (by omega))
  refine g_iload_n 1 dX9_apply_13 rfl ?_
  refine g_iconst dX9_apply_14 ?_
  refine g_icmp_eq (tgt := 30) dX9_apply_15 rfl (by first | assumption | (unfold gW; omega)) (by first | assumption | (unfold gW; omega)) (fun c3 => absurd c3 (by omega)) (fun c3 => ?_)
  refine g_iload_n 1 dX9_apply_18 rfl ?_
  refine g_bipush dX9_apply_19 (by decide) ?_
  refine g_icmp_eq (tgt := 30) dX9_apply_21 rfl (by first | assumption | (unfold gW; omega)) (by first | assumption | (unfold gW; omega)) (fun c4 => absurd c4 (by omega)) (fun c4 => ?_)
  refine g_iload_n 1 dX9_apply_24 rfl ?_
  refine g_bipush dX9_apply_25 (by decide) ?_
  refine g_icmp_ne (tgt := 34) dX9_apply_27 rfl (by first | assumption | (unfold gW; omega)) (by first | assumption | (unfold gW; omega)) (fun c5 => ?_) (fun c5 => absurd c5 (by omega))
  refine g_iconst dX9_apply_34 ?_
  refine g_istore (ls2 := [(4, .int (gI (0))), (0, .ref (B)), (1, .int (gI (4))), (2, .int (gI (a))), (3, .int (gI (b)))]) dX9_apply_35 (by decide) rfl ?_
  refine g_aload_n 1 dX9_apply_37 rfl ?_
  refine g_iload_n 3 dX9_apply_38 rfl ?_
  refine g_callV (nc2 := 0) (ns2 := 0) (ci := 9) (As := [.int (gI (a))]) (st := []) rfl dX9_apply_39 okX9_find lX9_107 itX9_find seX9_find rfl hob (by decide) (by decide) rfl (Nat.le_of_ble_eq_true rfl) (sC_find N _ B p hp fa sy T (a) gW_a hob hT) (by omega) (by omega) (fun v6 hc6 q6 => ?_)
  obtain ⟨hq7, hr7⟩ := q6
  rcases hr7 with ⟨F, qa, g_a, rfl, l_a, pp_a⟩ | ⟨g_a, rfl⟩
  · skip
    refine Go.nf (h' := h) (st' := [.ref (qa)]) hq7 rfl (Nat.le_refl _) (Nat.le_refl _) ?_
    refine g_astore (ls2 := [(5, .ref (qa)), (4, .int (gI (0))), (0, .ref (B)), (1, .int (gI (4))), (2, .int (gI (a))), (3, .int (gI (b)))]) dX9_apply_42 (by decide) rfl ?_
    refine g_iload 1 dX9_apply_44 rfl ?_
    refine g_if_eq (tgt := 54) dX9_apply_46 rfl (by first | assumption | (unfold gW; omega)) (fun c8 => ?_) (fun c8 => absurd c8 (by omega))
    refine g_aload_n 2 dX9_apply_54 rfl ?_
    refine g_iload_n 5 dX9_apply_55 rfl ?_
    refine g_callV (nc2 := 0) (ns2 := 0) (ci := 9) (As := [.int (gI (b))]) (st := []) rfl dX9_apply_56 okX9_find lX9_107 itX9_find seX9_find rfl hob (by decide) (by decide) rfl (Nat.le_of_ble_eq_true rfl) (sC_find N _ B p hp fa sy T (b) gW_b hob hT) (by omega) (by omega) (fun v9 hc9 q9 => ?_)
    obtain ⟨hq10, hr10⟩ := q9
    rcases hr10 with ⟨G, qb, g_b, rfl, l_b, pp_b⟩ | ⟨g_b, rfl⟩
    · skip
      refine Go.nf (h' := h) (st' := [.ref (qb)]) hq10 rfl (Nat.le_refl _) (Nat.le_refl _) ?_
      refine g_astore (ls2 := [(6, .ref (qb)), (5, .ref (qa)), (4, .int (gI (0))), (0, .ref (B)), (1, .int (gI (4))), (2, .int (gI (a))), (3, .int (gI (b)))]) dX9_apply_59 (by decide) rfl ?_
      refine g_aload 1 dX9_apply_61 rfl ?_
      refine g_ifnull (tgt := 71) dX9_apply_63 rfl ?_
      refine g_aload 0 dX9_apply_66 rfl ?_
      refine g_ifnn (tgt := 73) dX9_apply_68 rfl ?_
      refine g_iload_n 4 dX9_apply_73 rfl ?_
      refine g_bipush dX9_apply_74 (by decide) ?_
      refine g_icmp_ge (tgt := 102) dX9_apply_76 rfl (by first | assumption | (unfold gW; omega)) (by first | assumption | (unfold gW; omega)) (fun c11 => absurd c11 (by omega)) (fun c11 => ?_)
      refine g_aload_n 3 dX9_apply_79 rfl ?_
      refine g_iload_n 4 dX9_apply_80 rfl ?_
      refine g_aload 1 dX9_apply_81 rfl ?_
      refine g_aload 0 dX9_apply_83 rfl ?_
      refine g_callV (nc2 := 0) (ns2 := 0) (ci := 9) (As := [.int (gI (4)), .ref (qa), .ref (qb)]) (st := []) rfl dX9_apply_85 okX9_wholeAct lX9_111 itX9_wholeAct seX9_wholeAct rfl hob (by decide) (by decide) rfl (Nat.le_of_ble_eq_true rfl) (sC_wholeAct4 N _ B p hp hp2 fa sy qa qb F G hob hw4 hw.2.1 h5 h27 (by omega) (by omega) pp_a pp_b) (by omega) (by omega) (fun v12 hc12 q12 => ?_)
      obtain ⟨frc13, pa5_13, hd13⟩ := q12
      have fk14_0 : hc12.2 (B) = some (cO B (fa) (sy)) := Fr.at0 frc13 (Ni.c ⟨(show NE (B) (B + 27) by unfold NE; omega), (show NE (B) (B + 28) by unfold NE; omega)⟩ (Ni.c ⟨(show NE (B) (B + 5) by unfold NE; omega), (show NE (B) (B + 6) by unfold NE; omega)⟩ (Ni.n _))) hob
      have fk14_1 : hc12.2 (B + 4) = some (oB 8 [.ref (B + 1), .ref (B + 5)]) := Fr.at0 frc13 (Ni.c ⟨(show NE (B + 4) (B + 27) by unfold NE; omega), (show NE (B + 4) (B + 28) by unfold NE; omega)⟩ (Ni.c ⟨(show NE (B + 4) (B + 5) by unfold NE; omega), (show NE (B + 4) (B + 6) by unfold NE; omega)⟩ (Ni.n _))) hw4
      have fk14_2 : hc12.2 (B + 7) = some (oB 2 [.ref (B + 1), .ref (B + 8), .ref (B + 10), .ref (B + 12), .ref (B + 14), .ref (B + 16), .ref (B + 18), .ref (B + 20), .ref (B + 22)]) := Fr.at0 frc13 (Ni.c ⟨(show NE (B + 7) (B + 27) by unfold NE; omega), (show NE (B + 7) (B + 28) by unfold NE; omega)⟩ (Ni.c ⟨(show NE (B + 7) (B + 5) by unfold NE; omega), (show NE (B + 7) (B + 6) by unfold NE; omega)⟩ (Ni.n _))) hw.1
      have fk14_3 : hc12.2 (B + 1) = some (oB 1 [.int (gI ((p : Int)))]) := Fr.at0 frc13 (Ni.c ⟨(show NE (B + 1) (B + 27) by unfold NE; omega), (show NE (B + 1) (B + 28) by unfold NE; omega)⟩ (Ni.c ⟨(show NE (B + 1) (B + 5) by unfold NE; omega), (show NE (B + 1) (B + 6) by unfold NE; omega)⟩ (Ni.n _))) hw.2.1
      have rk14_0 : PW p B hc12 := (hw).fr2 frc13 (ok_c (by omega) (ok_c (by omega) (fun _ h => absurd h (List.not_mem_nil))))
      have rk14_6 : CPt p B hc12 (c) X V := (hpt).fr frc13 (Ni.c ⟨(show NE (B + 24) (B + 27) by unfold NE; omega), (show NE (B + 24) (B + 28) by unfold NE; omega)⟩ (Ni.c ⟨(show NE (B + 24) (B + 5) by unfold NE; omega), (show NE (B + 24) (B + 6) by unfold NE; omega)⟩ (Ni.n _))) (Ni.c ⟨(show NE (B + 25) (B + 27) by unfold NE; omega), (show NE (B + 25) (B + 28) by unfold NE; omega)⟩ (Ni.c ⟨(show NE (B + 25) (B + 5) by unfold NE; omega), (show NE (B + 25) (B + 6) by unfold NE; omega)⟩ (Ni.n _))) (Ni.c ⟨(show NE (B + 26) (B + 27) by unfold NE; omega), (show NE (B + 26) (B + 28) by unfold NE; omega)⟩ (Ni.c ⟨(show NE (B + 26) (B + 5) by unfold NE; omega), (show NE (B + 26) (B + 6) by unfold NE; omega)⟩ (Ni.n _)))
      have rk14_7 : CP hp B hc12 (T) := (hT).fr frc13 (Ni.c ⟨(show NE (B + 2) (B + 27) by unfold NE; omega), (show NE (B + 2) (B + 28) by unfold NE; omega)⟩ (Ni.c ⟨(show NE (B + 2) (B + 5) by unfold NE; omega), (show NE (B + 2) (B + 6) by unfold NE; omega)⟩ (Ni.n _))) (Ni.c ⟨(show NE (B + 3) (B + 27) by unfold NE; omega), (show NE (B + 3) (B + 28) by unfold NE; omega)⟩ (Ni.c ⟨(show NE (B + 3) (B + 5) by unfold NE; omega), (show NE (B + 3) (B + 6) by unfold NE; omega)⟩ (Ni.n _))) (lo_c (by omega) (lo_c (by omega) (fun _ h => absurd h (List.not_mem_nil))))
      have rk5014_2 : RA 84 hc12 (B + 29) := (h29).fr frc13 (Ai.c (show AP (B + 29) (B + 27) by unfold AP; omega) (Ai.c (show AP (B + 29) (B + 5) by unfold AP; omega) (Ai.n _)))
      have rk5014_3 : RA 84 hc12 (B + 31) := (h31).fr frc13 (Ai.c (show AP (B + 31) (B + 27) by unfold AP; omega) (Ai.c (show AP (B + 31) (B + 5) by unfold AP; omega) (Ai.n _)))
      have rk5014_4 : RA 84 hc12 (B + 33) := (h33).fr frc13 (Ai.c (show AP (B + 33) (B + 27) by unfold AP; omega) (Ai.c (show AP (B + 33) (B + 5) by unfold AP; omega) (Ai.n _)))
      have rk5014_5 : PP hp hc12 (qa) (F) := (pp_a).fr frc13 (Ai.c (show AP (qa) (B + 27) by unfold AP; omega) (Ai.c (show AP (qa) (B + 5) by unfold AP; omega) (Ai.n _)))
      have rk5014_6 : PP hp hc12 (qb) (G) := (pp_b).fr frc13 (Ai.c (show AP (qb) (B + 27) by unfold AP; omega) (Ai.c (show AP (qb) (B + 5) by unfold AP; omega) (Ai.n _)))
      have fr14 : Fr [B + 27, B + 5] h hc12 := ((Fr.rf [B + 27, B + 5] h)).tr ((frc13).mo (sub_c (List.Mem.head _) (sub_c (List.Mem.tail _ (List.Mem.head _)) sub_n)))
      rcases hd13 with ⟨H, y1, rfl, y2⟩ | ⟨y1, rfl, y2⟩
      · skip
        refine Go.nf (h' := hc12) (st' := [.int (gI (1))]) rfl rfl (Nat.le_refl _) (Nat.le_refl _) ?_
        refine g_if_eq (tgt := 95) dX9_apply_88 rfl (by first | assumption | (unfold gW; omega)) (fun c15 => absurd c15 (by omega)) (fun c15 => ?_)
        refine g_iconst dX9_apply_91 ?_
        refine g_goto (tgt := 97) dX9_apply_92 rfl ?_
        refine g_istore (ls2 := [(7, .int (gI (0))), (6, .ref (qb)), (5, .ref (qa)), (4, .int (gI (0))), (0, .ref (B)), (1, .int (gI (4))), (2, .int (gI (a))), (3, .int (gI (b)))]) dX9_apply_97 (by decide) rfl ?_
        refine g_goto (tgt := 132) dX9_apply_99 rfl ?_
        refine g_iload 0 dX9_apply_132 rfl ?_
        refine g_if_ge (tgt := 142) dX9_apply_134 rfl (by first | assumption | (unfold gW; omega)) (fun c16 => ?_) (fun c16 => absurd c16 (by omega))
        refine g_aload_n 4 dX9_apply_142 rfl ?_
        refine g_aload_n 4 dX9_apply_143 rfl ?_
        refine g_getf 6 dX9_apply_144 kX9 (by decide) fX9_50 fk14_0 rfl ?_
        refine g_callV (nc2 := 2) (ns2 := 290) (ci := 9) (As := [.ref (B + 27)]) (st := []) rfl dX9_apply_147 okX9_keep lX9_103 itX9_keep seX9_keep rfl fk14_0 (by decide) (by decide) rfl (Nat.le_of_ble_eq_true rfl) (sC_keep N _ B p hp hp2 c X V fa sy T (H) (⟨fk14_0, rk14_0, fk14_1, pa5_13, (y2).ra, rk5014_2, rk5014_3, rk5014_4, rk14_6, (by rw [(fr14).1]; exact hlo)⟩) rk14_7 y2) (by omega) (by omega) (fun v17 hc17 q17 => ?_)
        obtain ⟨w18, hK18, rfl, cp18, fk18⟩ := q17
        have cs18 := CSt.fk ⟨fk14_0, rk14_0, fk14_1, pa5_13, (y2).ra, rk5014_2, rk5014_3, rk5014_4, rk14_6, (by rw [(fr14).1]; exact hlo)⟩ fk18
        have fz18 : FK (pK B) h hc17 := FK.tr (FK.fr fr14 (fun x e hx hk => Ni_hi hk.1 (hi_c (by omega) (hi_c (by omega) (fun _ h => absurd h (List.not_mem_nil)))))) (fk18.mo (fun x e _ hk => kpK_pK hk))
        refine Go.nf (h' := hc17) (st' := [.int (gI (w18))]) rfl rfl (Nat.le_refl _) (Nat.le_refl _) ?_
        exact g_iret dX9_apply_150 rfl ⟨fz18, w18, _, (by rw [ap2_s g_a g_b]; rw [y1]; exact ⟨hK18, rfl⟩), rfl, cs18, cp18⟩
      · skip
        refine Go.nf (h' := hc12) (st' := [.int (gI (0))]) rfl rfl (Nat.le_refl _) (Nat.le_refl _) ?_
        refine g_if_eq (tgt := 95) dX9_apply_88 rfl (by first | assumption | (unfold gW; omega)) (fun c19 => ?_) (fun c19 => absurd c19 (by omega))
        refine g_bipush dX9_apply_95 (by decide) ?_
        refine g_istore (ls2 := [(7, .int (gI (-4))), (6, .ref (qb)), (5, .ref (qa)), (4, .int (gI (0))), (0, .ref (B)), (1, .int (gI (4))), (2, .int (gI (a))), (3, .int (gI (b)))]) dX9_apply_97 (by decide) rfl ?_
        refine g_goto (tgt := 132) dX9_apply_99 rfl ?_
        refine g_iload 0 dX9_apply_132 rfl ?_
        refine g_if_ge (tgt := 142) dX9_apply_134 rfl (by first | assumption | (unfold gW; omega)) (fun c20 => absurd c20 (by omega)) (fun c20 => ?_)
        refine g_iload 0 dX9_apply_137 rfl ?_
        refine g_goto (tgt := 150) dX9_apply_139 rfl ?_
        exact g_iret dX9_apply_150 rfl ⟨(FK.fr fr14 (fun x e hx hk => Ni_hi hk.1 (hi_c (by omega) (hi_c (by omega) (fun _ h => absurd h (List.not_mem_nil)))))), (-4), T, (by rw [ap2_s g_a g_b]; rw [y1]; exact ⟨rfl, rfl⟩), rfl, ⟨fk14_0, rk14_0, fk14_1, pa5_13, y2, rk5014_2, rk5014_3, rk5014_4, rk14_6, (by rw [(fr14).1]; exact hlo)⟩, rk14_7⟩
    · skip
      refine Go.nf (h' := h) (st' := [.null]) hq10 rfl (Nat.le_refl _) (Nat.le_refl _) ?_
      refine g_astoreN (ls2 := [(6, .null), (5, .ref (qa)), (4, .int (gI (0))), (0, .ref (B)), (1, .int (gI (4))), (2, .int (gI (a))), (3, .int (gI (b)))]) dX9_apply_59 (by decide) rfl ?_
      refine g_aload 1 dX9_apply_61 rfl ?_
      refine g_ifnull (tgt := 71) dX9_apply_63 rfl ?_
      refine g_aloadN 0 dX9_apply_66 rfl ?_
      refine g_ifnnN (x := 0) (tgt := 73) dX9_apply_68 rfl ?_
      refine g_iconst dX9_apply_71 ?_
      exact g_iret dX9_apply_72 rfl ⟨(FK.fr (Fr.rf [B + 27, B + 5] h) (fun x e hx hk => Ni_hi hk.1 (hi_c (by omega) (hi_c (by omega) (fun _ h => absurd h (List.not_mem_nil)))))), (-1), T, (by rw [ap2_nb g_b]; exact ⟨rfl, rfl⟩), rfl, ⟨hob, hw, hw4, h5, h27, h29, h31, h33, hpt, (by rw [((Fr.rf [B + 27, B + 5] h)).1]; exact hlo)⟩, hT⟩
  · skip
    refine Go.nf (h' := h) (st' := [.null]) hq7 rfl (Nat.le_refl _) (Nat.le_refl _) ?_
    refine g_astoreN (ls2 := [(5, .null), (4, .int (gI (0))), (0, .ref (B)), (1, .int (gI (4))), (2, .int (gI (a))), (3, .int (gI (b)))]) dX9_apply_42 (by decide) rfl ?_
    refine g_iload 1 dX9_apply_44 rfl ?_
    refine g_if_eq (tgt := 54) dX9_apply_46 rfl (by first | assumption | (unfold gW; omega)) (fun c21 => ?_) (fun c21 => absurd c21 (by omega))
    refine g_aload_n 2 dX9_apply_54 rfl ?_
    refine g_iload_n 5 dX9_apply_55 rfl ?_
    refine g_callV (nc2 := 0) (ns2 := 0) (ci := 9) (As := [.int (gI (b))]) (st := []) rfl dX9_apply_56 okX9_find lX9_107 itX9_find seX9_find rfl hob (by decide) (by decide) rfl (Nat.le_of_ble_eq_true rfl) (sC_find N _ B p hp fa sy T (b) gW_b hob hT) (by omega) (by omega) (fun v22 hc22 q22 => ?_)
    obtain ⟨hq23, hr23⟩ := q22
    rcases hr23 with ⟨G, qb, g_b, rfl, l_b, pp_b⟩ | ⟨g_b, rfl⟩
    · skip
      refine Go.nf (h' := h) (st' := [.ref (qb)]) hq23 rfl (Nat.le_refl _) (Nat.le_refl _) ?_
      refine g_astore (ls2 := [(6, .ref (qb)), (5, .null), (4, .int (gI (0))), (0, .ref (B)), (1, .int (gI (4))), (2, .int (gI (a))), (3, .int (gI (b)))]) dX9_apply_59 (by decide) rfl ?_
      refine g_aloadN 1 dX9_apply_61 rfl ?_
      refine g_ifnullN (x := 0) (tgt := 71) dX9_apply_63 rfl ?_
      refine g_iconst dX9_apply_71 ?_
      exact g_iret dX9_apply_72 rfl ⟨(FK.fr (Fr.rf [B + 27, B + 5] h) (fun x e hx hk => Ni_hi hk.1 (hi_c (by omega) (hi_c (by omega) (fun _ h => absurd h (List.not_mem_nil)))))), (-1), T, (by rw [ap2_na g_a]; exact ⟨rfl, rfl⟩), rfl, ⟨hob, hw, hw4, h5, h27, h29, h31, h33, hpt, (by rw [((Fr.rf [B + 27, B + 5] h)).1]; exact hlo)⟩, hT⟩
    · skip
      refine Go.nf (h' := h) (st' := [.null]) hq23 rfl (Nat.le_refl _) (Nat.le_refl _) ?_
      refine g_astoreN (ls2 := [(6, .null), (5, .null), (4, .int (gI (0))), (0, .ref (B)), (1, .int (gI (4))), (2, .int (gI (a))), (3, .int (gI (b)))]) dX9_apply_59 (by decide) rfl ?_
      refine g_aloadN 1 dX9_apply_61 rfl ?_
      refine g_ifnullN (x := 0) (tgt := 71) dX9_apply_63 rfl ?_
      refine g_iconst dX9_apply_71 ?_
      exact g_iret dX9_apply_72 rfl ⟨(FK.fr (Fr.rf [B + 27, B + 5] h) (fun x e hx hk => Ni_hi hk.1 (hi_c (by omega) (hi_c (by omega) (fun _ h => absurd h (List.not_mem_nil)))))), (-1), T, (by rw [ap2_na g_a]; exact ⟨rfl, rfl⟩), rfl, ⟨hob, hw, hw4, h5, h27, h29, h31, h33, hpt, (by rw [((Fr.rf [B + 27, B + 5] h)).1]; exact hlo)⟩, hT⟩
set_option maxHeartbeats 4000000 in
set_option maxRecDepth 100000 in
theorem sC_apply5 (N : GN) (h : GH) (B p : Nat) (hp : prm p) (hp2 : p ≤ 65536) (c : Int) (X V : Int → Int) (fa sy : Value) (T : PT p) (a b : Int) (gW_a : gW a) (gW_b : gW b) (hcs : CSt p B h c X V fa sy) (hT : CP hp B h T)  : Sp N yX9_apply mX9_apply 2 290 [.ref (B), .int (gI (5)), .int (gI (a)), .int (gI (b))] h (fun v h1 => FK (pK B) h h1 ∧ ∃ w T2, Ou T (ap2 T a b (rac hp 5)) w T2 ∧ v = some (.int (gI w)) ∧ CSt p B h1 c X V fa sy ∧ CP hp B h1 T2) := by
  refine Sp.of (by decide) rfl rfl (Nat.le_of_ble_eq_true rfl) ?_
  show Go N mX9_apply _ 2 290 h 0 [(0, .ref (B)), (1, .int (gI (5))), (2, .int (gI (a))), (3, .int (gI (b)))] []
  have hp1 := hp.1
  have hcs0 := hcs
  obtain ⟨hob, hw, hw4, h5, h27, h29, h31, h33, hpt, hlo⟩ := hcs0
  refine g_iload_n 1 dX9_apply_0 rfl ?_
  refine g_if_lt (tgt := 10) dX9_apply_1 rfl (by first | assumption | (unfold gW; omega)) (fun c1 => absurd c1 (by omega)) (fun c1 => ?_)
  refine g_iload_n 1 dX9_apply_4 rfl ?_
  refine g_bipush dX9_apply_5 (by decide) ?_
  refine g_icmp_le (tgt := 13) dX9_apply_7 rfl (by first | assumption | (unfold gW; omega)) (by first | assumption | (unfold gW; omega)) (fun c2 => ?_) (fun c2 => absurd c2 (by omega))
  refine g_iload_n 1 dX9_apply_13 rfl ?_
  refine g_iconst dX9_apply_14 ?_
  refine g_icmp_eq (tgt := 30) dX9_apply_15 rfl (by first | assumption | (unfold gW; omega)) (by first | assumption | (unfold gW; omega)) (fun c3 => absurd c3 (by omega)) (fun c3 => ?_)
  refine g_iload_n 1 dX9_apply_18 rfl ?_
  refine g_bipush dX9_apply_19 (by decide) ?_
  refine g_icmp_eq (tgt := 30) dX9_apply_21 rfl (by first | assumption | (unfold gW; omega)) (by first | assumption | (unfold gW; omega)) (fun c4 => absurd c4 (by omega)) (fun c4 => ?_)
  refine g_iload_n 1 dX9_apply_24 rfl ?_
  refine g_bipush dX9_apply_25 (by decide) ?_
  refine g_icmp_ne (tgt := 34) dX9_apply_27 rfl (by first | assumption | (unfold gW; omega)) (by first | assumption | (unfold gW; omega)) (fun c5 => ?_) (fun c5 => absurd c5 (by omega))
  refine g_iconst dX9_apply_34 ?_
  refine g_istore (ls2 := [(4, .int (gI (0))), (0, .ref (B)), (1, .int (gI (5))), (2, .int (gI (a))), (3, .int (gI (b)))]) dX9_apply_35 (by decide) rfl ?_
  refine g_aload_n 1 dX9_apply_37 rfl ?_
  refine g_iload_n 3 dX9_apply_38 rfl ?_
  refine g_callV (nc2 := 0) (ns2 := 0) (ci := 9) (As := [.int (gI (a))]) (st := []) rfl dX9_apply_39 okX9_find lX9_107 itX9_find seX9_find rfl hob (by decide) (by decide) rfl (Nat.le_of_ble_eq_true rfl) (sC_find N _ B p hp fa sy T (a) gW_a hob hT) (by omega) (by omega) (fun v6 hc6 q6 => ?_)
  obtain ⟨hq7, hr7⟩ := q6
  rcases hr7 with ⟨F, qa, g_a, rfl, l_a, pp_a⟩ | ⟨g_a, rfl⟩
  · skip
    refine Go.nf (h' := h) (st' := [.ref (qa)]) hq7 rfl (Nat.le_refl _) (Nat.le_refl _) ?_
    refine g_astore (ls2 := [(5, .ref (qa)), (4, .int (gI (0))), (0, .ref (B)), (1, .int (gI (5))), (2, .int (gI (a))), (3, .int (gI (b)))]) dX9_apply_42 (by decide) rfl ?_
    refine g_iload 1 dX9_apply_44 rfl ?_
    refine g_if_eq (tgt := 54) dX9_apply_46 rfl (by first | assumption | (unfold gW; omega)) (fun c8 => ?_) (fun c8 => absurd c8 (by omega))
    refine g_aload_n 2 dX9_apply_54 rfl ?_
    refine g_iload_n 5 dX9_apply_55 rfl ?_
    refine g_callV (nc2 := 0) (ns2 := 0) (ci := 9) (As := [.int (gI (b))]) (st := []) rfl dX9_apply_56 okX9_find lX9_107 itX9_find seX9_find rfl hob (by decide) (by decide) rfl (Nat.le_of_ble_eq_true rfl) (sC_find N _ B p hp fa sy T (b) gW_b hob hT) (by omega) (by omega) (fun v9 hc9 q9 => ?_)
    obtain ⟨hq10, hr10⟩ := q9
    rcases hr10 with ⟨G, qb, g_b, rfl, l_b, pp_b⟩ | ⟨g_b, rfl⟩
    · skip
      refine Go.nf (h' := h) (st' := [.ref (qb)]) hq10 rfl (Nat.le_refl _) (Nat.le_refl _) ?_
      refine g_astore (ls2 := [(6, .ref (qb)), (5, .ref (qa)), (4, .int (gI (0))), (0, .ref (B)), (1, .int (gI (5))), (2, .int (gI (a))), (3, .int (gI (b)))]) dX9_apply_59 (by decide) rfl ?_
      refine g_aload 1 dX9_apply_61 rfl ?_
      refine g_ifnull (tgt := 71) dX9_apply_63 rfl ?_
      refine g_aload 0 dX9_apply_66 rfl ?_
      refine g_ifnn (tgt := 73) dX9_apply_68 rfl ?_
      refine g_iload_n 4 dX9_apply_73 rfl ?_
      refine g_bipush dX9_apply_74 (by decide) ?_
      refine g_icmp_ge (tgt := 102) dX9_apply_76 rfl (by first | assumption | (unfold gW; omega)) (by first | assumption | (unfold gW; omega)) (fun c11 => absurd c11 (by omega)) (fun c11 => ?_)
      refine g_aload_n 3 dX9_apply_79 rfl ?_
      refine g_iload_n 4 dX9_apply_80 rfl ?_
      refine g_aload 1 dX9_apply_81 rfl ?_
      refine g_aload 0 dX9_apply_83 rfl ?_
      refine g_callV (nc2 := 0) (ns2 := 0) (ci := 9) (As := [.int (gI (5)), .ref (qa), .ref (qb)]) (st := []) rfl dX9_apply_85 okX9_wholeAct lX9_111 itX9_wholeAct seX9_wholeAct rfl hob (by decide) (by decide) rfl (Nat.le_of_ble_eq_true rfl) (sC_wholeAct5 N _ B p hp hp2 fa sy qa qb F G hob hw4 hw.2.1 h5 h27 (by omega) (by omega) pp_a pp_b) (by omega) (by omega) (fun v12 hc12 q12 => ?_)
      obtain ⟨frc13, pa5_13, hd13⟩ := q12
      have fk14_0 : hc12.2 (B) = some (cO B (fa) (sy)) := Fr.at0 frc13 (Ni.c ⟨(show NE (B) (B + 27) by unfold NE; omega), (show NE (B) (B + 28) by unfold NE; omega)⟩ (Ni.c ⟨(show NE (B) (B + 5) by unfold NE; omega), (show NE (B) (B + 6) by unfold NE; omega)⟩ (Ni.n _))) hob
      have fk14_1 : hc12.2 (B + 4) = some (oB 8 [.ref (B + 1), .ref (B + 5)]) := Fr.at0 frc13 (Ni.c ⟨(show NE (B + 4) (B + 27) by unfold NE; omega), (show NE (B + 4) (B + 28) by unfold NE; omega)⟩ (Ni.c ⟨(show NE (B + 4) (B + 5) by unfold NE; omega), (show NE (B + 4) (B + 6) by unfold NE; omega)⟩ (Ni.n _))) hw4
      have fk14_2 : hc12.2 (B + 7) = some (oB 2 [.ref (B + 1), .ref (B + 8), .ref (B + 10), .ref (B + 12), .ref (B + 14), .ref (B + 16), .ref (B + 18), .ref (B + 20), .ref (B + 22)]) := Fr.at0 frc13 (Ni.c ⟨(show NE (B + 7) (B + 27) by unfold NE; omega), (show NE (B + 7) (B + 28) by unfold NE; omega)⟩ (Ni.c ⟨(show NE (B + 7) (B + 5) by unfold NE; omega), (show NE (B + 7) (B + 6) by unfold NE; omega)⟩ (Ni.n _))) hw.1
      have fk14_3 : hc12.2 (B + 1) = some (oB 1 [.int (gI ((p : Int)))]) := Fr.at0 frc13 (Ni.c ⟨(show NE (B + 1) (B + 27) by unfold NE; omega), (show NE (B + 1) (B + 28) by unfold NE; omega)⟩ (Ni.c ⟨(show NE (B + 1) (B + 5) by unfold NE; omega), (show NE (B + 1) (B + 6) by unfold NE; omega)⟩ (Ni.n _))) hw.2.1
      have rk14_0 : PW p B hc12 := (hw).fr2 frc13 (ok_c (by omega) (ok_c (by omega) (fun _ h => absurd h (List.not_mem_nil))))
      have rk14_6 : CPt p B hc12 (c) X V := (hpt).fr frc13 (Ni.c ⟨(show NE (B + 24) (B + 27) by unfold NE; omega), (show NE (B + 24) (B + 28) by unfold NE; omega)⟩ (Ni.c ⟨(show NE (B + 24) (B + 5) by unfold NE; omega), (show NE (B + 24) (B + 6) by unfold NE; omega)⟩ (Ni.n _))) (Ni.c ⟨(show NE (B + 25) (B + 27) by unfold NE; omega), (show NE (B + 25) (B + 28) by unfold NE; omega)⟩ (Ni.c ⟨(show NE (B + 25) (B + 5) by unfold NE; omega), (show NE (B + 25) (B + 6) by unfold NE; omega)⟩ (Ni.n _))) (Ni.c ⟨(show NE (B + 26) (B + 27) by unfold NE; omega), (show NE (B + 26) (B + 28) by unfold NE; omega)⟩ (Ni.c ⟨(show NE (B + 26) (B + 5) by unfold NE; omega), (show NE (B + 26) (B + 6) by unfold NE; omega)⟩ (Ni.n _)))
      have rk14_7 : CP hp B hc12 (T) := (hT).fr frc13 (Ni.c ⟨(show NE (B + 2) (B + 27) by unfold NE; omega), (show NE (B + 2) (B + 28) by unfold NE; omega)⟩ (Ni.c ⟨(show NE (B + 2) (B + 5) by unfold NE; omega), (show NE (B + 2) (B + 6) by unfold NE; omega)⟩ (Ni.n _))) (Ni.c ⟨(show NE (B + 3) (B + 27) by unfold NE; omega), (show NE (B + 3) (B + 28) by unfold NE; omega)⟩ (Ni.c ⟨(show NE (B + 3) (B + 5) by unfold NE; omega), (show NE (B + 3) (B + 6) by unfold NE; omega)⟩ (Ni.n _))) (lo_c (by omega) (lo_c (by omega) (fun _ h => absurd h (List.not_mem_nil))))
      have rk5014_2 : RA 84 hc12 (B + 29) := (h29).fr frc13 (Ai.c (show AP (B + 29) (B + 27) by unfold AP; omega) (Ai.c (show AP (B + 29) (B + 5) by unfold AP; omega) (Ai.n _)))
      have rk5014_3 : RA 84 hc12 (B + 31) := (h31).fr frc13 (Ai.c (show AP (B + 31) (B + 27) by unfold AP; omega) (Ai.c (show AP (B + 31) (B + 5) by unfold AP; omega) (Ai.n _)))
      have rk5014_4 : RA 84 hc12 (B + 33) := (h33).fr frc13 (Ai.c (show AP (B + 33) (B + 27) by unfold AP; omega) (Ai.c (show AP (B + 33) (B + 5) by unfold AP; omega) (Ai.n _)))
      have rk5014_5 : PP hp hc12 (qa) (F) := (pp_a).fr frc13 (Ai.c (show AP (qa) (B + 27) by unfold AP; omega) (Ai.c (show AP (qa) (B + 5) by unfold AP; omega) (Ai.n _)))
      have rk5014_6 : PP hp hc12 (qb) (G) := (pp_b).fr frc13 (Ai.c (show AP (qb) (B + 27) by unfold AP; omega) (Ai.c (show AP (qb) (B + 5) by unfold AP; omega) (Ai.n _)))
      have fr14 : Fr [B + 27, B + 5] h hc12 := ((Fr.rf [B + 27, B + 5] h)).tr ((frc13).mo (sub_c (List.Mem.head _) (sub_c (List.Mem.tail _ (List.Mem.head _)) sub_n)))
      rcases hd13 with ⟨H, y1, rfl, y2⟩ | ⟨y1, rfl, y2⟩
      · skip
        refine Go.nf (h' := hc12) (st' := [.int (gI (1))]) rfl rfl (Nat.le_refl _) (Nat.le_refl _) ?_
        refine g_if_eq (tgt := 95) dX9_apply_88 rfl (by first | assumption | (unfold gW; omega)) (fun c15 => absurd c15 (by omega)) (fun c15 => ?_)
        refine g_iconst dX9_apply_91 ?_
        refine g_goto (tgt := 97) dX9_apply_92 rfl ?_
        refine g_istore (ls2 := [(7, .int (gI (0))), (6, .ref (qb)), (5, .ref (qa)), (4, .int (gI (0))), (0, .ref (B)), (1, .int (gI (5))), (2, .int (gI (a))), (3, .int (gI (b)))]) dX9_apply_97 (by decide) rfl ?_
        refine g_goto (tgt := 132) dX9_apply_99 rfl ?_
        refine g_iload 0 dX9_apply_132 rfl ?_
        refine g_if_ge (tgt := 142) dX9_apply_134 rfl (by first | assumption | (unfold gW; omega)) (fun c16 => ?_) (fun c16 => absurd c16 (by omega))
        refine g_aload_n 4 dX9_apply_142 rfl ?_
        refine g_aload_n 4 dX9_apply_143 rfl ?_
        refine g_getf 6 dX9_apply_144 kX9 (by decide) fX9_50 fk14_0 rfl ?_
        refine g_callV (nc2 := 2) (ns2 := 290) (ci := 9) (As := [.ref (B + 27)]) (st := []) rfl dX9_apply_147 okX9_keep lX9_103 itX9_keep seX9_keep rfl fk14_0 (by decide) (by decide) rfl (Nat.le_of_ble_eq_true rfl) (sC_keep N _ B p hp hp2 c X V fa sy T (H) (⟨fk14_0, rk14_0, fk14_1, pa5_13, (y2).ra, rk5014_2, rk5014_3, rk5014_4, rk14_6, (by rw [(fr14).1]; exact hlo)⟩) rk14_7 y2) (by omega) (by omega) (fun v17 hc17 q17 => ?_)
        obtain ⟨w18, hK18, rfl, cp18, fk18⟩ := q17
        have cs18 := CSt.fk ⟨fk14_0, rk14_0, fk14_1, pa5_13, (y2).ra, rk5014_2, rk5014_3, rk5014_4, rk14_6, (by rw [(fr14).1]; exact hlo)⟩ fk18
        have fz18 : FK (pK B) h hc17 := FK.tr (FK.fr fr14 (fun x e hx hk => Ni_hi hk.1 (hi_c (by omega) (hi_c (by omega) (fun _ h => absurd h (List.not_mem_nil)))))) (fk18.mo (fun x e _ hk => kpK_pK hk))
        refine Go.nf (h' := hc17) (st' := [.int (gI (w18))]) rfl rfl (Nat.le_refl _) (Nat.le_refl _) ?_
        exact g_iret dX9_apply_150 rfl ⟨fz18, w18, _, (by rw [ap2_s g_a g_b]; rw [y1]; exact ⟨hK18, rfl⟩), rfl, cs18, cp18⟩
      · skip
        refine Go.nf (h' := hc12) (st' := [.int (gI (0))]) rfl rfl (Nat.le_refl _) (Nat.le_refl _) ?_
        refine g_if_eq (tgt := 95) dX9_apply_88 rfl (by first | assumption | (unfold gW; omega)) (fun c19 => ?_) (fun c19 => absurd c19 (by omega))
        refine g_bipush dX9_apply_95 (by decide) ?_
        refine g_istore (ls2 := [(7, .int (gI (-4))), (6, .ref (qb)), (5, .ref (qa)), (4, .int (gI (0))), (0, .ref (B)), (1, .int (gI (5))), (2, .int (gI (a))), (3, .int (gI (b)))]) dX9_apply_97 (by decide) rfl ?_
        refine g_goto (tgt := 132) dX9_apply_99 rfl ?_
        refine g_iload 0 dX9_apply_132 rfl ?_
        refine g_if_ge (tgt := 142) dX9_apply_134 rfl (by first | assumption | (unfold gW; omega)) (fun c20 => absurd c20 (by omega)) (fun c20 => ?_)
        refine g_iload 0 dX9_apply_137 rfl ?_
        refine g_goto (tgt := 150) dX9_apply_139 rfl ?_
        exact g_iret dX9_apply_150 rfl ⟨(FK.fr fr14 (fun x e hx hk => Ni_hi hk.1 (hi_c (by omega) (hi_c (by omega) (fun _ h => absurd h (List.not_mem_nil)))))), (-4), T, (by rw [ap2_s g_a g_b]; rw [y1]; exact ⟨rfl, rfl⟩), rfl, ⟨fk14_0, rk14_0, fk14_1, pa5_13, y2, rk5014_2, rk5014_3, rk5014_4, rk14_6, (by rw [(fr14).1]; exact hlo)⟩, rk14_7⟩
    · skip
      refine Go.nf (h' := h) (st' := [.null]) hq10 rfl (Nat.le_refl _) (Nat.le_refl _) ?_
      refine g_astoreN (ls2 := [(6, .null), (5, .ref (qa)), (4, .int (gI (0))), (0, .ref (B)), (1, .int (gI (5))), (2, .int (gI (a))), (3, .int (gI (b)))]) dX9_apply_59 (by decide) rfl ?_
      refine g_aload 1 dX9_apply_61 rfl ?_
      refine g_ifnull (tgt := 71) dX9_apply_63 rfl ?_
      refine g_aloadN 0 dX9_apply_66 rfl ?_
      refine g_ifnnN (x := 0) (tgt := 73) dX9_apply_68 rfl ?_
      refine g_iconst dX9_apply_71 ?_
      exact g_iret dX9_apply_72 rfl ⟨(FK.fr (Fr.rf [B + 27, B + 5] h) (fun x e hx hk => Ni_hi hk.1 (hi_c (by omega) (hi_c (by omega) (fun _ h => absurd h (List.not_mem_nil)))))), (-1), T, (by rw [ap2_nb g_b]; exact ⟨rfl, rfl⟩), rfl, ⟨hob, hw, hw4, h5, h27, h29, h31, h33, hpt, (by rw [((Fr.rf [B + 27, B + 5] h)).1]; exact hlo)⟩, hT⟩
  · skip
    refine Go.nf (h' := h) (st' := [.null]) hq7 rfl (Nat.le_refl _) (Nat.le_refl _) ?_
    refine g_astoreN (ls2 := [(5, .null), (4, .int (gI (0))), (0, .ref (B)), (1, .int (gI (5))), (2, .int (gI (a))), (3, .int (gI (b)))]) dX9_apply_42 (by decide) rfl ?_
    refine g_iload 1 dX9_apply_44 rfl ?_
    refine g_if_eq (tgt := 54) dX9_apply_46 rfl (by first | assumption | (unfold gW; omega)) (fun c21 => ?_) (fun c21 => absurd c21 (by omega))
    refine g_aload_n 2 dX9_apply_54 rfl ?_
    refine g_iload_n 5 dX9_apply_55 rfl ?_
    refine g_callV (nc2 := 0) (ns2 := 0) (ci := 9) (As := [.int (gI (b))]) (st := []) rfl dX9_apply_56 okX9_find lX9_107 itX9_find seX9_find rfl hob (by decide) (by decide) rfl (Nat.le_of_ble_eq_true rfl) (sC_find N _ B p hp fa sy T (b) gW_b hob hT) (by omega) (by omega) (fun v22 hc22 q22 => ?_)
    obtain ⟨hq23, hr23⟩ := q22
    rcases hr23 with ⟨G, qb, g_b, rfl, l_b, pp_b⟩ | ⟨g_b, rfl⟩
    · skip
      refine Go.nf (h' := h) (st' := [.ref (qb)]) hq23 rfl (Nat.le_refl _) (Nat.le_refl _) ?_
      refine g_astore (ls2 := [(6, .ref (qb)), (5, .null), (4, .int (gI (0))), (0, .ref (B)), (1, .int (gI (5))), (2, .int (gI (a))), (3, .int (gI (b)))]) dX9_apply_59 (by decide) rfl ?_
      refine g_aloadN 1 dX9_apply_61 rfl ?_
      refine g_ifnullN (x := 0) (tgt := 71) dX9_apply_63 rfl ?_
      refine g_iconst dX9_apply_71 ?_
      exact g_iret dX9_apply_72 rfl ⟨(FK.fr (Fr.rf [B + 27, B + 5] h) (fun x e hx hk => Ni_hi hk.1 (hi_c (by omega) (hi_c (by omega) (fun _ h => absurd h (List.not_mem_nil)))))), (-1), T, (by rw [ap2_na g_a]; exact ⟨rfl, rfl⟩), rfl, ⟨hob, hw, hw4, h5, h27, h29, h31, h33, hpt, (by rw [((Fr.rf [B + 27, B + 5] h)).1]; exact hlo)⟩, hT⟩
    · skip
      refine Go.nf (h' := h) (st' := [.null]) hq23 rfl (Nat.le_refl _) (Nat.le_refl _) ?_
      refine g_astoreN (ls2 := [(6, .null), (5, .null), (4, .int (gI (0))), (0, .ref (B)), (1, .int (gI (5))), (2, .int (gI (a))), (3, .int (gI (b)))]) dX9_apply_59 (by decide) rfl ?_
      refine g_aloadN 1 dX9_apply_61 rfl ?_
      refine g_ifnullN (x := 0) (tgt := 71) dX9_apply_63 rfl ?_
      refine g_iconst dX9_apply_71 ?_
      exact g_iret dX9_apply_72 rfl ⟨(FK.fr (Fr.rf [B + 27, B + 5] h) (fun x e hx hk => Ni_hi hk.1 (hi_c (by omega) (hi_c (by omega) (fun _ h => absurd h (List.not_mem_nil)))))), (-1), T, (by rw [ap2_na g_a]; exact ⟨rfl, rfl⟩), rfl, ⟨hob, hw, hw4, h5, h27, h29, h31, h33, hpt, (by rw [((Fr.rf [B + 27, B + 5] h)).1]; exact hlo)⟩, hT⟩
set_option maxHeartbeats 4000000 in
set_option maxRecDepth 100000 in
theorem sC_apply6 (N : GN) (h : GH) (B p : Nat) (hp : prm p) (hp2 : p ≤ 65536) (c : Int) (X V : Int → Int) (fa sy : Value) (T : PT p) (a b : Int) (gW_a : gW a) (gW_b : gW b) (hcs : CSt p B h c X V fa sy) (hT : CP hp B h T)  : Sp N yX9_apply mX9_apply 2 290 [.ref (B), .int (gI (6)), .int (gI (a)), .int (gI (b))] h (fun v h1 => FK (pK B) h h1 ∧ ∃ w T2, Ou T (ap1 T a (rac1 hp 6)) w T2 ∧ v = some (.int (gI w)) ∧ CSt p B h1 c X V fa sy ∧ CP hp B h1 T2) := by
  refine Sp.of (by decide) rfl rfl (Nat.le_of_ble_eq_true rfl) ?_
  show Go N mX9_apply _ 2 290 h 0 [(0, .ref (B)), (1, .int (gI (6))), (2, .int (gI (a))), (3, .int (gI (b)))] []
  have hp1 := hp.1
  have hcs0 := hcs
  obtain ⟨hob, hw, hw4, h5, h27, h29, h31, h33, hpt, hlo⟩ := hcs0
  refine g_iload_n 1 dX9_apply_0 rfl ?_
  refine g_if_lt (tgt := 10) dX9_apply_1 rfl (by first | assumption | (unfold gW; omega)) (fun c1 => absurd c1 (by omega)) (fun c1 => ?_)
  refine g_iload_n 1 dX9_apply_4 rfl ?_
  refine g_bipush dX9_apply_5 (by decide) ?_
  refine g_icmp_le (tgt := 13) dX9_apply_7 rfl (by first | assumption | (unfold gW; omega)) (by first | assumption | (unfold gW; omega)) (fun c2 => ?_) (fun c2 => absurd c2 (by omega))
  refine g_iload_n 1 dX9_apply_13 rfl ?_
  refine g_iconst dX9_apply_14 ?_
  refine g_icmp_eq (tgt := 30) dX9_apply_15 rfl (by first | assumption | (unfold gW; omega)) (by first | assumption | (unfold gW; omega)) (fun c3 => absurd c3 (by omega)) (fun c3 => ?_)
  refine g_iload_n 1 dX9_apply_18 rfl ?_
  refine g_bipush dX9_apply_19 (by decide) ?_
  refine g_icmp_eq (tgt := 30) dX9_apply_21 rfl (by first | assumption | (unfold gW; omega)) (by first | assumption | (unfold gW; omega)) (fun c4 => ?_) (fun c4 => absurd c4 (by omega))
  refine g_iconst dX9_apply_30 ?_
  refine g_goto (tgt := 35) dX9_apply_31 rfl ?_
  refine g_istore (ls2 := [(4, .int (gI (1))), (0, .ref (B)), (1, .int (gI (6))), (2, .int (gI (a))), (3, .int (gI (b)))]) dX9_apply_35 (by decide) rfl ?_
  refine g_aload_n 1 dX9_apply_37 rfl ?_
  refine g_iload_n 3 dX9_apply_38 rfl ?_
  refine g_callV (nc2 := 0) (ns2 := 0) (ci := 9) (As := [.int (gI (a))]) (st := []) rfl dX9_apply_39 okX9_find lX9_107 itX9_find seX9_find rfl hob (by decide) (by decide) rfl (Nat.le_of_ble_eq_true rfl) (sC_find N _ B p hp fa sy T (a) gW_a hob hT) (by omega) (by omega) (fun v5 hc5 q5 => ?_)
  obtain ⟨hq6, hr6⟩ := q5
  rcases hr6 with ⟨F, qa, g_a, rfl, l_a, pp_a⟩ | ⟨g_a, rfl⟩
  · skip
    refine Go.nf (h' := h) (st' := [.ref (qa)]) hq6 rfl (Nat.le_refl _) (Nat.le_refl _) ?_
    refine g_astore (ls2 := [(5, .ref (qa)), (4, .int (gI (1))), (0, .ref (B)), (1, .int (gI (6))), (2, .int (gI (a))), (3, .int (gI (b)))]) dX9_apply_42 (by decide) rfl ?_
    refine g_iload 1 dX9_apply_44 rfl ?_
    refine g_if_eq (tgt := 54) dX9_apply_46 rfl (by first | assumption | (unfold gW; omega)) (fun c7 => absurd c7 (by omega)) (fun c7 => ?_)
    refine g_aload 0 dX9_apply_49 rfl ?_
    refine g_goto (tgt := 59) dX9_apply_51 rfl ?_
    refine g_astore (ls2 := [(6, .ref (qa)), (5, .ref (qa)), (4, .int (gI (1))), (0, .ref (B)), (1, .int (gI (6))), (2, .int (gI (a))), (3, .int (gI (b)))]) dX9_apply_59 (by decide) rfl ?_
    refine g_aload 1 dX9_apply_61 rfl ?_
    refine g_ifnull (tgt := 71) dX9_apply_63 rfl ?_
    refine g_aload 0 dX9_apply_66 rfl ?_
    refine g_ifnn (tgt := 73) dX9_apply_68 rfl ?_
    refine g_iload_n 4 dX9_apply_73 rfl ?_
    refine g_bipush dX9_apply_74 (by decide) ?_
    refine g_icmp_ge (tgt := 102) dX9_apply_76 rfl (by first | assumption | (unfold gW; omega)) (by first | assumption | (unfold gW; omega)) (fun c8 => absurd c8 (by omega)) (fun c8 => ?_)
    refine g_aload_n 3 dX9_apply_79 rfl ?_
    refine g_iload_n 4 dX9_apply_80 rfl ?_
    refine g_aload 1 dX9_apply_81 rfl ?_
    refine g_aload 0 dX9_apply_83 rfl ?_
    refine g_callV (nc2 := 0) (ns2 := 0) (ci := 9) (As := [.int (gI (6)), .ref (qa), .ref (qa)]) (st := []) rfl dX9_apply_85 okX9_wholeAct lX9_111 itX9_wholeAct seX9_wholeAct rfl hob (by decide) (by decide) rfl (Nat.le_of_ble_eq_true rfl) (sC_wholeAct6 N _ B p hp hp2 fa sy qa qa F F hob hw4 hw.2.1 h5 h27 (by omega) (by omega) pp_a pp_a) (by omega) (by omega) (fun v9 hc9 q9 => ?_)
    obtain ⟨frc10, pa5_10, hd10⟩ := q9
    have fk11_0 : hc9.2 (B) = some (cO B (fa) (sy)) := Fr.at0 frc10 (Ni.c ⟨(show NE (B) (B + 27) by unfold NE; omega), (show NE (B) (B + 28) by unfold NE; omega)⟩ (Ni.c ⟨(show NE (B) (B + 5) by unfold NE; omega), (show NE (B) (B + 6) by unfold NE; omega)⟩ (Ni.n _))) hob
    have fk11_1 : hc9.2 (B + 4) = some (oB 8 [.ref (B + 1), .ref (B + 5)]) := Fr.at0 frc10 (Ni.c ⟨(show NE (B + 4) (B + 27) by unfold NE; omega), (show NE (B + 4) (B + 28) by unfold NE; omega)⟩ (Ni.c ⟨(show NE (B + 4) (B + 5) by unfold NE; omega), (show NE (B + 4) (B + 6) by unfold NE; omega)⟩ (Ni.n _))) hw4
    have fk11_2 : hc9.2 (B + 7) = some (oB 2 [.ref (B + 1), .ref (B + 8), .ref (B + 10), .ref (B + 12), .ref (B + 14), .ref (B + 16), .ref (B + 18), .ref (B + 20), .ref (B + 22)]) := Fr.at0 frc10 (Ni.c ⟨(show NE (B + 7) (B + 27) by unfold NE; omega), (show NE (B + 7) (B + 28) by unfold NE; omega)⟩ (Ni.c ⟨(show NE (B + 7) (B + 5) by unfold NE; omega), (show NE (B + 7) (B + 6) by unfold NE; omega)⟩ (Ni.n _))) hw.1
    have fk11_3 : hc9.2 (B + 1) = some (oB 1 [.int (gI ((p : Int)))]) := Fr.at0 frc10 (Ni.c ⟨(show NE (B + 1) (B + 27) by unfold NE; omega), (show NE (B + 1) (B + 28) by unfold NE; omega)⟩ (Ni.c ⟨(show NE (B + 1) (B + 5) by unfold NE; omega), (show NE (B + 1) (B + 6) by unfold NE; omega)⟩ (Ni.n _))) hw.2.1
    have rk11_0 : PW p B hc9 := (hw).fr2 frc10 (ok_c (by omega) (ok_c (by omega) (fun _ h => absurd h (List.not_mem_nil))))
    have rk11_6 : CPt p B hc9 (c) X V := (hpt).fr frc10 (Ni.c ⟨(show NE (B + 24) (B + 27) by unfold NE; omega), (show NE (B + 24) (B + 28) by unfold NE; omega)⟩ (Ni.c ⟨(show NE (B + 24) (B + 5) by unfold NE; omega), (show NE (B + 24) (B + 6) by unfold NE; omega)⟩ (Ni.n _))) (Ni.c ⟨(show NE (B + 25) (B + 27) by unfold NE; omega), (show NE (B + 25) (B + 28) by unfold NE; omega)⟩ (Ni.c ⟨(show NE (B + 25) (B + 5) by unfold NE; omega), (show NE (B + 25) (B + 6) by unfold NE; omega)⟩ (Ni.n _))) (Ni.c ⟨(show NE (B + 26) (B + 27) by unfold NE; omega), (show NE (B + 26) (B + 28) by unfold NE; omega)⟩ (Ni.c ⟨(show NE (B + 26) (B + 5) by unfold NE; omega), (show NE (B + 26) (B + 6) by unfold NE; omega)⟩ (Ni.n _)))
    have rk11_7 : CP hp B hc9 (T) := (hT).fr frc10 (Ni.c ⟨(show NE (B + 2) (B + 27) by unfold NE; omega), (show NE (B + 2) (B + 28) by unfold NE; omega)⟩ (Ni.c ⟨(show NE (B + 2) (B + 5) by unfold NE; omega), (show NE (B + 2) (B + 6) by unfold NE; omega)⟩ (Ni.n _))) (Ni.c ⟨(show NE (B + 3) (B + 27) by unfold NE; omega), (show NE (B + 3) (B + 28) by unfold NE; omega)⟩ (Ni.c ⟨(show NE (B + 3) (B + 5) by unfold NE; omega), (show NE (B + 3) (B + 6) by unfold NE; omega)⟩ (Ni.n _))) (lo_c (by omega) (lo_c (by omega) (fun _ h => absurd h (List.not_mem_nil))))
    have rk5011_2 : RA 84 hc9 (B + 29) := (h29).fr frc10 (Ai.c (show AP (B + 29) (B + 27) by unfold AP; omega) (Ai.c (show AP (B + 29) (B + 5) by unfold AP; omega) (Ai.n _)))
    have rk5011_3 : RA 84 hc9 (B + 31) := (h31).fr frc10 (Ai.c (show AP (B + 31) (B + 27) by unfold AP; omega) (Ai.c (show AP (B + 31) (B + 5) by unfold AP; omega) (Ai.n _)))
    have rk5011_4 : RA 84 hc9 (B + 33) := (h33).fr frc10 (Ai.c (show AP (B + 33) (B + 27) by unfold AP; omega) (Ai.c (show AP (B + 33) (B + 5) by unfold AP; omega) (Ai.n _)))
    have rk5011_5 : PP hp hc9 (qa) (F) := (pp_a).fr frc10 (Ai.c (show AP (qa) (B + 27) by unfold AP; omega) (Ai.c (show AP (qa) (B + 5) by unfold AP; omega) (Ai.n _)))
    have fr11 : Fr [B + 27, B + 5] h hc9 := ((Fr.rf [B + 27, B + 5] h)).tr ((frc10).mo (sub_c (List.Mem.head _) (sub_c (List.Mem.tail _ (List.Mem.head _)) sub_n)))
    rcases hd10 with ⟨H, y1, rfl, y2⟩ | ⟨y1, rfl, y2⟩
    · skip
      refine Go.nf (h' := hc9) (st' := [.int (gI (1))]) rfl rfl (Nat.le_refl _) (Nat.le_refl _) ?_
      refine g_if_eq (tgt := 95) dX9_apply_88 rfl (by first | assumption | (unfold gW; omega)) (fun c12 => absurd c12 (by omega)) (fun c12 => ?_)
      refine g_iconst dX9_apply_91 ?_
      refine g_goto (tgt := 97) dX9_apply_92 rfl ?_
      refine g_istore (ls2 := [(7, .int (gI (0))), (6, .ref (qa)), (5, .ref (qa)), (4, .int (gI (1))), (0, .ref (B)), (1, .int (gI (6))), (2, .int (gI (a))), (3, .int (gI (b)))]) dX9_apply_97 (by decide) rfl ?_
      refine g_goto (tgt := 132) dX9_apply_99 rfl ?_
      refine g_iload 0 dX9_apply_132 rfl ?_
      refine g_if_ge (tgt := 142) dX9_apply_134 rfl (by first | assumption | (unfold gW; omega)) (fun c13 => ?_) (fun c13 => absurd c13 (by omega))
      refine g_aload_n 4 dX9_apply_142 rfl ?_
      refine g_aload_n 4 dX9_apply_143 rfl ?_
      refine g_getf 6 dX9_apply_144 kX9 (by decide) fX9_50 fk11_0 rfl ?_
      refine g_callV (nc2 := 2) (ns2 := 290) (ci := 9) (As := [.ref (B + 27)]) (st := []) rfl dX9_apply_147 okX9_keep lX9_103 itX9_keep seX9_keep rfl fk11_0 (by decide) (by decide) rfl (Nat.le_of_ble_eq_true rfl) (sC_keep N _ B p hp hp2 c X V fa sy T (H) (⟨fk11_0, rk11_0, fk11_1, pa5_10, (y2).ra, rk5011_2, rk5011_3, rk5011_4, rk11_6, (by rw [(fr11).1]; exact hlo)⟩) rk11_7 y2) (by omega) (by omega) (fun v14 hc14 q14 => ?_)
      obtain ⟨w15, hK15, rfl, cp15, fk15⟩ := q14
      have cs15 := CSt.fk ⟨fk11_0, rk11_0, fk11_1, pa5_10, (y2).ra, rk5011_2, rk5011_3, rk5011_4, rk11_6, (by rw [(fr11).1]; exact hlo)⟩ fk15
      have fz15 : FK (pK B) h hc14 := FK.tr (FK.fr fr11 (fun x e hx hk => Ni_hi hk.1 (hi_c (by omega) (hi_c (by omega) (fun _ h => absurd h (List.not_mem_nil)))))) (fk15.mo (fun x e _ hk => kpK_pK hk))
      refine Go.nf (h' := hc14) (st' := [.int (gI (w15))]) rfl rfl (Nat.le_refl _) (Nat.le_refl _) ?_
      exact g_iret dX9_apply_150 rfl ⟨fz15, w15, _, (by rw [ap1_s g_a]; rw [y1]; exact ⟨hK15, rfl⟩), rfl, cs15, cp15⟩
    · skip
      refine Go.nf (h' := hc9) (st' := [.int (gI (0))]) rfl rfl (Nat.le_refl _) (Nat.le_refl _) ?_
      refine g_if_eq (tgt := 95) dX9_apply_88 rfl (by first | assumption | (unfold gW; omega)) (fun c16 => ?_) (fun c16 => absurd c16 (by omega))
      refine g_bipush dX9_apply_95 (by decide) ?_
      refine g_istore (ls2 := [(7, .int (gI (-4))), (6, .ref (qa)), (5, .ref (qa)), (4, .int (gI (1))), (0, .ref (B)), (1, .int (gI (6))), (2, .int (gI (a))), (3, .int (gI (b)))]) dX9_apply_97 (by decide) rfl ?_
      refine g_goto (tgt := 132) dX9_apply_99 rfl ?_
      refine g_iload 0 dX9_apply_132 rfl ?_
      refine g_if_ge (tgt := 142) dX9_apply_134 rfl (by first | assumption | (unfold gW; omega)) (fun c17 => absurd c17 (by omega)) (fun c17 => ?_)
      refine g_iload 0 dX9_apply_137 rfl ?_
      refine g_goto (tgt := 150) dX9_apply_139 rfl ?_
      exact g_iret dX9_apply_150 rfl ⟨(FK.fr fr11 (fun x e hx hk => Ni_hi hk.1 (hi_c (by omega) (hi_c (by omega) (fun _ h => absurd h (List.not_mem_nil)))))), (-4), T, (by rw [ap1_s g_a]; rw [y1]; exact ⟨rfl, rfl⟩), rfl, ⟨fk11_0, rk11_0, fk11_1, pa5_10, y2, rk5011_2, rk5011_3, rk5011_4, rk11_6, (by rw [(fr11).1]; exact hlo)⟩, rk11_7⟩
  · skip
    refine Go.nf (h' := h) (st' := [.null]) hq6 rfl (Nat.le_refl _) (Nat.le_refl _) ?_
    refine g_astoreN (ls2 := [(5, .null), (4, .int (gI (1))), (0, .ref (B)), (1, .int (gI (6))), (2, .int (gI (a))), (3, .int (gI (b)))]) dX9_apply_42 (by decide) rfl ?_
    refine g_iload 1 dX9_apply_44 rfl ?_
    refine g_if_eq (tgt := 54) dX9_apply_46 rfl (by first | assumption | (unfold gW; omega)) (fun c18 => absurd c18 (by omega)) (fun c18 => ?_)
    refine g_aloadN 0 dX9_apply_49 rfl ?_
    refine g_goto (tgt := 59) dX9_apply_51 rfl ?_
    refine g_astoreN (ls2 := [(6, .null), (5, .null), (4, .int (gI (1))), (0, .ref (B)), (1, .int (gI (6))), (2, .int (gI (a))), (3, .int (gI (b)))]) dX9_apply_59 (by decide) rfl ?_
    refine g_aloadN 1 dX9_apply_61 rfl ?_
    refine g_ifnullN (x := 0) (tgt := 71) dX9_apply_63 rfl ?_
    refine g_iconst dX9_apply_71 ?_
    exact g_iret dX9_apply_72 rfl ⟨(FK.fr (Fr.rf [B + 27, B + 5] h) (fun x e hx hk => Ni_hi hk.1 (hi_c (by omega) (hi_c (by omega) (fun _ h => absurd h (List.not_mem_nil)))))), (-1), T, (by rw [ap1_n g_a]; exact ⟨rfl, rfl⟩), rfl, ⟨hob, hw, hw4, h5, h27, h29, h31, h33, hpt, (by rw [((Fr.rf [B + 27, B + 5] h)).1]; exact hlo)⟩, hT⟩
set_option maxHeartbeats 4000000 in
set_option maxRecDepth 100000 in
theorem sC_apply7 (N : GN) (h : GH) (B p : Nat) (hp : prm p) (hp2 : p ≤ 65536) (c : Int) (X V : Int → Int) (fa sy : Value) (T : PT p) (a b : Int) (gW_a : gW a) (gW_b : gW b) (hcs : CSt p B h c X V fa sy) (hT : CP hp B h T)  : Sp N yX9_apply mX9_apply 2 290 [.ref (B), .int (gI (7)), .int (gI (a)), .int (gI (b))] h (fun v h1 => FK (pK B) h h1 ∧ ∃ w T2, Ou T (ap1 T a (rac1 hp 7)) w T2 ∧ v = some (.int (gI w)) ∧ CSt p B h1 c X V fa sy ∧ CP hp B h1 T2) := by
  refine Sp.of (by decide) rfl rfl (Nat.le_of_ble_eq_true rfl) ?_
  show Go N mX9_apply _ 2 290 h 0 [(0, .ref (B)), (1, .int (gI (7))), (2, .int (gI (a))), (3, .int (gI (b)))] []
  have hp1 := hp.1
  have hcs0 := hcs
  obtain ⟨hob, hw, hw4, h5, h27, h29, h31, h33, hpt, hlo⟩ := hcs0
  refine g_iload_n 1 dX9_apply_0 rfl ?_
  refine g_if_lt (tgt := 10) dX9_apply_1 rfl (by first | assumption | (unfold gW; omega)) (fun c1 => absurd c1 (by omega)) (fun c1 => ?_)
  refine g_iload_n 1 dX9_apply_4 rfl ?_
  refine g_bipush dX9_apply_5 (by decide) ?_
  refine g_icmp_le (tgt := 13) dX9_apply_7 rfl (by first | assumption | (unfold gW; omega)) (by first | assumption | (unfold gW; omega)) (fun c2 => ?_) (fun c2 => absurd c2 (by omega))
  refine g_iload_n 1 dX9_apply_13 rfl ?_
  refine g_iconst dX9_apply_14 ?_
  refine g_icmp_eq (tgt := 30) dX9_apply_15 rfl (by first | assumption | (unfold gW; omega)) (by first | assumption | (unfold gW; omega)) (fun c3 => absurd c3 (by omega)) (fun c3 => ?_)
  refine g_iload_n 1 dX9_apply_18 rfl ?_
  refine g_bipush dX9_apply_19 (by decide) ?_
  refine g_icmp_eq (tgt := 30) dX9_apply_21 rfl (by first | assumption | (unfold gW; omega)) (by first | assumption | (unfold gW; omega)) (fun c4 => absurd c4 (by omega)) (fun c4 => ?_)
  refine g_iload_n 1 dX9_apply_24 rfl ?_
  refine g_bipush dX9_apply_25 (by decide) ?_
  refine g_icmp_ne (tgt := 34) dX9_apply_27 rfl (by first | assumption | (unfold gW; omega)) (by first | assumption | (unfold gW; omega)) (fun c5 => absurd c5 (by omega)) (fun c5 => ?_)
  refine g_iconst dX9_apply_30 ?_
  refine g_goto (tgt := 35) dX9_apply_31 rfl ?_
  refine g_istore (ls2 := [(4, .int (gI (1))), (0, .ref (B)), (1, .int (gI (7))), (2, .int (gI (a))), (3, .int (gI (b)))]) dX9_apply_35 (by decide) rfl ?_
  refine g_aload_n 1 dX9_apply_37 rfl ?_
  refine g_iload_n 3 dX9_apply_38 rfl ?_
  refine g_callV (nc2 := 0) (ns2 := 0) (ci := 9) (As := [.int (gI (a))]) (st := []) rfl dX9_apply_39 okX9_find lX9_107 itX9_find seX9_find rfl hob (by decide) (by decide) rfl (Nat.le_of_ble_eq_true rfl) (sC_find N _ B p hp fa sy T (a) gW_a hob hT) (by omega) (by omega) (fun v6 hc6 q6 => ?_)
  obtain ⟨hq7, hr7⟩ := q6
  rcases hr7 with ⟨F, qa, g_a, rfl, l_a, pp_a⟩ | ⟨g_a, rfl⟩
  · skip
    refine Go.nf (h' := h) (st' := [.ref (qa)]) hq7 rfl (Nat.le_refl _) (Nat.le_refl _) ?_
    refine g_astore (ls2 := [(5, .ref (qa)), (4, .int (gI (1))), (0, .ref (B)), (1, .int (gI (7))), (2, .int (gI (a))), (3, .int (gI (b)))]) dX9_apply_42 (by decide) rfl ?_
    refine g_iload 1 dX9_apply_44 rfl ?_
    refine g_if_eq (tgt := 54) dX9_apply_46 rfl (by first | assumption | (unfold gW; omega)) (fun c8 => absurd c8 (by omega)) (fun c8 => ?_)
    refine g_aload 0 dX9_apply_49 rfl ?_
    refine g_goto (tgt := 59) dX9_apply_51 rfl ?_
    refine g_astore (ls2 := [(6, .ref (qa)), (5, .ref (qa)), (4, .int (gI (1))), (0, .ref (B)), (1, .int (gI (7))), (2, .int (gI (a))), (3, .int (gI (b)))]) dX9_apply_59 (by decide) rfl ?_
    refine g_aload 1 dX9_apply_61 rfl ?_
    refine g_ifnull (tgt := 71) dX9_apply_63 rfl ?_
    refine g_aload 0 dX9_apply_66 rfl ?_
    refine g_ifnn (tgt := 73) dX9_apply_68 rfl ?_
    refine g_iload_n 4 dX9_apply_73 rfl ?_
    refine g_bipush dX9_apply_74 (by decide) ?_
    refine g_icmp_ge (tgt := 102) dX9_apply_76 rfl (by first | assumption | (unfold gW; omega)) (by first | assumption | (unfold gW; omega)) (fun c9 => absurd c9 (by omega)) (fun c9 => ?_)
    refine g_aload_n 3 dX9_apply_79 rfl ?_
    refine g_iload_n 4 dX9_apply_80 rfl ?_
    refine g_aload 1 dX9_apply_81 rfl ?_
    refine g_aload 0 dX9_apply_83 rfl ?_
    refine g_callV (nc2 := 0) (ns2 := 0) (ci := 9) (As := [.int (gI (7)), .ref (qa), .ref (qa)]) (st := []) rfl dX9_apply_85 okX9_wholeAct lX9_111 itX9_wholeAct seX9_wholeAct rfl hob (by decide) (by decide) rfl (Nat.le_of_ble_eq_true rfl) (sC_wholeAct7 N _ B p hp hp2 fa sy qa qa F F hob hw4 hw.2.1 h5 h27 (by omega) (by omega) pp_a pp_a) (by omega) (by omega) (fun v10 hc10 q10 => ?_)
    obtain ⟨frc11, pa5_11, hd11⟩ := q10
    have fk12_0 : hc10.2 (B) = some (cO B (fa) (sy)) := Fr.at0 frc11 (Ni.c ⟨(show NE (B) (B + 27) by unfold NE; omega), (show NE (B) (B + 28) by unfold NE; omega)⟩ (Ni.c ⟨(show NE (B) (B + 5) by unfold NE; omega), (show NE (B) (B + 6) by unfold NE; omega)⟩ (Ni.n _))) hob
    have fk12_1 : hc10.2 (B + 4) = some (oB 8 [.ref (B + 1), .ref (B + 5)]) := Fr.at0 frc11 (Ni.c ⟨(show NE (B + 4) (B + 27) by unfold NE; omega), (show NE (B + 4) (B + 28) by unfold NE; omega)⟩ (Ni.c ⟨(show NE (B + 4) (B + 5) by unfold NE; omega), (show NE (B + 4) (B + 6) by unfold NE; omega)⟩ (Ni.n _))) hw4
    have fk12_2 : hc10.2 (B + 7) = some (oB 2 [.ref (B + 1), .ref (B + 8), .ref (B + 10), .ref (B + 12), .ref (B + 14), .ref (B + 16), .ref (B + 18), .ref (B + 20), .ref (B + 22)]) := Fr.at0 frc11 (Ni.c ⟨(show NE (B + 7) (B + 27) by unfold NE; omega), (show NE (B + 7) (B + 28) by unfold NE; omega)⟩ (Ni.c ⟨(show NE (B + 7) (B + 5) by unfold NE; omega), (show NE (B + 7) (B + 6) by unfold NE; omega)⟩ (Ni.n _))) hw.1
    have fk12_3 : hc10.2 (B + 1) = some (oB 1 [.int (gI ((p : Int)))]) := Fr.at0 frc11 (Ni.c ⟨(show NE (B + 1) (B + 27) by unfold NE; omega), (show NE (B + 1) (B + 28) by unfold NE; omega)⟩ (Ni.c ⟨(show NE (B + 1) (B + 5) by unfold NE; omega), (show NE (B + 1) (B + 6) by unfold NE; omega)⟩ (Ni.n _))) hw.2.1
    have rk12_0 : PW p B hc10 := (hw).fr2 frc11 (ok_c (by omega) (ok_c (by omega) (fun _ h => absurd h (List.not_mem_nil))))
    have rk12_6 : CPt p B hc10 (c) X V := (hpt).fr frc11 (Ni.c ⟨(show NE (B + 24) (B + 27) by unfold NE; omega), (show NE (B + 24) (B + 28) by unfold NE; omega)⟩ (Ni.c ⟨(show NE (B + 24) (B + 5) by unfold NE; omega), (show NE (B + 24) (B + 6) by unfold NE; omega)⟩ (Ni.n _))) (Ni.c ⟨(show NE (B + 25) (B + 27) by unfold NE; omega), (show NE (B + 25) (B + 28) by unfold NE; omega)⟩ (Ni.c ⟨(show NE (B + 25) (B + 5) by unfold NE; omega), (show NE (B + 25) (B + 6) by unfold NE; omega)⟩ (Ni.n _))) (Ni.c ⟨(show NE (B + 26) (B + 27) by unfold NE; omega), (show NE (B + 26) (B + 28) by unfold NE; omega)⟩ (Ni.c ⟨(show NE (B + 26) (B + 5) by unfold NE; omega), (show NE (B + 26) (B + 6) by unfold NE; omega)⟩ (Ni.n _)))
    have rk12_7 : CP hp B hc10 (T) := (hT).fr frc11 (Ni.c ⟨(show NE (B + 2) (B + 27) by unfold NE; omega), (show NE (B + 2) (B + 28) by unfold NE; omega)⟩ (Ni.c ⟨(show NE (B + 2) (B + 5) by unfold NE; omega), (show NE (B + 2) (B + 6) by unfold NE; omega)⟩ (Ni.n _))) (Ni.c ⟨(show NE (B + 3) (B + 27) by unfold NE; omega), (show NE (B + 3) (B + 28) by unfold NE; omega)⟩ (Ni.c ⟨(show NE (B + 3) (B + 5) by unfold NE; omega), (show NE (B + 3) (B + 6) by unfold NE; omega)⟩ (Ni.n _))) (lo_c (by omega) (lo_c (by omega) (fun _ h => absurd h (List.not_mem_nil))))
    have rk5012_2 : RA 84 hc10 (B + 29) := (h29).fr frc11 (Ai.c (show AP (B + 29) (B + 27) by unfold AP; omega) (Ai.c (show AP (B + 29) (B + 5) by unfold AP; omega) (Ai.n _)))
    have rk5012_3 : RA 84 hc10 (B + 31) := (h31).fr frc11 (Ai.c (show AP (B + 31) (B + 27) by unfold AP; omega) (Ai.c (show AP (B + 31) (B + 5) by unfold AP; omega) (Ai.n _)))
    have rk5012_4 : RA 84 hc10 (B + 33) := (h33).fr frc11 (Ai.c (show AP (B + 33) (B + 27) by unfold AP; omega) (Ai.c (show AP (B + 33) (B + 5) by unfold AP; omega) (Ai.n _)))
    have rk5012_5 : PP hp hc10 (qa) (F) := (pp_a).fr frc11 (Ai.c (show AP (qa) (B + 27) by unfold AP; omega) (Ai.c (show AP (qa) (B + 5) by unfold AP; omega) (Ai.n _)))
    have fr12 : Fr [B + 27, B + 5] h hc10 := ((Fr.rf [B + 27, B + 5] h)).tr ((frc11).mo (sub_c (List.Mem.head _) (sub_c (List.Mem.tail _ (List.Mem.head _)) sub_n)))
    rcases hd11 with ⟨H, y1, rfl, y2⟩ | ⟨y1, rfl, y2⟩
    · skip
      refine Go.nf (h' := hc10) (st' := [.int (gI (1))]) rfl rfl (Nat.le_refl _) (Nat.le_refl _) ?_
      refine g_if_eq (tgt := 95) dX9_apply_88 rfl (by first | assumption | (unfold gW; omega)) (fun c13 => absurd c13 (by omega)) (fun c13 => ?_)
      refine g_iconst dX9_apply_91 ?_
      refine g_goto (tgt := 97) dX9_apply_92 rfl ?_
      refine g_istore (ls2 := [(7, .int (gI (0))), (6, .ref (qa)), (5, .ref (qa)), (4, .int (gI (1))), (0, .ref (B)), (1, .int (gI (7))), (2, .int (gI (a))), (3, .int (gI (b)))]) dX9_apply_97 (by decide) rfl ?_
      refine g_goto (tgt := 132) dX9_apply_99 rfl ?_
      refine g_iload 0 dX9_apply_132 rfl ?_
      refine g_if_ge (tgt := 142) dX9_apply_134 rfl (by first | assumption | (unfold gW; omega)) (fun c14 => ?_) (fun c14 => absurd c14 (by omega))
      refine g_aload_n 4 dX9_apply_142 rfl ?_
      refine g_aload_n 4 dX9_apply_143 rfl ?_
      refine g_getf 6 dX9_apply_144 kX9 (by decide) fX9_50 fk12_0 rfl ?_
      refine g_callV (nc2 := 2) (ns2 := 290) (ci := 9) (As := [.ref (B + 27)]) (st := []) rfl dX9_apply_147 okX9_keep lX9_103 itX9_keep seX9_keep rfl fk12_0 (by decide) (by decide) rfl (Nat.le_of_ble_eq_true rfl) (sC_keep N _ B p hp hp2 c X V fa sy T (H) (⟨fk12_0, rk12_0, fk12_1, pa5_11, (y2).ra, rk5012_2, rk5012_3, rk5012_4, rk12_6, (by rw [(fr12).1]; exact hlo)⟩) rk12_7 y2) (by omega) (by omega) (fun v15 hc15 q15 => ?_)
      obtain ⟨w16, hK16, rfl, cp16, fk16⟩ := q15
      have cs16 := CSt.fk ⟨fk12_0, rk12_0, fk12_1, pa5_11, (y2).ra, rk5012_2, rk5012_3, rk5012_4, rk12_6, (by rw [(fr12).1]; exact hlo)⟩ fk16
      have fz16 : FK (pK B) h hc15 := FK.tr (FK.fr fr12 (fun x e hx hk => Ni_hi hk.1 (hi_c (by omega) (hi_c (by omega) (fun _ h => absurd h (List.not_mem_nil)))))) (fk16.mo (fun x e _ hk => kpK_pK hk))
      refine Go.nf (h' := hc15) (st' := [.int (gI (w16))]) rfl rfl (Nat.le_refl _) (Nat.le_refl _) ?_
      exact g_iret dX9_apply_150 rfl ⟨fz16, w16, _, (by rw [ap1_s g_a]; rw [y1]; exact ⟨hK16, rfl⟩), rfl, cs16, cp16⟩
    · skip
      refine Go.nf (h' := hc10) (st' := [.int (gI (0))]) rfl rfl (Nat.le_refl _) (Nat.le_refl _) ?_
      refine g_if_eq (tgt := 95) dX9_apply_88 rfl (by first | assumption | (unfold gW; omega)) (fun c17 => ?_) (fun c17 => absurd c17 (by omega))
      refine g_bipush dX9_apply_95 (by decide) ?_
      refine g_istore (ls2 := [(7, .int (gI (-4))), (6, .ref (qa)), (5, .ref (qa)), (4, .int (gI (1))), (0, .ref (B)), (1, .int (gI (7))), (2, .int (gI (a))), (3, .int (gI (b)))]) dX9_apply_97 (by decide) rfl ?_
      refine g_goto (tgt := 132) dX9_apply_99 rfl ?_
      refine g_iload 0 dX9_apply_132 rfl ?_
      refine g_if_ge (tgt := 142) dX9_apply_134 rfl (by first | assumption | (unfold gW; omega)) (fun c18 => absurd c18 (by omega)) (fun c18 => ?_)
      refine g_iload 0 dX9_apply_137 rfl ?_
      refine g_goto (tgt := 150) dX9_apply_139 rfl ?_
      exact g_iret dX9_apply_150 rfl ⟨(FK.fr fr12 (fun x e hx hk => Ni_hi hk.1 (hi_c (by omega) (hi_c (by omega) (fun _ h => absurd h (List.not_mem_nil)))))), (-4), T, (by rw [ap1_s g_a]; rw [y1]; exact ⟨rfl, rfl⟩), rfl, ⟨fk12_0, rk12_0, fk12_1, pa5_11, y2, rk5012_2, rk5012_3, rk5012_4, rk12_6, (by rw [(fr12).1]; exact hlo)⟩, rk12_7⟩
  · skip
    refine Go.nf (h' := h) (st' := [.null]) hq7 rfl (Nat.le_refl _) (Nat.le_refl _) ?_
    refine g_astoreN (ls2 := [(5, .null), (4, .int (gI (1))), (0, .ref (B)), (1, .int (gI (7))), (2, .int (gI (a))), (3, .int (gI (b)))]) dX9_apply_42 (by decide) rfl ?_
    refine g_iload 1 dX9_apply_44 rfl ?_
    refine g_if_eq (tgt := 54) dX9_apply_46 rfl (by first | assumption | (unfold gW; omega)) (fun c19 => absurd c19 (by omega)) (fun c19 => ?_)
    refine g_aloadN 0 dX9_apply_49 rfl ?_
    refine g_goto (tgt := 59) dX9_apply_51 rfl ?_
    refine g_astoreN (ls2 := [(6, .null), (5, .null), (4, .int (gI (1))), (0, .ref (B)), (1, .int (gI (7))), (2, .int (gI (a))), (3, .int (gI (b)))]) dX9_apply_59 (by decide) rfl ?_
    refine g_aloadN 1 dX9_apply_61 rfl ?_
    refine g_ifnullN (x := 0) (tgt := 71) dX9_apply_63 rfl ?_
    refine g_iconst dX9_apply_71 ?_
    exact g_iret dX9_apply_72 rfl ⟨(FK.fr (Fr.rf [B + 27, B + 5] h) (fun x e hx hk => Ni_hi hk.1 (hi_c (by omega) (hi_c (by omega) (fun _ h => absurd h (List.not_mem_nil)))))), (-1), T, (by rw [ap1_n g_a]; exact ⟨rfl, rfl⟩), rfl, ⟨hob, hw, hw4, h5, h27, h29, h31, h33, hpt, (by rw [((Fr.rf [B + 27, B + 5] h)).1]; exact hlo)⟩, hT⟩
set_option maxHeartbeats 4000000 in
set_option maxRecDepth 100000 in
theorem sC_apply8 (N : GN) (h : GH) (B p : Nat) (hp : prm p) (hp2 : p ≤ 65536) (c : Int) (X V : Int → Int) (fa sy : Value) (T : PT p) (a b : Int) (gW_a : gW a) (gW_b : gW b) (hcs : CSt p B h c X V fa sy) (hT : CP hp B h T)  : Sp N yX9_apply mX9_apply 2 290 [.ref (B), .int (gI (8)), .int (gI (a)), .int (gI (b))] h (fun v h1 => FK (pK B) h h1 ∧ ∃ w T2, Ou T (ap2 T a b (rac hp 8)) w T2 ∧ v = some (.int (gI w)) ∧ CSt p B h1 c X V fa sy ∧ CP hp B h1 T2) := by
  refine Sp.of (by decide) rfl rfl (Nat.le_of_ble_eq_true rfl) ?_
  show Go N mX9_apply _ 2 290 h 0 [(0, .ref (B)), (1, .int (gI (8))), (2, .int (gI (a))), (3, .int (gI (b)))] []
  have hp1 := hp.1
  have hcs0 := hcs
  obtain ⟨hob, hw, hw4, h5, h27, h29, h31, h33, hpt, hlo⟩ := hcs0
  refine g_iload_n 1 dX9_apply_0 rfl ?_
  refine g_if_lt (tgt := 10) dX9_apply_1 rfl (by first | assumption | (unfold gW; omega)) (fun c1 => absurd c1 (by omega)) (fun c1 => ?_)
  refine g_iload_n 1 dX9_apply_4 rfl ?_
  refine g_bipush dX9_apply_5 (by decide) ?_
  refine g_icmp_le (tgt := 13) dX9_apply_7 rfl (by first | assumption | (unfold gW; omega)) (by first | assumption | (unfold gW; omega)) (fun c2 => ?_) (fun c2 => absurd c2 (by omega))
  refine g_iload_n 1 dX9_apply_13 rfl ?_
  refine g_iconst dX9_apply_14 ?_
  refine g_icmp_eq (tgt := 30) dX9_apply_15 rfl (by first | assumption | (unfold gW; omega)) (by first | assumption | (unfold gW; omega)) (fun c3 => absurd c3 (by omega)) (fun c3 => ?_)
  refine g_iload_n 1 dX9_apply_18 rfl ?_
  refine g_bipush dX9_apply_19 (by decide) ?_
  refine g_icmp_eq (tgt := 30) dX9_apply_21 rfl (by first | assumption | (unfold gW; omega)) (by first | assumption | (unfold gW; omega)) (fun c4 => absurd c4 (by omega)) (fun c4 => ?_)
  refine g_iload_n 1 dX9_apply_24 rfl ?_
  refine g_bipush dX9_apply_25 (by decide) ?_
  refine g_icmp_ne (tgt := 34) dX9_apply_27 rfl (by first | assumption | (unfold gW; omega)) (by first | assumption | (unfold gW; omega)) (fun c5 => ?_) (fun c5 => absurd c5 (by omega))
  refine g_iconst dX9_apply_34 ?_
  refine g_istore (ls2 := [(4, .int (gI (0))), (0, .ref (B)), (1, .int (gI (8))), (2, .int (gI (a))), (3, .int (gI (b)))]) dX9_apply_35 (by decide) rfl ?_
  refine g_aload_n 1 dX9_apply_37 rfl ?_
  refine g_iload_n 3 dX9_apply_38 rfl ?_
  refine g_callV (nc2 := 0) (ns2 := 0) (ci := 9) (As := [.int (gI (a))]) (st := []) rfl dX9_apply_39 okX9_find lX9_107 itX9_find seX9_find rfl hob (by decide) (by decide) rfl (Nat.le_of_ble_eq_true rfl) (sC_find N _ B p hp fa sy T (a) gW_a hob hT) (by omega) (by omega) (fun v6 hc6 q6 => ?_)
  obtain ⟨hq7, hr7⟩ := q6
  rcases hr7 with ⟨F, qa, g_a, rfl, l_a, pp_a⟩ | ⟨g_a, rfl⟩
  · skip
    refine Go.nf (h' := h) (st' := [.ref (qa)]) hq7 rfl (Nat.le_refl _) (Nat.le_refl _) ?_
    refine g_astore (ls2 := [(5, .ref (qa)), (4, .int (gI (0))), (0, .ref (B)), (1, .int (gI (8))), (2, .int (gI (a))), (3, .int (gI (b)))]) dX9_apply_42 (by decide) rfl ?_
    refine g_iload 1 dX9_apply_44 rfl ?_
    refine g_if_eq (tgt := 54) dX9_apply_46 rfl (by first | assumption | (unfold gW; omega)) (fun c8 => ?_) (fun c8 => absurd c8 (by omega))
    refine g_aload_n 2 dX9_apply_54 rfl ?_
    refine g_iload_n 5 dX9_apply_55 rfl ?_
    refine g_callV (nc2 := 0) (ns2 := 0) (ci := 9) (As := [.int (gI (b))]) (st := []) rfl dX9_apply_56 okX9_find lX9_107 itX9_find seX9_find rfl hob (by decide) (by decide) rfl (Nat.le_of_ble_eq_true rfl) (sC_find N _ B p hp fa sy T (b) gW_b hob hT) (by omega) (by omega) (fun v9 hc9 q9 => ?_)
    obtain ⟨hq10, hr10⟩ := q9
    rcases hr10 with ⟨G, qb, g_b, rfl, l_b, pp_b⟩ | ⟨g_b, rfl⟩
    · skip
      refine Go.nf (h' := h) (st' := [.ref (qb)]) hq10 rfl (Nat.le_refl _) (Nat.le_refl _) ?_
      refine g_astore (ls2 := [(6, .ref (qb)), (5, .ref (qa)), (4, .int (gI (0))), (0, .ref (B)), (1, .int (gI (8))), (2, .int (gI (a))), (3, .int (gI (b)))]) dX9_apply_59 (by decide) rfl ?_
      refine g_aload 1 dX9_apply_61 rfl ?_
      refine g_ifnull (tgt := 71) dX9_apply_63 rfl ?_
      refine g_aload 0 dX9_apply_66 rfl ?_
      refine g_ifnn (tgt := 73) dX9_apply_68 rfl ?_
      refine g_iload_n 4 dX9_apply_73 rfl ?_
      refine g_bipush dX9_apply_74 (by decide) ?_
      refine g_icmp_ge (tgt := 102) dX9_apply_76 rfl (by first | assumption | (unfold gW; omega)) (by first | assumption | (unfold gW; omega)) (fun c11 => ?_) (fun c11 => absurd c11 (by omega))
      refine g_iload_n 4 dX9_apply_102 rfl ?_
      refine g_bipush dX9_apply_103 (by decide) ?_
      refine g_icmp_ne (tgt := 121) dX9_apply_105 rfl (by first | assumption | (unfold gW; omega)) (by first | assumption | (unfold gW; omega)) (fun c12 => ?_) (fun c12 => absurd c12 (by omega))
      refine g_aload_n 3 dX9_apply_121 rfl ?_
      refine g_iload_n 4 dX9_apply_122 rfl ?_
      refine g_aload 1 dX9_apply_123 rfl ?_
      refine g_aload 0 dX9_apply_125 rfl ?_
      refine g_callV (nc2 := 0) (ns2 := 0) (ci := 9) (As := [.int (gI (8)), .ref (qa), .ref (qb)]) (st := []) rfl dX9_apply_127 okX9_plainAct lX9_119 itX9_plainAct seX9_plainAct rfl hob (by decide) (by decide) rfl (Nat.le_of_ble_eq_true rfl) (sC_plainAct8 N _ B p hp hp2 fa sy qa qb F G hob hw h27 h29 h31 h33 (by omega) (by omega) pp_a pp_b) (by omega) (by omega) (fun v13 hc13 q13 => ?_)
      obtain ⟨frc14, pw14, r29_14, r31_14, r33_14, hd14⟩ := q13
      have fk15_0 : hc13.2 (B) = some (cO B (fa) (sy)) := Fr.at0 frc14 (Ni.c ⟨(show NE (B) (B + 29) by unfold NE; omega), (show NE (B) (B + 30) by unfold NE; omega)⟩ (Ni.c ⟨(show NE (B) (B + 31) by unfold NE; omega), (show NE (B) (B + 32) by unfold NE; omega)⟩ (Ni.c ⟨(show NE (B) (B + 33) by unfold NE; omega), (show NE (B) (B + 34) by unfold NE; omega)⟩ (Ni.c ⟨(show NE (B) (B + 27) by unfold NE; omega), (show NE (B) (B + 28) by unfold NE; omega)⟩ (Ni_pl (by omega)))))) hob
      have fk15_1 : hc13.2 (B + 4) = some (oB 8 [.ref (B + 1), .ref (B + 5)]) := Fr.at0 frc14 (Ni.c ⟨(show NE (B + 4) (B + 29) by unfold NE; omega), (show NE (B + 4) (B + 30) by unfold NE; omega)⟩ (Ni.c ⟨(show NE (B + 4) (B + 31) by unfold NE; omega), (show NE (B + 4) (B + 32) by unfold NE; omega)⟩ (Ni.c ⟨(show NE (B + 4) (B + 33) by unfold NE; omega), (show NE (B + 4) (B + 34) by unfold NE; omega)⟩ (Ni.c ⟨(show NE (B + 4) (B + 27) by unfold NE; omega), (show NE (B + 4) (B + 28) by unfold NE; omega)⟩ (Ni_pl (by omega)))))) hw4
      have fk15_2 : hc13.2 (B + 7) = some (oB 2 [.ref (B + 1), .ref (B + 8), .ref (B + 10), .ref (B + 12), .ref (B + 14), .ref (B + 16), .ref (B + 18), .ref (B + 20), .ref (B + 22)]) := Fr.at0 frc14 (Ni.c ⟨(show NE (B + 7) (B + 29) by unfold NE; omega), (show NE (B + 7) (B + 30) by unfold NE; omega)⟩ (Ni.c ⟨(show NE (B + 7) (B + 31) by unfold NE; omega), (show NE (B + 7) (B + 32) by unfold NE; omega)⟩ (Ni.c ⟨(show NE (B + 7) (B + 33) by unfold NE; omega), (show NE (B + 7) (B + 34) by unfold NE; omega)⟩ (Ni.c ⟨(show NE (B + 7) (B + 27) by unfold NE; omega), (show NE (B + 7) (B + 28) by unfold NE; omega)⟩ (Ni_pl (by omega)))))) hw.1
      have fk15_3 : hc13.2 (B + 1) = some (oB 1 [.int (gI ((p : Int)))]) := Fr.at0 frc14 (Ni.c ⟨(show NE (B + 1) (B + 29) by unfold NE; omega), (show NE (B + 1) (B + 30) by unfold NE; omega)⟩ (Ni.c ⟨(show NE (B + 1) (B + 31) by unfold NE; omega), (show NE (B + 1) (B + 32) by unfold NE; omega)⟩ (Ni.c ⟨(show NE (B + 1) (B + 33) by unfold NE; omega), (show NE (B + 1) (B + 34) by unfold NE; omega)⟩ (Ni.c ⟨(show NE (B + 1) (B + 27) by unfold NE; omega), (show NE (B + 1) (B + 28) by unfold NE; omega)⟩ (Ni_pl (by omega)))))) hw.2.1
      have rk15_6 : CPt p B hc13 (c) X V := (hpt).fr frc14 (Ni.c ⟨(show NE (B + 24) (B + 29) by unfold NE; omega), (show NE (B + 24) (B + 30) by unfold NE; omega)⟩ (Ni.c ⟨(show NE (B + 24) (B + 31) by unfold NE; omega), (show NE (B + 24) (B + 32) by unfold NE; omega)⟩ (Ni.c ⟨(show NE (B + 24) (B + 33) by unfold NE; omega), (show NE (B + 24) (B + 34) by unfold NE; omega)⟩ (Ni.c ⟨(show NE (B + 24) (B + 27) by unfold NE; omega), (show NE (B + 24) (B + 28) by unfold NE; omega)⟩ (Ni_pl (by omega)))))) (Ni.c ⟨(show NE (B + 25) (B + 29) by unfold NE; omega), (show NE (B + 25) (B + 30) by unfold NE; omega)⟩ (Ni.c ⟨(show NE (B + 25) (B + 31) by unfold NE; omega), (show NE (B + 25) (B + 32) by unfold NE; omega)⟩ (Ni.c ⟨(show NE (B + 25) (B + 33) by unfold NE; omega), (show NE (B + 25) (B + 34) by unfold NE; omega)⟩ (Ni.c ⟨(show NE (B + 25) (B + 27) by unfold NE; omega), (show NE (B + 25) (B + 28) by unfold NE; omega)⟩ (Ni_pl (by omega)))))) (Ni.c ⟨(show NE (B + 26) (B + 29) by unfold NE; omega), (show NE (B + 26) (B + 30) by unfold NE; omega)⟩ (Ni.c ⟨(show NE (B + 26) (B + 31) by unfold NE; omega), (show NE (B + 26) (B + 32) by unfold NE; omega)⟩ (Ni.c ⟨(show NE (B + 26) (B + 33) by unfold NE; omega), (show NE (B + 26) (B + 34) by unfold NE; omega)⟩ (Ni.c ⟨(show NE (B + 26) (B + 27) by unfold NE; omega), (show NE (B + 26) (B + 28) by unfold NE; omega)⟩ (Ni_pl (by omega))))))
      have rk15_7 : CP hp B hc13 (T) := (hT).fr frc14 (Ni.c ⟨(show NE (B + 2) (B + 29) by unfold NE; omega), (show NE (B + 2) (B + 30) by unfold NE; omega)⟩ (Ni.c ⟨(show NE (B + 2) (B + 31) by unfold NE; omega), (show NE (B + 2) (B + 32) by unfold NE; omega)⟩ (Ni.c ⟨(show NE (B + 2) (B + 33) by unfold NE; omega), (show NE (B + 2) (B + 34) by unfold NE; omega)⟩ (Ni.c ⟨(show NE (B + 2) (B + 27) by unfold NE; omega), (show NE (B + 2) (B + 28) by unfold NE; omega)⟩ (Ni_pl (by omega)))))) (Ni.c ⟨(show NE (B + 3) (B + 29) by unfold NE; omega), (show NE (B + 3) (B + 30) by unfold NE; omega)⟩ (Ni.c ⟨(show NE (B + 3) (B + 31) by unfold NE; omega), (show NE (B + 3) (B + 32) by unfold NE; omega)⟩ (Ni.c ⟨(show NE (B + 3) (B + 33) by unfold NE; omega), (show NE (B + 3) (B + 34) by unfold NE; omega)⟩ (Ni.c ⟨(show NE (B + 3) (B + 27) by unfold NE; omega), (show NE (B + 3) (B + 28) by unfold NE; omega)⟩ (Ni_pl (by omega)))))) (lo_c (by omega) (lo_c (by omega) (lo_c (by omega) (lo_c (by omega) lo_pl))))
      have rk5015_0 : PA hc13 (B + 5) := (h5).fr frc14 (Ai.c (show AP (B + 5) (B + 29) by unfold AP; omega) (Ai.c (show AP (B + 5) (B + 31) by unfold AP; omega) (Ai.c (show AP (B + 5) (B + 33) by unfold AP; omega) (Ai.c (show AP (B + 5) (B + 27) by unfold AP; omega) (Ai_pl (by omega))))))
      have rk5015_5 : PP hp hc13 (qa) (F) := (pp_a).fr frc14 (Ai.c (show AP (qa) (B + 29) by unfold AP; omega) (Ai.c (show AP (qa) (B + 31) by unfold AP; omega) (Ai.c (show AP (qa) (B + 33) by unfold AP; omega) (Ai.c (show AP (qa) (B + 27) by unfold AP; omega) (Ai_pl (by omega))))))
      have rk5015_6 : PP hp hc13 (qb) (G) := (pp_b).fr frc14 (Ai.c (show AP (qb) (B + 29) by unfold AP; omega) (Ai.c (show AP (qb) (B + 31) by unfold AP; omega) (Ai.c (show AP (qb) (B + 33) by unfold AP; omega) (Ai.c (show AP (qb) (B + 27) by unfold AP; omega) (Ai_pl (by omega))))))
      have fr15 : Fr ((B + 29) :: (B + 31) :: (B + 33) :: (B + 27) :: pl B) h hc13 := ((Fr.rf ((B + 29) :: (B + 31) :: (B + 33) :: (B + 27) :: pl B) h)).tr ((frc14).mo (sub_c (List.Mem.head _) (sub_c (List.Mem.tail _ (List.Mem.head _)) (sub_c (List.Mem.tail _ (List.Mem.tail _ (List.Mem.head _))) (sub_c (List.Mem.tail _ (List.Mem.tail _ (List.Mem.tail _ (List.Mem.head _)))) (fun _ hx => (List.Mem.tail _ (List.Mem.tail _ (List.Mem.tail _ (List.Mem.tail _ hx))))))))))
      rcases hd14 with ⟨H, y1, rfl, y2⟩ | ⟨r, y0, y1, rfl, y2⟩
      · skip
        refine Go.nf (h' := hc13) (st' := [.int (gI (0))]) rfl rfl (Nat.le_refl _) (Nat.le_refl _) ?_
        refine g_istore (ls2 := [(7, .int (gI (0))), (6, .ref (qb)), (5, .ref (qa)), (4, .int (gI (0))), (0, .ref (B)), (1, .int (gI (8))), (2, .int (gI (a))), (3, .int (gI (b)))]) dX9_apply_130 (by decide) rfl ?_
        refine g_iload 0 dX9_apply_132 rfl ?_
        refine g_if_ge (tgt := 142) dX9_apply_134 rfl (by first | assumption | (unfold gW; omega)) (fun c16 => ?_) (fun c16 => absurd c16 (by omega))
        refine g_aload_n 4 dX9_apply_142 rfl ?_
        refine g_aload_n 4 dX9_apply_143 rfl ?_
        refine g_getf 6 dX9_apply_144 kX9 (by decide) fX9_50 fk15_0 rfl ?_
        refine g_callV (nc2 := 2) (ns2 := 290) (ci := 9) (As := [.ref (B + 27)]) (st := []) rfl dX9_apply_147 okX9_keep lX9_103 itX9_keep seX9_keep rfl fk15_0 (by decide) (by decide) rfl (Nat.le_of_ble_eq_true rfl) (sC_keep N _ B p hp hp2 c X V fa sy T (H) (⟨fk15_0, pw14, fk15_1, rk5015_0, (y2).ra, r29_14, r31_14, r33_14, rk15_6, (by rw [(fr15).1]; exact hlo)⟩) rk15_7 y2) (by omega) (by omega) (fun v17 hc17 q17 => ?_)
        obtain ⟨w18, hK18, rfl, cp18, fk18⟩ := q17
        have cs18 := CSt.fk ⟨fk15_0, pw14, fk15_1, rk5015_0, (y2).ra, r29_14, r31_14, r33_14, rk15_6, (by rw [(fr15).1]; exact hlo)⟩ fk18
        have fz18 : FK (pK B) h hc17 := FK.tr (FK.fr fr15 (fun x e hx hk => Ni_hi hk.1 (hi_c (by omega) (hi_c (by omega) (hi_c (by omega) (hi_c (by omega) hi_pl)))))) (fk18.mo (fun x e _ hk => kpK_pK hk))
        refine Go.nf (h' := hc17) (st' := [.int (gI (w18))]) rfl rfl (Nat.le_refl _) (Nat.le_refl _) ?_
        exact g_iret dX9_apply_150 rfl ⟨fz18, w18, _, (by rw [ap2_s g_a g_b]; rw [y1]; exact ⟨hK18, rfl⟩), rfl, cs18, cp18⟩
      · skip
        refine Go.nf (h' := hc13) (st' := [.int (gI (r))]) rfl rfl (Nat.le_refl _) (Nat.le_refl _) ?_
        have hrW : gW r := rac_gW y1
        refine g_istore (ls2 := [(7, .int (gI (r))), (6, .ref (qb)), (5, .ref (qa)), (4, .int (gI (0))), (0, .ref (B)), (1, .int (gI (8))), (2, .int (gI (a))), (3, .int (gI (b)))]) dX9_apply_130 (by decide) rfl ?_
        refine g_iload 0 dX9_apply_132 rfl ?_
        refine g_if_ge (tgt := 142) dX9_apply_134 rfl (by first | assumption | (unfold gW; omega)) (fun c19 => absurd c19 (by omega)) (fun c19 => ?_)
        refine g_iload 0 dX9_apply_137 rfl ?_
        refine g_goto (tgt := 150) dX9_apply_139 rfl ?_
        exact g_iret dX9_apply_150 rfl ⟨(FK.fr fr15 (fun x e hx hk => Ni_hi hk.1 (hi_c (by omega) (hi_c (by omega) (hi_c (by omega) (hi_c (by omega) hi_pl)))))), r, T, (by rw [ap2_s g_a g_b]; rw [y1]; exact ⟨rfl, rfl⟩), rfl, ⟨fk15_0, pw14, fk15_1, rk5015_0, y2, r29_14, r31_14, r33_14, rk15_6, (by rw [(fr15).1]; exact hlo)⟩, rk15_7⟩
    · skip
      refine Go.nf (h' := h) (st' := [.null]) hq10 rfl (Nat.le_refl _) (Nat.le_refl _) ?_
      refine g_astoreN (ls2 := [(6, .null), (5, .ref (qa)), (4, .int (gI (0))), (0, .ref (B)), (1, .int (gI (8))), (2, .int (gI (a))), (3, .int (gI (b)))]) dX9_apply_59 (by decide) rfl ?_
      refine g_aload 1 dX9_apply_61 rfl ?_
      refine g_ifnull (tgt := 71) dX9_apply_63 rfl ?_
      refine g_aloadN 0 dX9_apply_66 rfl ?_
      refine g_ifnnN (x := 0) (tgt := 73) dX9_apply_68 rfl ?_
      refine g_iconst dX9_apply_71 ?_
      exact g_iret dX9_apply_72 rfl ⟨(FK.fr (Fr.rf ((B + 29) :: (B + 31) :: (B + 33) :: (B + 27) :: pl B) h) (fun x e hx hk => Ni_hi hk.1 (hi_c (by omega) (hi_c (by omega) (hi_c (by omega) (hi_c (by omega) hi_pl)))))), (-1), T, (by rw [ap2_nb g_b]; exact ⟨rfl, rfl⟩), rfl, ⟨hob, hw, hw4, h5, h27, h29, h31, h33, hpt, (by rw [((Fr.rf ((B + 29) :: (B + 31) :: (B + 33) :: (B + 27) :: pl B) h)).1]; exact hlo)⟩, hT⟩
  · skip
    refine Go.nf (h' := h) (st' := [.null]) hq7 rfl (Nat.le_refl _) (Nat.le_refl _) ?_
    refine g_astoreN (ls2 := [(5, .null), (4, .int (gI (0))), (0, .ref (B)), (1, .int (gI (8))), (2, .int (gI (a))), (3, .int (gI (b)))]) dX9_apply_42 (by decide) rfl ?_
    refine g_iload 1 dX9_apply_44 rfl ?_
    refine g_if_eq (tgt := 54) dX9_apply_46 rfl (by first | assumption | (unfold gW; omega)) (fun c20 => ?_) (fun c20 => absurd c20 (by omega))
    refine g_aload_n 2 dX9_apply_54 rfl ?_
    refine g_iload_n 5 dX9_apply_55 rfl ?_
    refine g_callV (nc2 := 0) (ns2 := 0) (ci := 9) (As := [.int (gI (b))]) (st := []) rfl dX9_apply_56 okX9_find lX9_107 itX9_find seX9_find rfl hob (by decide) (by decide) rfl (Nat.le_of_ble_eq_true rfl) (sC_find N _ B p hp fa sy T (b) gW_b hob hT) (by omega) (by omega) (fun v21 hc21 q21 => ?_)
    obtain ⟨hq22, hr22⟩ := q21
    rcases hr22 with ⟨G, qb, g_b, rfl, l_b, pp_b⟩ | ⟨g_b, rfl⟩
    · skip
      refine Go.nf (h' := h) (st' := [.ref (qb)]) hq22 rfl (Nat.le_refl _) (Nat.le_refl _) ?_
      refine g_astore (ls2 := [(6, .ref (qb)), (5, .null), (4, .int (gI (0))), (0, .ref (B)), (1, .int (gI (8))), (2, .int (gI (a))), (3, .int (gI (b)))]) dX9_apply_59 (by decide) rfl ?_
      refine g_aloadN 1 dX9_apply_61 rfl ?_
      refine g_ifnullN (x := 0) (tgt := 71) dX9_apply_63 rfl ?_
      refine g_iconst dX9_apply_71 ?_
      exact g_iret dX9_apply_72 rfl ⟨(FK.fr (Fr.rf ((B + 29) :: (B + 31) :: (B + 33) :: (B + 27) :: pl B) h) (fun x e hx hk => Ni_hi hk.1 (hi_c (by omega) (hi_c (by omega) (hi_c (by omega) (hi_c (by omega) hi_pl)))))), (-1), T, (by rw [ap2_na g_a]; exact ⟨rfl, rfl⟩), rfl, ⟨hob, hw, hw4, h5, h27, h29, h31, h33, hpt, (by rw [((Fr.rf ((B + 29) :: (B + 31) :: (B + 33) :: (B + 27) :: pl B) h)).1]; exact hlo)⟩, hT⟩
    · skip
      refine Go.nf (h' := h) (st' := [.null]) hq22 rfl (Nat.le_refl _) (Nat.le_refl _) ?_
      refine g_astoreN (ls2 := [(6, .null), (5, .null), (4, .int (gI (0))), (0, .ref (B)), (1, .int (gI (8))), (2, .int (gI (a))), (3, .int (gI (b)))]) dX9_apply_59 (by decide) rfl ?_
      refine g_aloadN 1 dX9_apply_61 rfl ?_
      refine g_ifnullN (x := 0) (tgt := 71) dX9_apply_63 rfl ?_
      refine g_iconst dX9_apply_71 ?_
      exact g_iret dX9_apply_72 rfl ⟨(FK.fr (Fr.rf ((B + 29) :: (B + 31) :: (B + 33) :: (B + 27) :: pl B) h) (fun x e hx hk => Ni_hi hk.1 (hi_c (by omega) (hi_c (by omega) (hi_c (by omega) (hi_c (by omega) hi_pl)))))), (-1), T, (by rw [ap2_na g_a]; exact ⟨rfl, rfl⟩), rfl, ⟨hob, hw, hw4, h5, h27, h29, h31, h33, hpt, (by rw [((Fr.rf ((B + 29) :: (B + 31) :: (B + 33) :: (B + 27) :: pl B) h)).1]; exact hlo)⟩, hT⟩
set_option maxHeartbeats 4000000 in
set_option maxRecDepth 100000 in
theorem sC_apply9 (N : GN) (h : GH) (B p : Nat) (hp : prm p) (hp2 : p ≤ 65536) (c : Int) (X V : Int → Int) (fa sy : Value) (T : PT p) (a b : Int) (gW_a : gW a) (gW_b : gW b) (hcs : CSt p B h c X V fa sy) (hT : CP hp B h T)  : Sp N yX9_apply mX9_apply 2 290 [.ref (B), .int (gI (9)), .int (gI (a)), .int (gI (b))] h (fun v h1 => FK (pK B) h h1 ∧ ∃ w T2, Ou T (ap2 T a b (rac hp 9)) w T2 ∧ v = some (.int (gI w)) ∧ CSt p B h1 c X V fa sy ∧ CP hp B h1 T2) := by
  refine Sp.of (by decide) rfl rfl (Nat.le_of_ble_eq_true rfl) ?_
  show Go N mX9_apply _ 2 290 h 0 [(0, .ref (B)), (1, .int (gI (9))), (2, .int (gI (a))), (3, .int (gI (b)))] []
  have hp1 := hp.1
  have hcs0 := hcs
  obtain ⟨hob, hw, hw4, h5, h27, h29, h31, h33, hpt, hlo⟩ := hcs0
  refine g_iload_n 1 dX9_apply_0 rfl ?_
  refine g_if_lt (tgt := 10) dX9_apply_1 rfl (by first | assumption | (unfold gW; omega)) (fun c1 => absurd c1 (by omega)) (fun c1 => ?_)
  refine g_iload_n 1 dX9_apply_4 rfl ?_
  refine g_bipush dX9_apply_5 (by decide) ?_
  refine g_icmp_le (tgt := 13) dX9_apply_7 rfl (by first | assumption | (unfold gW; omega)) (by first | assumption | (unfold gW; omega)) (fun c2 => ?_) (fun c2 => absurd c2 (by omega))
  refine g_iload_n 1 dX9_apply_13 rfl ?_
  refine g_iconst dX9_apply_14 ?_
  refine g_icmp_eq (tgt := 30) dX9_apply_15 rfl (by first | assumption | (unfold gW; omega)) (by first | assumption | (unfold gW; omega)) (fun c3 => absurd c3 (by omega)) (fun c3 => ?_)
  refine g_iload_n 1 dX9_apply_18 rfl ?_
  refine g_bipush dX9_apply_19 (by decide) ?_
  refine g_icmp_eq (tgt := 30) dX9_apply_21 rfl (by first | assumption | (unfold gW; omega)) (by first | assumption | (unfold gW; omega)) (fun c4 => absurd c4 (by omega)) (fun c4 => ?_)
  refine g_iload_n 1 dX9_apply_24 rfl ?_
  refine g_bipush dX9_apply_25 (by decide) ?_
  refine g_icmp_ne (tgt := 34) dX9_apply_27 rfl (by first | assumption | (unfold gW; omega)) (by first | assumption | (unfold gW; omega)) (fun c5 => ?_) (fun c5 => absurd c5 (by omega))
  refine g_iconst dX9_apply_34 ?_
  refine g_istore (ls2 := [(4, .int (gI (0))), (0, .ref (B)), (1, .int (gI (9))), (2, .int (gI (a))), (3, .int (gI (b)))]) dX9_apply_35 (by decide) rfl ?_
  refine g_aload_n 1 dX9_apply_37 rfl ?_
  refine g_iload_n 3 dX9_apply_38 rfl ?_
  refine g_callV (nc2 := 0) (ns2 := 0) (ci := 9) (As := [.int (gI (a))]) (st := []) rfl dX9_apply_39 okX9_find lX9_107 itX9_find seX9_find rfl hob (by decide) (by decide) rfl (Nat.le_of_ble_eq_true rfl) (sC_find N _ B p hp fa sy T (a) gW_a hob hT) (by omega) (by omega) (fun v6 hc6 q6 => ?_)
  obtain ⟨hq7, hr7⟩ := q6
  rcases hr7 with ⟨F, qa, g_a, rfl, l_a, pp_a⟩ | ⟨g_a, rfl⟩
  · skip
    refine Go.nf (h' := h) (st' := [.ref (qa)]) hq7 rfl (Nat.le_refl _) (Nat.le_refl _) ?_
    refine g_astore (ls2 := [(5, .ref (qa)), (4, .int (gI (0))), (0, .ref (B)), (1, .int (gI (9))), (2, .int (gI (a))), (3, .int (gI (b)))]) dX9_apply_42 (by decide) rfl ?_
    refine g_iload 1 dX9_apply_44 rfl ?_
    refine g_if_eq (tgt := 54) dX9_apply_46 rfl (by first | assumption | (unfold gW; omega)) (fun c8 => ?_) (fun c8 => absurd c8 (by omega))
    refine g_aload_n 2 dX9_apply_54 rfl ?_
    refine g_iload_n 5 dX9_apply_55 rfl ?_
    refine g_callV (nc2 := 0) (ns2 := 0) (ci := 9) (As := [.int (gI (b))]) (st := []) rfl dX9_apply_56 okX9_find lX9_107 itX9_find seX9_find rfl hob (by decide) (by decide) rfl (Nat.le_of_ble_eq_true rfl) (sC_find N _ B p hp fa sy T (b) gW_b hob hT) (by omega) (by omega) (fun v9 hc9 q9 => ?_)
    obtain ⟨hq10, hr10⟩ := q9
    rcases hr10 with ⟨G, qb, g_b, rfl, l_b, pp_b⟩ | ⟨g_b, rfl⟩
    · skip
      refine Go.nf (h' := h) (st' := [.ref (qb)]) hq10 rfl (Nat.le_refl _) (Nat.le_refl _) ?_
      refine g_astore (ls2 := [(6, .ref (qb)), (5, .ref (qa)), (4, .int (gI (0))), (0, .ref (B)), (1, .int (gI (9))), (2, .int (gI (a))), (3, .int (gI (b)))]) dX9_apply_59 (by decide) rfl ?_
      refine g_aload 1 dX9_apply_61 rfl ?_
      refine g_ifnull (tgt := 71) dX9_apply_63 rfl ?_
      refine g_aload 0 dX9_apply_66 rfl ?_
      refine g_ifnn (tgt := 73) dX9_apply_68 rfl ?_
      refine g_iload_n 4 dX9_apply_73 rfl ?_
      refine g_bipush dX9_apply_74 (by decide) ?_
      refine g_icmp_ge (tgt := 102) dX9_apply_76 rfl (by first | assumption | (unfold gW; omega)) (by first | assumption | (unfold gW; omega)) (fun c11 => ?_) (fun c11 => absurd c11 (by omega))
      refine g_iload_n 4 dX9_apply_102 rfl ?_
      refine g_bipush dX9_apply_103 (by decide) ?_
      refine g_icmp_ne (tgt := 121) dX9_apply_105 rfl (by first | assumption | (unfold gW; omega)) (by first | assumption | (unfold gW; omega)) (fun c12 => ?_) (fun c12 => absurd c12 (by omega))
      refine g_aload_n 3 dX9_apply_121 rfl ?_
      refine g_iload_n 4 dX9_apply_122 rfl ?_
      refine g_aload 1 dX9_apply_123 rfl ?_
      refine g_aload 0 dX9_apply_125 rfl ?_
      refine g_callV (nc2 := 0) (ns2 := 0) (ci := 9) (As := [.int (gI (9)), .ref (qa), .ref (qb)]) (st := []) rfl dX9_apply_127 okX9_plainAct lX9_119 itX9_plainAct seX9_plainAct rfl hob (by decide) (by decide) rfl (Nat.le_of_ble_eq_true rfl) (sC_plainAct9 N _ B p hp hp2 fa sy qa qb F G hob hw h27 h29 h31 h33 (by omega) (by omega) pp_a pp_b) (by omega) (by omega) (fun v13 hc13 q13 => ?_)
      obtain ⟨frc14, pw14, r29_14, r31_14, r33_14, hd14⟩ := q13
      have fk15_0 : hc13.2 (B) = some (cO B (fa) (sy)) := Fr.at0 frc14 (Ni.c ⟨(show NE (B) (B + 29) by unfold NE; omega), (show NE (B) (B + 30) by unfold NE; omega)⟩ (Ni.c ⟨(show NE (B) (B + 31) by unfold NE; omega), (show NE (B) (B + 32) by unfold NE; omega)⟩ (Ni.c ⟨(show NE (B) (B + 33) by unfold NE; omega), (show NE (B) (B + 34) by unfold NE; omega)⟩ (Ni.c ⟨(show NE (B) (B + 27) by unfold NE; omega), (show NE (B) (B + 28) by unfold NE; omega)⟩ (Ni_pl (by omega)))))) hob
      have fk15_1 : hc13.2 (B + 4) = some (oB 8 [.ref (B + 1), .ref (B + 5)]) := Fr.at0 frc14 (Ni.c ⟨(show NE (B + 4) (B + 29) by unfold NE; omega), (show NE (B + 4) (B + 30) by unfold NE; omega)⟩ (Ni.c ⟨(show NE (B + 4) (B + 31) by unfold NE; omega), (show NE (B + 4) (B + 32) by unfold NE; omega)⟩ (Ni.c ⟨(show NE (B + 4) (B + 33) by unfold NE; omega), (show NE (B + 4) (B + 34) by unfold NE; omega)⟩ (Ni.c ⟨(show NE (B + 4) (B + 27) by unfold NE; omega), (show NE (B + 4) (B + 28) by unfold NE; omega)⟩ (Ni_pl (by omega)))))) hw4
      have fk15_2 : hc13.2 (B + 7) = some (oB 2 [.ref (B + 1), .ref (B + 8), .ref (B + 10), .ref (B + 12), .ref (B + 14), .ref (B + 16), .ref (B + 18), .ref (B + 20), .ref (B + 22)]) := Fr.at0 frc14 (Ni.c ⟨(show NE (B + 7) (B + 29) by unfold NE; omega), (show NE (B + 7) (B + 30) by unfold NE; omega)⟩ (Ni.c ⟨(show NE (B + 7) (B + 31) by unfold NE; omega), (show NE (B + 7) (B + 32) by unfold NE; omega)⟩ (Ni.c ⟨(show NE (B + 7) (B + 33) by unfold NE; omega), (show NE (B + 7) (B + 34) by unfold NE; omega)⟩ (Ni.c ⟨(show NE (B + 7) (B + 27) by unfold NE; omega), (show NE (B + 7) (B + 28) by unfold NE; omega)⟩ (Ni_pl (by omega)))))) hw.1
      have fk15_3 : hc13.2 (B + 1) = some (oB 1 [.int (gI ((p : Int)))]) := Fr.at0 frc14 (Ni.c ⟨(show NE (B + 1) (B + 29) by unfold NE; omega), (show NE (B + 1) (B + 30) by unfold NE; omega)⟩ (Ni.c ⟨(show NE (B + 1) (B + 31) by unfold NE; omega), (show NE (B + 1) (B + 32) by unfold NE; omega)⟩ (Ni.c ⟨(show NE (B + 1) (B + 33) by unfold NE; omega), (show NE (B + 1) (B + 34) by unfold NE; omega)⟩ (Ni.c ⟨(show NE (B + 1) (B + 27) by unfold NE; omega), (show NE (B + 1) (B + 28) by unfold NE; omega)⟩ (Ni_pl (by omega)))))) hw.2.1
      have rk15_6 : CPt p B hc13 (c) X V := (hpt).fr frc14 (Ni.c ⟨(show NE (B + 24) (B + 29) by unfold NE; omega), (show NE (B + 24) (B + 30) by unfold NE; omega)⟩ (Ni.c ⟨(show NE (B + 24) (B + 31) by unfold NE; omega), (show NE (B + 24) (B + 32) by unfold NE; omega)⟩ (Ni.c ⟨(show NE (B + 24) (B + 33) by unfold NE; omega), (show NE (B + 24) (B + 34) by unfold NE; omega)⟩ (Ni.c ⟨(show NE (B + 24) (B + 27) by unfold NE; omega), (show NE (B + 24) (B + 28) by unfold NE; omega)⟩ (Ni_pl (by omega)))))) (Ni.c ⟨(show NE (B + 25) (B + 29) by unfold NE; omega), (show NE (B + 25) (B + 30) by unfold NE; omega)⟩ (Ni.c ⟨(show NE (B + 25) (B + 31) by unfold NE; omega), (show NE (B + 25) (B + 32) by unfold NE; omega)⟩ (Ni.c ⟨(show NE (B + 25) (B + 33) by unfold NE; omega), (show NE (B + 25) (B + 34) by unfold NE; omega)⟩ (Ni.c ⟨(show NE (B + 25) (B + 27) by unfold NE; omega), (show NE (B + 25) (B + 28) by unfold NE; omega)⟩ (Ni_pl (by omega)))))) (Ni.c ⟨(show NE (B + 26) (B + 29) by unfold NE; omega), (show NE (B + 26) (B + 30) by unfold NE; omega)⟩ (Ni.c ⟨(show NE (B + 26) (B + 31) by unfold NE; omega), (show NE (B + 26) (B + 32) by unfold NE; omega)⟩ (Ni.c ⟨(show NE (B + 26) (B + 33) by unfold NE; omega), (show NE (B + 26) (B + 34) by unfold NE; omega)⟩ (Ni.c ⟨(show NE (B + 26) (B + 27) by unfold NE; omega), (show NE (B + 26) (B + 28) by unfold NE; omega)⟩ (Ni_pl (by omega))))))
      have rk15_7 : CP hp B hc13 (T) := (hT).fr frc14 (Ni.c ⟨(show NE (B + 2) (B + 29) by unfold NE; omega), (show NE (B + 2) (B + 30) by unfold NE; omega)⟩ (Ni.c ⟨(show NE (B + 2) (B + 31) by unfold NE; omega), (show NE (B + 2) (B + 32) by unfold NE; omega)⟩ (Ni.c ⟨(show NE (B + 2) (B + 33) by unfold NE; omega), (show NE (B + 2) (B + 34) by unfold NE; omega)⟩ (Ni.c ⟨(show NE (B + 2) (B + 27) by unfold NE; omega), (show NE (B + 2) (B + 28) by unfold NE; omega)⟩ (Ni_pl (by omega)))))) (Ni.c ⟨(show NE (B + 3) (B + 29) by unfold NE; omega), (show NE (B + 3) (B + 30) by unfold NE; omega)⟩ (Ni.c ⟨(show NE (B + 3) (B + 31) by unfold NE; omega), (show NE (B + 3) (B + 32) by unfold NE; omega)⟩ (Ni.c ⟨(show NE (B + 3) (B + 33) by unfold NE; omega), (show NE (B + 3) (B + 34) by unfold NE; omega)⟩ (Ni.c ⟨(show NE (B + 3) (B + 27) by unfold NE; omega), (show NE (B + 3) (B + 28) by unfold NE; omega)⟩ (Ni_pl (by omega)))))) (lo_c (by omega) (lo_c (by omega) (lo_c (by omega) (lo_c (by omega) lo_pl))))
      have rk5015_0 : PA hc13 (B + 5) := (h5).fr frc14 (Ai.c (show AP (B + 5) (B + 29) by unfold AP; omega) (Ai.c (show AP (B + 5) (B + 31) by unfold AP; omega) (Ai.c (show AP (B + 5) (B + 33) by unfold AP; omega) (Ai.c (show AP (B + 5) (B + 27) by unfold AP; omega) (Ai_pl (by omega))))))
      have rk5015_5 : PP hp hc13 (qa) (F) := (pp_a).fr frc14 (Ai.c (show AP (qa) (B + 29) by unfold AP; omega) (Ai.c (show AP (qa) (B + 31) by unfold AP; omega) (Ai.c (show AP (qa) (B + 33) by unfold AP; omega) (Ai.c (show AP (qa) (B + 27) by unfold AP; omega) (Ai_pl (by omega))))))
      have rk5015_6 : PP hp hc13 (qb) (G) := (pp_b).fr frc14 (Ai.c (show AP (qb) (B + 29) by unfold AP; omega) (Ai.c (show AP (qb) (B + 31) by unfold AP; omega) (Ai.c (show AP (qb) (B + 33) by unfold AP; omega) (Ai.c (show AP (qb) (B + 27) by unfold AP; omega) (Ai_pl (by omega))))))
      have fr15 : Fr ((B + 29) :: (B + 31) :: (B + 33) :: (B + 27) :: pl B) h hc13 := ((Fr.rf ((B + 29) :: (B + 31) :: (B + 33) :: (B + 27) :: pl B) h)).tr ((frc14).mo (sub_c (List.Mem.head _) (sub_c (List.Mem.tail _ (List.Mem.head _)) (sub_c (List.Mem.tail _ (List.Mem.tail _ (List.Mem.head _))) (sub_c (List.Mem.tail _ (List.Mem.tail _ (List.Mem.tail _ (List.Mem.head _)))) (fun _ hx => (List.Mem.tail _ (List.Mem.tail _ (List.Mem.tail _ (List.Mem.tail _ hx))))))))))
      rcases hd14 with ⟨H, y1, rfl, y2⟩ | ⟨r, y0, y1, rfl, y2⟩
      · skip
        refine Go.nf (h' := hc13) (st' := [.int (gI (0))]) rfl rfl (Nat.le_refl _) (Nat.le_refl _) ?_
        refine g_istore (ls2 := [(7, .int (gI (0))), (6, .ref (qb)), (5, .ref (qa)), (4, .int (gI (0))), (0, .ref (B)), (1, .int (gI (9))), (2, .int (gI (a))), (3, .int (gI (b)))]) dX9_apply_130 (by decide) rfl ?_
        refine g_iload 0 dX9_apply_132 rfl ?_
        refine g_if_ge (tgt := 142) dX9_apply_134 rfl (by first | assumption | (unfold gW; omega)) (fun c16 => ?_) (fun c16 => absurd c16 (by omega))
        refine g_aload_n 4 dX9_apply_142 rfl ?_
        refine g_aload_n 4 dX9_apply_143 rfl ?_
        refine g_getf 6 dX9_apply_144 kX9 (by decide) fX9_50 fk15_0 rfl ?_
        refine g_callV (nc2 := 2) (ns2 := 290) (ci := 9) (As := [.ref (B + 27)]) (st := []) rfl dX9_apply_147 okX9_keep lX9_103 itX9_keep seX9_keep rfl fk15_0 (by decide) (by decide) rfl (Nat.le_of_ble_eq_true rfl) (sC_keep N _ B p hp hp2 c X V fa sy T (H) (⟨fk15_0, pw14, fk15_1, rk5015_0, (y2).ra, r29_14, r31_14, r33_14, rk15_6, (by rw [(fr15).1]; exact hlo)⟩) rk15_7 y2) (by omega) (by omega) (fun v17 hc17 q17 => ?_)
        obtain ⟨w18, hK18, rfl, cp18, fk18⟩ := q17
        have cs18 := CSt.fk ⟨fk15_0, pw14, fk15_1, rk5015_0, (y2).ra, r29_14, r31_14, r33_14, rk15_6, (by rw [(fr15).1]; exact hlo)⟩ fk18
        have fz18 : FK (pK B) h hc17 := FK.tr (FK.fr fr15 (fun x e hx hk => Ni_hi hk.1 (hi_c (by omega) (hi_c (by omega) (hi_c (by omega) (hi_c (by omega) hi_pl)))))) (fk18.mo (fun x e _ hk => kpK_pK hk))
        refine Go.nf (h' := hc17) (st' := [.int (gI (w18))]) rfl rfl (Nat.le_refl _) (Nat.le_refl _) ?_
        exact g_iret dX9_apply_150 rfl ⟨fz18, w18, _, (by rw [ap2_s g_a g_b]; rw [y1]; exact ⟨hK18, rfl⟩), rfl, cs18, cp18⟩
      · skip
        refine Go.nf (h' := hc13) (st' := [.int (gI (r))]) rfl rfl (Nat.le_refl _) (Nat.le_refl _) ?_
        have hrW : gW r := rac_gW y1
        refine g_istore (ls2 := [(7, .int (gI (r))), (6, .ref (qb)), (5, .ref (qa)), (4, .int (gI (0))), (0, .ref (B)), (1, .int (gI (9))), (2, .int (gI (a))), (3, .int (gI (b)))]) dX9_apply_130 (by decide) rfl ?_
        refine g_iload 0 dX9_apply_132 rfl ?_
        refine g_if_ge (tgt := 142) dX9_apply_134 rfl (by first | assumption | (unfold gW; omega)) (fun c19 => absurd c19 (by omega)) (fun c19 => ?_)
        refine g_iload 0 dX9_apply_137 rfl ?_
        refine g_goto (tgt := 150) dX9_apply_139 rfl ?_
        exact g_iret dX9_apply_150 rfl ⟨(FK.fr fr15 (fun x e hx hk => Ni_hi hk.1 (hi_c (by omega) (hi_c (by omega) (hi_c (by omega) (hi_c (by omega) hi_pl)))))), r, T, (by rw [ap2_s g_a g_b]; rw [y1]; exact ⟨rfl, rfl⟩), rfl, ⟨fk15_0, pw14, fk15_1, rk5015_0, y2, r29_14, r31_14, r33_14, rk15_6, (by rw [(fr15).1]; exact hlo)⟩, rk15_7⟩
    · skip
      refine Go.nf (h' := h) (st' := [.null]) hq10 rfl (Nat.le_refl _) (Nat.le_refl _) ?_
      refine g_astoreN (ls2 := [(6, .null), (5, .ref (qa)), (4, .int (gI (0))), (0, .ref (B)), (1, .int (gI (9))), (2, .int (gI (a))), (3, .int (gI (b)))]) dX9_apply_59 (by decide) rfl ?_
      refine g_aload 1 dX9_apply_61 rfl ?_
      refine g_ifnull (tgt := 71) dX9_apply_63 rfl ?_
      refine g_aloadN 0 dX9_apply_66 rfl ?_
      refine g_ifnnN (x := 0) (tgt := 73) dX9_apply_68 rfl ?_
      refine g_iconst dX9_apply_71 ?_
      exact g_iret dX9_apply_72 rfl ⟨(FK.fr (Fr.rf ((B + 29) :: (B + 31) :: (B + 33) :: (B + 27) :: pl B) h) (fun x e hx hk => Ni_hi hk.1 (hi_c (by omega) (hi_c (by omega) (hi_c (by omega) (hi_c (by omega) hi_pl)))))), (-1), T, (by rw [ap2_nb g_b]; exact ⟨rfl, rfl⟩), rfl, ⟨hob, hw, hw4, h5, h27, h29, h31, h33, hpt, (by rw [((Fr.rf ((B + 29) :: (B + 31) :: (B + 33) :: (B + 27) :: pl B) h)).1]; exact hlo)⟩, hT⟩
  · skip
    refine Go.nf (h' := h) (st' := [.null]) hq7 rfl (Nat.le_refl _) (Nat.le_refl _) ?_
    refine g_astoreN (ls2 := [(5, .null), (4, .int (gI (0))), (0, .ref (B)), (1, .int (gI (9))), (2, .int (gI (a))), (3, .int (gI (b)))]) dX9_apply_42 (by decide) rfl ?_
    refine g_iload 1 dX9_apply_44 rfl ?_
    refine g_if_eq (tgt := 54) dX9_apply_46 rfl (by first | assumption | (unfold gW; omega)) (fun c20 => ?_) (fun c20 => absurd c20 (by omega))
    refine g_aload_n 2 dX9_apply_54 rfl ?_
    refine g_iload_n 5 dX9_apply_55 rfl ?_
    refine g_callV (nc2 := 0) (ns2 := 0) (ci := 9) (As := [.int (gI (b))]) (st := []) rfl dX9_apply_56 okX9_find lX9_107 itX9_find seX9_find rfl hob (by decide) (by decide) rfl (Nat.le_of_ble_eq_true rfl) (sC_find N _ B p hp fa sy T (b) gW_b hob hT) (by omega) (by omega) (fun v21 hc21 q21 => ?_)
    obtain ⟨hq22, hr22⟩ := q21
    rcases hr22 with ⟨G, qb, g_b, rfl, l_b, pp_b⟩ | ⟨g_b, rfl⟩
    · skip
      refine Go.nf (h' := h) (st' := [.ref (qb)]) hq22 rfl (Nat.le_refl _) (Nat.le_refl _) ?_
      refine g_astore (ls2 := [(6, .ref (qb)), (5, .null), (4, .int (gI (0))), (0, .ref (B)), (1, .int (gI (9))), (2, .int (gI (a))), (3, .int (gI (b)))]) dX9_apply_59 (by decide) rfl ?_
      refine g_aloadN 1 dX9_apply_61 rfl ?_
      refine g_ifnullN (x := 0) (tgt := 71) dX9_apply_63 rfl ?_
      refine g_iconst dX9_apply_71 ?_
      exact g_iret dX9_apply_72 rfl ⟨(FK.fr (Fr.rf ((B + 29) :: (B + 31) :: (B + 33) :: (B + 27) :: pl B) h) (fun x e hx hk => Ni_hi hk.1 (hi_c (by omega) (hi_c (by omega) (hi_c (by omega) (hi_c (by omega) hi_pl)))))), (-1), T, (by rw [ap2_na g_a]; exact ⟨rfl, rfl⟩), rfl, ⟨hob, hw, hw4, h5, h27, h29, h31, h33, hpt, (by rw [((Fr.rf ((B + 29) :: (B + 31) :: (B + 33) :: (B + 27) :: pl B) h)).1]; exact hlo)⟩, hT⟩
    · skip
      refine Go.nf (h' := h) (st' := [.null]) hq22 rfl (Nat.le_refl _) (Nat.le_refl _) ?_
      refine g_astoreN (ls2 := [(6, .null), (5, .null), (4, .int (gI (0))), (0, .ref (B)), (1, .int (gI (9))), (2, .int (gI (a))), (3, .int (gI (b)))]) dX9_apply_59 (by decide) rfl ?_
      refine g_aloadN 1 dX9_apply_61 rfl ?_
      refine g_ifnullN (x := 0) (tgt := 71) dX9_apply_63 rfl ?_
      refine g_iconst dX9_apply_71 ?_
      exact g_iret dX9_apply_72 rfl ⟨(FK.fr (Fr.rf ((B + 29) :: (B + 31) :: (B + 33) :: (B + 27) :: pl B) h) (fun x e hx hk => Ni_hi hk.1 (hi_c (by omega) (hi_c (by omega) (hi_c (by omega) (hi_c (by omega) hi_pl)))))), (-1), T, (by rw [ap2_na g_a]; exact ⟨rfl, rfl⟩), rfl, ⟨hob, hw, hw4, h5, h27, h29, h31, h33, hpt, (by rw [((Fr.rf ((B + 29) :: (B + 31) :: (B + 33) :: (B + 27) :: pl B) h)).1]; exact hlo)⟩, hT⟩
set_option maxHeartbeats 4000000 in
set_option maxRecDepth 100000 in
theorem sC_apply10 (N : GN) (h : GH) (B p : Nat) (hp : prm p) (hp2 : p ≤ 65536) (c : Int) (X V : Int → Int) (fa sy : Value) (T : PT p) (a b : Int) (gW_a : gW a) (gW_b : gW b) (hcs : CSt p B h c X V fa sy) (hT : CP hp B h T)  : Sp N yX9_apply mX9_apply 2 290 [.ref (B), .int (gI (10)), .int (gI (a)), .int (gI (b))] h (fun v h1 => FK (pK B) h h1 ∧ ∃ w T2, Ou T (ap2 T a b (rac hp 10)) w T2 ∧ v = some (.int (gI w)) ∧ CSt p B h1 c X V fa sy ∧ CP hp B h1 T2) := by
  refine Sp.of (by decide) rfl rfl (Nat.le_of_ble_eq_true rfl) ?_
  show Go N mX9_apply _ 2 290 h 0 [(0, .ref (B)), (1, .int (gI (10))), (2, .int (gI (a))), (3, .int (gI (b)))] []
  have hp1 := hp.1
  have hcs0 := hcs
  obtain ⟨hob, hw, hw4, h5, h27, h29, h31, h33, hpt, hlo⟩ := hcs0
  refine g_iload_n 1 dX9_apply_0 rfl ?_
  refine g_if_lt (tgt := 10) dX9_apply_1 rfl (by first | assumption | (unfold gW; omega)) (fun c1 => absurd c1 (by omega)) (fun c1 => ?_)
  refine g_iload_n 1 dX9_apply_4 rfl ?_
  refine g_bipush dX9_apply_5 (by decide) ?_
  refine g_icmp_le (tgt := 13) dX9_apply_7 rfl (by first | assumption | (unfold gW; omega)) (by first | assumption | (unfold gW; omega)) (fun c2 => ?_) (fun c2 => absurd c2 (by omega))
  refine g_iload_n 1 dX9_apply_13 rfl ?_
  refine g_iconst dX9_apply_14 ?_
  refine g_icmp_eq (tgt := 30) dX9_apply_15 rfl (by first | assumption | (unfold gW; omega)) (by first | assumption | (unfold gW; omega)) (fun c3 => absurd c3 (by omega)) (fun c3 => ?_)
  refine g_iload_n 1 dX9_apply_18 rfl ?_
  refine g_bipush dX9_apply_19 (by decide) ?_
  refine g_icmp_eq (tgt := 30) dX9_apply_21 rfl (by first | assumption | (unfold gW; omega)) (by first | assumption | (unfold gW; omega)) (fun c4 => absurd c4 (by omega)) (fun c4 => ?_)
  refine g_iload_n 1 dX9_apply_24 rfl ?_
  refine g_bipush dX9_apply_25 (by decide) ?_
  refine g_icmp_ne (tgt := 34) dX9_apply_27 rfl (by first | assumption | (unfold gW; omega)) (by first | assumption | (unfold gW; omega)) (fun c5 => ?_) (fun c5 => absurd c5 (by omega))
  refine g_iconst dX9_apply_34 ?_
  refine g_istore (ls2 := [(4, .int (gI (0))), (0, .ref (B)), (1, .int (gI (10))), (2, .int (gI (a))), (3, .int (gI (b)))]) dX9_apply_35 (by decide) rfl ?_
  refine g_aload_n 1 dX9_apply_37 rfl ?_
  refine g_iload_n 3 dX9_apply_38 rfl ?_
  refine g_callV (nc2 := 0) (ns2 := 0) (ci := 9) (As := [.int (gI (a))]) (st := []) rfl dX9_apply_39 okX9_find lX9_107 itX9_find seX9_find rfl hob (by decide) (by decide) rfl (Nat.le_of_ble_eq_true rfl) (sC_find N _ B p hp fa sy T (a) gW_a hob hT) (by omega) (by omega) (fun v6 hc6 q6 => ?_)
  obtain ⟨hq7, hr7⟩ := q6
  rcases hr7 with ⟨F, qa, g_a, rfl, l_a, pp_a⟩ | ⟨g_a, rfl⟩
  · skip
    refine Go.nf (h' := h) (st' := [.ref (qa)]) hq7 rfl (Nat.le_refl _) (Nat.le_refl _) ?_
    refine g_astore (ls2 := [(5, .ref (qa)), (4, .int (gI (0))), (0, .ref (B)), (1, .int (gI (10))), (2, .int (gI (a))), (3, .int (gI (b)))]) dX9_apply_42 (by decide) rfl ?_
    refine g_iload 1 dX9_apply_44 rfl ?_
    refine g_if_eq (tgt := 54) dX9_apply_46 rfl (by first | assumption | (unfold gW; omega)) (fun c8 => ?_) (fun c8 => absurd c8 (by omega))
    refine g_aload_n 2 dX9_apply_54 rfl ?_
    refine g_iload_n 5 dX9_apply_55 rfl ?_
    refine g_callV (nc2 := 0) (ns2 := 0) (ci := 9) (As := [.int (gI (b))]) (st := []) rfl dX9_apply_56 okX9_find lX9_107 itX9_find seX9_find rfl hob (by decide) (by decide) rfl (Nat.le_of_ble_eq_true rfl) (sC_find N _ B p hp fa sy T (b) gW_b hob hT) (by omega) (by omega) (fun v9 hc9 q9 => ?_)
    obtain ⟨hq10, hr10⟩ := q9
    rcases hr10 with ⟨G, qb, g_b, rfl, l_b, pp_b⟩ | ⟨g_b, rfl⟩
    · skip
      refine Go.nf (h' := h) (st' := [.ref (qb)]) hq10 rfl (Nat.le_refl _) (Nat.le_refl _) ?_
      refine g_astore (ls2 := [(6, .ref (qb)), (5, .ref (qa)), (4, .int (gI (0))), (0, .ref (B)), (1, .int (gI (10))), (2, .int (gI (a))), (3, .int (gI (b)))]) dX9_apply_59 (by decide) rfl ?_
      refine g_aload 1 dX9_apply_61 rfl ?_
      refine g_ifnull (tgt := 71) dX9_apply_63 rfl ?_
      refine g_aload 0 dX9_apply_66 rfl ?_
      refine g_ifnn (tgt := 73) dX9_apply_68 rfl ?_
      refine g_iload_n 4 dX9_apply_73 rfl ?_
      refine g_bipush dX9_apply_74 (by decide) ?_
      refine g_icmp_ge (tgt := 102) dX9_apply_76 rfl (by first | assumption | (unfold gW; omega)) (by first | assumption | (unfold gW; omega)) (fun c11 => ?_) (fun c11 => absurd c11 (by omega))
      refine g_iload_n 4 dX9_apply_102 rfl ?_
      refine g_bipush dX9_apply_103 (by decide) ?_
      refine g_icmp_ne (tgt := 121) dX9_apply_105 rfl (by first | assumption | (unfold gW; omega)) (by first | assumption | (unfold gW; omega)) (fun c12 => ?_) (fun c12 => absurd c12 (by omega))
      refine g_aload_n 3 dX9_apply_121 rfl ?_
      refine g_iload_n 4 dX9_apply_122 rfl ?_
      refine g_aload 1 dX9_apply_123 rfl ?_
      refine g_aload 0 dX9_apply_125 rfl ?_
      refine g_callV (nc2 := 0) (ns2 := 0) (ci := 9) (As := [.int (gI (10)), .ref (qa), .ref (qb)]) (st := []) rfl dX9_apply_127 okX9_plainAct lX9_119 itX9_plainAct seX9_plainAct rfl hob (by decide) (by decide) rfl (Nat.le_of_ble_eq_true rfl) (sC_plainAct10 N _ B p hp hp2 fa sy qa qb F G hob hw h27 h29 h31 h33 (by omega) (by omega) pp_a pp_b) (by omega) (by omega) (fun v13 hc13 q13 => ?_)
      obtain ⟨frc14, pw14, r29_14, r31_14, r33_14, hd14⟩ := q13
      have fk15_0 : hc13.2 (B) = some (cO B (fa) (sy)) := Fr.at0 frc14 (Ni.c ⟨(show NE (B) (B + 29) by unfold NE; omega), (show NE (B) (B + 30) by unfold NE; omega)⟩ (Ni.c ⟨(show NE (B) (B + 31) by unfold NE; omega), (show NE (B) (B + 32) by unfold NE; omega)⟩ (Ni.c ⟨(show NE (B) (B + 33) by unfold NE; omega), (show NE (B) (B + 34) by unfold NE; omega)⟩ (Ni.c ⟨(show NE (B) (B + 27) by unfold NE; omega), (show NE (B) (B + 28) by unfold NE; omega)⟩ (Ni_pl (by omega)))))) hob
      have fk15_1 : hc13.2 (B + 4) = some (oB 8 [.ref (B + 1), .ref (B + 5)]) := Fr.at0 frc14 (Ni.c ⟨(show NE (B + 4) (B + 29) by unfold NE; omega), (show NE (B + 4) (B + 30) by unfold NE; omega)⟩ (Ni.c ⟨(show NE (B + 4) (B + 31) by unfold NE; omega), (show NE (B + 4) (B + 32) by unfold NE; omega)⟩ (Ni.c ⟨(show NE (B + 4) (B + 33) by unfold NE; omega), (show NE (B + 4) (B + 34) by unfold NE; omega)⟩ (Ni.c ⟨(show NE (B + 4) (B + 27) by unfold NE; omega), (show NE (B + 4) (B + 28) by unfold NE; omega)⟩ (Ni_pl (by omega)))))) hw4
      have fk15_2 : hc13.2 (B + 7) = some (oB 2 [.ref (B + 1), .ref (B + 8), .ref (B + 10), .ref (B + 12), .ref (B + 14), .ref (B + 16), .ref (B + 18), .ref (B + 20), .ref (B + 22)]) := Fr.at0 frc14 (Ni.c ⟨(show NE (B + 7) (B + 29) by unfold NE; omega), (show NE (B + 7) (B + 30) by unfold NE; omega)⟩ (Ni.c ⟨(show NE (B + 7) (B + 31) by unfold NE; omega), (show NE (B + 7) (B + 32) by unfold NE; omega)⟩ (Ni.c ⟨(show NE (B + 7) (B + 33) by unfold NE; omega), (show NE (B + 7) (B + 34) by unfold NE; omega)⟩ (Ni.c ⟨(show NE (B + 7) (B + 27) by unfold NE; omega), (show NE (B + 7) (B + 28) by unfold NE; omega)⟩ (Ni_pl (by omega)))))) hw.1
      have fk15_3 : hc13.2 (B + 1) = some (oB 1 [.int (gI ((p : Int)))]) := Fr.at0 frc14 (Ni.c ⟨(show NE (B + 1) (B + 29) by unfold NE; omega), (show NE (B + 1) (B + 30) by unfold NE; omega)⟩ (Ni.c ⟨(show NE (B + 1) (B + 31) by unfold NE; omega), (show NE (B + 1) (B + 32) by unfold NE; omega)⟩ (Ni.c ⟨(show NE (B + 1) (B + 33) by unfold NE; omega), (show NE (B + 1) (B + 34) by unfold NE; omega)⟩ (Ni.c ⟨(show NE (B + 1) (B + 27) by unfold NE; omega), (show NE (B + 1) (B + 28) by unfold NE; omega)⟩ (Ni_pl (by omega)))))) hw.2.1
      have rk15_6 : CPt p B hc13 (c) X V := (hpt).fr frc14 (Ni.c ⟨(show NE (B + 24) (B + 29) by unfold NE; omega), (show NE (B + 24) (B + 30) by unfold NE; omega)⟩ (Ni.c ⟨(show NE (B + 24) (B + 31) by unfold NE; omega), (show NE (B + 24) (B + 32) by unfold NE; omega)⟩ (Ni.c ⟨(show NE (B + 24) (B + 33) by unfold NE; omega), (show NE (B + 24) (B + 34) by unfold NE; omega)⟩ (Ni.c ⟨(show NE (B + 24) (B + 27) by unfold NE; omega), (show NE (B + 24) (B + 28) by unfold NE; omega)⟩ (Ni_pl (by omega)))))) (Ni.c ⟨(show NE (B + 25) (B + 29) by unfold NE; omega), (show NE (B + 25) (B + 30) by unfold NE; omega)⟩ (Ni.c ⟨(show NE (B + 25) (B + 31) by unfold NE; omega), (show NE (B + 25) (B + 32) by unfold NE; omega)⟩ (Ni.c ⟨(show NE (B + 25) (B + 33) by unfold NE; omega), (show NE (B + 25) (B + 34) by unfold NE; omega)⟩ (Ni.c ⟨(show NE (B + 25) (B + 27) by unfold NE; omega), (show NE (B + 25) (B + 28) by unfold NE; omega)⟩ (Ni_pl (by omega)))))) (Ni.c ⟨(show NE (B + 26) (B + 29) by unfold NE; omega), (show NE (B + 26) (B + 30) by unfold NE; omega)⟩ (Ni.c ⟨(show NE (B + 26) (B + 31) by unfold NE; omega), (show NE (B + 26) (B + 32) by unfold NE; omega)⟩ (Ni.c ⟨(show NE (B + 26) (B + 33) by unfold NE; omega), (show NE (B + 26) (B + 34) by unfold NE; omega)⟩ (Ni.c ⟨(show NE (B + 26) (B + 27) by unfold NE; omega), (show NE (B + 26) (B + 28) by unfold NE; omega)⟩ (Ni_pl (by omega))))))
      have rk15_7 : CP hp B hc13 (T) := (hT).fr frc14 (Ni.c ⟨(show NE (B + 2) (B + 29) by unfold NE; omega), (show NE (B + 2) (B + 30) by unfold NE; omega)⟩ (Ni.c ⟨(show NE (B + 2) (B + 31) by unfold NE; omega), (show NE (B + 2) (B + 32) by unfold NE; omega)⟩ (Ni.c ⟨(show NE (B + 2) (B + 33) by unfold NE; omega), (show NE (B + 2) (B + 34) by unfold NE; omega)⟩ (Ni.c ⟨(show NE (B + 2) (B + 27) by unfold NE; omega), (show NE (B + 2) (B + 28) by unfold NE; omega)⟩ (Ni_pl (by omega)))))) (Ni.c ⟨(show NE (B + 3) (B + 29) by unfold NE; omega), (show NE (B + 3) (B + 30) by unfold NE; omega)⟩ (Ni.c ⟨(show NE (B + 3) (B + 31) by unfold NE; omega), (show NE (B + 3) (B + 32) by unfold NE; omega)⟩ (Ni.c ⟨(show NE (B + 3) (B + 33) by unfold NE; omega), (show NE (B + 3) (B + 34) by unfold NE; omega)⟩ (Ni.c ⟨(show NE (B + 3) (B + 27) by unfold NE; omega), (show NE (B + 3) (B + 28) by unfold NE; omega)⟩ (Ni_pl (by omega)))))) (lo_c (by omega) (lo_c (by omega) (lo_c (by omega) (lo_c (by omega) lo_pl))))
      have rk5015_0 : PA hc13 (B + 5) := (h5).fr frc14 (Ai.c (show AP (B + 5) (B + 29) by unfold AP; omega) (Ai.c (show AP (B + 5) (B + 31) by unfold AP; omega) (Ai.c (show AP (B + 5) (B + 33) by unfold AP; omega) (Ai.c (show AP (B + 5) (B + 27) by unfold AP; omega) (Ai_pl (by omega))))))
      have rk5015_5 : PP hp hc13 (qa) (F) := (pp_a).fr frc14 (Ai.c (show AP (qa) (B + 29) by unfold AP; omega) (Ai.c (show AP (qa) (B + 31) by unfold AP; omega) (Ai.c (show AP (qa) (B + 33) by unfold AP; omega) (Ai.c (show AP (qa) (B + 27) by unfold AP; omega) (Ai_pl (by omega))))))
      have rk5015_6 : PP hp hc13 (qb) (G) := (pp_b).fr frc14 (Ai.c (show AP (qb) (B + 29) by unfold AP; omega) (Ai.c (show AP (qb) (B + 31) by unfold AP; omega) (Ai.c (show AP (qb) (B + 33) by unfold AP; omega) (Ai.c (show AP (qb) (B + 27) by unfold AP; omega) (Ai_pl (by omega))))))
      have fr15 : Fr ((B + 29) :: (B + 31) :: (B + 33) :: (B + 27) :: pl B) h hc13 := ((Fr.rf ((B + 29) :: (B + 31) :: (B + 33) :: (B + 27) :: pl B) h)).tr ((frc14).mo (sub_c (List.Mem.head _) (sub_c (List.Mem.tail _ (List.Mem.head _)) (sub_c (List.Mem.tail _ (List.Mem.tail _ (List.Mem.head _))) (sub_c (List.Mem.tail _ (List.Mem.tail _ (List.Mem.tail _ (List.Mem.head _)))) (fun _ hx => (List.Mem.tail _ (List.Mem.tail _ (List.Mem.tail _ (List.Mem.tail _ hx))))))))))
      rcases hd14 with ⟨H, y1, rfl, y2⟩ | ⟨r, y0, y1, rfl, y2⟩
      · skip
        refine Go.nf (h' := hc13) (st' := [.int (gI (0))]) rfl rfl (Nat.le_refl _) (Nat.le_refl _) ?_
        refine g_istore (ls2 := [(7, .int (gI (0))), (6, .ref (qb)), (5, .ref (qa)), (4, .int (gI (0))), (0, .ref (B)), (1, .int (gI (10))), (2, .int (gI (a))), (3, .int (gI (b)))]) dX9_apply_130 (by decide) rfl ?_
        refine g_iload 0 dX9_apply_132 rfl ?_
        refine g_if_ge (tgt := 142) dX9_apply_134 rfl (by first | assumption | (unfold gW; omega)) (fun c16 => ?_) (fun c16 => absurd c16 (by omega))
        refine g_aload_n 4 dX9_apply_142 rfl ?_
        refine g_aload_n 4 dX9_apply_143 rfl ?_
        refine g_getf 6 dX9_apply_144 kX9 (by decide) fX9_50 fk15_0 rfl ?_
        refine g_callV (nc2 := 2) (ns2 := 290) (ci := 9) (As := [.ref (B + 27)]) (st := []) rfl dX9_apply_147 okX9_keep lX9_103 itX9_keep seX9_keep rfl fk15_0 (by decide) (by decide) rfl (Nat.le_of_ble_eq_true rfl) (sC_keep N _ B p hp hp2 c X V fa sy T (H) (⟨fk15_0, pw14, fk15_1, rk5015_0, (y2).ra, r29_14, r31_14, r33_14, rk15_6, (by rw [(fr15).1]; exact hlo)⟩) rk15_7 y2) (by omega) (by omega) (fun v17 hc17 q17 => ?_)
        obtain ⟨w18, hK18, rfl, cp18, fk18⟩ := q17
        have cs18 := CSt.fk ⟨fk15_0, pw14, fk15_1, rk5015_0, (y2).ra, r29_14, r31_14, r33_14, rk15_6, (by rw [(fr15).1]; exact hlo)⟩ fk18
        have fz18 : FK (pK B) h hc17 := FK.tr (FK.fr fr15 (fun x e hx hk => Ni_hi hk.1 (hi_c (by omega) (hi_c (by omega) (hi_c (by omega) (hi_c (by omega) hi_pl)))))) (fk18.mo (fun x e _ hk => kpK_pK hk))
        refine Go.nf (h' := hc17) (st' := [.int (gI (w18))]) rfl rfl (Nat.le_refl _) (Nat.le_refl _) ?_
        exact g_iret dX9_apply_150 rfl ⟨fz18, w18, _, (by rw [ap2_s g_a g_b]; rw [y1]; exact ⟨hK18, rfl⟩), rfl, cs18, cp18⟩
      · skip
        refine Go.nf (h' := hc13) (st' := [.int (gI (r))]) rfl rfl (Nat.le_refl _) (Nat.le_refl _) ?_
        have hrW : gW r := rac_gW y1
        refine g_istore (ls2 := [(7, .int (gI (r))), (6, .ref (qb)), (5, .ref (qa)), (4, .int (gI (0))), (0, .ref (B)), (1, .int (gI (10))), (2, .int (gI (a))), (3, .int (gI (b)))]) dX9_apply_130 (by decide) rfl ?_
        refine g_iload 0 dX9_apply_132 rfl ?_
        refine g_if_ge (tgt := 142) dX9_apply_134 rfl (by first | assumption | (unfold gW; omega)) (fun c19 => absurd c19 (by omega)) (fun c19 => ?_)
        refine g_iload 0 dX9_apply_137 rfl ?_
        refine g_goto (tgt := 150) dX9_apply_139 rfl ?_
        exact g_iret dX9_apply_150 rfl ⟨(FK.fr fr15 (fun x e hx hk => Ni_hi hk.1 (hi_c (by omega) (hi_c (by omega) (hi_c (by omega) (hi_c (by omega) hi_pl)))))), r, T, (by rw [ap2_s g_a g_b]; rw [y1]; exact ⟨rfl, rfl⟩), rfl, ⟨fk15_0, pw14, fk15_1, rk5015_0, y2, r29_14, r31_14, r33_14, rk15_6, (by rw [(fr15).1]; exact hlo)⟩, rk15_7⟩
    · skip
      refine Go.nf (h' := h) (st' := [.null]) hq10 rfl (Nat.le_refl _) (Nat.le_refl _) ?_
      refine g_astoreN (ls2 := [(6, .null), (5, .ref (qa)), (4, .int (gI (0))), (0, .ref (B)), (1, .int (gI (10))), (2, .int (gI (a))), (3, .int (gI (b)))]) dX9_apply_59 (by decide) rfl ?_
      refine g_aload 1 dX9_apply_61 rfl ?_
      refine g_ifnull (tgt := 71) dX9_apply_63 rfl ?_
      refine g_aloadN 0 dX9_apply_66 rfl ?_
      refine g_ifnnN (x := 0) (tgt := 73) dX9_apply_68 rfl ?_
      refine g_iconst dX9_apply_71 ?_
      exact g_iret dX9_apply_72 rfl ⟨(FK.fr (Fr.rf ((B + 29) :: (B + 31) :: (B + 33) :: (B + 27) :: pl B) h) (fun x e hx hk => Ni_hi hk.1 (hi_c (by omega) (hi_c (by omega) (hi_c (by omega) (hi_c (by omega) hi_pl)))))), (-1), T, (by rw [ap2_nb g_b]; exact ⟨rfl, rfl⟩), rfl, ⟨hob, hw, hw4, h5, h27, h29, h31, h33, hpt, (by rw [((Fr.rf ((B + 29) :: (B + 31) :: (B + 33) :: (B + 27) :: pl B) h)).1]; exact hlo)⟩, hT⟩
  · skip
    refine Go.nf (h' := h) (st' := [.null]) hq7 rfl (Nat.le_refl _) (Nat.le_refl _) ?_
    refine g_astoreN (ls2 := [(5, .null), (4, .int (gI (0))), (0, .ref (B)), (1, .int (gI (10))), (2, .int (gI (a))), (3, .int (gI (b)))]) dX9_apply_42 (by decide) rfl ?_
    refine g_iload 1 dX9_apply_44 rfl ?_
    refine g_if_eq (tgt := 54) dX9_apply_46 rfl (by first | assumption | (unfold gW; omega)) (fun c20 => ?_) (fun c20 => absurd c20 (by omega))
    refine g_aload_n 2 dX9_apply_54 rfl ?_
    refine g_iload_n 5 dX9_apply_55 rfl ?_
    refine g_callV (nc2 := 0) (ns2 := 0) (ci := 9) (As := [.int (gI (b))]) (st := []) rfl dX9_apply_56 okX9_find lX9_107 itX9_find seX9_find rfl hob (by decide) (by decide) rfl (Nat.le_of_ble_eq_true rfl) (sC_find N _ B p hp fa sy T (b) gW_b hob hT) (by omega) (by omega) (fun v21 hc21 q21 => ?_)
    obtain ⟨hq22, hr22⟩ := q21
    rcases hr22 with ⟨G, qb, g_b, rfl, l_b, pp_b⟩ | ⟨g_b, rfl⟩
    · skip
      refine Go.nf (h' := h) (st' := [.ref (qb)]) hq22 rfl (Nat.le_refl _) (Nat.le_refl _) ?_
      refine g_astore (ls2 := [(6, .ref (qb)), (5, .null), (4, .int (gI (0))), (0, .ref (B)), (1, .int (gI (10))), (2, .int (gI (a))), (3, .int (gI (b)))]) dX9_apply_59 (by decide) rfl ?_
      refine g_aloadN 1 dX9_apply_61 rfl ?_
      refine g_ifnullN (x := 0) (tgt := 71) dX9_apply_63 rfl ?_
      refine g_iconst dX9_apply_71 ?_
      exact g_iret dX9_apply_72 rfl ⟨(FK.fr (Fr.rf ((B + 29) :: (B + 31) :: (B + 33) :: (B + 27) :: pl B) h) (fun x e hx hk => Ni_hi hk.1 (hi_c (by omega) (hi_c (by omega) (hi_c (by omega) (hi_c (by omega) hi_pl)))))), (-1), T, (by rw [ap2_na g_a]; exact ⟨rfl, rfl⟩), rfl, ⟨hob, hw, hw4, h5, h27, h29, h31, h33, hpt, (by rw [((Fr.rf ((B + 29) :: (B + 31) :: (B + 33) :: (B + 27) :: pl B) h)).1]; exact hlo)⟩, hT⟩
    · skip
      refine Go.nf (h' := h) (st' := [.null]) hq22 rfl (Nat.le_refl _) (Nat.le_refl _) ?_
      refine g_astoreN (ls2 := [(6, .null), (5, .null), (4, .int (gI (0))), (0, .ref (B)), (1, .int (gI (10))), (2, .int (gI (a))), (3, .int (gI (b)))]) dX9_apply_59 (by decide) rfl ?_
      refine g_aloadN 1 dX9_apply_61 rfl ?_
      refine g_ifnullN (x := 0) (tgt := 71) dX9_apply_63 rfl ?_
      refine g_iconst dX9_apply_71 ?_
      exact g_iret dX9_apply_72 rfl ⟨(FK.fr (Fr.rf ((B + 29) :: (B + 31) :: (B + 33) :: (B + 27) :: pl B) h) (fun x e hx hk => Ni_hi hk.1 (hi_c (by omega) (hi_c (by omega) (hi_c (by omega) (hi_c (by omega) hi_pl)))))), (-1), T, (by rw [ap2_na g_a]; exact ⟨rfl, rfl⟩), rfl, ⟨hob, hw, hw4, h5, h27, h29, h31, h33, hpt, (by rw [((Fr.rf ((B + 29) :: (B + 31) :: (B + 33) :: (B + 27) :: pl B) h)).1]; exact hlo)⟩, hT⟩
set_option maxHeartbeats 4000000 in
set_option maxRecDepth 100000 in
theorem sC_apply11 (N : GN) (h : GH) (B p : Nat) (hp : prm p) (hp2 : p ≤ 65536) (c : Int) (X V : Int → Int) (fa sy : Value) (T : PT p) (a b : Int) (gW_a : gW a) (gW_b : gW b) (hcs : CSt p B h c X V fa sy) (hT : CP hp B h T)  : Sp N yX9_apply mX9_apply 2 290 [.ref (B), .int (gI (11)), .int (gI (a)), .int (gI (b))] h (fun v h1 => FK (pK B) h h1 ∧ ∃ w T2, Ou T (ap2 T a b (rac hp 11)) w T2 ∧ v = some (.int (gI w)) ∧ CSt p B h1 c X V fa sy ∧ CP hp B h1 T2) := by
  refine Sp.of (by decide) rfl rfl (Nat.le_of_ble_eq_true rfl) ?_
  show Go N mX9_apply _ 2 290 h 0 [(0, .ref (B)), (1, .int (gI (11))), (2, .int (gI (a))), (3, .int (gI (b)))] []
  have hp1 := hp.1
  have hcs0 := hcs
  obtain ⟨hob, hw, hw4, h5, h27, h29, h31, h33, hpt, hlo⟩ := hcs0
  refine g_iload_n 1 dX9_apply_0 rfl ?_
  refine g_if_lt (tgt := 10) dX9_apply_1 rfl (by first | assumption | (unfold gW; omega)) (fun c1 => absurd c1 (by omega)) (fun c1 => ?_)
  refine g_iload_n 1 dX9_apply_4 rfl ?_
  refine g_bipush dX9_apply_5 (by decide) ?_
  refine g_icmp_le (tgt := 13) dX9_apply_7 rfl (by first | assumption | (unfold gW; omega)) (by first | assumption | (unfold gW; omega)) (fun c2 => ?_) (fun c2 => absurd c2 (by omega))
  refine g_iload_n 1 dX9_apply_13 rfl ?_
  refine g_iconst dX9_apply_14 ?_
  refine g_icmp_eq (tgt := 30) dX9_apply_15 rfl (by first | assumption | (unfold gW; omega)) (by first | assumption | (unfold gW; omega)) (fun c3 => absurd c3 (by omega)) (fun c3 => ?_)
  refine g_iload_n 1 dX9_apply_18 rfl ?_
  refine g_bipush dX9_apply_19 (by decide) ?_
  refine g_icmp_eq (tgt := 30) dX9_apply_21 rfl (by first | assumption | (unfold gW; omega)) (by first | assumption | (unfold gW; omega)) (fun c4 => absurd c4 (by omega)) (fun c4 => ?_)
  refine g_iload_n 1 dX9_apply_24 rfl ?_
  refine g_bipush dX9_apply_25 (by decide) ?_
  refine g_icmp_ne (tgt := 34) dX9_apply_27 rfl (by first | assumption | (unfold gW; omega)) (by first | assumption | (unfold gW; omega)) (fun c5 => ?_) (fun c5 => absurd c5 (by omega))
  refine g_iconst dX9_apply_34 ?_
  refine g_istore (ls2 := [(4, .int (gI (0))), (0, .ref (B)), (1, .int (gI (11))), (2, .int (gI (a))), (3, .int (gI (b)))]) dX9_apply_35 (by decide) rfl ?_
  refine g_aload_n 1 dX9_apply_37 rfl ?_
  refine g_iload_n 3 dX9_apply_38 rfl ?_
  refine g_callV (nc2 := 0) (ns2 := 0) (ci := 9) (As := [.int (gI (a))]) (st := []) rfl dX9_apply_39 okX9_find lX9_107 itX9_find seX9_find rfl hob (by decide) (by decide) rfl (Nat.le_of_ble_eq_true rfl) (sC_find N _ B p hp fa sy T (a) gW_a hob hT) (by omega) (by omega) (fun v6 hc6 q6 => ?_)
  obtain ⟨hq7, hr7⟩ := q6
  rcases hr7 with ⟨F, qa, g_a, rfl, l_a, pp_a⟩ | ⟨g_a, rfl⟩
  · skip
    refine Go.nf (h' := h) (st' := [.ref (qa)]) hq7 rfl (Nat.le_refl _) (Nat.le_refl _) ?_
    refine g_astore (ls2 := [(5, .ref (qa)), (4, .int (gI (0))), (0, .ref (B)), (1, .int (gI (11))), (2, .int (gI (a))), (3, .int (gI (b)))]) dX9_apply_42 (by decide) rfl ?_
    refine g_iload 1 dX9_apply_44 rfl ?_
    refine g_if_eq (tgt := 54) dX9_apply_46 rfl (by first | assumption | (unfold gW; omega)) (fun c8 => ?_) (fun c8 => absurd c8 (by omega))
    refine g_aload_n 2 dX9_apply_54 rfl ?_
    refine g_iload_n 5 dX9_apply_55 rfl ?_
    refine g_callV (nc2 := 0) (ns2 := 0) (ci := 9) (As := [.int (gI (b))]) (st := []) rfl dX9_apply_56 okX9_find lX9_107 itX9_find seX9_find rfl hob (by decide) (by decide) rfl (Nat.le_of_ble_eq_true rfl) (sC_find N _ B p hp fa sy T (b) gW_b hob hT) (by omega) (by omega) (fun v9 hc9 q9 => ?_)
    obtain ⟨hq10, hr10⟩ := q9
    rcases hr10 with ⟨G, qb, g_b, rfl, l_b, pp_b⟩ | ⟨g_b, rfl⟩
    · skip
      refine Go.nf (h' := h) (st' := [.ref (qb)]) hq10 rfl (Nat.le_refl _) (Nat.le_refl _) ?_
      refine g_astore (ls2 := [(6, .ref (qb)), (5, .ref (qa)), (4, .int (gI (0))), (0, .ref (B)), (1, .int (gI (11))), (2, .int (gI (a))), (3, .int (gI (b)))]) dX9_apply_59 (by decide) rfl ?_
      refine g_aload 1 dX9_apply_61 rfl ?_
      refine g_ifnull (tgt := 71) dX9_apply_63 rfl ?_
      refine g_aload 0 dX9_apply_66 rfl ?_
      refine g_ifnn (tgt := 73) dX9_apply_68 rfl ?_
      refine g_iload_n 4 dX9_apply_73 rfl ?_
      refine g_bipush dX9_apply_74 (by decide) ?_
      refine g_icmp_ge (tgt := 102) dX9_apply_76 rfl (by first | assumption | (unfold gW; omega)) (by first | assumption | (unfold gW; omega)) (fun c11 => ?_) (fun c11 => absurd c11 (by omega))
      refine g_iload_n 4 dX9_apply_102 rfl ?_
      refine g_bipush dX9_apply_103 (by decide) ?_
      refine g_icmp_ne (tgt := 121) dX9_apply_105 rfl (by first | assumption | (unfold gW; omega)) (by first | assumption | (unfold gW; omega)) (fun c12 => ?_) (fun c12 => absurd c12 (by omega))
      refine g_aload_n 3 dX9_apply_121 rfl ?_
      refine g_iload_n 4 dX9_apply_122 rfl ?_
      refine g_aload 1 dX9_apply_123 rfl ?_
      refine g_aload 0 dX9_apply_125 rfl ?_
      refine g_callV (nc2 := 0) (ns2 := 0) (ci := 9) (As := [.int (gI (11)), .ref (qa), .ref (qb)]) (st := []) rfl dX9_apply_127 okX9_plainAct lX9_119 itX9_plainAct seX9_plainAct rfl hob (by decide) (by decide) rfl (Nat.le_of_ble_eq_true rfl) (sC_plainAct11 N _ B p hp hp2 fa sy qa qb F G hob hw h27 h29 h31 h33 (by omega) (by omega) pp_a pp_b) (by omega) (by omega) (fun v13 hc13 q13 => ?_)
      obtain ⟨frc14, pw14, r29_14, r31_14, r33_14, hd14⟩ := q13
      have fk15_0 : hc13.2 (B) = some (cO B (fa) (sy)) := Fr.at0 frc14 (Ni.c ⟨(show NE (B) (B + 29) by unfold NE; omega), (show NE (B) (B + 30) by unfold NE; omega)⟩ (Ni.c ⟨(show NE (B) (B + 31) by unfold NE; omega), (show NE (B) (B + 32) by unfold NE; omega)⟩ (Ni.c ⟨(show NE (B) (B + 33) by unfold NE; omega), (show NE (B) (B + 34) by unfold NE; omega)⟩ (Ni.c ⟨(show NE (B) (B + 27) by unfold NE; omega), (show NE (B) (B + 28) by unfold NE; omega)⟩ (Ni_pl (by omega)))))) hob
      have fk15_1 : hc13.2 (B + 4) = some (oB 8 [.ref (B + 1), .ref (B + 5)]) := Fr.at0 frc14 (Ni.c ⟨(show NE (B + 4) (B + 29) by unfold NE; omega), (show NE (B + 4) (B + 30) by unfold NE; omega)⟩ (Ni.c ⟨(show NE (B + 4) (B + 31) by unfold NE; omega), (show NE (B + 4) (B + 32) by unfold NE; omega)⟩ (Ni.c ⟨(show NE (B + 4) (B + 33) by unfold NE; omega), (show NE (B + 4) (B + 34) by unfold NE; omega)⟩ (Ni.c ⟨(show NE (B + 4) (B + 27) by unfold NE; omega), (show NE (B + 4) (B + 28) by unfold NE; omega)⟩ (Ni_pl (by omega)))))) hw4
      have fk15_2 : hc13.2 (B + 7) = some (oB 2 [.ref (B + 1), .ref (B + 8), .ref (B + 10), .ref (B + 12), .ref (B + 14), .ref (B + 16), .ref (B + 18), .ref (B + 20), .ref (B + 22)]) := Fr.at0 frc14 (Ni.c ⟨(show NE (B + 7) (B + 29) by unfold NE; omega), (show NE (B + 7) (B + 30) by unfold NE; omega)⟩ (Ni.c ⟨(show NE (B + 7) (B + 31) by unfold NE; omega), (show NE (B + 7) (B + 32) by unfold NE; omega)⟩ (Ni.c ⟨(show NE (B + 7) (B + 33) by unfold NE; omega), (show NE (B + 7) (B + 34) by unfold NE; omega)⟩ (Ni.c ⟨(show NE (B + 7) (B + 27) by unfold NE; omega), (show NE (B + 7) (B + 28) by unfold NE; omega)⟩ (Ni_pl (by omega)))))) hw.1
      have fk15_3 : hc13.2 (B + 1) = some (oB 1 [.int (gI ((p : Int)))]) := Fr.at0 frc14 (Ni.c ⟨(show NE (B + 1) (B + 29) by unfold NE; omega), (show NE (B + 1) (B + 30) by unfold NE; omega)⟩ (Ni.c ⟨(show NE (B + 1) (B + 31) by unfold NE; omega), (show NE (B + 1) (B + 32) by unfold NE; omega)⟩ (Ni.c ⟨(show NE (B + 1) (B + 33) by unfold NE; omega), (show NE (B + 1) (B + 34) by unfold NE; omega)⟩ (Ni.c ⟨(show NE (B + 1) (B + 27) by unfold NE; omega), (show NE (B + 1) (B + 28) by unfold NE; omega)⟩ (Ni_pl (by omega)))))) hw.2.1
      have rk15_6 : CPt p B hc13 (c) X V := (hpt).fr frc14 (Ni.c ⟨(show NE (B + 24) (B + 29) by unfold NE; omega), (show NE (B + 24) (B + 30) by unfold NE; omega)⟩ (Ni.c ⟨(show NE (B + 24) (B + 31) by unfold NE; omega), (show NE (B + 24) (B + 32) by unfold NE; omega)⟩ (Ni.c ⟨(show NE (B + 24) (B + 33) by unfold NE; omega), (show NE (B + 24) (B + 34) by unfold NE; omega)⟩ (Ni.c ⟨(show NE (B + 24) (B + 27) by unfold NE; omega), (show NE (B + 24) (B + 28) by unfold NE; omega)⟩ (Ni_pl (by omega)))))) (Ni.c ⟨(show NE (B + 25) (B + 29) by unfold NE; omega), (show NE (B + 25) (B + 30) by unfold NE; omega)⟩ (Ni.c ⟨(show NE (B + 25) (B + 31) by unfold NE; omega), (show NE (B + 25) (B + 32) by unfold NE; omega)⟩ (Ni.c ⟨(show NE (B + 25) (B + 33) by unfold NE; omega), (show NE (B + 25) (B + 34) by unfold NE; omega)⟩ (Ni.c ⟨(show NE (B + 25) (B + 27) by unfold NE; omega), (show NE (B + 25) (B + 28) by unfold NE; omega)⟩ (Ni_pl (by omega)))))) (Ni.c ⟨(show NE (B + 26) (B + 29) by unfold NE; omega), (show NE (B + 26) (B + 30) by unfold NE; omega)⟩ (Ni.c ⟨(show NE (B + 26) (B + 31) by unfold NE; omega), (show NE (B + 26) (B + 32) by unfold NE; omega)⟩ (Ni.c ⟨(show NE (B + 26) (B + 33) by unfold NE; omega), (show NE (B + 26) (B + 34) by unfold NE; omega)⟩ (Ni.c ⟨(show NE (B + 26) (B + 27) by unfold NE; omega), (show NE (B + 26) (B + 28) by unfold NE; omega)⟩ (Ni_pl (by omega))))))
      have rk15_7 : CP hp B hc13 (T) := (hT).fr frc14 (Ni.c ⟨(show NE (B + 2) (B + 29) by unfold NE; omega), (show NE (B + 2) (B + 30) by unfold NE; omega)⟩ (Ni.c ⟨(show NE (B + 2) (B + 31) by unfold NE; omega), (show NE (B + 2) (B + 32) by unfold NE; omega)⟩ (Ni.c ⟨(show NE (B + 2) (B + 33) by unfold NE; omega), (show NE (B + 2) (B + 34) by unfold NE; omega)⟩ (Ni.c ⟨(show NE (B + 2) (B + 27) by unfold NE; omega), (show NE (B + 2) (B + 28) by unfold NE; omega)⟩ (Ni_pl (by omega)))))) (Ni.c ⟨(show NE (B + 3) (B + 29) by unfold NE; omega), (show NE (B + 3) (B + 30) by unfold NE; omega)⟩ (Ni.c ⟨(show NE (B + 3) (B + 31) by unfold NE; omega), (show NE (B + 3) (B + 32) by unfold NE; omega)⟩ (Ni.c ⟨(show NE (B + 3) (B + 33) by unfold NE; omega), (show NE (B + 3) (B + 34) by unfold NE; omega)⟩ (Ni.c ⟨(show NE (B + 3) (B + 27) by unfold NE; omega), (show NE (B + 3) (B + 28) by unfold NE; omega)⟩ (Ni_pl (by omega)))))) (lo_c (by omega) (lo_c (by omega) (lo_c (by omega) (lo_c (by omega) lo_pl))))
      have rk5015_0 : PA hc13 (B + 5) := (h5).fr frc14 (Ai.c (show AP (B + 5) (B + 29) by unfold AP; omega) (Ai.c (show AP (B + 5) (B + 31) by unfold AP; omega) (Ai.c (show AP (B + 5) (B + 33) by unfold AP; omega) (Ai.c (show AP (B + 5) (B + 27) by unfold AP; omega) (Ai_pl (by omega))))))
      have rk5015_5 : PP hp hc13 (qa) (F) := (pp_a).fr frc14 (Ai.c (show AP (qa) (B + 29) by unfold AP; omega) (Ai.c (show AP (qa) (B + 31) by unfold AP; omega) (Ai.c (show AP (qa) (B + 33) by unfold AP; omega) (Ai.c (show AP (qa) (B + 27) by unfold AP; omega) (Ai_pl (by omega))))))
      have rk5015_6 : PP hp hc13 (qb) (G) := (pp_b).fr frc14 (Ai.c (show AP (qb) (B + 29) by unfold AP; omega) (Ai.c (show AP (qb) (B + 31) by unfold AP; omega) (Ai.c (show AP (qb) (B + 33) by unfold AP; omega) (Ai.c (show AP (qb) (B + 27) by unfold AP; omega) (Ai_pl (by omega))))))
      have fr15 : Fr ((B + 29) :: (B + 31) :: (B + 33) :: (B + 27) :: pl B) h hc13 := ((Fr.rf ((B + 29) :: (B + 31) :: (B + 33) :: (B + 27) :: pl B) h)).tr ((frc14).mo (sub_c (List.Mem.head _) (sub_c (List.Mem.tail _ (List.Mem.head _)) (sub_c (List.Mem.tail _ (List.Mem.tail _ (List.Mem.head _))) (sub_c (List.Mem.tail _ (List.Mem.tail _ (List.Mem.tail _ (List.Mem.head _)))) (fun _ hx => (List.Mem.tail _ (List.Mem.tail _ (List.Mem.tail _ (List.Mem.tail _ hx))))))))))
      rcases hd14 with ⟨H, y1, rfl, y2⟩ | ⟨r, y0, y1, rfl, y2⟩
      · skip
        refine Go.nf (h' := hc13) (st' := [.int (gI (0))]) rfl rfl (Nat.le_refl _) (Nat.le_refl _) ?_
        refine g_istore (ls2 := [(7, .int (gI (0))), (6, .ref (qb)), (5, .ref (qa)), (4, .int (gI (0))), (0, .ref (B)), (1, .int (gI (11))), (2, .int (gI (a))), (3, .int (gI (b)))]) dX9_apply_130 (by decide) rfl ?_
        refine g_iload 0 dX9_apply_132 rfl ?_
        refine g_if_ge (tgt := 142) dX9_apply_134 rfl (by first | assumption | (unfold gW; omega)) (fun c16 => ?_) (fun c16 => absurd c16 (by omega))
        refine g_aload_n 4 dX9_apply_142 rfl ?_
        refine g_aload_n 4 dX9_apply_143 rfl ?_
        refine g_getf 6 dX9_apply_144 kX9 (by decide) fX9_50 fk15_0 rfl ?_
        refine g_callV (nc2 := 2) (ns2 := 290) (ci := 9) (As := [.ref (B + 27)]) (st := []) rfl dX9_apply_147 okX9_keep lX9_103 itX9_keep seX9_keep rfl fk15_0 (by decide) (by decide) rfl (Nat.le_of_ble_eq_true rfl) (sC_keep N _ B p hp hp2 c X V fa sy T (H) (⟨fk15_0, pw14, fk15_1, rk5015_0, (y2).ra, r29_14, r31_14, r33_14, rk15_6, (by rw [(fr15).1]; exact hlo)⟩) rk15_7 y2) (by omega) (by omega) (fun v17 hc17 q17 => ?_)
        obtain ⟨w18, hK18, rfl, cp18, fk18⟩ := q17
        have cs18 := CSt.fk ⟨fk15_0, pw14, fk15_1, rk5015_0, (y2).ra, r29_14, r31_14, r33_14, rk15_6, (by rw [(fr15).1]; exact hlo)⟩ fk18
        have fz18 : FK (pK B) h hc17 := FK.tr (FK.fr fr15 (fun x e hx hk => Ni_hi hk.1 (hi_c (by omega) (hi_c (by omega) (hi_c (by omega) (hi_c (by omega) hi_pl)))))) (fk18.mo (fun x e _ hk => kpK_pK hk))
        refine Go.nf (h' := hc17) (st' := [.int (gI (w18))]) rfl rfl (Nat.le_refl _) (Nat.le_refl _) ?_
        exact g_iret dX9_apply_150 rfl ⟨fz18, w18, _, (by rw [ap2_s g_a g_b]; rw [y1]; exact ⟨hK18, rfl⟩), rfl, cs18, cp18⟩
      · skip
        refine Go.nf (h' := hc13) (st' := [.int (gI (r))]) rfl rfl (Nat.le_refl _) (Nat.le_refl _) ?_
        have hrW : gW r := rac_gW y1
        refine g_istore (ls2 := [(7, .int (gI (r))), (6, .ref (qb)), (5, .ref (qa)), (4, .int (gI (0))), (0, .ref (B)), (1, .int (gI (11))), (2, .int (gI (a))), (3, .int (gI (b)))]) dX9_apply_130 (by decide) rfl ?_
        refine g_iload 0 dX9_apply_132 rfl ?_
        refine g_if_ge (tgt := 142) dX9_apply_134 rfl (by first | assumption | (unfold gW; omega)) (fun c19 => absurd c19 (by omega)) (fun c19 => ?_)
        refine g_iload 0 dX9_apply_137 rfl ?_
        refine g_goto (tgt := 150) dX9_apply_139 rfl ?_
        exact g_iret dX9_apply_150 rfl ⟨(FK.fr fr15 (fun x e hx hk => Ni_hi hk.1 (hi_c (by omega) (hi_c (by omega) (hi_c (by omega) (hi_c (by omega) hi_pl)))))), r, T, (by rw [ap2_s g_a g_b]; rw [y1]; exact ⟨rfl, rfl⟩), rfl, ⟨fk15_0, pw14, fk15_1, rk5015_0, y2, r29_14, r31_14, r33_14, rk15_6, (by rw [(fr15).1]; exact hlo)⟩, rk15_7⟩
    · skip
      refine Go.nf (h' := h) (st' := [.null]) hq10 rfl (Nat.le_refl _) (Nat.le_refl _) ?_
      refine g_astoreN (ls2 := [(6, .null), (5, .ref (qa)), (4, .int (gI (0))), (0, .ref (B)), (1, .int (gI (11))), (2, .int (gI (a))), (3, .int (gI (b)))]) dX9_apply_59 (by decide) rfl ?_
      refine g_aload 1 dX9_apply_61 rfl ?_
      refine g_ifnull (tgt := 71) dX9_apply_63 rfl ?_
      refine g_aloadN 0 dX9_apply_66 rfl ?_
      refine g_ifnnN (x := 0) (tgt := 73) dX9_apply_68 rfl ?_
      refine g_iconst dX9_apply_71 ?_
      exact g_iret dX9_apply_72 rfl ⟨(FK.fr (Fr.rf ((B + 29) :: (B + 31) :: (B + 33) :: (B + 27) :: pl B) h) (fun x e hx hk => Ni_hi hk.1 (hi_c (by omega) (hi_c (by omega) (hi_c (by omega) (hi_c (by omega) hi_pl)))))), (-1), T, (by rw [ap2_nb g_b]; exact ⟨rfl, rfl⟩), rfl, ⟨hob, hw, hw4, h5, h27, h29, h31, h33, hpt, (by rw [((Fr.rf ((B + 29) :: (B + 31) :: (B + 33) :: (B + 27) :: pl B) h)).1]; exact hlo)⟩, hT⟩
  · skip
    refine Go.nf (h' := h) (st' := [.null]) hq7 rfl (Nat.le_refl _) (Nat.le_refl _) ?_
    refine g_astoreN (ls2 := [(5, .null), (4, .int (gI (0))), (0, .ref (B)), (1, .int (gI (11))), (2, .int (gI (a))), (3, .int (gI (b)))]) dX9_apply_42 (by decide) rfl ?_
    refine g_iload 1 dX9_apply_44 rfl ?_
    refine g_if_eq (tgt := 54) dX9_apply_46 rfl (by first | assumption | (unfold gW; omega)) (fun c20 => ?_) (fun c20 => absurd c20 (by omega))
    refine g_aload_n 2 dX9_apply_54 rfl ?_
    refine g_iload_n 5 dX9_apply_55 rfl ?_
    refine g_callV (nc2 := 0) (ns2 := 0) (ci := 9) (As := [.int (gI (b))]) (st := []) rfl dX9_apply_56 okX9_find lX9_107 itX9_find seX9_find rfl hob (by decide) (by decide) rfl (Nat.le_of_ble_eq_true rfl) (sC_find N _ B p hp fa sy T (b) gW_b hob hT) (by omega) (by omega) (fun v21 hc21 q21 => ?_)
    obtain ⟨hq22, hr22⟩ := q21
    rcases hr22 with ⟨G, qb, g_b, rfl, l_b, pp_b⟩ | ⟨g_b, rfl⟩
    · skip
      refine Go.nf (h' := h) (st' := [.ref (qb)]) hq22 rfl (Nat.le_refl _) (Nat.le_refl _) ?_
      refine g_astore (ls2 := [(6, .ref (qb)), (5, .null), (4, .int (gI (0))), (0, .ref (B)), (1, .int (gI (11))), (2, .int (gI (a))), (3, .int (gI (b)))]) dX9_apply_59 (by decide) rfl ?_
      refine g_aloadN 1 dX9_apply_61 rfl ?_
      refine g_ifnullN (x := 0) (tgt := 71) dX9_apply_63 rfl ?_
      refine g_iconst dX9_apply_71 ?_
      exact g_iret dX9_apply_72 rfl ⟨(FK.fr (Fr.rf ((B + 29) :: (B + 31) :: (B + 33) :: (B + 27) :: pl B) h) (fun x e hx hk => Ni_hi hk.1 (hi_c (by omega) (hi_c (by omega) (hi_c (by omega) (hi_c (by omega) hi_pl)))))), (-1), T, (by rw [ap2_na g_a]; exact ⟨rfl, rfl⟩), rfl, ⟨hob, hw, hw4, h5, h27, h29, h31, h33, hpt, (by rw [((Fr.rf ((B + 29) :: (B + 31) :: (B + 33) :: (B + 27) :: pl B) h)).1]; exact hlo)⟩, hT⟩
    · skip
      refine Go.nf (h' := h) (st' := [.null]) hq22 rfl (Nat.le_refl _) (Nat.le_refl _) ?_
      refine g_astoreN (ls2 := [(6, .null), (5, .null), (4, .int (gI (0))), (0, .ref (B)), (1, .int (gI (11))), (2, .int (gI (a))), (3, .int (gI (b)))]) dX9_apply_59 (by decide) rfl ?_
      refine g_aloadN 1 dX9_apply_61 rfl ?_
      refine g_ifnullN (x := 0) (tgt := 71) dX9_apply_63 rfl ?_
      refine g_iconst dX9_apply_71 ?_
      exact g_iret dX9_apply_72 rfl ⟨(FK.fr (Fr.rf ((B + 29) :: (B + 31) :: (B + 33) :: (B + 27) :: pl B) h) (fun x e hx hk => Ni_hi hk.1 (hi_c (by omega) (hi_c (by omega) (hi_c (by omega) (hi_c (by omega) hi_pl)))))), (-1), T, (by rw [ap2_na g_a]; exact ⟨rfl, rfl⟩), rfl, ⟨hob, hw, hw4, h5, h27, h29, h31, h33, hpt, (by rw [((Fr.rf ((B + 29) :: (B + 31) :: (B + 33) :: (B + 27) :: pl B) h)).1]; exact hlo)⟩, hT⟩
set_option maxHeartbeats 4000000 in
set_option maxRecDepth 100000 in
theorem sC_apply13 (N : GN) (h : GH) (B p : Nat) (hp : prm p) (hp2 : p ≤ 65536) (c : Int) (X V : Int → Int) (fa sy : Value) (T : PT p) (a b : Int) (gW_a : gW a) (gW_b : gW b) (hcs : CSt p B h c X V fa sy) (hT : CP hp B h T)  : Sp N yX9_apply mX9_apply 2 290 [.ref (B), .int (gI (13)), .int (gI (a)), .int (gI (b))] h (fun v h1 => FK (pK B) h h1 ∧ ∃ w T2, Ou T (ap2 T a b (rac hp 13)) w T2 ∧ v = some (.int (gI w)) ∧ CSt p B h1 c X V fa sy ∧ CP hp B h1 T2) := by
  refine Sp.of (by decide) rfl rfl (Nat.le_of_ble_eq_true rfl) ?_
  show Go N mX9_apply _ 2 290 h 0 [(0, .ref (B)), (1, .int (gI (13))), (2, .int (gI (a))), (3, .int (gI (b)))] []
  have hp1 := hp.1
  have hcs0 := hcs
  obtain ⟨hob, hw, hw4, h5, h27, h29, h31, h33, hpt, hlo⟩ := hcs0
  refine g_iload_n 1 dX9_apply_0 rfl ?_
  refine g_if_lt (tgt := 10) dX9_apply_1 rfl (by first | assumption | (unfold gW; omega)) (fun c1 => absurd c1 (by omega)) (fun c1 => ?_)
  refine g_iload_n 1 dX9_apply_4 rfl ?_
  refine g_bipush dX9_apply_5 (by decide) ?_
  refine g_icmp_le (tgt := 13) dX9_apply_7 rfl (by first | assumption | (unfold gW; omega)) (by first | assumption | (unfold gW; omega)) (fun c2 => ?_) (fun c2 => absurd c2 (by omega))
  refine g_iload_n 1 dX9_apply_13 rfl ?_
  refine g_iconst dX9_apply_14 ?_
  refine g_icmp_eq (tgt := 30) dX9_apply_15 rfl (by first | assumption | (unfold gW; omega)) (by first | assumption | (unfold gW; omega)) (fun c3 => absurd c3 (by omega)) (fun c3 => ?_)
  refine g_iload_n 1 dX9_apply_18 rfl ?_
  refine g_bipush dX9_apply_19 (by decide) ?_
  refine g_icmp_eq (tgt := 30) dX9_apply_21 rfl (by first | assumption | (unfold gW; omega)) (by first | assumption | (unfold gW; omega)) (fun c4 => absurd c4 (by omega)) (fun c4 => ?_)
  refine g_iload_n 1 dX9_apply_24 rfl ?_
  refine g_bipush dX9_apply_25 (by decide) ?_
  refine g_icmp_ne (tgt := 34) dX9_apply_27 rfl (by first | assumption | (unfold gW; omega)) (by first | assumption | (unfold gW; omega)) (fun c5 => ?_) (fun c5 => absurd c5 (by omega))
  refine g_iconst dX9_apply_34 ?_
  refine g_istore (ls2 := [(4, .int (gI (0))), (0, .ref (B)), (1, .int (gI (13))), (2, .int (gI (a))), (3, .int (gI (b)))]) dX9_apply_35 (by decide) rfl ?_
  refine g_aload_n 1 dX9_apply_37 rfl ?_
  refine g_iload_n 3 dX9_apply_38 rfl ?_
  refine g_callV (nc2 := 0) (ns2 := 0) (ci := 9) (As := [.int (gI (a))]) (st := []) rfl dX9_apply_39 okX9_find lX9_107 itX9_find seX9_find rfl hob (by decide) (by decide) rfl (Nat.le_of_ble_eq_true rfl) (sC_find N _ B p hp fa sy T (a) gW_a hob hT) (by omega) (by omega) (fun v6 hc6 q6 => ?_)
  obtain ⟨hq7, hr7⟩ := q6
  rcases hr7 with ⟨F, qa, g_a, rfl, l_a, pp_a⟩ | ⟨g_a, rfl⟩
  · skip
    refine Go.nf (h' := h) (st' := [.ref (qa)]) hq7 rfl (Nat.le_refl _) (Nat.le_refl _) ?_
    refine g_astore (ls2 := [(5, .ref (qa)), (4, .int (gI (0))), (0, .ref (B)), (1, .int (gI (13))), (2, .int (gI (a))), (3, .int (gI (b)))]) dX9_apply_42 (by decide) rfl ?_
    refine g_iload 1 dX9_apply_44 rfl ?_
    refine g_if_eq (tgt := 54) dX9_apply_46 rfl (by first | assumption | (unfold gW; omega)) (fun c8 => ?_) (fun c8 => absurd c8 (by omega))
    refine g_aload_n 2 dX9_apply_54 rfl ?_
    refine g_iload_n 5 dX9_apply_55 rfl ?_
    refine g_callV (nc2 := 0) (ns2 := 0) (ci := 9) (As := [.int (gI (b))]) (st := []) rfl dX9_apply_56 okX9_find lX9_107 itX9_find seX9_find rfl hob (by decide) (by decide) rfl (Nat.le_of_ble_eq_true rfl) (sC_find N _ B p hp fa sy T (b) gW_b hob hT) (by omega) (by omega) (fun v9 hc9 q9 => ?_)
    obtain ⟨hq10, hr10⟩ := q9
    rcases hr10 with ⟨G, qb, g_b, rfl, l_b, pp_b⟩ | ⟨g_b, rfl⟩
    · skip
      refine Go.nf (h' := h) (st' := [.ref (qb)]) hq10 rfl (Nat.le_refl _) (Nat.le_refl _) ?_
      refine g_astore (ls2 := [(6, .ref (qb)), (5, .ref (qa)), (4, .int (gI (0))), (0, .ref (B)), (1, .int (gI (13))), (2, .int (gI (a))), (3, .int (gI (b)))]) dX9_apply_59 (by decide) rfl ?_
      refine g_aload 1 dX9_apply_61 rfl ?_
      refine g_ifnull (tgt := 71) dX9_apply_63 rfl ?_
      refine g_aload 0 dX9_apply_66 rfl ?_
      refine g_ifnn (tgt := 73) dX9_apply_68 rfl ?_
      refine g_iload_n 4 dX9_apply_73 rfl ?_
      refine g_bipush dX9_apply_74 (by decide) ?_
      refine g_icmp_ge (tgt := 102) dX9_apply_76 rfl (by first | assumption | (unfold gW; omega)) (by first | assumption | (unfold gW; omega)) (fun c11 => ?_) (fun c11 => absurd c11 (by omega))
      refine g_iload_n 4 dX9_apply_102 rfl ?_
      refine g_bipush dX9_apply_103 (by decide) ?_
      refine g_icmp_ne (tgt := 121) dX9_apply_105 rfl (by first | assumption | (unfold gW; omega)) (by first | assumption | (unfold gW; omega)) (fun c12 => ?_) (fun c12 => absurd c12 (by omega))
      refine g_aload_n 3 dX9_apply_121 rfl ?_
      refine g_iload_n 4 dX9_apply_122 rfl ?_
      refine g_aload 1 dX9_apply_123 rfl ?_
      refine g_aload 0 dX9_apply_125 rfl ?_
      refine g_callV (nc2 := 0) (ns2 := 0) (ci := 9) (As := [.int (gI (13)), .ref (qa), .ref (qb)]) (st := []) rfl dX9_apply_127 okX9_plainAct lX9_119 itX9_plainAct seX9_plainAct rfl hob (by decide) (by decide) rfl (Nat.le_of_ble_eq_true rfl) (sC_plainAct13 N _ B p hp hp2 fa sy qa qb F G hob hw h27 h29 h31 h33 (by omega) (by omega) pp_a pp_b) (by omega) (by omega) (fun v13 hc13 q13 => ?_)
      obtain ⟨frc14, pw14, r29_14, r31_14, r33_14, hd14⟩ := q13
      have fk15_0 : hc13.2 (B) = some (cO B (fa) (sy)) := Fr.at0 frc14 (Ni.c ⟨(show NE (B) (B + 29) by unfold NE; omega), (show NE (B) (B + 30) by unfold NE; omega)⟩ (Ni.c ⟨(show NE (B) (B + 31) by unfold NE; omega), (show NE (B) (B + 32) by unfold NE; omega)⟩ (Ni.c ⟨(show NE (B) (B + 33) by unfold NE; omega), (show NE (B) (B + 34) by unfold NE; omega)⟩ (Ni.c ⟨(show NE (B) (B + 27) by unfold NE; omega), (show NE (B) (B + 28) by unfold NE; omega)⟩ (Ni_pl (by omega)))))) hob
      have fk15_1 : hc13.2 (B + 4) = some (oB 8 [.ref (B + 1), .ref (B + 5)]) := Fr.at0 frc14 (Ni.c ⟨(show NE (B + 4) (B + 29) by unfold NE; omega), (show NE (B + 4) (B + 30) by unfold NE; omega)⟩ (Ni.c ⟨(show NE (B + 4) (B + 31) by unfold NE; omega), (show NE (B + 4) (B + 32) by unfold NE; omega)⟩ (Ni.c ⟨(show NE (B + 4) (B + 33) by unfold NE; omega), (show NE (B + 4) (B + 34) by unfold NE; omega)⟩ (Ni.c ⟨(show NE (B + 4) (B + 27) by unfold NE; omega), (show NE (B + 4) (B + 28) by unfold NE; omega)⟩ (Ni_pl (by omega)))))) hw4
      have fk15_2 : hc13.2 (B + 7) = some (oB 2 [.ref (B + 1), .ref (B + 8), .ref (B + 10), .ref (B + 12), .ref (B + 14), .ref (B + 16), .ref (B + 18), .ref (B + 20), .ref (B + 22)]) := Fr.at0 frc14 (Ni.c ⟨(show NE (B + 7) (B + 29) by unfold NE; omega), (show NE (B + 7) (B + 30) by unfold NE; omega)⟩ (Ni.c ⟨(show NE (B + 7) (B + 31) by unfold NE; omega), (show NE (B + 7) (B + 32) by unfold NE; omega)⟩ (Ni.c ⟨(show NE (B + 7) (B + 33) by unfold NE; omega), (show NE (B + 7) (B + 34) by unfold NE; omega)⟩ (Ni.c ⟨(show NE (B + 7) (B + 27) by unfold NE; omega), (show NE (B + 7) (B + 28) by unfold NE; omega)⟩ (Ni_pl (by omega)))))) hw.1
      have fk15_3 : hc13.2 (B + 1) = some (oB 1 [.int (gI ((p : Int)))]) := Fr.at0 frc14 (Ni.c ⟨(show NE (B + 1) (B + 29) by unfold NE; omega), (show NE (B + 1) (B + 30) by unfold NE; omega)⟩ (Ni.c ⟨(show NE (B + 1) (B + 31) by unfold NE; omega), (show NE (B + 1) (B + 32) by unfold NE; omega)⟩ (Ni.c ⟨(show NE (B + 1) (B + 33) by unfold NE; omega), (show NE (B + 1) (B + 34) by unfold NE; omega)⟩ (Ni.c ⟨(show NE (B + 1) (B + 27) by unfold NE; omega), (show NE (B + 1) (B + 28) by unfold NE; omega)⟩ (Ni_pl (by omega)))))) hw.2.1
      have rk15_6 : CPt p B hc13 (c) X V := (hpt).fr frc14 (Ni.c ⟨(show NE (B + 24) (B + 29) by unfold NE; omega), (show NE (B + 24) (B + 30) by unfold NE; omega)⟩ (Ni.c ⟨(show NE (B + 24) (B + 31) by unfold NE; omega), (show NE (B + 24) (B + 32) by unfold NE; omega)⟩ (Ni.c ⟨(show NE (B + 24) (B + 33) by unfold NE; omega), (show NE (B + 24) (B + 34) by unfold NE; omega)⟩ (Ni.c ⟨(show NE (B + 24) (B + 27) by unfold NE; omega), (show NE (B + 24) (B + 28) by unfold NE; omega)⟩ (Ni_pl (by omega)))))) (Ni.c ⟨(show NE (B + 25) (B + 29) by unfold NE; omega), (show NE (B + 25) (B + 30) by unfold NE; omega)⟩ (Ni.c ⟨(show NE (B + 25) (B + 31) by unfold NE; omega), (show NE (B + 25) (B + 32) by unfold NE; omega)⟩ (Ni.c ⟨(show NE (B + 25) (B + 33) by unfold NE; omega), (show NE (B + 25) (B + 34) by unfold NE; omega)⟩ (Ni.c ⟨(show NE (B + 25) (B + 27) by unfold NE; omega), (show NE (B + 25) (B + 28) by unfold NE; omega)⟩ (Ni_pl (by omega)))))) (Ni.c ⟨(show NE (B + 26) (B + 29) by unfold NE; omega), (show NE (B + 26) (B + 30) by unfold NE; omega)⟩ (Ni.c ⟨(show NE (B + 26) (B + 31) by unfold NE; omega), (show NE (B + 26) (B + 32) by unfold NE; omega)⟩ (Ni.c ⟨(show NE (B + 26) (B + 33) by unfold NE; omega), (show NE (B + 26) (B + 34) by unfold NE; omega)⟩ (Ni.c ⟨(show NE (B + 26) (B + 27) by unfold NE; omega), (show NE (B + 26) (B + 28) by unfold NE; omega)⟩ (Ni_pl (by omega))))))
      have rk15_7 : CP hp B hc13 (T) := (hT).fr frc14 (Ni.c ⟨(show NE (B + 2) (B + 29) by unfold NE; omega), (show NE (B + 2) (B + 30) by unfold NE; omega)⟩ (Ni.c ⟨(show NE (B + 2) (B + 31) by unfold NE; omega), (show NE (B + 2) (B + 32) by unfold NE; omega)⟩ (Ni.c ⟨(show NE (B + 2) (B + 33) by unfold NE; omega), (show NE (B + 2) (B + 34) by unfold NE; omega)⟩ (Ni.c ⟨(show NE (B + 2) (B + 27) by unfold NE; omega), (show NE (B + 2) (B + 28) by unfold NE; omega)⟩ (Ni_pl (by omega)))))) (Ni.c ⟨(show NE (B + 3) (B + 29) by unfold NE; omega), (show NE (B + 3) (B + 30) by unfold NE; omega)⟩ (Ni.c ⟨(show NE (B + 3) (B + 31) by unfold NE; omega), (show NE (B + 3) (B + 32) by unfold NE; omega)⟩ (Ni.c ⟨(show NE (B + 3) (B + 33) by unfold NE; omega), (show NE (B + 3) (B + 34) by unfold NE; omega)⟩ (Ni.c ⟨(show NE (B + 3) (B + 27) by unfold NE; omega), (show NE (B + 3) (B + 28) by unfold NE; omega)⟩ (Ni_pl (by omega)))))) (lo_c (by omega) (lo_c (by omega) (lo_c (by omega) (lo_c (by omega) lo_pl))))
      have rk5015_0 : PA hc13 (B + 5) := (h5).fr frc14 (Ai.c (show AP (B + 5) (B + 29) by unfold AP; omega) (Ai.c (show AP (B + 5) (B + 31) by unfold AP; omega) (Ai.c (show AP (B + 5) (B + 33) by unfold AP; omega) (Ai.c (show AP (B + 5) (B + 27) by unfold AP; omega) (Ai_pl (by omega))))))
      have rk5015_5 : PP hp hc13 (qa) (F) := (pp_a).fr frc14 (Ai.c (show AP (qa) (B + 29) by unfold AP; omega) (Ai.c (show AP (qa) (B + 31) by unfold AP; omega) (Ai.c (show AP (qa) (B + 33) by unfold AP; omega) (Ai.c (show AP (qa) (B + 27) by unfold AP; omega) (Ai_pl (by omega))))))
      have rk5015_6 : PP hp hc13 (qb) (G) := (pp_b).fr frc14 (Ai.c (show AP (qb) (B + 29) by unfold AP; omega) (Ai.c (show AP (qb) (B + 31) by unfold AP; omega) (Ai.c (show AP (qb) (B + 33) by unfold AP; omega) (Ai.c (show AP (qb) (B + 27) by unfold AP; omega) (Ai_pl (by omega))))))
      have fr15 : Fr ((B + 29) :: (B + 31) :: (B + 33) :: (B + 27) :: pl B) h hc13 := ((Fr.rf ((B + 29) :: (B + 31) :: (B + 33) :: (B + 27) :: pl B) h)).tr ((frc14).mo (sub_c (List.Mem.head _) (sub_c (List.Mem.tail _ (List.Mem.head _)) (sub_c (List.Mem.tail _ (List.Mem.tail _ (List.Mem.head _))) (sub_c (List.Mem.tail _ (List.Mem.tail _ (List.Mem.tail _ (List.Mem.head _)))) (fun _ hx => (List.Mem.tail _ (List.Mem.tail _ (List.Mem.tail _ (List.Mem.tail _ hx))))))))))
      rcases hd14 with ⟨H, y1, rfl, y2⟩ | ⟨r, y0, y1, rfl, y2⟩
      · skip
        refine Go.nf (h' := hc13) (st' := [.int (gI (0))]) rfl rfl (Nat.le_refl _) (Nat.le_refl _) ?_
        refine g_istore (ls2 := [(7, .int (gI (0))), (6, .ref (qb)), (5, .ref (qa)), (4, .int (gI (0))), (0, .ref (B)), (1, .int (gI (13))), (2, .int (gI (a))), (3, .int (gI (b)))]) dX9_apply_130 (by decide) rfl ?_
        refine g_iload 0 dX9_apply_132 rfl ?_
        refine g_if_ge (tgt := 142) dX9_apply_134 rfl (by first | assumption | (unfold gW; omega)) (fun c16 => ?_) (fun c16 => absurd c16 (by omega))
        refine g_aload_n 4 dX9_apply_142 rfl ?_
        refine g_aload_n 4 dX9_apply_143 rfl ?_
        refine g_getf 6 dX9_apply_144 kX9 (by decide) fX9_50 fk15_0 rfl ?_
        refine g_callV (nc2 := 2) (ns2 := 290) (ci := 9) (As := [.ref (B + 27)]) (st := []) rfl dX9_apply_147 okX9_keep lX9_103 itX9_keep seX9_keep rfl fk15_0 (by decide) (by decide) rfl (Nat.le_of_ble_eq_true rfl) (sC_keep N _ B p hp hp2 c X V fa sy T (H) (⟨fk15_0, pw14, fk15_1, rk5015_0, (y2).ra, r29_14, r31_14, r33_14, rk15_6, (by rw [(fr15).1]; exact hlo)⟩) rk15_7 y2) (by omega) (by omega) (fun v17 hc17 q17 => ?_)
        obtain ⟨w18, hK18, rfl, cp18, fk18⟩ := q17
        have cs18 := CSt.fk ⟨fk15_0, pw14, fk15_1, rk5015_0, (y2).ra, r29_14, r31_14, r33_14, rk15_6, (by rw [(fr15).1]; exact hlo)⟩ fk18
        have fz18 : FK (pK B) h hc17 := FK.tr (FK.fr fr15 (fun x e hx hk => Ni_hi hk.1 (hi_c (by omega) (hi_c (by omega) (hi_c (by omega) (hi_c (by omega) hi_pl)))))) (fk18.mo (fun x e _ hk => kpK_pK hk))
        refine Go.nf (h' := hc17) (st' := [.int (gI (w18))]) rfl rfl (Nat.le_refl _) (Nat.le_refl _) ?_
        exact g_iret dX9_apply_150 rfl ⟨fz18, w18, _, (by rw [ap2_s g_a g_b]; rw [y1]; exact ⟨hK18, rfl⟩), rfl, cs18, cp18⟩
      · skip
        refine Go.nf (h' := hc13) (st' := [.int (gI (r))]) rfl rfl (Nat.le_refl _) (Nat.le_refl _) ?_
        have hrW : gW r := rac_gW y1
        refine g_istore (ls2 := [(7, .int (gI (r))), (6, .ref (qb)), (5, .ref (qa)), (4, .int (gI (0))), (0, .ref (B)), (1, .int (gI (13))), (2, .int (gI (a))), (3, .int (gI (b)))]) dX9_apply_130 (by decide) rfl ?_
        refine g_iload 0 dX9_apply_132 rfl ?_
        refine g_if_ge (tgt := 142) dX9_apply_134 rfl (by first | assumption | (unfold gW; omega)) (fun c19 => absurd c19 (by omega)) (fun c19 => ?_)
        refine g_iload 0 dX9_apply_137 rfl ?_
        refine g_goto (tgt := 150) dX9_apply_139 rfl ?_
        exact g_iret dX9_apply_150 rfl ⟨(FK.fr fr15 (fun x e hx hk => Ni_hi hk.1 (hi_c (by omega) (hi_c (by omega) (hi_c (by omega) (hi_c (by omega) hi_pl)))))), r, T, (by rw [ap2_s g_a g_b]; rw [y1]; exact ⟨rfl, rfl⟩), rfl, ⟨fk15_0, pw14, fk15_1, rk5015_0, y2, r29_14, r31_14, r33_14, rk15_6, (by rw [(fr15).1]; exact hlo)⟩, rk15_7⟩
    · skip
      refine Go.nf (h' := h) (st' := [.null]) hq10 rfl (Nat.le_refl _) (Nat.le_refl _) ?_
      refine g_astoreN (ls2 := [(6, .null), (5, .ref (qa)), (4, .int (gI (0))), (0, .ref (B)), (1, .int (gI (13))), (2, .int (gI (a))), (3, .int (gI (b)))]) dX9_apply_59 (by decide) rfl ?_
      refine g_aload 1 dX9_apply_61 rfl ?_
      refine g_ifnull (tgt := 71) dX9_apply_63 rfl ?_
      refine g_aloadN 0 dX9_apply_66 rfl ?_
      refine g_ifnnN (x := 0) (tgt := 73) dX9_apply_68 rfl ?_
      refine g_iconst dX9_apply_71 ?_
      exact g_iret dX9_apply_72 rfl ⟨(FK.fr (Fr.rf ((B + 29) :: (B + 31) :: (B + 33) :: (B + 27) :: pl B) h) (fun x e hx hk => Ni_hi hk.1 (hi_c (by omega) (hi_c (by omega) (hi_c (by omega) (hi_c (by omega) hi_pl)))))), (-1), T, (by rw [ap2_nb g_b]; exact ⟨rfl, rfl⟩), rfl, ⟨hob, hw, hw4, h5, h27, h29, h31, h33, hpt, (by rw [((Fr.rf ((B + 29) :: (B + 31) :: (B + 33) :: (B + 27) :: pl B) h)).1]; exact hlo)⟩, hT⟩
  · skip
    refine Go.nf (h' := h) (st' := [.null]) hq7 rfl (Nat.le_refl _) (Nat.le_refl _) ?_
    refine g_astoreN (ls2 := [(5, .null), (4, .int (gI (0))), (0, .ref (B)), (1, .int (gI (13))), (2, .int (gI (a))), (3, .int (gI (b)))]) dX9_apply_42 (by decide) rfl ?_
    refine g_iload 1 dX9_apply_44 rfl ?_
    refine g_if_eq (tgt := 54) dX9_apply_46 rfl (by first | assumption | (unfold gW; omega)) (fun c20 => ?_) (fun c20 => absurd c20 (by omega))
    refine g_aload_n 2 dX9_apply_54 rfl ?_
    refine g_iload_n 5 dX9_apply_55 rfl ?_
    refine g_callV (nc2 := 0) (ns2 := 0) (ci := 9) (As := [.int (gI (b))]) (st := []) rfl dX9_apply_56 okX9_find lX9_107 itX9_find seX9_find rfl hob (by decide) (by decide) rfl (Nat.le_of_ble_eq_true rfl) (sC_find N _ B p hp fa sy T (b) gW_b hob hT) (by omega) (by omega) (fun v21 hc21 q21 => ?_)
    obtain ⟨hq22, hr22⟩ := q21
    rcases hr22 with ⟨G, qb, g_b, rfl, l_b, pp_b⟩ | ⟨g_b, rfl⟩
    · skip
      refine Go.nf (h' := h) (st' := [.ref (qb)]) hq22 rfl (Nat.le_refl _) (Nat.le_refl _) ?_
      refine g_astore (ls2 := [(6, .ref (qb)), (5, .null), (4, .int (gI (0))), (0, .ref (B)), (1, .int (gI (13))), (2, .int (gI (a))), (3, .int (gI (b)))]) dX9_apply_59 (by decide) rfl ?_
      refine g_aloadN 1 dX9_apply_61 rfl ?_
      refine g_ifnullN (x := 0) (tgt := 71) dX9_apply_63 rfl ?_
      refine g_iconst dX9_apply_71 ?_
      exact g_iret dX9_apply_72 rfl ⟨(FK.fr (Fr.rf ((B + 29) :: (B + 31) :: (B + 33) :: (B + 27) :: pl B) h) (fun x e hx hk => Ni_hi hk.1 (hi_c (by omega) (hi_c (by omega) (hi_c (by omega) (hi_c (by omega) hi_pl)))))), (-1), T, (by rw [ap2_na g_a]; exact ⟨rfl, rfl⟩), rfl, ⟨hob, hw, hw4, h5, h27, h29, h31, h33, hpt, (by rw [((Fr.rf ((B + 29) :: (B + 31) :: (B + 33) :: (B + 27) :: pl B) h)).1]; exact hlo)⟩, hT⟩
    · skip
      refine Go.nf (h' := h) (st' := [.null]) hq22 rfl (Nat.le_refl _) (Nat.le_refl _) ?_
      refine g_astoreN (ls2 := [(6, .null), (5, .null), (4, .int (gI (0))), (0, .ref (B)), (1, .int (gI (13))), (2, .int (gI (a))), (3, .int (gI (b)))]) dX9_apply_59 (by decide) rfl ?_
      refine g_aloadN 1 dX9_apply_61 rfl ?_
      refine g_ifnullN (x := 0) (tgt := 71) dX9_apply_63 rfl ?_
      refine g_iconst dX9_apply_71 ?_
      exact g_iret dX9_apply_72 rfl ⟨(FK.fr (Fr.rf ((B + 29) :: (B + 31) :: (B + 33) :: (B + 27) :: pl B) h) (fun x e hx hk => Ni_hi hk.1 (hi_c (by omega) (hi_c (by omega) (hi_c (by omega) (hi_c (by omega) hi_pl)))))), (-1), T, (by rw [ap2_na g_a]; exact ⟨rfl, rfl⟩), rfl, ⟨hob, hw, hw4, h5, h27, h29, h31, h33, hpt, (by rw [((Fr.rf ((B + 29) :: (B + 31) :: (B + 33) :: (B + 27) :: pl B) h)).1]; exact hlo)⟩, hT⟩
