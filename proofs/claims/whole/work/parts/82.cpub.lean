section
variable {p : Nat}
theorem pls_NM (h : prm p) {F : Pxy p} {g : Int → Int} {c v : Int} {j i : Int} (hF : NM F g) (bF : PB h F) (j0 : 0 ≤ j) (j1 : j ≤ 6) (i0 : 0 ≤ i) (i1 : i ≤ 40) (hv : 0 ≤ v ∧ v < p) (he : zi h v = zi h (g (j * 41 + i) + c)) : NM (pls h F c j.toNat i.toNat) (gup g (j * 41 + i) v) := by
  obtain ⟨j, rfl⟩ := Int.eq_ofNat_of_zero_le j0
  obtain ⟨i, rfl⟩ := Int.eq_ofNat_of_zero_le i0
  rw [Int.toNat_natCast, Int.toNat_natCast]
  refine NM_of h (fun k k0 k1 => ?_) (fun b a hb ha => ?_) (pls_PB h c bF (by omega) (by omega))
  · by_cases z : k = (j : Int) * 41 + i
    · rw [z, gup_s]; exact hv
    · rw [gup_n _ _ z]; exact hF.bd (h := h) h k0 k1
  · unfold pls
    by_cases z : b = j ∧ a = i
    · rw [if_pos z, z.1, z.2, gup_s, he, zi_add, hF.zi h (by omega) (by omega)]
    · rw [if_neg z, gup_n _ _ (by omega), hF.zi h hb ha]
theorem con_NM (h : prm p) {g : Int → Int} {v c : Int} (hF : NM (zF h) g) (hv : 0 ≤ v ∧ v < p) (he : zi h v = zi h c) : NM (pF h (cz h (zi h c))) (gup g 0 v) := by
  refine NM_of h (fun k k0 k1 => ?_) (fun b a hb ha => ?_) (pF_PB h (cz_po h _) (cz_dgi40 h _))
  · by_cases z : k = 0
    · rw [z, gup_s]; exact hv
    · rw [gup_n _ _ z]; exact hF.bd (h := h) h k0 k1
  · letI := fR h
    by_cases z : b = 0
    · subst z
      show _ = (if a = 0 then zi h c else 0)
      by_cases y : a = 0
      · subst y
        rw [if_pos rfl, ← he]
        exact congrArg (zi h) (gup_s _ _ _)
      · rw [if_neg y, gup_n _ _ (by omega), hF.zi h hb ha]; rfl
    · rw [gup_n _ _ (by omega), hF.zi h hb ha]
      show (0 : Fp p) = (if b = 0 then cz h (zi h c) else (letI := pR h; 0)) a
      rw [if_neg z]; exact (zero_k _ a).symm
theorem kR_i (h : prm p) {f : Px p} (hd : dgi h f ≤ 40) : kR h f = .inr (pF h f) := by unfold kR; rw [if_neg (by omega)]
theorem dX_0 (h : prm p) {F : Pxy p} (hb : PB h F) (hy : dY h F < 1) : dX h F = dgi h (F 0) := by
  have e := plain_eq h hb hy
  rw [e, pF_X h (row_po h hb 0).1]
  rfl
end
set_option maxHeartbeats 4000000 in
set_option maxRecDepth 100000 in
theorem sC_isPower (N : GN) (h : GH) (i j : Int) (gW_i : gW i) (gW_j : gW j) : Sp N yX9_isPower mX9_isPower 0 0 [.int (gI (i)), .int (gI (j))] h (fun v h1 => h1 = h ∧ v = some (.int (gI (if 0 ≤ i ∧ i ≤ 40 ∧ 0 ≤ j ∧ j ≤ 6 then 1 else 0)))) := by
  refine Sp.of (by decide) rfl rfl (Nat.le_of_ble_eq_true rfl) ?_
  show Go N mX9_isPower _ 0 0 h 0 [(0, .int (gI (i))), (1, .int (gI (j)))] []
  refine g_iload_n 0 dX9_isPower_0 rfl ?_
  refine g_if_lt (tgt := 24) dX9_isPower_1 rfl (by first | assumption | (unfold gW; omega)) (fun c1 => ?_) (fun c1 => ?_)
  · skip
    refine g_iconst dX9_isPower_24 ?_
    exact g_zret dX9_isPower_25 rfl (by omega) ⟨rfl, by rw [if_neg (by omega)]⟩
  · skip
    refine g_iload_n 0 dX9_isPower_4 rfl ?_
    refine g_bipush dX9_isPower_5 (by decide) ?_
    refine g_icmp_gt (tgt := 24) dX9_isPower_7 rfl (by first | assumption | (unfold gW; omega)) (by first | assumption | (unfold gW; omega)) (fun c2 => ?_) (fun c2 => ?_)
    · skip
      refine g_iconst dX9_isPower_24 ?_
      exact g_zret dX9_isPower_25 rfl (by omega) ⟨rfl, by rw [if_neg (by omega)]⟩
    · skip
      refine g_iload_n 1 dX9_isPower_10 rfl ?_
      refine g_if_lt (tgt := 24) dX9_isPower_11 rfl (by first | assumption | (unfold gW; omega)) (fun c3 => ?_) (fun c3 => ?_)
      · skip
        refine g_iconst dX9_isPower_24 ?_
        exact g_zret dX9_isPower_25 rfl (by omega) ⟨rfl, by rw [if_neg (by omega)]⟩
      · skip
        refine g_iload_n 1 dX9_isPower_14 rfl ?_
        refine g_bipush dX9_isPower_15 (by decide) ?_
        refine g_icmp_gt (tgt := 24) dX9_isPower_17 rfl (by first | assumption | (unfold gW; omega)) (by first | assumption | (unfold gW; omega)) (fun c4 => ?_) (fun c4 => ?_)
        · skip
          refine g_iconst dX9_isPower_24 ?_
          exact g_zret dX9_isPower_25 rfl (by omega) ⟨rfl, by rw [if_neg (by omega)]⟩
        · skip
          refine g_iconst dX9_isPower_20 ?_
          refine g_goto (tgt := 25) dX9_isPower_21 rfl ?_
          exact g_zret dX9_isPower_25 rfl (by omega) ⟨rfl, by rw [if_pos (by omega)]⟩
set_option maxHeartbeats 4000000 in
set_option maxRecDepth 100000 in
theorem sC_constant (N : GN) (h : GH) (B p : Nat) (hp : prm p) (hp2 : p ≤ 65536) (c : Int) (X V : Int → Int) (fa sy : Value) (T : PT p) (a : Int) (gX_a : gX a) (hcs : CSt p B h c X V fa sy) (hT : CP hp B h T)  : Sp N yX9_constant mX9_constant 2 290 [.ref (B), .long (gJ (a))] h (fun v h1 => FK (pK B) h h1 ∧ ∃ w T2, Ou T (rcon hp a) w T2 ∧ v = some (.int (gI w)) ∧ CSt p B h1 c X V fa sy ∧ CP hp B h1 T2) := by
  refine Sp.of (by decide) rfl rfl (Nat.le_of_ble_eq_true rfl) ?_
  show Go N mX9_constant _ 2 290 h 0 [(0, .ref (B)), (1, .long (gJ (a)))] []
  have hp1 := hp.1
  have hcs0 := hcs
  obtain ⟨hob, hw, hw4, h5, h27, h29, h31, h33, hpt, hlo⟩ := hcs0
  refine g_aload_n 0 dX9_constant_0 rfl ?_
  refine g_getf 6 dX9_constant_1 kX9 (by decide) fX9_50 hob rfl ?_
  refine g_callV (nc2 := 0) (ns2 := 0) (ci := 4) (As := []) (st := []) rfl dX9_constant_4 okX4_clear lX9_89 itX4_clear seX4_clear rfl (Classical.choose_spec (PA.o h27)) (by decide) (by decide) rfl (Nat.le_of_ble_eq_true rfl) (sQ_clear N _ (B + 27) p hp hp2 h27) (by omega) (by omega) (fun v1 hc1 q1 => ?_)
  obtain ⟨rfl, frc2, rn2_0⟩ := q1
  have fk3_0 : hc1.2 (B) = some (cO B (fa) (sy)) := Fr.at0 frc2 (Ni.c ⟨(show NE (B) (B + 27) by unfold NE; omega), (show NE (B) (B + 28) by unfold NE; omega)⟩ (Ni.n _)) hob
  have fk3_1 : hc1.2 (B + 4) = some (oB 8 [.ref (B + 1), .ref (B + 5)]) := Fr.at0 frc2 (Ni.c ⟨(show NE (B + 4) (B + 27) by unfold NE; omega), (show NE (B + 4) (B + 28) by unfold NE; omega)⟩ (Ni.n _)) hw4
  have fk3_2 : hc1.2 (B + 7) = some (oB 2 [.ref (B + 1), .ref (B + 8), .ref (B + 10), .ref (B + 12), .ref (B + 14), .ref (B + 16), .ref (B + 18), .ref (B + 20), .ref (B + 22)]) := Fr.at0 frc2 (Ni.c ⟨(show NE (B + 7) (B + 27) by unfold NE; omega), (show NE (B + 7) (B + 28) by unfold NE; omega)⟩ (Ni.n _)) hw.1
  have fk3_3 : hc1.2 (B + 1) = some (oB 1 [.int (gI ((p : Int)))]) := Fr.at0 frc2 (Ni.c ⟨(show NE (B + 1) (B + 27) by unfold NE; omega), (show NE (B + 1) (B + 28) by unfold NE; omega)⟩ (Ni.n _)) hw.2.1
  have rk3_0 : PW p B hc1 := (hw).fr2 frc2 (ok_c (by omega) (fun _ h => absurd h (List.not_mem_nil)))
  have rk3_6 : CPt p B hc1 (c) X V := (hpt).fr frc2 (Ni.c ⟨(show NE (B + 24) (B + 27) by unfold NE; omega), (show NE (B + 24) (B + 28) by unfold NE; omega)⟩ (Ni.n _)) (Ni.c ⟨(show NE (B + 25) (B + 27) by unfold NE; omega), (show NE (B + 25) (B + 28) by unfold NE; omega)⟩ (Ni.n _)) (Ni.c ⟨(show NE (B + 26) (B + 27) by unfold NE; omega), (show NE (B + 26) (B + 28) by unfold NE; omega)⟩ (Ni.n _))
  have rk3_7 : CP hp B hc1 (T) := (hT).fr frc2 (Ni.c ⟨(show NE (B + 2) (B + 27) by unfold NE; omega), (show NE (B + 2) (B + 28) by unfold NE; omega)⟩ (Ni.n _)) (Ni.c ⟨(show NE (B + 3) (B + 27) by unfold NE; omega), (show NE (B + 3) (B + 28) by unfold NE; omega)⟩ (Ni.n _)) (lo_c (by omega) (fun _ h => absurd h (List.not_mem_nil)))
  have rk5003_0 : PA hc1 (B + 5) := (h5).fr frc2 (Ai.c (show AP (B + 5) (B + 27) by unfold AP; omega) (Ai.n _))
  have rk5003_2 : RA 84 hc1 (B + 29) := (h29).fr frc2 (Ai.c (show AP (B + 29) (B + 27) by unfold AP; omega) (Ai.n _))
  have rk5003_3 : RA 84 hc1 (B + 31) := (h31).fr frc2 (Ai.c (show AP (B + 31) (B + 27) by unfold AP; omega) (Ai.n _))
  have rk5003_4 : RA 84 hc1 (B + 33) := (h33).fr frc2 (Ai.c (show AP (B + 33) (B + 27) by unfold AP; omega) (Ai.n _))
  have fr3 : Fr [B + 27] h hc1 := ((Fr.rf [B + 27] h)).tr ((frc2).mo (sub_c (List.Mem.head _) sub_n))
  refine Go.nf (h' := hc1) (st' := []) rfl rfl (Nat.le_refl _) (Nat.le_refl _) ?_
  obtain ⟨gz, ⟨z1, z2, z3⟩, zN, zB⟩ := rn2_0
  refine g_aload_n 0 dX9_constant_7 rfl ?_
  refine g_getf 6 dX9_constant_8 kX9 (by decide) fX9_50 fk3_0 rfl ?_
  refine g_getf 0 dX9_constant_11 kX4 (by decide) fX9_92 z1 rfl ?_
  refine g_iconst dX9_constant_14 ?_
  refine g_aload_n 0 dX9_constant_15 rfl ?_
  refine g_getf 0 dX9_constant_16 kX9 (by decide) fX9_10 fk3_0 rfl ?_
  refine g_lload_n 1 dX9_constant_19 rfl ?_
  refine g_callV (nc2 := 0) (ns2 := 0) (ci := 1) (As := [.long (gJ (a))]) (st := [.int (gI (0)), .ref (B + 28)]) rfl dX9_constant_20 okX1_mod lX9_96 itX1_mod seX1_mod rfl fk3_3 (by decide) (by decide) rfl (Nat.le_of_ble_eq_true rfl) (sX1_mod N _ (B + 1) (p : Int) (a) (by first | assumption | (unfold gX; omega)) (by omega) (by omega) fk3_3) (by omega) (by omega) (fun v4 hc4 q4 => ?_)
  obtain ⟨hq5, rfl⟩ := q4
  rw [gMod_em (show (0 : Int) < p by omega)]
  refine Go.nf (h' := hc1) (st' := [.long (gJ ((a) % (p : Int))), .int (gI (0)), .ref (B + 28)]) hq5 rfl (Nat.le_refl _) (Nat.le_refl _) ?_
  refine g_lastore dX9_constant_23 z2 (by omega) (by omega) (by omega) ?_
  obtain ⟨hh6, eh6⟩ : ∃ z : GH, z = hset hc1 (B + 28) (aJ 287 (gup (gz) (0) ((a) % (p : Int)))) := ⟨_, rfl⟩
  refine Go.hp eh6.symm ?_
  have fh6_0 : hh6.2 (B) = some (cO B (fa) (sy)) := hs_n eh6 (show NE (B) (B + 28) by unfold NE; omega) fk3_0
  have fh6_1 : hh6.2 (B + 4) = some (oB 8 [.ref (B + 1), .ref (B + 5)]) := hs_n eh6 (show NE (B + 4) (B + 28) by unfold NE; omega) fk3_1
  have fh6_2 : hh6.2 (B + 7) = some (oB 2 [.ref (B + 1), .ref (B + 8), .ref (B + 10), .ref (B + 12), .ref (B + 14), .ref (B + 16), .ref (B + 18), .ref (B + 20), .ref (B + 22)]) := hs_n eh6 (show NE (B + 7) (B + 28) by unfold NE; omega) fk3_2
  have fh6_3 : hh6.2 (B + 1) = some (oB 1 [.int (gI ((p : Int)))]) := hs_n eh6 (show NE (B + 1) (B + 28) by unfold NE; omega) fk3_3
  have fh6_4 : hh6.2 (B + 27) = some (oB 4 [.ref (B + 28), .int (gI (dX hp (zF hp))), .int (gI (dY hp (zF hp)))]) := hs_n eh6 (show NE (B + 27) (B + 28) by unfold NE; omega) z1
  have fh6_5 : hh6.2 (B + 28) = some (aJ 287 (gup (gz) (0) ((a) % (p : Int)))) := hs_s eh6
  have fx6 : Fr [B + 27] hc1 hh6 := Fr.w1 (Fr.rf _ _) (List.Mem.head _) eh6
  have rk6_4 : PW p B hh6 := (rk3_0).fr2 fx6 (ok_c (by omega) (fun _ h => absurd h (List.not_mem_nil)))
  have rk6_5 : CPt p B hh6 (c) X V := (rk3_6).fr fx6 (Ni.c ⟨(show NE (B + 24) (B + 27) by unfold NE; omega), (show NE (B + 24) (B + 28) by unfold NE; omega)⟩ (Ni.n _)) (Ni.c ⟨(show NE (B + 25) (B + 27) by unfold NE; omega), (show NE (B + 25) (B + 28) by unfold NE; omega)⟩ (Ni.n _)) (Ni.c ⟨(show NE (B + 26) (B + 27) by unfold NE; omega), (show NE (B + 26) (B + 28) by unfold NE; omega)⟩ (Ni.n _))
  have rk6_6 : CP hp B hh6 (T) := (rk3_7).fr fx6 (Ni.c ⟨(show NE (B + 2) (B + 27) by unfold NE; omega), (show NE (B + 2) (B + 28) by unfold NE; omega)⟩ (Ni.n _)) (Ni.c ⟨(show NE (B + 3) (B + 27) by unfold NE; omega), (show NE (B + 3) (B + 28) by unfold NE; omega)⟩ (Ni.n _)) (lo_c (by omega) (fun _ h => absurd h (List.not_mem_nil)))
  have rk5006_0 : PA hh6 (B + 5) := (rk5003_0).fr fx6 (Ai.c (show AP (B + 5) (B + 27) by unfold AP; omega) (Ai.n _))
  have rk5006_1 : RA 84 hh6 (B + 29) := (rk5003_2).fr fx6 (Ai.c (show AP (B + 29) (B + 27) by unfold AP; omega) (Ai.n _))
  have rk5006_2 : RA 84 hh6 (B + 31) := (rk5003_3).fr fx6 (Ai.c (show AP (B + 31) (B + 27) by unfold AP; omega) (Ai.n _))
  have rk5006_3 : RA 84 hh6 (B + 33) := (rk5003_4).fr fx6 (Ai.c (show AP (B + 33) (B + 27) by unfold AP; omega) (Ai.n _))
  have fr6 : Fr [B + 27] h hh6 := Fr.w1 fr3 (List.Mem.head _) eh6
  refine g_aload_n 0 dX9_constant_24 rfl ?_
  refine g_getf 6 dX9_constant_25 kX9 (by decide) fX9_50 fh6_0 rfl ?_
  refine g_callV (nc2 := 0) (ns2 := 0) (ci := 4) (As := []) (st := []) rfl dX9_constant_28 okX4_measure lX9_100 itX4_measure seX4_measure rfl fh6_4 (by decide) (by decide) rfl (Nat.le_of_ble_eq_true rfl) (sQ_measure N _ (B + 27) p hp hp2 _ _ (gup (gz) (0) ((a) % (p : Int))) (pF hp (cz hp (zi hp a))) fh6_4 fh6_5 (con_NM hp zN (em_in hp _) (zi_mod hp _)) (pF_PB hp (cz_po hp _) (cz_dgi40 hp _))) (by omega) (by omega) (fun v7 hc7 q7 => ?_)
  obtain ⟨rfl, frc8, rn8⟩ := q7
  have fk9_0 : hc7.2 (B) = some (cO B (fa) (sy)) := Fr.at0 frc8 (Ni.c ⟨(show NE (B) (B + 27) by unfold NE; omega), (show NE (B) (B + 28) by unfold NE; omega)⟩ (Ni.n _)) fh6_0
  have fk9_1 : hc7.2 (B + 4) = some (oB 8 [.ref (B + 1), .ref (B + 5)]) := Fr.at0 frc8 (Ni.c ⟨(show NE (B + 4) (B + 27) by unfold NE; omega), (show NE (B + 4) (B + 28) by unfold NE; omega)⟩ (Ni.n _)) fh6_1
  have fk9_2 : hc7.2 (B + 7) = some (oB 2 [.ref (B + 1), .ref (B + 8), .ref (B + 10), .ref (B + 12), .ref (B + 14), .ref (B + 16), .ref (B + 18), .ref (B + 20), .ref (B + 22)]) := Fr.at0 frc8 (Ni.c ⟨(show NE (B + 7) (B + 27) by unfold NE; omega), (show NE (B + 7) (B + 28) by unfold NE; omega)⟩ (Ni.n _)) fh6_2
  have fk9_3 : hc7.2 (B + 1) = some (oB 1 [.int (gI ((p : Int)))]) := Fr.at0 frc8 (Ni.c ⟨(show NE (B + 1) (B + 27) by unfold NE; omega), (show NE (B + 1) (B + 28) by unfold NE; omega)⟩ (Ni.n _)) fh6_3
  have rk9_4 : PW p B hc7 := (rk6_4).fr2 frc8 (ok_c (by omega) (fun _ h => absurd h (List.not_mem_nil)))
  have rk9_5 : CPt p B hc7 (c) X V := (rk6_5).fr frc8 (Ni.c ⟨(show NE (B + 24) (B + 27) by unfold NE; omega), (show NE (B + 24) (B + 28) by unfold NE; omega)⟩ (Ni.n _)) (Ni.c ⟨(show NE (B + 25) (B + 27) by unfold NE; omega), (show NE (B + 25) (B + 28) by unfold NE; omega)⟩ (Ni.n _)) (Ni.c ⟨(show NE (B + 26) (B + 27) by unfold NE; omega), (show NE (B + 26) (B + 28) by unfold NE; omega)⟩ (Ni.n _))
  have rk9_6 : CP hp B hc7 (T) := (rk6_6).fr frc8 (Ni.c ⟨(show NE (B + 2) (B + 27) by unfold NE; omega), (show NE (B + 2) (B + 28) by unfold NE; omega)⟩ (Ni.n _)) (Ni.c ⟨(show NE (B + 3) (B + 27) by unfold NE; omega), (show NE (B + 3) (B + 28) by unfold NE; omega)⟩ (Ni.n _)) (lo_c (by omega) (fun _ h => absurd h (List.not_mem_nil)))
  have rk5009_0 : PA hc7 (B + 5) := (rk5006_0).fr frc8 (Ai.c (show AP (B + 5) (B + 27) by unfold AP; omega) (Ai.n _))
  have rk5009_1 : RA 84 hc7 (B + 29) := (rk5006_1).fr frc8 (Ai.c (show AP (B + 29) (B + 27) by unfold AP; omega) (Ai.n _))
  have rk5009_2 : RA 84 hc7 (B + 31) := (rk5006_2).fr frc8 (Ai.c (show AP (B + 31) (B + 27) by unfold AP; omega) (Ai.n _))
  have rk5009_3 : RA 84 hc7 (B + 33) := (rk5006_3).fr frc8 (Ai.c (show AP (B + 33) (B + 27) by unfold AP; omega) (Ai.n _))
  have fr9 : Fr [B + 27] h hc7 := (fr6).tr ((frc8).mo (sub_c (List.Mem.head _) sub_n))
  refine Go.nf (h' := hc7) (st' := []) rfl rfl (Nat.le_refl _) (Nat.le_refl _) ?_
  refine g_aload_n 0 dX9_constant_31 rfl ?_
  refine g_aload_n 0 dX9_constant_32 rfl ?_
  refine g_getf 6 dX9_constant_33 kX9 (by decide) fX9_50 fk9_0 rfl ?_
  refine g_callV (nc2 := 2) (ns2 := 290) (ci := 9) (As := [.ref (B + 27)]) (st := []) rfl dX9_constant_36 okX9_keep lX9_103 itX9_keep seX9_keep rfl fk9_0 (by decide) (by decide) rfl (Nat.le_of_ble_eq_true rfl) (sC_keep N _ B p hp hp2 c X V fa sy T (pF hp (cz hp (zi hp a))) (⟨fk9_0, rk9_4, fk9_1, rk5009_0, (rn8).ra, rk5009_1, rk5009_2, rk5009_3, rk9_5, (by rw [(fr9).1]; exact hlo)⟩) rk9_6 rn8) (by omega) (by omega) (fun v10 hc10 q10 => ?_)
  obtain ⟨w11, hK11, rfl, cp11, fk11⟩ := q10
  have cs11 := CSt.fk ⟨fk9_0, rk9_4, fk9_1, rk5009_0, (rn8).ra, rk5009_1, rk5009_2, rk5009_3, rk9_5, (by rw [(fr9).1]; exact hlo)⟩ fk11
  have fz11 : FK (pK B) h hc10 := FK.tr (FK.fr fr9 (fun x e hx hk => Ni_hi hk.1 (hi_c (by omega) (fun _ h => absurd h (List.not_mem_nil))))) (fk11.mo (fun x e _ hk => kpK_pK hk))
  refine Go.nf (h' := hc10) (st' := [.int (gI (w11))]) rfl rfl (Nat.le_refl _) (Nat.le_refl _) ?_
  exact g_iret dX9_constant_39 rfl ⟨fz11, w11, _, ⟨hK11, rfl⟩, rfl, cs11, cp11⟩
set_option maxHeartbeats 4000000 in
set_option maxRecDepth 100000 in
theorem sC_variable (N : GN) (h : GH) (B p : Nat) (hp : prm p) (hp2 : p ≤ 65536) (c : Int) (X V : Int → Int) (fa sy : Value) (T : PT p) (u : Int) (gW_u : gW u) (hcs : CSt p B h c X V fa sy) (hT : CP hp B h T)  : Sp N yX9_variable mX9_variable 2 290 [.ref (B), .int (gI (u))] h (fun v h1 => FK (pK B) h h1 ∧ ∃ w T2, Ou T (rvar hp u) w T2 ∧ v = some (.int (gI w)) ∧ CSt p B h1 c X V fa sy ∧ CP hp B h1 T2) := by
  refine Sp.of (by decide) rfl rfl (Nat.le_of_ble_eq_true rfl) ?_
  show Go N mX9_variable _ 2 290 h 0 [(0, .ref (B)), (1, .int (gI (u)))] []
  have hp1 := hp.1
  have hcs0 := hcs
  obtain ⟨hob, hw, hw4, h5, h27, h29, h31, h33, hpt, hlo⟩ := hcs0
  refine g_iload_n 1 dX9_variable_0 rfl ?_
  refine g_if_eq (tgt := 12) dX9_variable_1 rfl (by first | assumption | (unfold gW; omega) | (unfold gW; split <;> omega)) (fun c1 => ?_) (fun c1 => ?_)
  · skip
    refine g_aload_n 0 dX9_variable_12 rfl ?_
    refine g_getf 6 dX9_variable_13 kX9 (by decide) fX9_50 hob rfl ?_
    refine g_callV (nc2 := 0) (ns2 := 0) (ci := 4) (As := []) (st := []) rfl dX9_variable_16 okX4_clear lX9_89 itX4_clear seX4_clear rfl (Classical.choose_spec (PA.o h27)) (by decide) (by decide) rfl (Nat.le_of_ble_eq_true rfl) (sQ_clear N _ (B + 27) p hp hp2 h27) (by omega) (by omega) (fun v2 hc2 q2 => ?_)
    obtain ⟨rfl, frc3, rn3_0⟩ := q2
    have fk4_0 : hc2.2 (B) = some (cO B (fa) (sy)) := Fr.at0 frc3 (Ni.c ⟨(show NE (B) (B + 27) by unfold NE; omega), (show NE (B) (B + 28) by unfold NE; omega)⟩ (Ni.n _)) hob
    have fk4_1 : hc2.2 (B + 4) = some (oB 8 [.ref (B + 1), .ref (B + 5)]) := Fr.at0 frc3 (Ni.c ⟨(show NE (B + 4) (B + 27) by unfold NE; omega), (show NE (B + 4) (B + 28) by unfold NE; omega)⟩ (Ni.n _)) hw4
    have fk4_2 : hc2.2 (B + 7) = some (oB 2 [.ref (B + 1), .ref (B + 8), .ref (B + 10), .ref (B + 12), .ref (B + 14), .ref (B + 16), .ref (B + 18), .ref (B + 20), .ref (B + 22)]) := Fr.at0 frc3 (Ni.c ⟨(show NE (B + 7) (B + 27) by unfold NE; omega), (show NE (B + 7) (B + 28) by unfold NE; omega)⟩ (Ni.n _)) hw.1
    have fk4_3 : hc2.2 (B + 1) = some (oB 1 [.int (gI ((p : Int)))]) := Fr.at0 frc3 (Ni.c ⟨(show NE (B + 1) (B + 27) by unfold NE; omega), (show NE (B + 1) (B + 28) by unfold NE; omega)⟩ (Ni.n _)) hw.2.1
    have rk4_0 : PW p B hc2 := (hw).fr2 frc3 (ok_c (by omega) (fun _ h => absurd h (List.not_mem_nil)))
    have rk4_6 : CPt p B hc2 (c) X V := (hpt).fr frc3 (Ni.c ⟨(show NE (B + 24) (B + 27) by unfold NE; omega), (show NE (B + 24) (B + 28) by unfold NE; omega)⟩ (Ni.n _)) (Ni.c ⟨(show NE (B + 25) (B + 27) by unfold NE; omega), (show NE (B + 25) (B + 28) by unfold NE; omega)⟩ (Ni.n _)) (Ni.c ⟨(show NE (B + 26) (B + 27) by unfold NE; omega), (show NE (B + 26) (B + 28) by unfold NE; omega)⟩ (Ni.n _))
    have rk4_7 : CP hp B hc2 (T) := (hT).fr frc3 (Ni.c ⟨(show NE (B + 2) (B + 27) by unfold NE; omega), (show NE (B + 2) (B + 28) by unfold NE; omega)⟩ (Ni.n _)) (Ni.c ⟨(show NE (B + 3) (B + 27) by unfold NE; omega), (show NE (B + 3) (B + 28) by unfold NE; omega)⟩ (Ni.n _)) (lo_c (by omega) (fun _ h => absurd h (List.not_mem_nil)))
    have rk5004_0 : PA hc2 (B + 5) := (h5).fr frc3 (Ai.c (show AP (B + 5) (B + 27) by unfold AP; omega) (Ai.n _))
    have rk5004_2 : RA 84 hc2 (B + 29) := (h29).fr frc3 (Ai.c (show AP (B + 29) (B + 27) by unfold AP; omega) (Ai.n _))
    have rk5004_3 : RA 84 hc2 (B + 31) := (h31).fr frc3 (Ai.c (show AP (B + 31) (B + 27) by unfold AP; omega) (Ai.n _))
    have rk5004_4 : RA 84 hc2 (B + 33) := (h33).fr frc3 (Ai.c (show AP (B + 33) (B + 27) by unfold AP; omega) (Ai.n _))
    have fr4 : Fr [B + 27] h hc2 := ((Fr.rf [B + 27] h)).tr ((frc3).mo (sub_c (List.Mem.head _) sub_n))
    refine Go.nf (h' := hc2) (st' := []) rfl rfl (Nat.le_refl _) (Nat.le_refl _) ?_
    obtain ⟨gz, ⟨z1, z2, z3⟩, zN, zB⟩ := rn3_0
    refine g_aload_n 0 dX9_variable_19 rfl ?_
    refine g_getf 6 dX9_variable_20 kX9 (by decide) fX9_50 fk4_0 rfl ?_
    refine g_getf 0 dX9_variable_23 kX4 (by decide) fX9_92 z1 rfl ?_
    refine g_iload_n 1 dX9_variable_26 rfl ?_
    refine g_if_ne (tgt := 34) dX9_variable_27 rfl (by first | assumption | (unfold gW; omega) | (unfold gW; split <;> omega)) (fun c5 => ?_) (fun c5 => ?_)
    · skip
      refine g_bipush dX9_variable_34 (by decide) ?_
      refine g_lconst1 dX9_variable_36 ?_
      refine g_lastore dX9_variable_37 z2 (by omega) (by omega) (by omega) ?_
      obtain ⟨hh6, eh6⟩ : ∃ z : GH, z = hset hc2 (B + 28) (aJ 287 (gup (gz) (41) (1))) := ⟨_, rfl⟩
      refine Go.hp eh6.symm ?_
      have fh6_0 : hh6.2 (B) = some (cO B (fa) (sy)) := hs_n eh6 (show NE (B) (B + 28) by unfold NE; omega) fk4_0
      have fh6_1 : hh6.2 (B + 4) = some (oB 8 [.ref (B + 1), .ref (B + 5)]) := hs_n eh6 (show NE (B + 4) (B + 28) by unfold NE; omega) fk4_1
      have fh6_2 : hh6.2 (B + 7) = some (oB 2 [.ref (B + 1), .ref (B + 8), .ref (B + 10), .ref (B + 12), .ref (B + 14), .ref (B + 16), .ref (B + 18), .ref (B + 20), .ref (B + 22)]) := hs_n eh6 (show NE (B + 7) (B + 28) by unfold NE; omega) fk4_2
      have fh6_3 : hh6.2 (B + 1) = some (oB 1 [.int (gI ((p : Int)))]) := hs_n eh6 (show NE (B + 1) (B + 28) by unfold NE; omega) fk4_3
      have fh6_4 : hh6.2 (B + 27) = some (oB 4 [.ref (B + 28), .int (gI (dX hp (zF hp))), .int (gI (dY hp (zF hp)))]) := hs_n eh6 (show NE (B + 27) (B + 28) by unfold NE; omega) z1
      have fh6_5 : hh6.2 (B + 28) = some (aJ 287 (gup (gz) (41) (1))) := hs_s eh6
      have fx6 : Fr [B + 27] hc2 hh6 := Fr.w1 (Fr.rf _ _) (List.Mem.head _) eh6
      have rk6_4 : PW p B hh6 := (rk4_0).fr2 fx6 (ok_c (by omega) (fun _ h => absurd h (List.not_mem_nil)))
      have rk6_5 : CPt p B hh6 (c) X V := (rk4_6).fr fx6 (Ni.c ⟨(show NE (B + 24) (B + 27) by unfold NE; omega), (show NE (B + 24) (B + 28) by unfold NE; omega)⟩ (Ni.n _)) (Ni.c ⟨(show NE (B + 25) (B + 27) by unfold NE; omega), (show NE (B + 25) (B + 28) by unfold NE; omega)⟩ (Ni.n _)) (Ni.c ⟨(show NE (B + 26) (B + 27) by unfold NE; omega), (show NE (B + 26) (B + 28) by unfold NE; omega)⟩ (Ni.n _))
      have rk6_6 : CP hp B hh6 (T) := (rk4_7).fr fx6 (Ni.c ⟨(show NE (B + 2) (B + 27) by unfold NE; omega), (show NE (B + 2) (B + 28) by unfold NE; omega)⟩ (Ni.n _)) (Ni.c ⟨(show NE (B + 3) (B + 27) by unfold NE; omega), (show NE (B + 3) (B + 28) by unfold NE; omega)⟩ (Ni.n _)) (lo_c (by omega) (fun _ h => absurd h (List.not_mem_nil)))
      have rk5006_0 : PA hh6 (B + 5) := (rk5004_0).fr fx6 (Ai.c (show AP (B + 5) (B + 27) by unfold AP; omega) (Ai.n _))
      have rk5006_1 : RA 84 hh6 (B + 29) := (rk5004_2).fr fx6 (Ai.c (show AP (B + 29) (B + 27) by unfold AP; omega) (Ai.n _))
      have rk5006_2 : RA 84 hh6 (B + 31) := (rk5004_3).fr fx6 (Ai.c (show AP (B + 31) (B + 27) by unfold AP; omega) (Ai.n _))
      have rk5006_3 : RA 84 hh6 (B + 33) := (rk5004_4).fr fx6 (Ai.c (show AP (B + 33) (B + 27) by unfold AP; omega) (Ai.n _))
      have fr6 : Fr [B + 27] h hh6 := Fr.w1 fr4 (List.Mem.head _) eh6
      have e3 : hh6.2 (B + 28) = some (aJ 287 (gup gz (1 * 41 + 0) 1)) := fh6_5
      have hz0 : gz (1 * 41 + 0) = 0 := by rw [zN 1 0 (by omega) (by omega) (by omega) (by omega), zF_cy]
      refine g_aload_n 0 dX9_variable_38 rfl ?_
      refine g_getf 6 dX9_variable_39 kX9 (by decide) fX9_50 fh6_0 rfl ?_
      refine g_callV (nc2 := 0) (ns2 := 0) (ci := 4) (As := []) (st := []) rfl dX9_variable_42 okX4_measure lX9_100 itX4_measure seX4_measure rfl fh6_4 (by decide) (by decide) rfl (Nat.le_of_ble_eq_true rfl) (sQ_measure N _ (B + 27) p hp hp2 _ _ (gup gz (1 * 41 + 0) 1) (pls hp (zF hp) 1 1 0) fh6_4 e3 (pls_NM hp (j := 1) (i := 0) zN zB (by omega) (by omega) (by omega) (by omega) (by omega) (by rw [hz0, Int.zero_add])) (pls_PB hp 1 (zF_PB hp) (by omega) (by omega))) (by omega) (by omega) (fun v7 hc7 q7 => ?_)
      obtain ⟨rfl, frc8, rn8⟩ := q7
      have fk9_0 : hc7.2 (B) = some (cO B (fa) (sy)) := Fr.at0 frc8 (Ni.c ⟨(show NE (B) (B + 27) by unfold NE; omega), (show NE (B) (B + 28) by unfold NE; omega)⟩ (Ni.n _)) fh6_0
      have fk9_1 : hc7.2 (B + 4) = some (oB 8 [.ref (B + 1), .ref (B + 5)]) := Fr.at0 frc8 (Ni.c ⟨(show NE (B + 4) (B + 27) by unfold NE; omega), (show NE (B + 4) (B + 28) by unfold NE; omega)⟩ (Ni.n _)) fh6_1
      have fk9_2 : hc7.2 (B + 7) = some (oB 2 [.ref (B + 1), .ref (B + 8), .ref (B + 10), .ref (B + 12), .ref (B + 14), .ref (B + 16), .ref (B + 18), .ref (B + 20), .ref (B + 22)]) := Fr.at0 frc8 (Ni.c ⟨(show NE (B + 7) (B + 27) by unfold NE; omega), (show NE (B + 7) (B + 28) by unfold NE; omega)⟩ (Ni.n _)) fh6_2
      have fk9_3 : hc7.2 (B + 1) = some (oB 1 [.int (gI ((p : Int)))]) := Fr.at0 frc8 (Ni.c ⟨(show NE (B + 1) (B + 27) by unfold NE; omega), (show NE (B + 1) (B + 28) by unfold NE; omega)⟩ (Ni.n _)) fh6_3
      have rk9_4 : PW p B hc7 := (rk6_4).fr2 frc8 (ok_c (by omega) (fun _ h => absurd h (List.not_mem_nil)))
      have rk9_5 : CPt p B hc7 (c) X V := (rk6_5).fr frc8 (Ni.c ⟨(show NE (B + 24) (B + 27) by unfold NE; omega), (show NE (B + 24) (B + 28) by unfold NE; omega)⟩ (Ni.n _)) (Ni.c ⟨(show NE (B + 25) (B + 27) by unfold NE; omega), (show NE (B + 25) (B + 28) by unfold NE; omega)⟩ (Ni.n _)) (Ni.c ⟨(show NE (B + 26) (B + 27) by unfold NE; omega), (show NE (B + 26) (B + 28) by unfold NE; omega)⟩ (Ni.n _))
      have rk9_6 : CP hp B hc7 (T) := (rk6_6).fr frc8 (Ni.c ⟨(show NE (B + 2) (B + 27) by unfold NE; omega), (show NE (B + 2) (B + 28) by unfold NE; omega)⟩ (Ni.n _)) (Ni.c ⟨(show NE (B + 3) (B + 27) by unfold NE; omega), (show NE (B + 3) (B + 28) by unfold NE; omega)⟩ (Ni.n _)) (lo_c (by omega) (fun _ h => absurd h (List.not_mem_nil)))
      have rk5009_0 : PA hc7 (B + 5) := (rk5006_0).fr frc8 (Ai.c (show AP (B + 5) (B + 27) by unfold AP; omega) (Ai.n _))
      have rk5009_1 : RA 84 hc7 (B + 29) := (rk5006_1).fr frc8 (Ai.c (show AP (B + 29) (B + 27) by unfold AP; omega) (Ai.n _))
      have rk5009_2 : RA 84 hc7 (B + 31) := (rk5006_2).fr frc8 (Ai.c (show AP (B + 31) (B + 27) by unfold AP; omega) (Ai.n _))
      have rk5009_3 : RA 84 hc7 (B + 33) := (rk5006_3).fr frc8 (Ai.c (show AP (B + 33) (B + 27) by unfold AP; omega) (Ai.n _))
      have fr9 : Fr [B + 27] h hc7 := (fr6).tr ((frc8).mo (sub_c (List.Mem.head _) sub_n))
      refine Go.nf (h' := hc7) (st' := []) rfl rfl (Nat.le_refl _) (Nat.le_refl _) ?_
      refine g_aload_n 0 dX9_variable_45 rfl ?_
      refine g_aload_n 0 dX9_variable_46 rfl ?_
      refine g_getf 6 dX9_variable_47 kX9 (by decide) fX9_50 fk9_0 rfl ?_
      refine g_callV (nc2 := 2) (ns2 := 290) (ci := 9) (As := [.ref (B + 27)]) (st := []) rfl dX9_variable_50 okX9_keep lX9_103 itX9_keep seX9_keep rfl fk9_0 (by decide) (by decide) rfl (Nat.le_of_ble_eq_true rfl) (sC_keep N _ B p hp hp2 c X V fa sy T (pls hp (zF hp) 1 1 0) (⟨fk9_0, rk9_4, fk9_1, rk5009_0, (rn8).ra, rk5009_1, rk5009_2, rk5009_3, rk9_5, (by rw [(fr9).1]; exact hlo)⟩) rk9_6 rn8) (by omega) (by omega) (fun v10 hc10 q10 => ?_)
      obtain ⟨w11, hK11, rfl, cp11, fk11⟩ := q10
      have cs11 := CSt.fk ⟨fk9_0, rk9_4, fk9_1, rk5009_0, (rn8).ra, rk5009_1, rk5009_2, rk5009_3, rk9_5, (by rw [(fr9).1]; exact hlo)⟩ fk11
      have fz11 : FK (pK B) h hc10 := FK.tr (FK.fr fr9 (fun x e hx hk => Ni_hi hk.1 (hi_c (by omega) (fun _ h => absurd h (List.not_mem_nil))))) (fk11.mo (fun x e _ hk => kpK_pK hk))
      refine Go.nf (h' := hc10) (st' := [.int (gI (w11))]) rfl rfl (Nat.le_refl _) (Nat.le_refl _) ?_
      exact g_iret dX9_variable_53 rfl ⟨fz11, w11, _, (by unfold rvar; rw [if_neg (by omega), if_pos (by omega)]; exact ⟨hK11, rfl⟩), rfl, cs11, cp11⟩
    · skip
      refine g_iconst dX9_variable_30 ?_
      refine g_goto (tgt := 36) dX9_variable_31 rfl ?_
      refine g_lconst1 dX9_variable_36 ?_
      refine g_lastore dX9_variable_37 z2 (by omega) (by omega) (by omega) ?_
      obtain ⟨hh12, eh12⟩ : ∃ z : GH, z = hset hc2 (B + 28) (aJ 287 (gup (gz) (1) (1))) := ⟨_, rfl⟩
      refine Go.hp eh12.symm ?_
      have fh12_0 : hh12.2 (B) = some (cO B (fa) (sy)) := hs_n eh12 (show NE (B) (B + 28) by unfold NE; omega) fk4_0
      have fh12_1 : hh12.2 (B + 4) = some (oB 8 [.ref (B + 1), .ref (B + 5)]) := hs_n eh12 (show NE (B + 4) (B + 28) by unfold NE; omega) fk4_1
      have fh12_2 : hh12.2 (B + 7) = some (oB 2 [.ref (B + 1), .ref (B + 8), .ref (B + 10), .ref (B + 12), .ref (B + 14), .ref (B + 16), .ref (B + 18), .ref (B + 20), .ref (B + 22)]) := hs_n eh12 (show NE (B + 7) (B + 28) by unfold NE; omega) fk4_2
      have fh12_3 : hh12.2 (B + 1) = some (oB 1 [.int (gI ((p : Int)))]) := hs_n eh12 (show NE (B + 1) (B + 28) by unfold NE; omega) fk4_3
      have fh12_4 : hh12.2 (B + 27) = some (oB 4 [.ref (B + 28), .int (gI (dX hp (zF hp))), .int (gI (dY hp (zF hp)))]) := hs_n eh12 (show NE (B + 27) (B + 28) by unfold NE; omega) z1
      have fh12_5 : hh12.2 (B + 28) = some (aJ 287 (gup (gz) (1) (1))) := hs_s eh12
      have fx12 : Fr [B + 27] hc2 hh12 := Fr.w1 (Fr.rf _ _) (List.Mem.head _) eh12
      have rk12_4 : PW p B hh12 := (rk4_0).fr2 fx12 (ok_c (by omega) (fun _ h => absurd h (List.not_mem_nil)))
      have rk12_5 : CPt p B hh12 (c) X V := (rk4_6).fr fx12 (Ni.c ⟨(show NE (B + 24) (B + 27) by unfold NE; omega), (show NE (B + 24) (B + 28) by unfold NE; omega)⟩ (Ni.n _)) (Ni.c ⟨(show NE (B + 25) (B + 27) by unfold NE; omega), (show NE (B + 25) (B + 28) by unfold NE; omega)⟩ (Ni.n _)) (Ni.c ⟨(show NE (B + 26) (B + 27) by unfold NE; omega), (show NE (B + 26) (B + 28) by unfold NE; omega)⟩ (Ni.n _))
      have rk12_6 : CP hp B hh12 (T) := (rk4_7).fr fx12 (Ni.c ⟨(show NE (B + 2) (B + 27) by unfold NE; omega), (show NE (B + 2) (B + 28) by unfold NE; omega)⟩ (Ni.n _)) (Ni.c ⟨(show NE (B + 3) (B + 27) by unfold NE; omega), (show NE (B + 3) (B + 28) by unfold NE; omega)⟩ (Ni.n _)) (lo_c (by omega) (fun _ h => absurd h (List.not_mem_nil)))
      have rk5012_0 : PA hh12 (B + 5) := (rk5004_0).fr fx12 (Ai.c (show AP (B + 5) (B + 27) by unfold AP; omega) (Ai.n _))
      have rk5012_1 : RA 84 hh12 (B + 29) := (rk5004_2).fr fx12 (Ai.c (show AP (B + 29) (B + 27) by unfold AP; omega) (Ai.n _))
      have rk5012_2 : RA 84 hh12 (B + 31) := (rk5004_3).fr fx12 (Ai.c (show AP (B + 31) (B + 27) by unfold AP; omega) (Ai.n _))
      have rk5012_3 : RA 84 hh12 (B + 33) := (rk5004_4).fr fx12 (Ai.c (show AP (B + 33) (B + 27) by unfold AP; omega) (Ai.n _))
      have fr12 : Fr [B + 27] h hh12 := Fr.w1 fr4 (List.Mem.head _) eh12
      have e3 : hh12.2 (B + 28) = some (aJ 287 (gup gz (0 * 41 + 1) 1)) := fh12_5
      have hz0 : gz (0 * 41 + 1) = 0 := by rw [zN 0 1 (by omega) (by omega) (by omega) (by omega), zF_cy]
      refine g_aload_n 0 dX9_variable_38 rfl ?_
      refine g_getf 6 dX9_variable_39 kX9 (by decide) fX9_50 fh12_0 rfl ?_
      refine g_callV (nc2 := 0) (ns2 := 0) (ci := 4) (As := []) (st := []) rfl dX9_variable_42 okX4_measure lX9_100 itX4_measure seX4_measure rfl fh12_4 (by decide) (by decide) rfl (Nat.le_of_ble_eq_true rfl) (sQ_measure N _ (B + 27) p hp hp2 _ _ (gup gz (0 * 41 + 1) 1) (pls hp (zF hp) 1 0 1) fh12_4 e3 (pls_NM hp (j := 0) (i := 1) zN zB (by omega) (by omega) (by omega) (by omega) (by omega) (by rw [hz0, Int.zero_add])) (pls_PB hp 1 (zF_PB hp) (by omega) (by omega))) (by omega) (by omega) (fun v13 hc13 q13 => ?_)
      obtain ⟨rfl, frc14, rn14⟩ := q13
      have fk15_0 : hc13.2 (B) = some (cO B (fa) (sy)) := Fr.at0 frc14 (Ni.c ⟨(show NE (B) (B + 27) by unfold NE; omega), (show NE (B) (B + 28) by unfold NE; omega)⟩ (Ni.n _)) fh12_0
      have fk15_1 : hc13.2 (B + 4) = some (oB 8 [.ref (B + 1), .ref (B + 5)]) := Fr.at0 frc14 (Ni.c ⟨(show NE (B + 4) (B + 27) by unfold NE; omega), (show NE (B + 4) (B + 28) by unfold NE; omega)⟩ (Ni.n _)) fh12_1
      have fk15_2 : hc13.2 (B + 7) = some (oB 2 [.ref (B + 1), .ref (B + 8), .ref (B + 10), .ref (B + 12), .ref (B + 14), .ref (B + 16), .ref (B + 18), .ref (B + 20), .ref (B + 22)]) := Fr.at0 frc14 (Ni.c ⟨(show NE (B + 7) (B + 27) by unfold NE; omega), (show NE (B + 7) (B + 28) by unfold NE; omega)⟩ (Ni.n _)) fh12_2
      have fk15_3 : hc13.2 (B + 1) = some (oB 1 [.int (gI ((p : Int)))]) := Fr.at0 frc14 (Ni.c ⟨(show NE (B + 1) (B + 27) by unfold NE; omega), (show NE (B + 1) (B + 28) by unfold NE; omega)⟩ (Ni.n _)) fh12_3
      have rk15_4 : PW p B hc13 := (rk12_4).fr2 frc14 (ok_c (by omega) (fun _ h => absurd h (List.not_mem_nil)))
      have rk15_5 : CPt p B hc13 (c) X V := (rk12_5).fr frc14 (Ni.c ⟨(show NE (B + 24) (B + 27) by unfold NE; omega), (show NE (B + 24) (B + 28) by unfold NE; omega)⟩ (Ni.n _)) (Ni.c ⟨(show NE (B + 25) (B + 27) by unfold NE; omega), (show NE (B + 25) (B + 28) by unfold NE; omega)⟩ (Ni.n _)) (Ni.c ⟨(show NE (B + 26) (B + 27) by unfold NE; omega), (show NE (B + 26) (B + 28) by unfold NE; omega)⟩ (Ni.n _))
      have rk15_6 : CP hp B hc13 (T) := (rk12_6).fr frc14 (Ni.c ⟨(show NE (B + 2) (B + 27) by unfold NE; omega), (show NE (B + 2) (B + 28) by unfold NE; omega)⟩ (Ni.n _)) (Ni.c ⟨(show NE (B + 3) (B + 27) by unfold NE; omega), (show NE (B + 3) (B + 28) by unfold NE; omega)⟩ (Ni.n _)) (lo_c (by omega) (fun _ h => absurd h (List.not_mem_nil)))
      have rk5015_0 : PA hc13 (B + 5) := (rk5012_0).fr frc14 (Ai.c (show AP (B + 5) (B + 27) by unfold AP; omega) (Ai.n _))
      have rk5015_1 : RA 84 hc13 (B + 29) := (rk5012_1).fr frc14 (Ai.c (show AP (B + 29) (B + 27) by unfold AP; omega) (Ai.n _))
      have rk5015_2 : RA 84 hc13 (B + 31) := (rk5012_2).fr frc14 (Ai.c (show AP (B + 31) (B + 27) by unfold AP; omega) (Ai.n _))
      have rk5015_3 : RA 84 hc13 (B + 33) := (rk5012_3).fr frc14 (Ai.c (show AP (B + 33) (B + 27) by unfold AP; omega) (Ai.n _))
      have fr15 : Fr [B + 27] h hc13 := (fr12).tr ((frc14).mo (sub_c (List.Mem.head _) sub_n))
      refine Go.nf (h' := hc13) (st' := []) rfl rfl (Nat.le_refl _) (Nat.le_refl _) ?_
      refine g_aload_n 0 dX9_variable_45 rfl ?_
      refine g_aload_n 0 dX9_variable_46 rfl ?_
      refine g_getf 6 dX9_variable_47 kX9 (by decide) fX9_50 fk15_0 rfl ?_
      refine g_callV (nc2 := 2) (ns2 := 290) (ci := 9) (As := [.ref (B + 27)]) (st := []) rfl dX9_variable_50 okX9_keep lX9_103 itX9_keep seX9_keep rfl fk15_0 (by decide) (by decide) rfl (Nat.le_of_ble_eq_true rfl) (sC_keep N _ B p hp hp2 c X V fa sy T (pls hp (zF hp) 1 0 1) (⟨fk15_0, rk15_4, fk15_1, rk5015_0, (rn14).ra, rk5015_1, rk5015_2, rk5015_3, rk15_5, (by rw [(fr15).1]; exact hlo)⟩) rk15_6 rn14) (by omega) (by omega) (fun v16 hc16 q16 => ?_)
      obtain ⟨w17, hK17, rfl, cp17, fk17⟩ := q16
      have cs17 := CSt.fk ⟨fk15_0, rk15_4, fk15_1, rk5015_0, (rn14).ra, rk5015_1, rk5015_2, rk5015_3, rk15_5, (by rw [(fr15).1]; exact hlo)⟩ fk17
      have fz17 : FK (pK B) h hc16 := FK.tr (FK.fr fr15 (fun x e hx hk => Ni_hi hk.1 (hi_c (by omega) (fun _ h => absurd h (List.not_mem_nil))))) (fk17.mo (fun x e _ hk => kpK_pK hk))
      refine Go.nf (h' := hc16) (st' := [.int (gI (w17))]) rfl rfl (Nat.le_refl _) (Nat.le_refl _) ?_
      exact g_iret dX9_variable_53 rfl ⟨fz17, w17, _, (by unfold rvar; rw [if_pos (by omega)]; exact ⟨hK17, rfl⟩), rfl, cs17, cp17⟩
  · skip
    refine g_iload_n 1 dX9_variable_4 rfl ?_
    refine g_iconst dX9_variable_5 ?_
    refine g_icmp_eq (tgt := 12) dX9_variable_6 rfl (by first | assumption | (unfold gW; omega) | (unfold gW; split <;> omega)) (by first | assumption | (unfold gW; omega) | (unfold gW; split <;> omega)) (fun c18 => ?_) (fun c18 => ?_)
    · skip
      refine g_aload_n 0 dX9_variable_12 rfl ?_
      refine g_getf 6 dX9_variable_13 kX9 (by decide) fX9_50 hob rfl ?_
      refine g_callV (nc2 := 0) (ns2 := 0) (ci := 4) (As := []) (st := []) rfl dX9_variable_16 okX4_clear lX9_89 itX4_clear seX4_clear rfl (Classical.choose_spec (PA.o h27)) (by decide) (by decide) rfl (Nat.le_of_ble_eq_true rfl) (sQ_clear N _ (B + 27) p hp hp2 h27) (by omega) (by omega) (fun v19 hc19 q19 => ?_)
      obtain ⟨rfl, frc20, rn20_0⟩ := q19
      have fk21_0 : hc19.2 (B) = some (cO B (fa) (sy)) := Fr.at0 frc20 (Ni.c ⟨(show NE (B) (B + 27) by unfold NE; omega), (show NE (B) (B + 28) by unfold NE; omega)⟩ (Ni.n _)) hob
      have fk21_1 : hc19.2 (B + 4) = some (oB 8 [.ref (B + 1), .ref (B + 5)]) := Fr.at0 frc20 (Ni.c ⟨(show NE (B + 4) (B + 27) by unfold NE; omega), (show NE (B + 4) (B + 28) by unfold NE; omega)⟩ (Ni.n _)) hw4
      have fk21_2 : hc19.2 (B + 7) = some (oB 2 [.ref (B + 1), .ref (B + 8), .ref (B + 10), .ref (B + 12), .ref (B + 14), .ref (B + 16), .ref (B + 18), .ref (B + 20), .ref (B + 22)]) := Fr.at0 frc20 (Ni.c ⟨(show NE (B + 7) (B + 27) by unfold NE; omega), (show NE (B + 7) (B + 28) by unfold NE; omega)⟩ (Ni.n _)) hw.1
      have fk21_3 : hc19.2 (B + 1) = some (oB 1 [.int (gI ((p : Int)))]) := Fr.at0 frc20 (Ni.c ⟨(show NE (B + 1) (B + 27) by unfold NE; omega), (show NE (B + 1) (B + 28) by unfold NE; omega)⟩ (Ni.n _)) hw.2.1
      have rk21_0 : PW p B hc19 := (hw).fr2 frc20 (ok_c (by omega) (fun _ h => absurd h (List.not_mem_nil)))
      have rk21_6 : CPt p B hc19 (c) X V := (hpt).fr frc20 (Ni.c ⟨(show NE (B + 24) (B + 27) by unfold NE; omega), (show NE (B + 24) (B + 28) by unfold NE; omega)⟩ (Ni.n _)) (Ni.c ⟨(show NE (B + 25) (B + 27) by unfold NE; omega), (show NE (B + 25) (B + 28) by unfold NE; omega)⟩ (Ni.n _)) (Ni.c ⟨(show NE (B + 26) (B + 27) by unfold NE; omega), (show NE (B + 26) (B + 28) by unfold NE; omega)⟩ (Ni.n _))
      have rk21_7 : CP hp B hc19 (T) := (hT).fr frc20 (Ni.c ⟨(show NE (B + 2) (B + 27) by unfold NE; omega), (show NE (B + 2) (B + 28) by unfold NE; omega)⟩ (Ni.n _)) (Ni.c ⟨(show NE (B + 3) (B + 27) by unfold NE; omega), (show NE (B + 3) (B + 28) by unfold NE; omega)⟩ (Ni.n _)) (lo_c (by omega) (fun _ h => absurd h (List.not_mem_nil)))
      have rk5021_0 : PA hc19 (B + 5) := (h5).fr frc20 (Ai.c (show AP (B + 5) (B + 27) by unfold AP; omega) (Ai.n _))
      have rk5021_2 : RA 84 hc19 (B + 29) := (h29).fr frc20 (Ai.c (show AP (B + 29) (B + 27) by unfold AP; omega) (Ai.n _))
      have rk5021_3 : RA 84 hc19 (B + 31) := (h31).fr frc20 (Ai.c (show AP (B + 31) (B + 27) by unfold AP; omega) (Ai.n _))
      have rk5021_4 : RA 84 hc19 (B + 33) := (h33).fr frc20 (Ai.c (show AP (B + 33) (B + 27) by unfold AP; omega) (Ai.n _))
      have fr21 : Fr [B + 27] h hc19 := ((Fr.rf [B + 27] h)).tr ((frc20).mo (sub_c (List.Mem.head _) sub_n))
      refine Go.nf (h' := hc19) (st' := []) rfl rfl (Nat.le_refl _) (Nat.le_refl _) ?_
      obtain ⟨gz, ⟨z1, z2, z3⟩, zN, zB⟩ := rn20_0
      refine g_aload_n 0 dX9_variable_19 rfl ?_
      refine g_getf 6 dX9_variable_20 kX9 (by decide) fX9_50 fk21_0 rfl ?_
      refine g_getf 0 dX9_variable_23 kX4 (by decide) fX9_92 z1 rfl ?_
      refine g_iload_n 1 dX9_variable_26 rfl ?_
      refine g_if_ne (tgt := 34) dX9_variable_27 rfl (by first | assumption | (unfold gW; omega) | (unfold gW; split <;> omega)) (fun c22 => ?_) (fun c22 => ?_)
      · skip
        refine g_bipush dX9_variable_34 (by decide) ?_
        refine g_lconst1 dX9_variable_36 ?_
        refine g_lastore dX9_variable_37 z2 (by omega) (by omega) (by omega) ?_
        obtain ⟨hh23, eh23⟩ : ∃ z : GH, z = hset hc19 (B + 28) (aJ 287 (gup (gz) (41) (1))) := ⟨_, rfl⟩
        refine Go.hp eh23.symm ?_
        have fh23_0 : hh23.2 (B) = some (cO B (fa) (sy)) := hs_n eh23 (show NE (B) (B + 28) by unfold NE; omega) fk21_0
        have fh23_1 : hh23.2 (B + 4) = some (oB 8 [.ref (B + 1), .ref (B + 5)]) := hs_n eh23 (show NE (B + 4) (B + 28) by unfold NE; omega) fk21_1
        have fh23_2 : hh23.2 (B + 7) = some (oB 2 [.ref (B + 1), .ref (B + 8), .ref (B + 10), .ref (B + 12), .ref (B + 14), .ref (B + 16), .ref (B + 18), .ref (B + 20), .ref (B + 22)]) := hs_n eh23 (show NE (B + 7) (B + 28) by unfold NE; omega) fk21_2
        have fh23_3 : hh23.2 (B + 1) = some (oB 1 [.int (gI ((p : Int)))]) := hs_n eh23 (show NE (B + 1) (B + 28) by unfold NE; omega) fk21_3
        have fh23_4 : hh23.2 (B + 27) = some (oB 4 [.ref (B + 28), .int (gI (dX hp (zF hp))), .int (gI (dY hp (zF hp)))]) := hs_n eh23 (show NE (B + 27) (B + 28) by unfold NE; omega) z1
        have fh23_5 : hh23.2 (B + 28) = some (aJ 287 (gup (gz) (41) (1))) := hs_s eh23
        have fx23 : Fr [B + 27] hc19 hh23 := Fr.w1 (Fr.rf _ _) (List.Mem.head _) eh23
        have rk23_4 : PW p B hh23 := (rk21_0).fr2 fx23 (ok_c (by omega) (fun _ h => absurd h (List.not_mem_nil)))
        have rk23_5 : CPt p B hh23 (c) X V := (rk21_6).fr fx23 (Ni.c ⟨(show NE (B + 24) (B + 27) by unfold NE; omega), (show NE (B + 24) (B + 28) by unfold NE; omega)⟩ (Ni.n _)) (Ni.c ⟨(show NE (B + 25) (B + 27) by unfold NE; omega), (show NE (B + 25) (B + 28) by unfold NE; omega)⟩ (Ni.n _)) (Ni.c ⟨(show NE (B + 26) (B + 27) by unfold NE; omega), (show NE (B + 26) (B + 28) by unfold NE; omega)⟩ (Ni.n _))
        have rk23_6 : CP hp B hh23 (T) := (rk21_7).fr fx23 (Ni.c ⟨(show NE (B + 2) (B + 27) by unfold NE; omega), (show NE (B + 2) (B + 28) by unfold NE; omega)⟩ (Ni.n _)) (Ni.c ⟨(show NE (B + 3) (B + 27) by unfold NE; omega), (show NE (B + 3) (B + 28) by unfold NE; omega)⟩ (Ni.n _)) (lo_c (by omega) (fun _ h => absurd h (List.not_mem_nil)))
        have rk5023_0 : PA hh23 (B + 5) := (rk5021_0).fr fx23 (Ai.c (show AP (B + 5) (B + 27) by unfold AP; omega) (Ai.n _))
        have rk5023_1 : RA 84 hh23 (B + 29) := (rk5021_2).fr fx23 (Ai.c (show AP (B + 29) (B + 27) by unfold AP; omega) (Ai.n _))
        have rk5023_2 : RA 84 hh23 (B + 31) := (rk5021_3).fr fx23 (Ai.c (show AP (B + 31) (B + 27) by unfold AP; omega) (Ai.n _))
        have rk5023_3 : RA 84 hh23 (B + 33) := (rk5021_4).fr fx23 (Ai.c (show AP (B + 33) (B + 27) by unfold AP; omega) (Ai.n _))
        have fr23 : Fr [B + 27] h hh23 := Fr.w1 fr21 (List.Mem.head _) eh23
        have e3 : hh23.2 (B + 28) = some (aJ 287 (gup gz (1 * 41 + 0) 1)) := fh23_5
        have hz0 : gz (1 * 41 + 0) = 0 := by rw [zN 1 0 (by omega) (by omega) (by omega) (by omega), zF_cy]
        refine g_aload_n 0 dX9_variable_38 rfl ?_
        refine g_getf 6 dX9_variable_39 kX9 (by decide) fX9_50 fh23_0 rfl ?_
        refine g_callV (nc2 := 0) (ns2 := 0) (ci := 4) (As := []) (st := []) rfl dX9_variable_42 okX4_measure lX9_100 itX4_measure seX4_measure rfl fh23_4 (by decide) (by decide) rfl (Nat.le_of_ble_eq_true rfl) (sQ_measure N _ (B + 27) p hp hp2 _ _ (gup gz (1 * 41 + 0) 1) (pls hp (zF hp) 1 1 0) fh23_4 e3 (pls_NM hp (j := 1) (i := 0) zN zB (by omega) (by omega) (by omega) (by omega) (by omega) (by rw [hz0, Int.zero_add])) (pls_PB hp 1 (zF_PB hp) (by omega) (by omega))) (by omega) (by omega) (fun v24 hc24 q24 => ?_)
        obtain ⟨rfl, frc25, rn25⟩ := q24
        have fk26_0 : hc24.2 (B) = some (cO B (fa) (sy)) := Fr.at0 frc25 (Ni.c ⟨(show NE (B) (B + 27) by unfold NE; omega), (show NE (B) (B + 28) by unfold NE; omega)⟩ (Ni.n _)) fh23_0
        have fk26_1 : hc24.2 (B + 4) = some (oB 8 [.ref (B + 1), .ref (B + 5)]) := Fr.at0 frc25 (Ni.c ⟨(show NE (B + 4) (B + 27) by unfold NE; omega), (show NE (B + 4) (B + 28) by unfold NE; omega)⟩ (Ni.n _)) fh23_1
        have fk26_2 : hc24.2 (B + 7) = some (oB 2 [.ref (B + 1), .ref (B + 8), .ref (B + 10), .ref (B + 12), .ref (B + 14), .ref (B + 16), .ref (B + 18), .ref (B + 20), .ref (B + 22)]) := Fr.at0 frc25 (Ni.c ⟨(show NE (B + 7) (B + 27) by unfold NE; omega), (show NE (B + 7) (B + 28) by unfold NE; omega)⟩ (Ni.n _)) fh23_2
        have fk26_3 : hc24.2 (B + 1) = some (oB 1 [.int (gI ((p : Int)))]) := Fr.at0 frc25 (Ni.c ⟨(show NE (B + 1) (B + 27) by unfold NE; omega), (show NE (B + 1) (B + 28) by unfold NE; omega)⟩ (Ni.n _)) fh23_3
        have rk26_4 : PW p B hc24 := (rk23_4).fr2 frc25 (ok_c (by omega) (fun _ h => absurd h (List.not_mem_nil)))
        have rk26_5 : CPt p B hc24 (c) X V := (rk23_5).fr frc25 (Ni.c ⟨(show NE (B + 24) (B + 27) by unfold NE; omega), (show NE (B + 24) (B + 28) by unfold NE; omega)⟩ (Ni.n _)) (Ni.c ⟨(show NE (B + 25) (B + 27) by unfold NE; omega), (show NE (B + 25) (B + 28) by unfold NE; omega)⟩ (Ni.n _)) (Ni.c ⟨(show NE (B + 26) (B + 27) by unfold NE; omega), (show NE (B + 26) (B + 28) by unfold NE; omega)⟩ (Ni.n _))
        have rk26_6 : CP hp B hc24 (T) := (rk23_6).fr frc25 (Ni.c ⟨(show NE (B + 2) (B + 27) by unfold NE; omega), (show NE (B + 2) (B + 28) by unfold NE; omega)⟩ (Ni.n _)) (Ni.c ⟨(show NE (B + 3) (B + 27) by unfold NE; omega), (show NE (B + 3) (B + 28) by unfold NE; omega)⟩ (Ni.n _)) (lo_c (by omega) (fun _ h => absurd h (List.not_mem_nil)))
        have rk5026_0 : PA hc24 (B + 5) := (rk5023_0).fr frc25 (Ai.c (show AP (B + 5) (B + 27) by unfold AP; omega) (Ai.n _))
        have rk5026_1 : RA 84 hc24 (B + 29) := (rk5023_1).fr frc25 (Ai.c (show AP (B + 29) (B + 27) by unfold AP; omega) (Ai.n _))
        have rk5026_2 : RA 84 hc24 (B + 31) := (rk5023_2).fr frc25 (Ai.c (show AP (B + 31) (B + 27) by unfold AP; omega) (Ai.n _))
        have rk5026_3 : RA 84 hc24 (B + 33) := (rk5023_3).fr frc25 (Ai.c (show AP (B + 33) (B + 27) by unfold AP; omega) (Ai.n _))
        have fr26 : Fr [B + 27] h hc24 := (fr23).tr ((frc25).mo (sub_c (List.Mem.head _) sub_n))
        refine Go.nf (h' := hc24) (st' := []) rfl rfl (Nat.le_refl _) (Nat.le_refl _) ?_
        refine g_aload_n 0 dX9_variable_45 rfl ?_
        refine g_aload_n 0 dX9_variable_46 rfl ?_
        refine g_getf 6 dX9_variable_47 kX9 (by decide) fX9_50 fk26_0 rfl ?_
        refine g_callV (nc2 := 2) (ns2 := 290) (ci := 9) (As := [.ref (B + 27)]) (st := []) rfl dX9_variable_50 okX9_keep lX9_103 itX9_keep seX9_keep rfl fk26_0 (by decide) (by decide) rfl (Nat.le_of_ble_eq_true rfl) (sC_keep N _ B p hp hp2 c X V fa sy T (pls hp (zF hp) 1 1 0) (⟨fk26_0, rk26_4, fk26_1, rk5026_0, (rn25).ra, rk5026_1, rk5026_2, rk5026_3, rk26_5, (by rw [(fr26).1]; exact hlo)⟩) rk26_6 rn25) (by omega) (by omega) (fun v27 hc27 q27 => ?_)
        obtain ⟨w28, hK28, rfl, cp28, fk28⟩ := q27
        have cs28 := CSt.fk ⟨fk26_0, rk26_4, fk26_1, rk5026_0, (rn25).ra, rk5026_1, rk5026_2, rk5026_3, rk26_5, (by rw [(fr26).1]; exact hlo)⟩ fk28
        have fz28 : FK (pK B) h hc27 := FK.tr (FK.fr fr26 (fun x e hx hk => Ni_hi hk.1 (hi_c (by omega) (fun _ h => absurd h (List.not_mem_nil))))) (fk28.mo (fun x e _ hk => kpK_pK hk))
        refine Go.nf (h' := hc27) (st' := [.int (gI (w28))]) rfl rfl (Nat.le_refl _) (Nat.le_refl _) ?_
        exact g_iret dX9_variable_53 rfl ⟨fz28, w28, _, (by unfold rvar; rw [if_neg (by omega), if_pos (by omega)]; exact ⟨hK28, rfl⟩), rfl, cs28, cp28⟩
      · skip
        refine g_iconst dX9_variable_30 ?_
        refine g_goto (tgt := 36) dX9_variable_31 rfl ?_
        refine g_lconst1 dX9_variable_36 ?_
        refine g_lastore dX9_variable_37 z2 (by omega) (by omega) (by omega) ?_
        obtain ⟨hh29, eh29⟩ : ∃ z : GH, z = hset hc19 (B + 28) (aJ 287 (gup (gz) (1) (1))) := ⟨_, rfl⟩
        refine Go.hp eh29.symm ?_
        have fh29_0 : hh29.2 (B) = some (cO B (fa) (sy)) := hs_n eh29 (show NE (B) (B + 28) by unfold NE; omega) fk21_0
        have fh29_1 : hh29.2 (B + 4) = some (oB 8 [.ref (B + 1), .ref (B + 5)]) := hs_n eh29 (show NE (B + 4) (B + 28) by unfold NE; omega) fk21_1
        have fh29_2 : hh29.2 (B + 7) = some (oB 2 [.ref (B + 1), .ref (B + 8), .ref (B + 10), .ref (B + 12), .ref (B + 14), .ref (B + 16), .ref (B + 18), .ref (B + 20), .ref (B + 22)]) := hs_n eh29 (show NE (B + 7) (B + 28) by unfold NE; omega) fk21_2
        have fh29_3 : hh29.2 (B + 1) = some (oB 1 [.int (gI ((p : Int)))]) := hs_n eh29 (show NE (B + 1) (B + 28) by unfold NE; omega) fk21_3
        have fh29_4 : hh29.2 (B + 27) = some (oB 4 [.ref (B + 28), .int (gI (dX hp (zF hp))), .int (gI (dY hp (zF hp)))]) := hs_n eh29 (show NE (B + 27) (B + 28) by unfold NE; omega) z1
        have fh29_5 : hh29.2 (B + 28) = some (aJ 287 (gup (gz) (1) (1))) := hs_s eh29
        have fx29 : Fr [B + 27] hc19 hh29 := Fr.w1 (Fr.rf _ _) (List.Mem.head _) eh29
        have rk29_4 : PW p B hh29 := (rk21_0).fr2 fx29 (ok_c (by omega) (fun _ h => absurd h (List.not_mem_nil)))
        have rk29_5 : CPt p B hh29 (c) X V := (rk21_6).fr fx29 (Ni.c ⟨(show NE (B + 24) (B + 27) by unfold NE; omega), (show NE (B + 24) (B + 28) by unfold NE; omega)⟩ (Ni.n _)) (Ni.c ⟨(show NE (B + 25) (B + 27) by unfold NE; omega), (show NE (B + 25) (B + 28) by unfold NE; omega)⟩ (Ni.n _)) (Ni.c ⟨(show NE (B + 26) (B + 27) by unfold NE; omega), (show NE (B + 26) (B + 28) by unfold NE; omega)⟩ (Ni.n _))
        have rk29_6 : CP hp B hh29 (T) := (rk21_7).fr fx29 (Ni.c ⟨(show NE (B + 2) (B + 27) by unfold NE; omega), (show NE (B + 2) (B + 28) by unfold NE; omega)⟩ (Ni.n _)) (Ni.c ⟨(show NE (B + 3) (B + 27) by unfold NE; omega), (show NE (B + 3) (B + 28) by unfold NE; omega)⟩ (Ni.n _)) (lo_c (by omega) (fun _ h => absurd h (List.not_mem_nil)))
        have rk5029_0 : PA hh29 (B + 5) := (rk5021_0).fr fx29 (Ai.c (show AP (B + 5) (B + 27) by unfold AP; omega) (Ai.n _))
        have rk5029_1 : RA 84 hh29 (B + 29) := (rk5021_2).fr fx29 (Ai.c (show AP (B + 29) (B + 27) by unfold AP; omega) (Ai.n _))
        have rk5029_2 : RA 84 hh29 (B + 31) := (rk5021_3).fr fx29 (Ai.c (show AP (B + 31) (B + 27) by unfold AP; omega) (Ai.n _))
        have rk5029_3 : RA 84 hh29 (B + 33) := (rk5021_4).fr fx29 (Ai.c (show AP (B + 33) (B + 27) by unfold AP; omega) (Ai.n _))
        have fr29 : Fr [B + 27] h hh29 := Fr.w1 fr21 (List.Mem.head _) eh29
        have e3 : hh29.2 (B + 28) = some (aJ 287 (gup gz (0 * 41 + 1) 1)) := fh29_5
        have hz0 : gz (0 * 41 + 1) = 0 := by rw [zN 0 1 (by omega) (by omega) (by omega) (by omega), zF_cy]
        refine g_aload_n 0 dX9_variable_38 rfl ?_
        refine g_getf 6 dX9_variable_39 kX9 (by decide) fX9_50 fh29_0 rfl ?_
        refine g_callV (nc2 := 0) (ns2 := 0) (ci := 4) (As := []) (st := []) rfl dX9_variable_42 okX4_measure lX9_100 itX4_measure seX4_measure rfl fh29_4 (by decide) (by decide) rfl (Nat.le_of_ble_eq_true rfl) (sQ_measure N _ (B + 27) p hp hp2 _ _ (gup gz (0 * 41 + 1) 1) (pls hp (zF hp) 1 0 1) fh29_4 e3 (pls_NM hp (j := 0) (i := 1) zN zB (by omega) (by omega) (by omega) (by omega) (by omega) (by rw [hz0, Int.zero_add])) (pls_PB hp 1 (zF_PB hp) (by omega) (by omega))) (by omega) (by omega) (fun v30 hc30 q30 => ?_)
        obtain ⟨rfl, frc31, rn31⟩ := q30
        have fk32_0 : hc30.2 (B) = some (cO B (fa) (sy)) := Fr.at0 frc31 (Ni.c ⟨(show NE (B) (B + 27) by unfold NE; omega), (show NE (B) (B + 28) by unfold NE; omega)⟩ (Ni.n _)) fh29_0
        have fk32_1 : hc30.2 (B + 4) = some (oB 8 [.ref (B + 1), .ref (B + 5)]) := Fr.at0 frc31 (Ni.c ⟨(show NE (B + 4) (B + 27) by unfold NE; omega), (show NE (B + 4) (B + 28) by unfold NE; omega)⟩ (Ni.n _)) fh29_1
        have fk32_2 : hc30.2 (B + 7) = some (oB 2 [.ref (B + 1), .ref (B + 8), .ref (B + 10), .ref (B + 12), .ref (B + 14), .ref (B + 16), .ref (B + 18), .ref (B + 20), .ref (B + 22)]) := Fr.at0 frc31 (Ni.c ⟨(show NE (B + 7) (B + 27) by unfold NE; omega), (show NE (B + 7) (B + 28) by unfold NE; omega)⟩ (Ni.n _)) fh29_2
        have fk32_3 : hc30.2 (B + 1) = some (oB 1 [.int (gI ((p : Int)))]) := Fr.at0 frc31 (Ni.c ⟨(show NE (B + 1) (B + 27) by unfold NE; omega), (show NE (B + 1) (B + 28) by unfold NE; omega)⟩ (Ni.n _)) fh29_3
        have rk32_4 : PW p B hc30 := (rk29_4).fr2 frc31 (ok_c (by omega) (fun _ h => absurd h (List.not_mem_nil)))
        have rk32_5 : CPt p B hc30 (c) X V := (rk29_5).fr frc31 (Ni.c ⟨(show NE (B + 24) (B + 27) by unfold NE; omega), (show NE (B + 24) (B + 28) by unfold NE; omega)⟩ (Ni.n _)) (Ni.c ⟨(show NE (B + 25) (B + 27) by unfold NE; omega), (show NE (B + 25) (B + 28) by unfold NE; omega)⟩ (Ni.n _)) (Ni.c ⟨(show NE (B + 26) (B + 27) by unfold NE; omega), (show NE (B + 26) (B + 28) by unfold NE; omega)⟩ (Ni.n _))
        have rk32_6 : CP hp B hc30 (T) := (rk29_6).fr frc31 (Ni.c ⟨(show NE (B + 2) (B + 27) by unfold NE; omega), (show NE (B + 2) (B + 28) by unfold NE; omega)⟩ (Ni.n _)) (Ni.c ⟨(show NE (B + 3) (B + 27) by unfold NE; omega), (show NE (B + 3) (B + 28) by unfold NE; omega)⟩ (Ni.n _)) (lo_c (by omega) (fun _ h => absurd h (List.not_mem_nil)))
        have rk5032_0 : PA hc30 (B + 5) := (rk5029_0).fr frc31 (Ai.c (show AP (B + 5) (B + 27) by unfold AP; omega) (Ai.n _))
        have rk5032_1 : RA 84 hc30 (B + 29) := (rk5029_1).fr frc31 (Ai.c (show AP (B + 29) (B + 27) by unfold AP; omega) (Ai.n _))
        have rk5032_2 : RA 84 hc30 (B + 31) := (rk5029_2).fr frc31 (Ai.c (show AP (B + 31) (B + 27) by unfold AP; omega) (Ai.n _))
        have rk5032_3 : RA 84 hc30 (B + 33) := (rk5029_3).fr frc31 (Ai.c (show AP (B + 33) (B + 27) by unfold AP; omega) (Ai.n _))
        have fr32 : Fr [B + 27] h hc30 := (fr29).tr ((frc31).mo (sub_c (List.Mem.head _) sub_n))
        refine Go.nf (h' := hc30) (st' := []) rfl rfl (Nat.le_refl _) (Nat.le_refl _) ?_
        refine g_aload_n 0 dX9_variable_45 rfl ?_
        refine g_aload_n 0 dX9_variable_46 rfl ?_
        refine g_getf 6 dX9_variable_47 kX9 (by decide) fX9_50 fk32_0 rfl ?_
        refine g_callV (nc2 := 2) (ns2 := 290) (ci := 9) (As := [.ref (B + 27)]) (st := []) rfl dX9_variable_50 okX9_keep lX9_103 itX9_keep seX9_keep rfl fk32_0 (by decide) (by decide) rfl (Nat.le_of_ble_eq_true rfl) (sC_keep N _ B p hp hp2 c X V fa sy T (pls hp (zF hp) 1 0 1) (⟨fk32_0, rk32_4, fk32_1, rk5032_0, (rn31).ra, rk5032_1, rk5032_2, rk5032_3, rk32_5, (by rw [(fr32).1]; exact hlo)⟩) rk32_6 rn31) (by omega) (by omega) (fun v33 hc33 q33 => ?_)
        obtain ⟨w34, hK34, rfl, cp34, fk34⟩ := q33
        have cs34 := CSt.fk ⟨fk32_0, rk32_4, fk32_1, rk5032_0, (rn31).ra, rk5032_1, rk5032_2, rk5032_3, rk32_5, (by rw [(fr32).1]; exact hlo)⟩ fk34
        have fz34 : FK (pK B) h hc33 := FK.tr (FK.fr fr32 (fun x e hx hk => Ni_hi hk.1 (hi_c (by omega) (fun _ h => absurd h (List.not_mem_nil))))) (fk34.mo (fun x e _ hk => kpK_pK hk))
        refine Go.nf (h' := hc33) (st' := [.int (gI (w34))]) rfl rfl (Nat.le_refl _) (Nat.le_refl _) ?_
        exact g_iret dX9_variable_53 rfl ⟨fz34, w34, _, (by unfold rvar; rw [if_pos (by omega)]; exact ⟨hK34, rfl⟩), rfl, cs34, cp34⟩
    · skip
      refine g_bipush dX9_variable_9 (by decide) ?_
      exact g_iret dX9_variable_11 rfl ⟨(FK.fr (Fr.rf [B + 27] h) (fun x e hx hk => Ni_hi hk.1 (hi_c (by omega) (fun _ h => absurd h (List.not_mem_nil))))), (-2), T, (by unfold rvar; rw [if_neg (by omega), if_neg (by omega)]; exact ⟨rfl, rfl⟩), rfl, ⟨hob, hw, hw4, h5, h27, h29, h31, h33, hpt, (by rw [((Fr.rf [B + 27] h)).1]; exact hlo)⟩, hT⟩
set_option maxHeartbeats 4000000 in
set_option maxRecDepth 100000 in
theorem sC_plus (N : GN) (h : GH) (B p : Nat) (hp : prm p) (hp2 : p ≤ 65536) (c : Int) (X V : Int → Int) (fa sy : Value) (T : PT p) (a e i j : Int) (gW_a : gW a) (gX_e : gX e) (gW_i : gW i) (gW_j : gW j) (hcs : CSt p B h c X V fa sy) (hT : CP hp B h T)  : Sp N yX9_plus mX9_plus 2 290 [.ref (B), .int (gI (a)), .long (gJ (e)), .int (gI (i)), .int (gI (j))] h (fun v h1 => FK (pK B) h h1 ∧ ∃ w T2, Ou T (ap1 T a (rpls hp e i j)) w T2 ∧ v = some (.int (gI w)) ∧ CSt p B h1 c X V fa sy ∧ CP hp B h1 T2) := by
  refine Sp.of (by decide) rfl rfl (Nat.le_of_ble_eq_true rfl) ?_
  show Go N mX9_plus _ 2 290 h 0 [(0, .ref (B)), (1, .int (gI (a))), (2, .long (gJ (e))), (4, .int (gI (i))), (5, .int (gI (j)))] []
  have hp1 := hp.1
  have hcs0 := hcs
  obtain ⟨hob, hw, hw4, h5, h27, h29, h31, h33, hpt, hlo⟩ := hcs0
  refine g_aload_n 0 dX9_plus_0 rfl ?_
  refine g_iload_n 1 dX9_plus_1 rfl ?_
  refine g_callV (nc2 := 0) (ns2 := 0) (ci := 9) (As := [.int (gI (a))]) (st := []) rfl dX9_plus_2 okX9_find lX9_107 itX9_find seX9_find rfl hob (by decide) (by decide) rfl (Nat.le_of_ble_eq_true rfl) (sC_find N _ B p hp fa sy T (a) gW_a hob hT) (by omega) (by omega) (fun v1 hc1 q1 => ?_)
  obtain ⟨hq2, hr2⟩ := q1
  rcases hr2 with ⟨F, qa, g_a, rfl, l_a, pp_a⟩ | ⟨g_a, rfl⟩
  · skip
    refine Go.nf (h' := h) (st' := [.ref (qa)]) hq2 rfl (Nat.le_refl _) (Nat.le_refl _) ?_
    refine g_astore (ls2 := [(6, .ref (qa)), (0, .ref (B)), (1, .int (gI (a))), (2, .long (gJ (e))), (4, .int (gI (i))), (5, .int (gI (j)))]) dX9_plus_5 (by decide) rfl ?_
    refine g_aload 0 dX9_plus_7 rfl ?_
    refine g_ifnn (tgt := 14) dX9_plus_9 rfl ?_
    refine g_iload 4 dX9_plus_14 rfl ?_
    refine g_iload 5 dX9_plus_16 rfl ?_
    refine g_callS (nc2 := 0) (ns2 := 0) (As := [.int (gI (i)), .int (gI (j))]) (st := []) rfl dX9_plus_18 okX9_isPower lX9_123 stX9_isPower (by decide) (by decide) rfl (Nat.le_of_ble_eq_true rfl) (sC_isPower N _ (i) (j) (by assumption) (by assumption)) (by omega) (by omega) (fun v3 hc3 q3 => ?_)
    obtain ⟨hq4, rfl⟩ := q3
    refine Go.nf (h' := h) (st' := [.int (gI (if 0 ≤ i ∧ i ≤ 40 ∧ 0 ≤ j ∧ j ≤ 6 then 1 else 0))]) hq4 rfl (Nat.le_refl _) (Nat.le_refl _) ?_
    refine g_if_ne (tgt := 27) dX9_plus_21 rfl (by first | assumption | (unfold gW; omega) | (unfold gW; split <;> omega)) (fun c5 => ?_) (fun c5 => ?_)
    · skip
      have hij : 0 ≤ i ∧ i ≤ 40 ∧ 0 ≤ j ∧ j ≤ 6 := by
                                                                      by_cases z : 0 ≤ i ∧ i ≤ 40 ∧ 0 ≤ j ∧ j ≤ 6
                                                                      · exact z
                                                                      · rw [if_neg z] at c5; omega
      clear c5
      refine g_iload 5 dX9_plus_27 rfl ?_
      refine g_bipush dX9_plus_29 (by decide) ?_
      refine g_imul dX9_plus_31 ?_
      refine g_iload 4 dX9_plus_32 rfl ?_
      refine g_iadd dX9_plus_34 ?_
      refine g_istore (ls2 := [(7, .int (gI (((j) * (41)) + (i)))), (6, .ref (qa)), (0, .ref (B)), (1, .int (gI (a))), (2, .long (gJ (e))), (4, .int (gI (i))), (5, .int (gI (j)))]) dX9_plus_35 (by decide) rfl ?_
      refine g_aload_n 2 dX9_plus_37 rfl ?_
      refine g_getf 6 dX9_plus_38 kX9 (by decide) fX9_50 hob rfl ?_
      refine g_aload 1 dX9_plus_41 rfl ?_
      refine g_callV (nc2 := 0) (ns2 := 0) (ci := 4) (As := [.ref (qa)]) (st := []) rfl dX9_plus_43 okX4_copy lX9_127 itX4_copy seX4_copy rfl (Classical.choose_spec (PA.o h27)) (by decide) (by decide) rfl (Nat.le_of_ble_eq_true rfl) (sQ_copy N _ (B + 27) (qa) p hp hp2 (F) h27 pp_a (show AP (B + 27) (qa) by unfold AP; omega)) (by omega) (by omega) (fun v6 hc6 q6 => ?_)
      obtain ⟨rfl, frc7, rn7_0⟩ := q6
      have fk8_0 : hc6.2 (B) = some (cO B (fa) (sy)) := Fr.at0 frc7 (Ni.c ⟨(show NE (B) (B + 27) by unfold NE; omega), (show NE (B) (B + 28) by unfold NE; omega)⟩ (Ni.n _)) hob
      have fk8_1 : hc6.2 (B + 4) = some (oB 8 [.ref (B + 1), .ref (B + 5)]) := Fr.at0 frc7 (Ni.c ⟨(show NE (B + 4) (B + 27) by unfold NE; omega), (show NE (B + 4) (B + 28) by unfold NE; omega)⟩ (Ni.n _)) hw4
      have fk8_2 : hc6.2 (B + 7) = some (oB 2 [.ref (B + 1), .ref (B + 8), .ref (B + 10), .ref (B + 12), .ref (B + 14), .ref (B + 16), .ref (B + 18), .ref (B + 20), .ref (B + 22)]) := Fr.at0 frc7 (Ni.c ⟨(show NE (B + 7) (B + 27) by unfold NE; omega), (show NE (B + 7) (B + 28) by unfold NE; omega)⟩ (Ni.n _)) hw.1
      have fk8_3 : hc6.2 (B + 1) = some (oB 1 [.int (gI ((p : Int)))]) := Fr.at0 frc7 (Ni.c ⟨(show NE (B + 1) (B + 27) by unfold NE; omega), (show NE (B + 1) (B + 28) by unfold NE; omega)⟩ (Ni.n _)) hw.2.1
      have rk8_0 : PW p B hc6 := (hw).fr2 frc7 (ok_c (by omega) (fun _ h => absurd h (List.not_mem_nil)))
      have rk8_6 : CPt p B hc6 (c) X V := (hpt).fr frc7 (Ni.c ⟨(show NE (B + 24) (B + 27) by unfold NE; omega), (show NE (B + 24) (B + 28) by unfold NE; omega)⟩ (Ni.n _)) (Ni.c ⟨(show NE (B + 25) (B + 27) by unfold NE; omega), (show NE (B + 25) (B + 28) by unfold NE; omega)⟩ (Ni.n _)) (Ni.c ⟨(show NE (B + 26) (B + 27) by unfold NE; omega), (show NE (B + 26) (B + 28) by unfold NE; omega)⟩ (Ni.n _))
      have rk8_7 : CP hp B hc6 (T) := (hT).fr frc7 (Ni.c ⟨(show NE (B + 2) (B + 27) by unfold NE; omega), (show NE (B + 2) (B + 28) by unfold NE; omega)⟩ (Ni.n _)) (Ni.c ⟨(show NE (B + 3) (B + 27) by unfold NE; omega), (show NE (B + 3) (B + 28) by unfold NE; omega)⟩ (Ni.n _)) (lo_c (by omega) (fun _ h => absurd h (List.not_mem_nil)))
      have rk5008_0 : PA hc6 (B + 5) := (h5).fr frc7 (Ai.c (show AP (B + 5) (B + 27) by unfold AP; omega) (Ai.n _))
      have rk5008_2 : RA 84 hc6 (B + 29) := (h29).fr frc7 (Ai.c (show AP (B + 29) (B + 27) by unfold AP; omega) (Ai.n _))
      have rk5008_3 : RA 84 hc6 (B + 31) := (h31).fr frc7 (Ai.c (show AP (B + 31) (B + 27) by unfold AP; omega) (Ai.n _))
      have rk5008_4 : RA 84 hc6 (B + 33) := (h33).fr frc7 (Ai.c (show AP (B + 33) (B + 27) by unfold AP; omega) (Ai.n _))
      have rk5008_5 : PP hp hc6 (qa) (F) := (pp_a).fr frc7 (Ai.c (show AP (qa) (B + 27) by unfold AP; omega) (Ai.n _))
      have fr8 : Fr [B + 27] h hc6 := ((Fr.rf [B + 27] h)).tr ((frc7).mo (sub_c (List.Mem.head _) sub_n))
      refine Go.nf (h' := hc6) (st' := []) rfl rfl (Nat.le_refl _) (Nat.le_refl _) ?_
      obtain ⟨gz, ⟨z1, z2, z3⟩, zN, zB⟩ := rn7_0
      refine g_aload_n 2 dX9_plus_46 rfl ?_
      refine g_getf 6 dX9_plus_47 kX9 (by decide) fX9_50 fk8_0 rfl ?_
      refine g_getf 0 dX9_plus_50 kX4 (by decide) fX9_92 z1 rfl ?_
      refine g_iload 0 dX9_plus_53 rfl ?_
      refine g_aload_n 2 dX9_plus_55 rfl ?_
      refine g_getf 0 dX9_plus_56 kX9 (by decide) fX9_10 fk8_0 rfl ?_
      refine g_aload_n 2 dX9_plus_59 rfl ?_
      refine g_getf 6 dX9_plus_60 kX9 (by decide) fX9_50 fk8_0 rfl ?_
      refine g_getf 0 dX9_plus_63 kX4 (by decide) fX9_92 z1 rfl ?_
      refine g_iload 0 dX9_plus_66 rfl ?_
      have hgz := zN.bd (h := hp) hp (k := j * 41 + i) (by omega) (by omega)
      have hmc := em_in hp e
      refine g_laload dX9_plus_68 z2 (by omega) (by omega) (by omega) ?_
      refine g_aload_n 2 dX9_plus_69 rfl ?_
      refine g_getf 0 dX9_plus_70 kX9 (by decide) fX9_10 fk8_0 rfl ?_
      refine g_lload_n 4 dX9_plus_73 rfl ?_
      refine g_callV (nc2 := 0) (ns2 := 0) (ci := 1) (As := [.long (gJ (e))]) (st := [.long (gJ ((gz) (((j) * (41)) + (i)))), .ref (B + 1), .int (gI (((j) * (41)) + (i))), .ref (B + 28)]) rfl dX9_plus_74 okX1_mod lX9_96 itX1_mod seX1_mod rfl fk8_3 (by decide) (by decide) rfl (Nat.le_of_ble_eq_true rfl) (sX1_mod N _ (B + 1) (p : Int) (e) (by first | assumption | (unfold gX; omega)) (by omega) (by omega) fk8_3) (by omega) (by omega) (fun v9 hc9 q9 => ?_)
      obtain ⟨hq10, rfl⟩ := q9
      rw [gMod_em (show (0 : Int) < p by omega)]
      refine Go.nf (h' := hc6) (st' := [.long (gJ ((e) % (p : Int))), .long (gJ ((gz) (((j) * (41)) + (i)))), .ref (B + 1), .int (gI (((j) * (41)) + (i))), .ref (B + 28)]) hq10 rfl (Nat.le_refl _) (Nat.le_refl _) ?_
      refine g_ladd dX9_plus_77 ?_
      refine g_callV (nc2 := 0) (ns2 := 0) (ci := 1) (As := [.long (gJ (((gz) (((j) * (41)) + (i))) + ((e) % (p : Int))))]) (st := [.int (gI (((j) * (41)) + (i))), .ref (B + 28)]) rfl dX9_plus_78 okX1_mod lX9_96 itX1_mod seX1_mod rfl fk8_3 (by decide) (by decide) rfl (Nat.le_of_ble_eq_true rfl) (sX1_mod N _ (B + 1) (p : Int) (((gz) (((j) * (41)) + (i))) + ((e) % (p : Int))) (by first | assumption | (unfold gX; omega)) (by omega) (by omega) fk8_3) (by omega) (by omega) (fun v11 hc11 q11 => ?_)
      obtain ⟨hq12, rfl⟩ := q11
      rw [gMod_em (show (0 : Int) < p by omega)]
      refine Go.nf (h' := hc6) (st' := [.long (gJ ((((gz) (((j) * (41)) + (i))) + ((e) % (p : Int))) % (p : Int))), .int (gI (((j) * (41)) + (i))), .ref (B + 28)]) hq12 rfl (Nat.le_refl _) (Nat.le_refl _) ?_
      refine g_lastore dX9_plus_81 z2 (by omega) (by omega) (by omega) ?_
      obtain ⟨hh13, eh13⟩ : ∃ z : GH, z = hset hc6 (B + 28) (aJ 287 (gup (gz) (((j) * (41)) + (i)) ((((gz) (((j) * (41)) + (i))) + ((e) % (p : Int))) % (p : Int)))) := ⟨_, rfl⟩
      refine Go.hp eh13.symm ?_
      have fh13_0 : hh13.2 (B) = some (cO B (fa) (sy)) := hs_n eh13 (show NE (B) (B + 28) by unfold NE; omega) fk8_0
      have fh13_1 : hh13.2 (B + 4) = some (oB 8 [.ref (B + 1), .ref (B + 5)]) := hs_n eh13 (show NE (B + 4) (B + 28) by unfold NE; omega) fk8_1
      have fh13_2 : hh13.2 (B + 7) = some (oB 2 [.ref (B + 1), .ref (B + 8), .ref (B + 10), .ref (B + 12), .ref (B + 14), .ref (B + 16), .ref (B + 18), .ref (B + 20), .ref (B + 22)]) := hs_n eh13 (show NE (B + 7) (B + 28) by unfold NE; omega) fk8_2
      have fh13_3 : hh13.2 (B + 1) = some (oB 1 [.int (gI ((p : Int)))]) := hs_n eh13 (show NE (B + 1) (B + 28) by unfold NE; omega) fk8_3
      have fh13_4 : hh13.2 (B + 27) = some (oB 4 [.ref (B + 28), .int (gI (dX hp (F))), .int (gI (dY hp (F)))]) := hs_n eh13 (show NE (B + 27) (B + 28) by unfold NE; omega) z1
      have fh13_5 : hh13.2 (B + 28) = some (aJ 287 (gup (gz) (((j) * (41)) + (i)) ((((gz) (((j) * (41)) + (i))) + ((e) % (p : Int))) % (p : Int)))) := hs_s eh13
      have fx13 : Fr [B + 27] hc6 hh13 := Fr.w1 (Fr.rf _ _) (List.Mem.head _) eh13
      have rk13_5 : PW p B hh13 := (rk8_0).fr2 fx13 (ok_c (by omega) (fun _ h => absurd h (List.not_mem_nil)))
      have rk13_6 : CPt p B hh13 (c) X V := (rk8_6).fr fx13 (Ni.c ⟨(show NE (B + 24) (B + 27) by unfold NE; omega), (show NE (B + 24) (B + 28) by unfold NE; omega)⟩ (Ni.n _)) (Ni.c ⟨(show NE (B + 25) (B + 27) by unfold NE; omega), (show NE (B + 25) (B + 28) by unfold NE; omega)⟩ (Ni.n _)) (Ni.c ⟨(show NE (B + 26) (B + 27) by unfold NE; omega), (show NE (B + 26) (B + 28) by unfold NE; omega)⟩ (Ni.n _))
      have rk13_7 : CP hp B hh13 (T) := (rk8_7).fr fx13 (Ni.c ⟨(show NE (B + 2) (B + 27) by unfold NE; omega), (show NE (B + 2) (B + 28) by unfold NE; omega)⟩ (Ni.n _)) (Ni.c ⟨(show NE (B + 3) (B + 27) by unfold NE; omega), (show NE (B + 3) (B + 28) by unfold NE; omega)⟩ (Ni.n _)) (lo_c (by omega) (fun _ h => absurd h (List.not_mem_nil)))
      have rk5013_0 : PA hh13 (B + 5) := (rk5008_0).fr fx13 (Ai.c (show AP (B + 5) (B + 27) by unfold AP; omega) (Ai.n _))
      have rk5013_1 : RA 84 hh13 (B + 29) := (rk5008_2).fr fx13 (Ai.c (show AP (B + 29) (B + 27) by unfold AP; omega) (Ai.n _))
      have rk5013_2 : RA 84 hh13 (B + 31) := (rk5008_3).fr fx13 (Ai.c (show AP (B + 31) (B + 27) by unfold AP; omega) (Ai.n _))
      have rk5013_3 : RA 84 hh13 (B + 33) := (rk5008_4).fr fx13 (Ai.c (show AP (B + 33) (B + 27) by unfold AP; omega) (Ai.n _))
      have rk5013_4 : PP hp hh13 (qa) (F) := (rk5008_5).fr fx13 (Ai.c (show AP (qa) (B + 27) by unfold AP; omega) (Ai.n _))
      have fr13 : Fr [B + 27] h hh13 := Fr.w1 fr8 (List.Mem.head _) eh13
      refine g_aload_n 2 dX9_plus_82 rfl ?_
      refine g_getf 6 dX9_plus_83 kX9 (by decide) fX9_50 fh13_0 rfl ?_
      refine g_callV (nc2 := 0) (ns2 := 0) (ci := 4) (As := []) (st := []) rfl dX9_plus_86 okX4_measure lX9_100 itX4_measure seX4_measure rfl fh13_4 (by decide) (by decide) rfl (Nat.le_of_ble_eq_true rfl) (sQ_measure N _ (B + 27) p hp hp2 _ _ (gup (gz) (((j) * (41)) + (i)) ((((gz) (((j) * (41)) + (i))) + ((e) % (p : Int))) % (p : Int))) (pls hp F e j.toNat i.toNat) fh13_4 fh13_5 (pls_NM hp zN zB (by omega) (by omega) (by omega) (by omega) (em_in hp _) (by rw [zi_mod, zi_add, zi_mod, ← zi_add])) (pls_PB hp e zB (by omega) (by omega))) (by omega) (by omega) (fun v14 hc14 q14 => ?_)
      obtain ⟨rfl, frc15, rn15⟩ := q14
      have fk16_0 : hc14.2 (B) = some (cO B (fa) (sy)) := Fr.at0 frc15 (Ni.c ⟨(show NE (B) (B + 27) by unfold NE; omega), (show NE (B) (B + 28) by unfold NE; omega)⟩ (Ni.n _)) fh13_0
      have fk16_1 : hc14.2 (B + 4) = some (oB 8 [.ref (B + 1), .ref (B + 5)]) := Fr.at0 frc15 (Ni.c ⟨(show NE (B + 4) (B + 27) by unfold NE; omega), (show NE (B + 4) (B + 28) by unfold NE; omega)⟩ (Ni.n _)) fh13_1
      have fk16_2 : hc14.2 (B + 7) = some (oB 2 [.ref (B + 1), .ref (B + 8), .ref (B + 10), .ref (B + 12), .ref (B + 14), .ref (B + 16), .ref (B + 18), .ref (B + 20), .ref (B + 22)]) := Fr.at0 frc15 (Ni.c ⟨(show NE (B + 7) (B + 27) by unfold NE; omega), (show NE (B + 7) (B + 28) by unfold NE; omega)⟩ (Ni.n _)) fh13_2
      have fk16_3 : hc14.2 (B + 1) = some (oB 1 [.int (gI ((p : Int)))]) := Fr.at0 frc15 (Ni.c ⟨(show NE (B + 1) (B + 27) by unfold NE; omega), (show NE (B + 1) (B + 28) by unfold NE; omega)⟩ (Ni.n _)) fh13_3
      have rk16_5 : PW p B hc14 := (rk13_5).fr2 frc15 (ok_c (by omega) (fun _ h => absurd h (List.not_mem_nil)))
      have rk16_6 : CPt p B hc14 (c) X V := (rk13_6).fr frc15 (Ni.c ⟨(show NE (B + 24) (B + 27) by unfold NE; omega), (show NE (B + 24) (B + 28) by unfold NE; omega)⟩ (Ni.n _)) (Ni.c ⟨(show NE (B + 25) (B + 27) by unfold NE; omega), (show NE (B + 25) (B + 28) by unfold NE; omega)⟩ (Ni.n _)) (Ni.c ⟨(show NE (B + 26) (B + 27) by unfold NE; omega), (show NE (B + 26) (B + 28) by unfold NE; omega)⟩ (Ni.n _))
      have rk16_7 : CP hp B hc14 (T) := (rk13_7).fr frc15 (Ni.c ⟨(show NE (B + 2) (B + 27) by unfold NE; omega), (show NE (B + 2) (B + 28) by unfold NE; omega)⟩ (Ni.n _)) (Ni.c ⟨(show NE (B + 3) (B + 27) by unfold NE; omega), (show NE (B + 3) (B + 28) by unfold NE; omega)⟩ (Ni.n _)) (lo_c (by omega) (fun _ h => absurd h (List.not_mem_nil)))
      have rk5016_0 : PA hc14 (B + 5) := (rk5013_0).fr frc15 (Ai.c (show AP (B + 5) (B + 27) by unfold AP; omega) (Ai.n _))
      have rk5016_1 : RA 84 hc14 (B + 29) := (rk5013_1).fr frc15 (Ai.c (show AP (B + 29) (B + 27) by unfold AP; omega) (Ai.n _))
      have rk5016_2 : RA 84 hc14 (B + 31) := (rk5013_2).fr frc15 (Ai.c (show AP (B + 31) (B + 27) by unfold AP; omega) (Ai.n _))
      have rk5016_3 : RA 84 hc14 (B + 33) := (rk5013_3).fr frc15 (Ai.c (show AP (B + 33) (B + 27) by unfold AP; omega) (Ai.n _))
      have rk5016_4 : PP hp hc14 (qa) (F) := (rk5013_4).fr frc15 (Ai.c (show AP (qa) (B + 27) by unfold AP; omega) (Ai.n _))
      have fr16 : Fr [B + 27] h hc14 := (fr13).tr ((frc15).mo (sub_c (List.Mem.head _) sub_n))
      refine Go.nf (h' := hc14) (st' := []) rfl rfl (Nat.le_refl _) (Nat.le_refl _) ?_
      refine g_aload_n 2 dX9_plus_89 rfl ?_
      refine g_aload_n 2 dX9_plus_90 rfl ?_
      refine g_getf 6 dX9_plus_91 kX9 (by decide) fX9_50 fk16_0 rfl ?_
      refine g_callV (nc2 := 2) (ns2 := 290) (ci := 9) (As := [.ref (B + 27)]) (st := []) rfl dX9_plus_94 okX9_keep lX9_103 itX9_keep seX9_keep rfl fk16_0 (by decide) (by decide) rfl (Nat.le_of_ble_eq_true rfl) (sC_keep N _ B p hp hp2 c X V fa sy T (pls hp F e j.toNat i.toNat) (⟨fk16_0, rk16_5, fk16_1, rk5016_0, (rn15).ra, rk5016_1, rk5016_2, rk5016_3, rk16_6, (by rw [(fr16).1]; exact hlo)⟩) rk16_7 rn15) (by omega) (by omega) (fun v17 hc17 q17 => ?_)
      obtain ⟨w18, hK18, rfl, cp18, fk18⟩ := q17
      have cs18 := CSt.fk ⟨fk16_0, rk16_5, fk16_1, rk5016_0, (rn15).ra, rk5016_1, rk5016_2, rk5016_3, rk16_6, (by rw [(fr16).1]; exact hlo)⟩ fk18
      have fz18 : FK (pK B) h hc17 := FK.tr (FK.fr fr16 (fun x e hx hk => Ni_hi hk.1 (hi_c (by omega) (fun _ h => absurd h (List.not_mem_nil))))) (fk18.mo (fun x e _ hk => kpK_pK hk))
      refine Go.nf (h' := hc17) (st' := [.int (gI (w18))]) rfl rfl (Nat.le_refl _) (Nat.le_refl _) ?_
      exact g_iret dX9_plus_97 rfl ⟨fz18, w18, _, (by rw [ap1_s g_a]; unfold rpls; rw [if_pos hij]; exact ⟨hK18, rfl⟩), rfl, cs18, cp18⟩
    · skip
      have hij : ¬ (0 ≤ i ∧ i ≤ 40 ∧ 0 ≤ j ∧ j ≤ 6) := fun z => by rw [if_pos z] at c5; omega
      clear c5
      refine g_bipush dX9_plus_24 (by decide) ?_
      exact g_iret dX9_plus_26 rfl ⟨(FK.fr (Fr.rf [B + 27] h) (fun x e hx hk => Ni_hi hk.1 (hi_c (by omega) (fun _ h => absurd h (List.not_mem_nil))))), (-4), T, (by rw [ap1_s g_a]; unfold rpls; rw [if_neg hij]; exact ⟨rfl, rfl⟩), rfl, ⟨hob, hw, hw4, h5, h27, h29, h31, h33, hpt, (by rw [((Fr.rf [B + 27] h)).1]; exact hlo)⟩, hT⟩
  · skip
    refine Go.nf (h' := h) (st' := [.null]) hq2 rfl (Nat.le_refl _) (Nat.le_refl _) ?_
    refine g_astoreN (ls2 := [(6, .null), (0, .ref (B)), (1, .int (gI (a))), (2, .long (gJ (e))), (4, .int (gI (i))), (5, .int (gI (j)))]) dX9_plus_5 (by decide) rfl ?_
    refine g_aloadN 0 dX9_plus_7 rfl ?_
    refine g_ifnnN (x := 0) (tgt := 14) dX9_plus_9 rfl ?_
    refine g_iconst dX9_plus_12 ?_
    exact g_iret dX9_plus_13 rfl ⟨(FK.fr (Fr.rf [B + 27] h) (fun x e hx hk => Ni_hi hk.1 (hi_c (by omega) (fun _ h => absurd h (List.not_mem_nil))))), (-1), T, (by rw [ap1_n g_a]; exact ⟨rfl, rfl⟩), rfl, ⟨hob, hw, hw4, h5, h27, h29, h31, h33, hpt, (by rw [((Fr.rf [B + 27] h)).1]; exact hlo)⟩, hT⟩
set_option maxHeartbeats 4000000 in
set_option maxRecDepth 100000 in
theorem sC_at (N : GN) (h : GH) (B p : Nat) (hp : prm p) (hp2 : p ≤ 65536) (c : Int) (X V : Int → Int) (fa sy : Value) (T : PT p) (a i j : Int) (gW_a : gW a) (gW_i : gW i) (gW_j : gW j) (hcs : CSt p B h c X V fa sy) (hT : CP hp B h T)  : Sp N yX9_at mX9_at 0 0 [.ref (B), .int (gI (a)), .int (gI (i)), .int (gI (j))] h (fun v h1 => h1 = h ∧ v = some (.int (gI (aat T a i j)))) := by
  refine Sp.of (by decide) rfl rfl (Nat.le_of_ble_eq_true rfl) ?_
  show Go N mX9_at _ 0 0 h 0 [(0, .ref (B)), (1, .int (gI (a))), (2, .int (gI (i))), (3, .int (gI (j)))] []
  have hp1 := hp.1
  have hcs0 := hcs
  obtain ⟨hob, hw, hw4, h5, h27, h29, h31, h33, hpt, hlo⟩ := hcs0
  refine g_aload_n 0 dX9_at_0 rfl ?_
  refine g_iload_n 1 dX9_at_1 rfl ?_
  refine g_callV (nc2 := 0) (ns2 := 0) (ci := 9) (As := [.int (gI (a))]) (st := []) rfl dX9_at_2 okX9_find lX9_107 itX9_find seX9_find rfl hob (by decide) (by decide) rfl (Nat.le_of_ble_eq_true rfl) (sC_find N _ B p hp fa sy T (a) gW_a hob hT) (by omega) (by omega) (fun v1 hc1 q1 => ?_)
  obtain ⟨hq2, hr2⟩ := q1
  rcases hr2 with ⟨F, qa, g_a, rfl, l_a, pp_a⟩ | ⟨g_a, rfl⟩
  · skip
    refine Go.nf (h' := h) (st' := [.ref (qa)]) hq2 rfl (Nat.le_refl _) (Nat.le_refl _) ?_
    refine g_astore (ls2 := [(4, .ref (qa)), (0, .ref (B)), (1, .int (gI (a))), (2, .int (gI (i))), (3, .int (gI (j)))]) dX9_at_5 (by decide) rfl ?_
    refine g_aload 0 dX9_at_7 rfl ?_
    refine g_ifnull (tgt := 20) dX9_at_9 rfl ?_
    refine g_iload_n 3 dX9_at_12 rfl ?_
    refine g_iload_n 4 dX9_at_13 rfl ?_
    refine g_callS (nc2 := 0) (ns2 := 0) (As := [.int (gI (i)), .int (gI (j))]) (st := []) rfl dX9_at_14 okX9_isPower lX9_123 stX9_isPower (by decide) (by decide) rfl (Nat.le_of_ble_eq_true rfl) (sC_isPower N _ (i) (j) (by assumption) (by assumption)) (by omega) (by omega) (fun v3 hc3 q3 => ?_)
    obtain ⟨hq4, rfl⟩ := q3
    refine Go.nf (h' := h) (st' := [.int (gI (if 0 ≤ i ∧ i ≤ 40 ∧ 0 ≤ j ∧ j ≤ 6 then 1 else 0))]) hq4 rfl (Nat.le_refl _) (Nat.le_refl _) ?_
    refine g_if_ne (tgt := 22) dX9_at_17 rfl (by first | assumption | (unfold gW; omega) | (unfold gW; split <;> omega)) (fun c5 => ?_) (fun c5 => ?_)
    · skip
      have hij : 0 ≤ i ∧ i ≤ 40 ∧ 0 ≤ j ∧ j ≤ 6 := by
                                                                      by_cases z : 0 ≤ i ∧ i ≤ 40 ∧ 0 ≤ j ∧ j ≤ 6
                                                                      · exact z
                                                                      · rw [if_neg z] at c5; omega
      clear c5
      refine g_aload 0 dX9_at_22 rfl ?_
      obtain ⟨ga, ⟨y1, y2, y3⟩, yN, yB⟩ := pp_a
      have hcy := yN j i (by omega) (by omega) (by omega) (by omega)
      refine g_getf 0 dX9_at_24 kX4 (by decide) fX9_92 y1 rfl ?_
      refine g_iload_n 4 dX9_at_27 rfl ?_
      refine g_bipush dX9_at_28 (by decide) ?_
      refine g_imul dX9_at_30 ?_
      refine g_iload_n 3 dX9_at_31 rfl ?_
      refine g_iadd dX9_at_32 ?_
      refine g_laload dX9_at_33 y2 (by omega) (by omega) (by omega) ?_
      rw [hcy]
      refine g_l2i dX9_at_34 ?_
      exact g_iret dX9_at_35 rfl ⟨Fr.e0 (Fr.rf [] h), by unfold aat; rw [g_a]; dsimp only; rw [if_pos hij]⟩
    · skip
      have hij : ¬ (0 ≤ i ∧ i ≤ 40 ∧ 0 ≤ j ∧ j ≤ 6) := fun z => by rw [if_pos z] at c5; omega
      clear c5
      refine g_iconst dX9_at_20 ?_
      exact g_iret dX9_at_21 rfl ⟨Fr.e0 (Fr.rf [] h), by unfold aat; rw [g_a]; dsimp only; rw [if_neg hij]⟩
  · skip
    refine Go.nf (h' := h) (st' := [.null]) hq2 rfl (Nat.le_refl _) (Nat.le_refl _) ?_
    refine g_astoreN (ls2 := [(4, .null), (0, .ref (B)), (1, .int (gI (a))), (2, .int (gI (i))), (3, .int (gI (j)))]) dX9_at_5 (by decide) rfl ?_
    refine g_aloadN 0 dX9_at_7 rfl ?_
    refine g_ifnullN (x := 0) (tgt := 20) dX9_at_9 rfl ?_
    refine g_iconst dX9_at_20 ?_
    exact g_iret dX9_at_21 rfl ⟨Fr.e0 (Fr.rf [] h), by unfold aat; rw [g_a]⟩
set_option maxHeartbeats 4000000 in
set_option maxRecDepth 100000 in
theorem sC_degree (N : GN) (h : GH) (B p : Nat) (hp : prm p) (hp2 : p ≤ 65536) (c : Int) (X V : Int → Int) (fa sy : Value) (T : PT p) (a w : Int) (gW_a : gW a) (gW_w : gW w) (hcs : CSt p B h c X V fa sy) (hT : CP hp B h T)  : Sp N yX9_degree mX9_degree 0 0 [.ref (B), .int (gI (a)), .int (gI (w))] h (fun v h1 => h1 = h ∧ v = some (.int (gI (adg hp T a w)))) := by
  refine Sp.of (by decide) rfl rfl (Nat.le_of_ble_eq_true rfl) ?_
  show Go N mX9_degree _ 0 0 h 0 [(0, .ref (B)), (1, .int (gI (a))), (2, .int (gI (w)))] []
  have hp1 := hp.1
  have hcs0 := hcs
  obtain ⟨hob, hw, hw4, h5, h27, h29, h31, h33, hpt, hlo⟩ := hcs0
  refine g_aload_n 0 dX9_degree_0 rfl ?_
  refine g_iload_n 1 dX9_degree_1 rfl ?_
  refine g_callV (nc2 := 0) (ns2 := 0) (ci := 9) (As := [.int (gI (a))]) (st := []) rfl dX9_degree_2 okX9_find lX9_107 itX9_find seX9_find rfl hob (by decide) (by decide) rfl (Nat.le_of_ble_eq_true rfl) (sC_find N _ B p hp fa sy T (a) gW_a hob hT) (by omega) (by omega) (fun v1 hc1 q1 => ?_)
  obtain ⟨hq2, hr2⟩ := q1
  rcases hr2 with ⟨F, qa, g_a, rfl, l_a, pp_a⟩ | ⟨g_a, rfl⟩
  · skip
    refine Go.nf (h' := h) (st' := [.ref (qa)]) hq2 rfl (Nat.le_refl _) (Nat.le_refl _) ?_
    refine g_astore_n (ls2 := [(3, .ref (qa)), (0, .ref (B)), (1, .int (gI (a))), (2, .int (gI (w)))]) dX9_degree_5 rfl (by decide) rfl ?_
    refine g_aload_n 0 dX9_degree_6 rfl ?_
    refine g_ifnull (tgt := 19) dX9_degree_7 rfl ?_
    refine g_iload_n 3 dX9_degree_10 rfl ?_
    refine g_if_eq (tgt := 22) dX9_degree_11 rfl (by first | assumption | (unfold gW; omega) | (unfold gW; split <;> omega)) (fun c3 => ?_) (fun c3 => ?_)
    · skip
      refine g_iload_n 3 dX9_degree_22 rfl ?_
      refine g_if_ne (tgt := 33) dX9_degree_23 rfl (by first | assumption | (unfold gW; omega) | (unfold gW; split <;> omega)) (fun c4 => ?_) (fun c4 => ?_)
      · skip
        refine g_aload_n 0 dX9_degree_33 rfl ?_
        refine g_getf 2 dX9_degree_34 kX4 (by decide) fX9_149 (pp_a).o rfl ?_
        exact g_iret dX9_degree_37 rfl ⟨Fr.e0 (Fr.rf [] h), by unfold adg; rw [g_a]; dsimp only; rw [if_neg (by omega), if_pos (by omega)]⟩
      · skip
        refine g_aload_n 0 dX9_degree_26 rfl ?_
        refine g_getf 1 dX9_degree_27 kX4 (by decide) fX9_135 (pp_a).o rfl ?_
        refine g_goto (tgt := 37) dX9_degree_30 rfl ?_
        exact g_iret dX9_degree_37 rfl ⟨Fr.e0 (Fr.rf [] h), by unfold adg; rw [g_a]; dsimp only; rw [if_pos (by omega)]⟩
    · skip
      refine g_iload_n 3 dX9_degree_14 rfl ?_
      refine g_iconst dX9_degree_15 ?_
      refine g_icmp_eq (tgt := 22) dX9_degree_16 rfl (by first | assumption | (unfold gW; omega) | (unfold gW; split <;> omega)) (by first | assumption | (unfold gW; omega) | (unfold gW; split <;> omega)) (fun c5 => ?_) (fun c5 => ?_)
      · skip
        refine g_iload_n 3 dX9_degree_22 rfl ?_
        refine g_if_ne (tgt := 33) dX9_degree_23 rfl (by first | assumption | (unfold gW; omega) | (unfold gW; split <;> omega)) (fun c6 => ?_) (fun c6 => ?_)
        · skip
          refine g_aload_n 0 dX9_degree_33 rfl ?_
          refine g_getf 2 dX9_degree_34 kX4 (by decide) fX9_149 (pp_a).o rfl ?_
          exact g_iret dX9_degree_37 rfl ⟨Fr.e0 (Fr.rf [] h), by unfold adg; rw [g_a]; dsimp only; rw [if_neg (by omega), if_pos (by omega)]⟩
        · skip
          refine g_aload_n 0 dX9_degree_26 rfl ?_
          refine g_getf 1 dX9_degree_27 kX4 (by decide) fX9_135 (pp_a).o rfl ?_
          refine g_goto (tgt := 37) dX9_degree_30 rfl ?_
          exact g_iret dX9_degree_37 rfl ⟨Fr.e0 (Fr.rf [] h), by unfold adg; rw [g_a]; dsimp only; rw [if_pos (by omega)]⟩
      · skip
        refine g_bipush dX9_degree_19 (by decide) ?_
        exact g_iret dX9_degree_21 rfl ⟨Fr.e0 (Fr.rf [] h), by unfold adg; rw [g_a]; dsimp only; rw [if_neg (by omega), if_neg (by omega)]⟩
  · skip
    refine Go.nf (h' := h) (st' := [.null]) hq2 rfl (Nat.le_refl _) (Nat.le_refl _) ?_
    refine g_astore_nN (ls2 := [(3, .null), (0, .ref (B)), (1, .int (gI (a))), (2, .int (gI (w)))]) dX9_degree_5 rfl (by decide) rfl ?_
    refine g_aload_nN 0 dX9_degree_6 rfl ?_
    refine g_ifnullN (x := 0) (tgt := 19) dX9_degree_7 rfl ?_
    refine g_bipush dX9_degree_19 (by decide) ?_
    exact g_iret dX9_degree_21 rfl ⟨Fr.e0 (Fr.rf [] h), by unfold adg; rw [g_a]⟩
set_option maxHeartbeats 4000000 in
set_option maxRecDepth 100000 in
theorem sC_value (N : GN) (h : GH) (B p : Nat) (hp : prm p) (hp2 : p ≤ 65536) (c : Int) (X V : Int → Int) (fa sy : Value) (T : PT p) (a x y : Int) (gW_a : gW a) (gX_x : gX x) (gX_y : gX y) (hcs : CSt p B h c X V fa sy) (hT : CP hp B h T)  : Sp N yX9_value mX9_value 0 0 [.ref (B), .int (gI (a)), .long (gJ (x)), .long (gJ (y))] h (fun v h1 => h1 = h ∧ v = some (.int (gI (avl hp T a x y)))) := by
  refine Sp.of (by decide) rfl rfl (Nat.le_of_ble_eq_true rfl) ?_
  show Go N mX9_value _ 0 0 h 0 [(0, .ref (B)), (1, .int (gI (a))), (2, .long (gJ (x))), (4, .long (gJ (y)))] []
  have hp1 := hp.1
  have hcs0 := hcs
  obtain ⟨hob, hw, hw4, h5, h27, h29, h31, h33, hpt, hlo⟩ := hcs0
  refine g_aload_n 0 dX9_value_0 rfl ?_
  refine g_iload_n 1 dX9_value_1 rfl ?_
  refine g_callV (nc2 := 0) (ns2 := 0) (ci := 9) (As := [.int (gI (a))]) (st := []) rfl dX9_value_2 okX9_find lX9_107 itX9_find seX9_find rfl hob (by decide) (by decide) rfl (Nat.le_of_ble_eq_true rfl) (sC_find N _ B p hp fa sy T (a) gW_a hob hT) (by omega) (by omega) (fun v1 hc1 q1 => ?_)
  obtain ⟨hq2, hr2⟩ := q1
  rcases hr2 with ⟨F, qa, g_a, rfl, l_a, pp_a⟩ | ⟨g_a, rfl⟩
  · skip
    refine Go.nf (h' := h) (st' := [.ref (qa)]) hq2 rfl (Nat.le_refl _) (Nat.le_refl _) ?_
    refine g_astore (ls2 := [(6, .ref (qa)), (0, .ref (B)), (1, .int (gI (a))), (2, .long (gJ (x))), (4, .long (gJ (y)))]) dX9_value_5 (by decide) rfl ?_
    refine g_aload 0 dX9_value_7 rfl ?_
    refine g_ifnn (tgt := 14) dX9_value_9 rfl ?_
    refine g_aload_n 1 dX9_value_14 rfl ?_
    refine g_getf 3 dX9_value_15 kX9 (by decide) fX9_31 hob rfl ?_
    refine g_aload 0 dX9_value_18 rfl ?_
    refine g_aload_n 1 dX9_value_20 rfl ?_
    refine g_getf 0 dX9_value_21 kX9 (by decide) fX9_10 hob rfl ?_
    refine g_lload_n 3 dX9_value_24 rfl ?_
    refine g_callV (nc2 := 0) (ns2 := 0) (ci := 1) (As := [.long (gJ (x))]) (st := [.ref (qa), .ref (B + 4)]) rfl dX9_value_25 okX1_mod lX9_96 itX1_mod seX1_mod rfl hw.2.1 (by decide) (by decide) rfl (Nat.le_of_ble_eq_true rfl) (sX1_mod N _ (B + 1) (p : Int) (x) (by first | assumption | (unfold gX; omega)) (by omega) (by omega) hw.2.1) (by omega) (by omega) (fun v3 hc3 q3 => ?_)
    obtain ⟨hq4, rfl⟩ := q3
    rw [gMod_em (show (0 : Int) < p by omega)]
    refine Go.nf (h' := h) (st' := [.long (gJ ((x) % (p : Int))), .ref (qa), .ref (B + 4)]) hq4 rfl (Nat.le_refl _) (Nat.le_refl _) ?_
    refine g_aload_n 1 dX9_value_28 rfl ?_
    refine g_getf 0 dX9_value_29 kX9 (by decide) fX9_10 hob rfl ?_
    refine g_lload 4 dX9_value_32 rfl ?_
    refine g_callV (nc2 := 0) (ns2 := 0) (ci := 1) (As := [.long (gJ (y))]) (st := [.long (gJ ((x) % (p : Int))), .ref (qa), .ref (B + 4)]) rfl dX9_value_34 okX1_mod lX9_96 itX1_mod seX1_mod rfl hw.2.1 (by decide) (by decide) rfl (Nat.le_of_ble_eq_true rfl) (sX1_mod N _ (B + 1) (p : Int) (y) (by first | assumption | (unfold gX; omega)) (by omega) (by omega) hw.2.1) (by omega) (by omega) (fun v5 hc5 q5 => ?_)
    obtain ⟨hq6, rfl⟩ := q5
    rw [gMod_em (show (0 : Int) < p by omega)]
    refine Go.nf (h' := h) (st' := [.long (gJ ((y) % (p : Int))), .long (gJ ((x) % (p : Int))), .ref (qa), .ref (B + 4)]) hq6 rfl (Nat.le_refl _) (Nat.le_refl _) ?_
    refine g_callV (nc2 := 0) (ns2 := 0) (ci := 8) (As := [.ref (qa), .long (gJ ((x) % (p : Int))), .long (gJ ((y) % (p : Int)))]) (st := []) rfl dX9_value_37 okX8_valueAt lX9_152 itX8_valueAt seX8_valueAt rfl hw4 (by decide) (by decide) rfl (Nat.le_of_ble_eq_true rfl) (sW_valueAt N _ B (qa) p hp hp2 F ((x) % (p : Int)) ((y) % (p : Int)) (em_in hp _).1 (em_in hp _).2 (em_in hp _).1 (em_in hp _).2 hw4 hw.2.1 pp_a) (by omega) (by omega) (fun v7 hc7 q7 => ?_)
    obtain ⟨hq8, rfl⟩ := q7
    refine Go.nf (h' := h) (st' := [.long (gJ (fv (val hp F (zi hp ((x) % (p : Int))) (zi hp ((y) % (p : Int))))))]) hq8 rfl (Nat.le_refl _) (Nat.le_refl _) ?_
    refine g_l2i dX9_value_40 ?_
    exact g_iret dX9_value_41 rfl ⟨Fr.e0 (Fr.rf [] h), by unfold avl; rw [g_a]; dsimp only; rw [zi_mod, zi_mod]⟩
  · skip
    refine Go.nf (h' := h) (st' := [.null]) hq2 rfl (Nat.le_refl _) (Nat.le_refl _) ?_
    refine g_astoreN (ls2 := [(6, .null), (0, .ref (B)), (1, .int (gI (a))), (2, .long (gJ (x))), (4, .long (gJ (y)))]) dX9_value_5 (by decide) rfl ?_
    refine g_aloadN 0 dX9_value_7 rfl ?_
    refine g_ifnnN (x := 0) (tgt := 14) dX9_value_9 rfl ?_
    refine g_iconst dX9_value_12 ?_
    exact g_iret dX9_value_13 rfl ⟨Fr.e0 (Fr.rf [] h), by unfold avl; rw [g_a]⟩
set_option maxHeartbeats 4000000 in
set_option maxRecDepth 100000 in
theorem sC_same (N : GN) (h : GH) (B p : Nat) (hp : prm p) (hp2 : p ≤ 65536) (c : Int) (X V : Int → Int) (fa sy : Value) (T : PT p) (a b : Int) (gW_a : gW a) (gW_b : gW b) (hcs : CSt p B h c X V fa sy) (hT : CP hp B h T)  : Sp N yX9_same mX9_same 0 0 [.ref (B), .int (gI (a)), .int (gI (b))] h (fun v h1 => h1 = h ∧ v = some (.int (gI (asm T a b)))) := by
  refine Sp.of (by decide) rfl rfl (Nat.le_of_ble_eq_true rfl) ?_
  show Go N mX9_same _ 0 0 h 0 [(0, .ref (B)), (1, .int (gI (a))), (2, .int (gI (b)))] []
  have hp1 := hp.1
  have hcs0 := hcs
  obtain ⟨hob, hw, hw4, h5, h27, h29, h31, h33, hpt, hlo⟩ := hcs0
  refine g_aload_n 0 dX9_same_0 rfl ?_
  refine g_iload_n 1 dX9_same_1 rfl ?_
  refine g_callV (nc2 := 0) (ns2 := 0) (ci := 9) (As := [.int (gI (a))]) (st := []) rfl dX9_same_2 okX9_find lX9_107 itX9_find seX9_find rfl hob (by decide) (by decide) rfl (Nat.le_of_ble_eq_true rfl) (sC_find N _ B p hp fa sy T (a) gW_a hob hT) (by omega) (by omega) (fun v1 hc1 q1 => ?_)
  obtain ⟨hq2, hr2⟩ := q1
  rcases hr2 with ⟨F, qa, g_a, rfl, l_a, pp_a⟩ | ⟨g_a, rfl⟩
  · skip
    refine Go.nf (h' := h) (st' := [.ref (qa)]) hq2 rfl (Nat.le_refl _) (Nat.le_refl _) ?_
    refine g_astore_n (ls2 := [(3, .ref (qa)), (0, .ref (B)), (1, .int (gI (a))), (2, .int (gI (b)))]) dX9_same_5 rfl (by decide) rfl ?_
    refine g_aload_n 1 dX9_same_6 rfl ?_
    refine g_iload_n 3 dX9_same_7 rfl ?_
    refine g_callV (nc2 := 0) (ns2 := 0) (ci := 9) (As := [.int (gI (b))]) (st := []) rfl dX9_same_8 okX9_find lX9_107 itX9_find seX9_find rfl hob (by decide) (by decide) rfl (Nat.le_of_ble_eq_true rfl) (sC_find N _ B p hp fa sy T (b) gW_b hob hT) (by omega) (by omega) (fun v3 hc3 q3 => ?_)
    obtain ⟨hq4, hr4⟩ := q3
    rcases hr4 with ⟨G, qb, g_b, rfl, l_b, pp_b⟩ | ⟨g_b, rfl⟩
    · skip
      refine Go.nf (h' := h) (st' := [.ref (qb)]) hq4 rfl (Nat.le_refl _) (Nat.le_refl _) ?_
      refine g_astore (ls2 := [(4, .ref (qb)), (3, .ref (qa)), (0, .ref (B)), (1, .int (gI (a))), (2, .int (gI (b)))]) dX9_same_11 (by decide) rfl ?_
      refine g_aload_n 1 dX9_same_13 rfl ?_
      refine g_ifnull (tgt := 35) dX9_same_14 rfl ?_
      refine g_aload 0 dX9_same_17 rfl ?_
      refine g_ifnull (tgt := 35) dX9_same_19 rfl ?_
      refine g_aload_n 1 dX9_same_22 rfl ?_
      refine g_aload 0 dX9_same_23 rfl ?_
      refine g_callV (nc2 := 0) (ns2 := 0) (ci := 4) (As := [.ref (qb)]) (st := []) rfl dX9_same_25 okX4_isLike lX9_156 itX4_isLike seX4_isLike rfl (pp_a).o (by decide) (by decide) rfl (Nat.le_of_ble_eq_true rfl) (sQ_isLike N _ (qa) (qb) p hp hp2 F G pp_a pp_b) (by omega) (by omega) (fun v5 hc5 q5 => ?_)
      obtain ⟨hq6, hr6⟩ := q5
      rcases hr6 with ⟨rfl, hFG⟩ | ⟨rfl, hFG⟩
      · skip
        refine Go.nf (h' := h) (st' := [.int (gI (1))]) hq6 rfl (Nat.le_refl _) (Nat.le_refl _) ?_
        refine g_if_eq (tgt := 35) dX9_same_28 rfl (by first | assumption | (unfold gW; omega) | (unfold gW; split <;> omega)) (fun c7 => absurd c7 (by omega)) (fun c7 => ?_)
        refine g_iconst dX9_same_31 ?_
        refine g_goto (tgt := 36) dX9_same_32 rfl ?_
        exact g_zret dX9_same_36 rfl (by omega) ⟨Fr.e0 (Fr.rf [] h), by rw [(asm_s g_a g_b).1 hFG]⟩
      · skip
        refine Go.nf (h' := h) (st' := [.int (gI (0))]) hq6 rfl (Nat.le_refl _) (Nat.le_refl _) ?_
        refine g_if_eq (tgt := 35) dX9_same_28 rfl (by first | assumption | (unfold gW; omega) | (unfold gW; split <;> omega)) (fun c8 => ?_) (fun c8 => absurd c8 (by omega))
        refine g_iconst dX9_same_35 ?_
        exact g_zret dX9_same_36 rfl (by omega) ⟨Fr.e0 (Fr.rf [] h), by rw [(asm_s g_a g_b).2 hFG]⟩
    · skip
      refine Go.nf (h' := h) (st' := [.null]) hq4 rfl (Nat.le_refl _) (Nat.le_refl _) ?_
      refine g_astoreN (ls2 := [(4, .null), (3, .ref (qa)), (0, .ref (B)), (1, .int (gI (a))), (2, .int (gI (b)))]) dX9_same_11 (by decide) rfl ?_
      refine g_aload_n 1 dX9_same_13 rfl ?_
      refine g_ifnull (tgt := 35) dX9_same_14 rfl ?_
      refine g_aloadN 0 dX9_same_17 rfl ?_
      refine g_ifnullN (x := 0) (tgt := 35) dX9_same_19 rfl ?_
      refine g_iconst dX9_same_35 ?_
      exact g_zret dX9_same_36 rfl (by omega) ⟨Fr.e0 (Fr.rf [] h), by rw [asm_n (Or.inr g_b)]⟩
  · skip
    refine Go.nf (h' := h) (st' := [.null]) hq2 rfl (Nat.le_refl _) (Nat.le_refl _) ?_
    refine g_astore_nN (ls2 := [(3, .null), (0, .ref (B)), (1, .int (gI (a))), (2, .int (gI (b)))]) dX9_same_5 rfl (by decide) rfl ?_
    refine g_aload_n 1 dX9_same_6 rfl ?_
    refine g_iload_n 3 dX9_same_7 rfl ?_
    refine g_callV (nc2 := 0) (ns2 := 0) (ci := 9) (As := [.int (gI (b))]) (st := []) rfl dX9_same_8 okX9_find lX9_107 itX9_find seX9_find rfl hob (by decide) (by decide) rfl (Nat.le_of_ble_eq_true rfl) (sC_find N _ B p hp fa sy T (b) gW_b hob hT) (by omega) (by omega) (fun v9 hc9 q9 => ?_)
    obtain ⟨hq10, hr10⟩ := q9
    rcases hr10 with ⟨G, qb, g_b, rfl, l_b, pp_b⟩ | ⟨g_b, rfl⟩
    · skip
      refine Go.nf (h' := h) (st' := [.ref (qb)]) hq10 rfl (Nat.le_refl _) (Nat.le_refl _) ?_
      refine g_astore (ls2 := [(4, .ref (qb)), (3, .null), (0, .ref (B)), (1, .int (gI (a))), (2, .int (gI (b)))]) dX9_same_11 (by decide) rfl ?_
      refine g_aload_nN 1 dX9_same_13 rfl ?_
      refine g_ifnullN (x := 0) (tgt := 35) dX9_same_14 rfl ?_
      refine g_iconst dX9_same_35 ?_
      exact g_zret dX9_same_36 rfl (by omega) ⟨Fr.e0 (Fr.rf [] h), by rw [asm_n (Or.inl g_a)]⟩
    · skip
      refine Go.nf (h' := h) (st' := [.null]) hq10 rfl (Nat.le_refl _) (Nat.le_refl _) ?_
      refine g_astoreN (ls2 := [(4, .null), (3, .null), (0, .ref (B)), (1, .int (gI (a))), (2, .int (gI (b)))]) dX9_same_11 (by decide) rfl ?_
      refine g_aload_nN 1 dX9_same_13 rfl ?_
      refine g_ifnullN (x := 0) (tgt := 35) dX9_same_14 rfl ?_
      refine g_iconst dX9_same_35 ?_
      exact g_zret dX9_same_36 rfl (by omega) ⟨Fr.e0 (Fr.rf [] h), by rw [asm_n (Or.inl g_a)]⟩
theorem CSt.f3 {p B : Nat} {h h1 : GH} {c : Int} {X V : Int → Int} {fa sy : Value} (w : CSt p B h c X V fa sy) (f : Fr [B + 3] h h1) (h4 : h1.2 (B + 4) = some (oB 8 [.ref (B + 1), .ref (B + 5)])) : CSt p B h1 c X V fa sy := by
  obtain ⟨w1, w2, w3, w4, w5, w6, w7, w8, w9, w10⟩ := w
  have n : ∀ a : Nat, a ≠ B + 3 → a ≠ B + 4 → Ni a [B + 3] := fun a h1 h2 => Ni.c ⟨h1, h2⟩ (Ni.n _)
  have m : ∀ a : Nat, (a + 2 ≤ B + 3 ∨ B + 5 ≤ a) → Ai a [B + 3] := fun a h1 => Ai.c (by unfold AP; omega) (Ai.n _)
  exact ⟨f.at0 (n _ (by omega) (by omega)) w1, w2.fr2 f (ok_c (by omega) (fun _ h => absurd h (List.not_mem_nil))), h4, w4.fr f (m _ (by omega)), w5.fr f (m _ (by omega)), w6.fr f (m _ (by omega)), w7.fr f (m _ (by omega)), w8.fr f (m _ (by omega)), w9.fr f (n _ (by omega) (by omega)) (n _ (by omega) (by omega)) (n _ (by omega) (by omega)), by rw [f.1]; exact w10⟩
set_option maxHeartbeats 4000000 in
set_option maxRecDepth 100000 in
theorem sC_drop (N : GN) (h : GH) (B p : Nat) (hp : prm p) (hp2 : p ≤ 65536) (c : Int) (X V : Int → Int) (fa sy : Value) (T : PT p) (a : Int) (gW_a : gW a) (hcs : CSt p B h c X V fa sy) (hT : CP hp B h T)  : Sp N yX9_drop mX9_drop 0 0 [.ref (B), .int (gI (a))] h (fun v h1 => FK (pK B) h h1 ∧ CSt p B h1 c X V fa sy ∧ (((∃ F, gT T a = some F) ∧ v = some (.int (gI 1)) ∧ CP hp B h1 (dropT T a)) ∨ (gT T a = none ∧ v = some (.int (gI 0)) ∧ CP hp B h1 T))) := by
  refine Sp.of (by decide) rfl rfl (Nat.le_of_ble_eq_true rfl) ?_
  show Go N mX9_drop _ 0 0 h 0 [(0, .ref (B)), (1, .int (gI (a)))] []
  have hp1 := hp.1
  have hcs0 := hcs
  obtain ⟨hob, hw, hw4, h5, h27, h29, h31, h33, hpt, hlo⟩ := hcs0
  refine g_aload_n 0 dX9_drop_0 rfl ?_
  refine g_iload_n 1 dX9_drop_1 rfl ?_
  refine g_callV (nc2 := 0) (ns2 := 0) (ci := 9) (As := [.int (gI (a))]) (st := []) rfl dX9_drop_2 okX9_find lX9_107 itX9_find seX9_find rfl hob (by decide) (by decide) rfl (Nat.le_of_ble_eq_true rfl) (sC_find N _ B p hp fa sy T (a) gW_a hob hT) (by omega) (by omega) (fun v1 hc1 q1 => ?_)
  obtain ⟨hq2, hr2⟩ := q1
  rcases hr2 with ⟨F, qa, g_a, rfl, l_a, pp_a⟩ | ⟨g_a, rfl⟩
  · skip
    refine Go.nf (h' := h) (st' := [.ref (qa)]) hq2 rfl (Nat.le_refl _) (Nat.le_refl _) ?_
    refine g_ifnn (tgt := 10) dX9_drop_5 rfl ?_
    have hT9 := hT
    obtain ⟨gp, gt, u1, u2, u3, u4, u5⟩ := hT9
    have ha9 : 0 ≤ a ∧ a < 100 := by
                                                                      unfold gT at g_a
                                                                      split at g_a
                                                                      · assumption
                                                                      · exact absurd g_a (by simp)
    refine g_aload_n 0 dX9_drop_10 rfl ?_
    refine g_getf 2 dX9_drop_11 kX9 (by decide) fX9_22 hob rfl ?_
    refine g_iload_n 1 dX9_drop_14 rfl ?_
    refine g_iconst dX9_drop_15 ?_
    refine g_bastore dX9_drop_16 u2 (by omega) (by omega) (by omega) (by omega) ?_
    obtain ⟨hh3, eh3⟩ : ∃ z : GH, z = hset h (B + 3) (aZ 100 (gup (gt) (a) (0))) := ⟨_, rfl⟩
    refine Go.hp eh3.symm ?_
    have fh3_0 : hh3.2 (B) = some (cO B (fa) (sy)) := hs_n eh3 (show NE (B) (B + 3) by unfold NE; omega) hob
    have fh3_1 : hh3.2 (B + 4) = some (oB 8 [.ref (B + 1), .ref (B + 5)]) := hs_n eh3 (show NE (B + 4) (B + 3) by unfold NE; omega) hw4
    have fh3_2 : hh3.2 (B + 7) = some (oB 2 [.ref (B + 1), .ref (B + 8), .ref (B + 10), .ref (B + 12), .ref (B + 14), .ref (B + 16), .ref (B + 18), .ref (B + 20), .ref (B + 22)]) := hs_n eh3 (show NE (B + 7) (B + 3) by unfold NE; omega) hw.1
    have fh3_3 : hh3.2 (B + 1) = some (oB 1 [.int (gI ((p : Int)))]) := hs_n eh3 (show NE (B + 1) (B + 3) by unfold NE; omega) hw.2.1
    have fh3_4 : hh3.2 (B + 2) = some (aR "PolyWork$Poly" 100 (gp)) := hs_n eh3 (show NE (B + 2) (B + 3) by unfold NE; omega) u1
    have fh3_5 : hh3.2 (B + 3) = some (aZ 100 (gup (gt) (a) (0))) := hs_s eh3
    have fr3 : Fr [B + 3] h hh3 := Fr.w0 (Fr.rf [B + 3] h) (List.Mem.head _) eh3
    refine g_iconst dX9_drop_17 ?_
    exact g_zret dX9_drop_18 rfl (by omega) ⟨(FK.fr fr3 (fun x e hx hk => Ni_hi hk.1 (hi_c (by omega) (fun _ h => absurd h (List.not_mem_nil))))), CSt.f3 hcs fr3 fh3_1, Or.inl ⟨⟨F, g_a⟩, rfl, gp, _, fh3_4, fh3_5, fun k k0 k1 => by
                                                                      by_cases z : k = a
                                                                      · refine Or.inl ⟨if_pos (by omega), by rw [z, gup_s]⟩
                                                                      · rw [gup_n _ _ z, show dropT T a k.toNat = T k.toNat from if_neg (by omega)]
                                                                        rcases u3 k k0 k1 with y | ⟨G, q, y1, y2, y3, y4⟩
                                                                        · exact Or.inl y
                                                                        · exact Or.inr ⟨G, q, y1, y2, y3, y4.fr fr3 (Ai_lo (u4 k q y3).1 (lo_c (by omega) (fun _ h => absurd h (List.not_mem_nil))))⟩, fun k q hq => ⟨(u4 k q hq).1, (u4 k q hq).2.fr fr3 (Ai_lo (u4 k q hq).1 (lo_c (by omega) (fun _ h => absurd h (List.not_mem_nil))))⟩, u5⟩⟩
  · skip
    refine Go.nf (h' := h) (st' := [.null]) hq2 rfl (Nat.le_refl _) (Nat.le_refl _) ?_
    refine g_ifnnN (x := 0) (tgt := 10) dX9_drop_5 rfl ?_
    refine g_iconst dX9_drop_8 ?_
    exact g_zret dX9_drop_9 rfl (by omega) ⟨(FK.fr (Fr.rf [B + 3] h) (fun x e hx hk => Ni_hi hk.1 (hi_c (by omega) (fun _ h => absurd h (List.not_mem_nil))))), ⟨hob, hw, hw4, h5, h27, h29, h31, h33, hpt, (by rw [((Fr.rf [B + 3] h)).1]; exact hlo)⟩, Or.inr ⟨g_a, rfl, hT⟩⟩
set_option maxHeartbeats 4000000 in
set_option maxRecDepth 100000 in
theorem sC_point (N : GN) (h : GH) (B p : Nat) (hp : prm p) (hp2 : p ≤ 65536) (c : Int) (X V : Int → Int) (fa sy : Value) (T : PT p) (x y : Int) (gX_x : gX x) (gX_y : gX y) (hcs : CSt p B h c X V fa sy) (hT : CP hp B h T)  : Sp N yX9_point mX9_point 0 0 [.ref (B), .long (gJ (x)), .long (gJ (y))] h (fun v h1 => FK (pK B) h h1 ∧ CP hp B h1 T ∧ (((c = 41 ∨ ∃ k, 0 ≤ k ∧ k < c ∧ X k = x % p) ∧ v = some (.int (gI (-1))) ∧ CSt p B h1 c X V fa sy) ∨ (c < 41 ∧ (∀ k, 0 ≤ k → k < c → X k ≠ x % p) ∧ v = some (.int (gI (c + 1))) ∧ CSt p B h1 (c + 1) (gup X c (x % p)) (gup V c (y % p)) fa sy))) := by
  refine Sp.of (by decide) rfl rfl (Nat.le_of_ble_eq_true rfl) ?_
  show Go N mX9_point _ 0 0 h 0 [(0, .ref (B)), (1, .long (gJ (x))), (3, .long (gJ (y)))] []
  have hp1 := hp.1
  have hcs0 := hcs
  obtain ⟨hob, hw, hw4, h5, h27, h29, h31, h33, hpt, hlo⟩ := hcs0
  obtain ⟨gx, gv, hp24, hp25, hp26, hc9, hxv⟩ := hpt
  refine g_aload_n 0 dX9_point_0 rfl ?_
  refine g_getf 5 dX9_point_1 kX9 (by decide) fX9_45 hob rfl ?_
  refine g_aload_n 0 dX9_point_4 rfl ?_
  refine g_getf 0 dX9_point_5 kX9 (by decide) fX9_10 hob rfl ?_
  refine g_lload_n 1 dX9_point_8 rfl ?_
  refine g_callV (nc2 := 0) (ns2 := 0) (ci := 1) (As := [.long (gJ (x))]) (st := [.ref (B + 24)]) rfl dX9_point_9 okX1_mod lX9_96 itX1_mod seX1_mod rfl hw.2.1 (by decide) (by decide) rfl (Nat.le_of_ble_eq_true rfl) (sX1_mod N _ (B + 1) (p : Int) (x) (by first | assumption | (unfold gX; omega)) (by omega) (by omega) hw.2.1) (by omega) (by omega) (fun v1 hc1 q1 => ?_)
  obtain ⟨hq2, rfl⟩ := q1
  rw [gMod_em (show (0 : Int) < p by omega)]
  refine Go.nf (h' := h) (st' := [.long (gJ ((x) % (p : Int))), .ref (B + 24)]) hq2 rfl (Nat.le_refl _) (Nat.le_refl _) ?_
  refine g_aload_n 0 dX9_point_12 rfl ?_
  refine g_getf 0 dX9_point_13 kX9 (by decide) fX9_10 hob rfl ?_
  refine g_lload_n 2 dX9_point_16 rfl ?_
  refine g_callV (nc2 := 0) (ns2 := 0) (ci := 1) (As := [.long (gJ (y))]) (st := [.long (gJ ((x) % (p : Int))), .ref (B + 24)]) rfl dX9_point_17 okX1_mod lX9_96 itX1_mod seX1_mod rfl hw.2.1 (by decide) (by decide) rfl (Nat.le_of_ble_eq_true rfl) (sX1_mod N _ (B + 1) (p : Int) (y) (by first | assumption | (unfold gX; omega)) (by omega) (by omega) hw.2.1) (by omega) (by omega) (fun v3 hc3 q3 => ?_)
  obtain ⟨hq4, rfl⟩ := q3
  rw [gMod_em (show (0 : Int) < p by omega)]
  refine Go.nf (h' := h) (st' := [.long (gJ ((y) % (p : Int))), .long (gJ ((x) % (p : Int))), .ref (B + 24)]) hq4 rfl (Nat.le_refl _) (Nat.le_refl _) ?_
  refine g_callV (nc2 := 0) (ns2 := 0) (ci := 3) (As := [.long (gJ ((x) % (p : Int))), .long (gJ ((y) % (p : Int)))]) (st := []) rfl dX9_point_20 okX3_put lX9_209 itX3_put seX3_put rfl hp24 (by decide) (by decide) rfl (Nat.le_of_ble_eq_true rfl) (sT_put N _ B p hp hp2 c ((x) % (p : Int)) ((y) % (p : Int)) gx gv (em_in hp _) hp24 hp25 hp26 hc9 (fun k k0 k1 => by rw [(hxv k k0 k1).1]; exact (hxv k k0 k1).2.2.1)) (by omega) (by omega) (fun v5 hc5 q5 => ?_)
  obtain ⟨frc, hd9⟩ := q5
  have fk7_0 : hc5.2 (B) = some (cO B (fa) (sy)) := Fr.at0 frc (Ni.c ⟨(show NE (B) (B + 24) by unfold NE; omega), (show NE (B) (B + 25) by unfold NE; omega)⟩ (Ni.c ⟨(show NE (B) (B + 25) by unfold NE; omega), (show NE (B) (B + 26) by unfold NE; omega)⟩ (Ni.n _))) hob
  have fk7_1 : hc5.2 (B + 4) = some (oB 8 [.ref (B + 1), .ref (B + 5)]) := Fr.at0 frc (Ni.c ⟨(show NE (B + 4) (B + 24) by unfold NE; omega), (show NE (B + 4) (B + 25) by unfold NE; omega)⟩ (Ni.c ⟨(show NE (B + 4) (B + 25) by unfold NE; omega), (show NE (B + 4) (B + 26) by unfold NE; omega)⟩ (Ni.n _))) hw4
  have fk7_2 : hc5.2 (B + 7) = some (oB 2 [.ref (B + 1), .ref (B + 8), .ref (B + 10), .ref (B + 12), .ref (B + 14), .ref (B + 16), .ref (B + 18), .ref (B + 20), .ref (B + 22)]) := Fr.at0 frc (Ni.c ⟨(show NE (B + 7) (B + 24) by unfold NE; omega), (show NE (B + 7) (B + 25) by unfold NE; omega)⟩ (Ni.c ⟨(show NE (B + 7) (B + 25) by unfold NE; omega), (show NE (B + 7) (B + 26) by unfold NE; omega)⟩ (Ni.n _))) hw.1
  have fk7_3 : hc5.2 (B + 1) = some (oB 1 [.int (gI ((p : Int)))]) := Fr.at0 frc (Ni.c ⟨(show NE (B + 1) (B + 24) by unfold NE; omega), (show NE (B + 1) (B + 25) by unfold NE; omega)⟩ (Ni.c ⟨(show NE (B + 1) (B + 25) by unfold NE; omega), (show NE (B + 1) (B + 26) by unfold NE; omega)⟩ (Ni.n _))) hw.2.1
  have rk7_0 : PW p B hc5 := (hw).fr2 frc (ok_c (by omega) (ok_c (by omega) (fun _ h => absurd h (List.not_mem_nil))))
  have rk7_6 : CP hp B hc5 (T) := (hT).fr frc (Ni.c ⟨(show NE (B + 2) (B + 24) by unfold NE; omega), (show NE (B + 2) (B + 25) by unfold NE; omega)⟩ (Ni.c ⟨(show NE (B + 2) (B + 25) by unfold NE; omega), (show NE (B + 2) (B + 26) by unfold NE; omega)⟩ (Ni.n _))) (Ni.c ⟨(show NE (B + 3) (B + 24) by unfold NE; omega), (show NE (B + 3) (B + 25) by unfold NE; omega)⟩ (Ni.c ⟨(show NE (B + 3) (B + 25) by unfold NE; omega), (show NE (B + 3) (B + 26) by unfold NE; omega)⟩ (Ni.n _))) (lo_c (by omega) (lo_c (by omega) (fun _ h => absurd h (List.not_mem_nil))))
  have rk5007_0 : PA hc5 (B + 5) := (h5).fr frc (Ai.c (show AP (B + 5) (B + 24) by unfold AP; omega) (Ai.c (show AP (B + 5) (B + 25) by unfold AP; omega) (Ai.n _)))
  have rk5007_1 : PA hc5 (B + 27) := (h27).fr frc (Ai.c (show AP (B + 27) (B + 24) by unfold AP; omega) (Ai.c (show AP (B + 27) (B + 25) by unfold AP; omega) (Ai.n _)))
  have rk5007_2 : RA 84 hc5 (B + 29) := (h29).fr frc (Ai.c (show AP (B + 29) (B + 24) by unfold AP; omega) (Ai.c (show AP (B + 29) (B + 25) by unfold AP; omega) (Ai.n _)))
  have rk5007_3 : RA 84 hc5 (B + 31) := (h31).fr frc (Ai.c (show AP (B + 31) (B + 24) by unfold AP; omega) (Ai.c (show AP (B + 31) (B + 25) by unfold AP; omega) (Ai.n _)))
  have rk5007_4 : RA 84 hc5 (B + 33) := (h33).fr frc (Ai.c (show AP (B + 33) (B + 24) by unfold AP; omega) (Ai.c (show AP (B + 33) (B + 25) by unfold AP; omega) (Ai.n _)))
  have fr7 : Fr [B + 24, B + 25] h hc5 := ((Fr.rf [B + 24, B + 25] h)).tr ((frc).mo (sub_c (List.Mem.head _) (sub_c (List.Mem.tail _ (List.Mem.head _)) sub_n)))
  rcases hd9 with ⟨rfl, y1, y3, y4, y5⟩ | ⟨rfl, y1, y2, y3, y4, y5⟩
  · skip
    refine Go.nf (h' := hc5) (st' := [.int (gI (0))]) rfl rfl (Nat.le_refl _) (Nat.le_refl _) ?_
    refine g_if_eq (tgt := 36) dX9_point_23 rfl (by first | assumption | (unfold gW; omega) | (unfold gW; split <;> omega)) (fun c8 => ?_) (fun c8 => absurd c8 (by omega))
    refine g_iconst dX9_point_36 ?_
    exact g_iret dX9_point_37 rfl ⟨(FK.fr fr7 (fun x e hx hk => Ni_hi hk.1 (hi_c (by omega) (hi_c (by omega) (fun _ h => absurd h (List.not_mem_nil)))))), rk7_6, Or.inl ⟨by
                                                                      rcases y1 with z | ⟨k, k0, k1, k2⟩
                                                                      · exact Or.inl (by omega)
                                                                      · exact Or.inr ⟨k, k0, k1, by rw [← (hxv k k0 k1).1]; exact k2⟩, rfl, ⟨fk7_0, rk7_0, fk7_1, rk5007_0, rk5007_1, rk5007_2, rk5007_3, rk5007_4, ⟨gx, gv, y3, y4, y5, hc9, hxv⟩, (by rw [(fr7).1]; exact hlo)⟩⟩⟩
  · skip
    refine Go.nf (h' := hc5) (st' := [.int (gI (1))]) rfl rfl (Nat.le_refl _) (Nat.le_refl _) ?_
    refine g_if_eq (tgt := 36) dX9_point_23 rfl (by first | assumption | (unfold gW; omega) | (unfold gW; split <;> omega)) (fun c9 => absurd c9 (by omega)) (fun c9 => ?_)
    refine g_aload_n 0 dX9_point_26 rfl ?_
    refine g_getf 5 dX9_point_27 kX9 (by decide) fX9_45 fk7_0 rfl ?_
    refine g_getf 3 dX9_point_30 kX3 (by decide) fX9_76 y3 rfl ?_
    refine g_goto (tgt := 37) dX9_point_33 rfl ?_
    exact g_iret dX9_point_37 rfl ⟨(FK.fr fr7 (fun x e hx hk => Ni_hi hk.1 (hi_c (by omega) (hi_c (by omega) (fun _ h => absurd h (List.not_mem_nil)))))), rk7_6, Or.inr ⟨y1, fun k k0 k1 => by rw [← (hxv k k0 k1).1]; exact y2 k k0 k1, rfl, ⟨fk7_0, rk7_0, fk7_1, rk5007_0, rk5007_1, rk5007_2, rk5007_3, rk5007_4, ⟨_, _, y3, y4, y5, by omega, fun k k0 k1 => by
                                                                      by_cases z : k = c
                                                                      · rw [z, gup_s, gup_s, gup_s, gup_s]; exact ⟨rfl, rfl, em_in hp _, em_in hp _⟩
                                                                      · rw [gup_n _ _ z, gup_n _ _ z, gup_n _ _ z, gup_n _ _ z]; exact hxv k k0 (by omega)⟩, (by rw [(fr7).1]; exact hlo)⟩⟩⟩
theorem nwO_cg {p : Nat} (h : prm p) {x y u v : Nat → Fp p} : ∀ n : Nat, (∀ i, i < n → x i = u i ∧ y i = v i) → nwO h x y n = nwO h u v n ∧ nwP h x n = nwP h u n
  | 0, _ => ⟨rfl, rfl⟩
  | n + 1, hh => by
    have ih := nwO_cg h n (fun i hi => hh i (by omega))
    have e := hh n (by omega)
    refine ⟨?_, ?_⟩
    · show (letI := pR h; nwO h x y n + cz h (nwC h (nwO h x y n) (nwP h x n) (x n) (y n)) * nwP h x n) = (letI := pR h; nwO h u v n + cz h (nwC h (nwO h u v n) (nwP h u n) (u n) (v n)) * nwP h u n)
      rw [ih.1, ih.2, e.1, e.2]
    · show pml h (nwP h x n) (lin h (x n)) = pml h (nwP h u n) (lin h (u n))
      rw [ih.2, e.1]
set_option maxHeartbeats 4000000 in
set_option maxRecDepth 100000 in
theorem sC_interpolate (N : GN) (h : GH) (B p : Nat) (hp : prm p) (hp2 : p ≤ 65536) (c : Int) (X V : Int → Int) (fa sy : Value) (T : PT p)  (hcs : CSt p B h c X V fa sy) (hT : CP hp B h T)  : Sp N yX9_interpolate mX9_interpolate 2 290 [.ref (B)] h (fun v h1 => FK (pK B) h h1 ∧ ∃ w T2, Ou T (kR hp (nwO hp (fun i => zi hp (X i)) (fun i => zi hp (V i)) c.toNat)) w T2 ∧ v = some (.int (gI w)) ∧ CSt p B h1 0 X V fa sy ∧ CP hp B h1 T2) := by
  refine Sp.of (by decide) rfl rfl (Nat.le_of_ble_eq_true rfl) ?_
  show Go N mX9_interpolate _ 2 290 h 0 [(0, .ref (B))] []
  have hp1 := hp.1
  have hcs0 := hcs
  obtain ⟨hob, hw, hw4, h5, h27, h29, h31, h33, hpt, hlo⟩ := hcs0
  obtain ⟨gx, gv, hp24, hp25, hp26, hc9, hxv⟩ := hpt
  refine g_aload_n 0 dX9_interpolate_0 rfl ?_
  refine g_getf 5 dX9_interpolate_1 kX9 (by decide) fX9_45 hob rfl ?_
  refine g_aload_n 0 dX9_interpolate_4 rfl ?_
  refine g_getf 9 dX9_interpolate_5 kX9 (by decide) fX9_66 hob rfl ?_
  refine g_aload_n 0 dX9_interpolate_8 rfl ?_
  refine g_getf 7 dX9_interpolate_9 kX9 (by decide) fX9_59 hob rfl ?_
  refine g_callV (nc2 := 0) (ns2 := 0) (ci := 3) (As := [.ref (B + 33), .ref (B + 29)]) (st := []) rfl dX9_interpolate_12 okX3_meet lX9_213 itX3_meet seX3_meet rfl hp24 (by decide) (by decide) rfl (Nat.le_of_ble_eq_true rfl) (sT_meet N _ B (B + 33) (B + 29) p hp hp2 c gx gv hp24 hw.2.1 hp25 hp26 hc9 (fun k k0 k1 => by rw [(hxv k k0 k1).1]; exact (hxv k k0 k1).2.2.1) (fun k k0 k1 => by rw [(hxv k k0 k1).2.1]; exact (hxv k k0 k1).2.2.2) h33 h29 (show AP (B + 33) (B + 29) by unfold AP; omega) (by omega) (by omega)) (by omega) (by omega) (fun v1 hc1 q1 => ?_)
  obtain ⟨rfl, frc2, rn2, rm2⟩ := q1
  have fk3_0 : hc1.2 (B) = some (cO B (fa) (sy)) := Fr.at0 frc2 (Ni.c ⟨(show NE (B) (B + 33) by unfold NE; omega), (show NE (B) (B + 34) by unfold NE; omega)⟩ (Ni.c ⟨(show NE (B) (B + 29) by unfold NE; omega), (show NE (B) (B + 30) by unfold NE; omega)⟩ (Ni.n _))) hob
  have fk3_1 : hc1.2 (B + 4) = some (oB 8 [.ref (B + 1), .ref (B + 5)]) := Fr.at0 frc2 (Ni.c ⟨(show NE (B + 4) (B + 33) by unfold NE; omega), (show NE (B + 4) (B + 34) by unfold NE; omega)⟩ (Ni.c ⟨(show NE (B + 4) (B + 29) by unfold NE; omega), (show NE (B + 4) (B + 30) by unfold NE; omega)⟩ (Ni.n _))) hw4
  have fk3_2 : hc1.2 (B + 7) = some (oB 2 [.ref (B + 1), .ref (B + 8), .ref (B + 10), .ref (B + 12), .ref (B + 14), .ref (B + 16), .ref (B + 18), .ref (B + 20), .ref (B + 22)]) := Fr.at0 frc2 (Ni.c ⟨(show NE (B + 7) (B + 33) by unfold NE; omega), (show NE (B + 7) (B + 34) by unfold NE; omega)⟩ (Ni.c ⟨(show NE (B + 7) (B + 29) by unfold NE; omega), (show NE (B + 7) (B + 30) by unfold NE; omega)⟩ (Ni.n _))) hw.1
  have fk3_3 : hc1.2 (B + 1) = some (oB 1 [.int (gI ((p : Int)))]) := Fr.at0 frc2 (Ni.c ⟨(show NE (B + 1) (B + 33) by unfold NE; omega), (show NE (B + 1) (B + 34) by unfold NE; omega)⟩ (Ni.c ⟨(show NE (B + 1) (B + 29) by unfold NE; omega), (show NE (B + 1) (B + 30) by unfold NE; omega)⟩ (Ni.n _))) hw.2.1
  have fk3_4 : hc1.2 (B + 24) = some (oB 3 [.ref (B + 1), .ref (B + 25), .ref (B + 26), .int (gI (c))]) := Fr.at0 frc2 (Ni.c ⟨(show NE (B + 24) (B + 33) by unfold NE; omega), (show NE (B + 24) (B + 34) by unfold NE; omega)⟩ (Ni.c ⟨(show NE (B + 24) (B + 29) by unfold NE; omega), (show NE (B + 24) (B + 30) by unfold NE; omega)⟩ (Ni.n _))) hp24
  have fk3_5 : hc1.2 (B + 25) = some (aJ 41 (gx)) := Fr.at0 frc2 (Ni.c ⟨(show NE (B + 25) (B + 33) by unfold NE; omega), (show NE (B + 25) (B + 34) by unfold NE; omega)⟩ (Ni.c ⟨(show NE (B + 25) (B + 29) by unfold NE; omega), (show NE (B + 25) (B + 30) by unfold NE; omega)⟩ (Ni.n _))) hp25
  have fk3_6 : hc1.2 (B + 26) = some (aJ 41 (gv)) := Fr.at0 frc2 (Ni.c ⟨(show NE (B + 26) (B + 33) by unfold NE; omega), (show NE (B + 26) (B + 34) by unfold NE; omega)⟩ (Ni.c ⟨(show NE (B + 26) (B + 29) by unfold NE; omega), (show NE (B + 26) (B + 30) by unfold NE; omega)⟩ (Ni.n _))) hp26
  have rk3_0 : PW p B hc1 := (hw).fr2 frc2 (ok_c (by omega) (ok_c (by omega) (fun _ h => absurd h (List.not_mem_nil))))
  have rk3_6 : CP hp B hc1 (T) := (hT).fr frc2 (Ni.c ⟨(show NE (B + 2) (B + 33) by unfold NE; omega), (show NE (B + 2) (B + 34) by unfold NE; omega)⟩ (Ni.c ⟨(show NE (B + 2) (B + 29) by unfold NE; omega), (show NE (B + 2) (B + 30) by unfold NE; omega)⟩ (Ni.n _))) (Ni.c ⟨(show NE (B + 3) (B + 33) by unfold NE; omega), (show NE (B + 3) (B + 34) by unfold NE; omega)⟩ (Ni.c ⟨(show NE (B + 3) (B + 29) by unfold NE; omega), (show NE (B + 3) (B + 30) by unfold NE; omega)⟩ (Ni.n _))) (lo_c (by omega) (lo_c (by omega) (fun _ h => absurd h (List.not_mem_nil))))
  have rk5003_0 : PA hc1 (B + 5) := (h5).fr frc2 (Ai.c (show AP (B + 5) (B + 33) by unfold AP; omega) (Ai.c (show AP (B + 5) (B + 29) by unfold AP; omega) (Ai.n _)))
  have rk5003_1 : PA hc1 (B + 27) := (h27).fr frc2 (Ai.c (show AP (B + 27) (B + 33) by unfold AP; omega) (Ai.c (show AP (B + 27) (B + 29) by unfold AP; omega) (Ai.n _)))
  have rk5003_3 : RA 84 hc1 (B + 31) := (h31).fr frc2 (Ai.c (show AP (B + 31) (B + 33) by unfold AP; omega) (Ai.c (show AP (B + 31) (B + 29) by unfold AP; omega) (Ai.n _)))
  have fr3 : Fr [B + 33, B + 29, B + 24, B + 27] h hc1 := ((Fr.rf [B + 33, B + 29, B + 24, B + 27] h)).tr ((frc2).mo (sub_c (List.Mem.head _) (sub_c (List.Mem.tail _ (List.Mem.head _)) sub_n)))
  have enw : nwO hp (fun i => zi hp (gx i)) (fun i => zi hp (gv i)) c.toNat = nwO hp (fun i => zi hp (X i)) (fun i => zi hp (V i)) c.toNat := (nwO_cg hp c.toNat (fun i hi => ⟨by rw [(hxv i (by omega) (by omega)).1], by rw [(hxv i (by omega) (by omega)).2.1]⟩)).1
  rw [enw] at rn2
  have hnd := nwO_dg hp (fun i => zi hp (X i)) (fun i => zi hp (V i)) c.toNat
  refine Go.nf (h' := hc1) (st' := []) rfl rfl (Nat.le_refl _) (Nat.le_refl _) ?_
  refine g_aload_n 0 dX9_interpolate_15 rfl ?_
  refine g_getf 5 dX9_interpolate_16 kX9 (by decide) fX9_45 fk3_0 rfl ?_
  refine g_iconst dX9_interpolate_19 ?_
  refine g_putf 3 dX9_interpolate_20 kX3 (by decide) fX9_76 rfl fk3_4 (Nat.le_of_ble_eq_true rfl) rfl rfl ?_
  obtain ⟨hh4, eh4⟩ : ∃ z : GH, z = hset hc1 (B + 24) (oB 3 [.ref (B + 1), .ref (B + 25), .ref (B + 26), .int (gI (0))]) := ⟨_, rfl⟩
  refine Go.hp eh4.symm ?_
  have fh4_0 : hh4.2 (B) = some (cO B (fa) (sy)) := hs_n eh4 (show NE (B) (B + 24) by unfold NE; omega) fk3_0
  have fh4_1 : hh4.2 (B + 4) = some (oB 8 [.ref (B + 1), .ref (B + 5)]) := hs_n eh4 (show NE (B + 4) (B + 24) by unfold NE; omega) fk3_1
  have fh4_2 : hh4.2 (B + 7) = some (oB 2 [.ref (B + 1), .ref (B + 8), .ref (B + 10), .ref (B + 12), .ref (B + 14), .ref (B + 16), .ref (B + 18), .ref (B + 20), .ref (B + 22)]) := hs_n eh4 (show NE (B + 7) (B + 24) by unfold NE; omega) fk3_2
  have fh4_3 : hh4.2 (B + 1) = some (oB 1 [.int (gI ((p : Int)))]) := hs_n eh4 (show NE (B + 1) (B + 24) by unfold NE; omega) fk3_3
  have fh4_4 : hh4.2 (B + 24) = some (oB 3 [.ref (B + 1), .ref (B + 25), .ref (B + 26), .int (gI (0))]) := hs_s eh4
  have fh4_5 : hh4.2 (B + 25) = some (aJ 41 (gx)) := hs_n eh4 (show NE (B + 25) (B + 24) by unfold NE; omega) fk3_5
  have fh4_6 : hh4.2 (B + 26) = some (aJ 41 (gv)) := hs_n eh4 (show NE (B + 26) (B + 24) by unfold NE; omega) fk3_6
  have fx4 : Fr [B + 24] hc1 hh4 := Fr.w0 (Fr.rf _ _) (List.Mem.head _) eh4
  have rk4_3 : PW p B hh4 := (rk3_0).fr2 fx4 (ok_c (by omega) (fun _ h => absurd h (List.not_mem_nil)))
  have rk4_4 : CP hp B hh4 (T) := (rk3_6).fr fx4 (Ni.c ⟨(show NE (B + 2) (B + 24) by unfold NE; omega), (show NE (B + 2) (B + 25) by unfold NE; omega)⟩ (Ni.n _)) (Ni.c ⟨(show NE (B + 3) (B + 24) by unfold NE; omega), (show NE (B + 3) (B + 25) by unfold NE; omega)⟩ (Ni.n _)) (lo_c (by omega) (fun _ h => absurd h (List.not_mem_nil)))
  have rk5004_0 : PA hh4 (B + 5) := (rk5003_0).fr fx4 (Ai.c (show AP (B + 5) (B + 24) by unfold AP; omega) (Ai.n _))
  have rk5004_1 : PA hh4 (B + 27) := (rk5003_1).fr fx4 (Ai.c (show AP (B + 27) (B + 24) by unfold AP; omega) (Ai.n _))
  have rk5004_2 : RA 84 hh4 (B + 31) := (rk5003_3).fr fx4 (Ai.c (show AP (B + 31) (B + 24) by unfold AP; omega) (Ai.n _))
  have rk5004_3 : RP hp 84 hh4 (B + 33) (nwO hp (fun i => zi hp (X i)) (fun i => zi hp (V i)) c.toNat) := (rn2).fr fx4 (Ai.c (show AP (B + 33) (B + 24) by unfold AP; omega) (Ai.n _))
  have rk5004_4 : RA 84 hh4 (B + 29) := (rm2).fr fx4 (Ai.c (show AP (B + 29) (B + 24) by unfold AP; omega) (Ai.n _))
  have fr4 : Fr [B + 33, B + 29, B + 24, B + 27] h hh4 := Fr.w0 fr3 (List.Mem.tail _ (List.Mem.tail _ (List.Mem.head _))) eh4
  have cpt9 : CPt p B hh4 0 X V := ⟨gx, gv, fh4_4, fh4_5, fh4_6, by omega, fun k k0 k1 => by omega⟩
  refine g_aload_n 0 dX9_interpolate_23 rfl ?_
  refine g_getf 6 dX9_interpolate_24 kX9 (by decide) fX9_50 fh4_0 rfl ?_
  refine g_aload_n 0 dX9_interpolate_27 rfl ?_
  refine g_getf 9 dX9_interpolate_28 kX9 (by decide) fX9_66 fh4_0 rfl ?_
  refine g_callV (nc2 := 0) (ns2 := 0) (ci := 4) (As := [.ref (B + 33)]) (st := []) rfl dX9_interpolate_31 okX4_fromRow lX9_146 itX4_fromRow seX4_fromRow rfl (Classical.choose_spec (PA.o rk5004_1)) (by decide) (by decide) rfl (Nat.le_of_ble_eq_true rfl) (sQ_fromRow N _ (B + 27) (B + 33) 84 p hp hp2 (nwO hp (fun i => zi hp (X i)) (fun i => zi hp (V i)) c.toNat) rk5004_1 rk5004_3 (by omega) (show AP (B + 27) (B + 33) by unfold AP; omega)) (by omega) (by omega) (fun v5 hc5 q5 => ?_)
  obtain ⟨rfl, frc6, rn6_0⟩ := q5
  have fk7_0 : hc5.2 (B) = some (cO B (fa) (sy)) := Fr.at0 frc6 (Ni.c ⟨(show NE (B) (B + 27) by unfold NE; omega), (show NE (B) (B + 28) by unfold NE; omega)⟩ (Ni.n _)) fh4_0
  have fk7_1 : hc5.2 (B + 4) = some (oB 8 [.ref (B + 1), .ref (B + 5)]) := Fr.at0 frc6 (Ni.c ⟨(show NE (B + 4) (B + 27) by unfold NE; omega), (show NE (B + 4) (B + 28) by unfold NE; omega)⟩ (Ni.n _)) fh4_1
  have fk7_2 : hc5.2 (B + 7) = some (oB 2 [.ref (B + 1), .ref (B + 8), .ref (B + 10), .ref (B + 12), .ref (B + 14), .ref (B + 16), .ref (B + 18), .ref (B + 20), .ref (B + 22)]) := Fr.at0 frc6 (Ni.c ⟨(show NE (B + 7) (B + 27) by unfold NE; omega), (show NE (B + 7) (B + 28) by unfold NE; omega)⟩ (Ni.n _)) fh4_2
  have fk7_3 : hc5.2 (B + 1) = some (oB 1 [.int (gI ((p : Int)))]) := Fr.at0 frc6 (Ni.c ⟨(show NE (B + 1) (B + 27) by unfold NE; omega), (show NE (B + 1) (B + 28) by unfold NE; omega)⟩ (Ni.n _)) fh4_3
  have rk7_5 : PW p B hc5 := (rk4_3).fr2 frc6 (ok_c (by omega) (fun _ h => absurd h (List.not_mem_nil)))
  have rk7_6 : CP hp B hc5 (T) := (rk4_4).fr frc6 (Ni.c ⟨(show NE (B + 2) (B + 27) by unfold NE; omega), (show NE (B + 2) (B + 28) by unfold NE; omega)⟩ (Ni.n _)) (Ni.c ⟨(show NE (B + 3) (B + 27) by unfold NE; omega), (show NE (B + 3) (B + 28) by unfold NE; omega)⟩ (Ni.n _)) (lo_c (by omega) (fun _ h => absurd h (List.not_mem_nil)))
  have rk7_7 : CPt p B hc5 (0) X V := (cpt9).fr frc6 (Ni.c ⟨(show NE (B + 24) (B + 27) by unfold NE; omega), (show NE (B + 24) (B + 28) by unfold NE; omega)⟩ (Ni.n _)) (Ni.c ⟨(show NE (B + 25) (B + 27) by unfold NE; omega), (show NE (B + 25) (B + 28) by unfold NE; omega)⟩ (Ni.n _)) (Ni.c ⟨(show NE (B + 26) (B + 27) by unfold NE; omega), (show NE (B + 26) (B + 28) by unfold NE; omega)⟩ (Ni.n _))
  have rk5007_0 : PA hc5 (B + 5) := (rk5004_0).fr frc6 (Ai.c (show AP (B + 5) (B + 27) by unfold AP; omega) (Ai.n _))
  have rk5007_2 : RA 84 hc5 (B + 31) := (rk5004_2).fr frc6 (Ai.c (show AP (B + 31) (B + 27) by unfold AP; omega) (Ai.n _))
  have rk5007_3 : RP hp 84 hc5 (B + 33) (nwO hp (fun i => zi hp (X i)) (fun i => zi hp (V i)) c.toNat) := (rk5004_3).fr frc6 (Ai.c (show AP (B + 33) (B + 27) by unfold AP; omega) (Ai.n _))
  have rk5007_4 : RA 84 hc5 (B + 29) := (rk5004_4).fr frc6 (Ai.c (show AP (B + 29) (B + 27) by unfold AP; omega) (Ai.n _))
  have fr7 : Fr [B + 33, B + 29, B + 24, B + 27] h hc5 := (fr4).tr ((frc6).mo (sub_c (List.Mem.tail _ (List.Mem.tail _ (List.Mem.tail _ (List.Mem.head _)))) sub_n))
  refine Go.nf (h' := hc5) (st' := []) rfl rfl (Nat.le_refl _) (Nat.le_refl _) ?_
  refine g_aload_n 0 dX9_interpolate_34 rfl ?_
  refine g_aload_n 0 dX9_interpolate_35 rfl ?_
  refine g_getf 6 dX9_interpolate_36 kX9 (by decide) fX9_50 fk7_0 rfl ?_
  refine g_callV (nc2 := 2) (ns2 := 290) (ci := 9) (As := [.ref (B + 27)]) (st := []) rfl dX9_interpolate_39 okX9_keep lX9_103 itX9_keep seX9_keep rfl fk7_0 (by decide) (by decide) rfl (Nat.le_of_ble_eq_true rfl) (sC_keep N _ B p hp hp2 0 X V fa sy T (pF hp (nwO hp (fun i => zi hp (X i)) (fun i => zi hp (V i)) c.toNat)) (⟨fk7_0, rk7_5, fk7_1, rk5007_0, (rn6_0).ra, rk5007_4, rk5007_2, (rk5007_3).ra, rk7_7, (by rw [(fr7).1]; exact hlo)⟩) rk7_6 rn6_0) (by omega) (by omega) (fun v8 hc8 q8 => ?_)
  obtain ⟨w9, hK9, rfl, cp9, fk9⟩ := q8
  have cs9 := CSt.fk ⟨fk7_0, rk7_5, fk7_1, rk5007_0, (rn6_0).ra, rk5007_4, rk5007_2, (rk5007_3).ra, rk7_7, (by rw [(fr7).1]; exact hlo)⟩ fk9
  have fz9 : FK (pK B) h hc8 := FK.tr (FK.fr fr7 (fun x e hx hk => Ni_hi hk.1 (hi_c (by omega) (hi_c (by omega) (hi_c (by omega) (hi_c (by omega) (fun _ h => absurd h (List.not_mem_nil)))))))) (fk9.mo (fun x e _ hk => kpK_pK hk))
  refine Go.nf (h' := hc8) (st' := [.int (gI (w9))]) rfl rfl (Nat.le_refl _) (Nat.le_refl _) ?_
  exact g_iret dX9_interpolate_42 rfl ⟨fz9, w9, _, (by rw [kR_i hp (by omega)]; exact ⟨hK9, rfl⟩), rfl, cs9, cp9⟩
set_option maxHeartbeats 4000000 in
set_option maxRecDepth 100000 in
theorem sC_power (N : GN) (h : GH) (B p : Nat) (hp : prm p) (hp2 : p ≤ 65536) (c : Int) (X V : Int → Int) (fa sy : Value) (T : PT p) (a m n : Int) (gW_a : gW a) (gW_m : gW m) (gX_n : gX n) (hcs : CSt p B h c X V fa sy) (hT : CP hp B h T)  : Sp N yX9_power mX9_power 2 290 [.ref (B), .int (gI (a)), .long (gJ (n)), .int (gI (m))] h (fun v h1 => FK (pK B) h h1 ∧ ∃ w T2, Ou T (ap2 T a m (rpw hp n)) w T2 ∧ v = some (.int (gI w)) ∧ CSt p B h1 c X V fa sy ∧ CP hp B h1 T2) := by
  refine Sp.of (by decide) rfl rfl (Nat.le_of_ble_eq_true rfl) ?_
  show Go N mX9_power _ 2 290 h 0 [(0, .ref (B)), (1, .int (gI (a))), (2, .long (gJ (n))), (4, .int (gI (m)))] []
  have hp1 := hp.1
  have hcs0 := hcs
  obtain ⟨hob, hw, hw4, h5, h27, h29, h31, h33, hpt, hlo⟩ := hcs0
  refine g_aload_n 0 dX9_power_0 rfl ?_
  refine g_iload_n 1 dX9_power_1 rfl ?_
  refine g_callV (nc2 := 0) (ns2 := 0) (ci := 9) (As := [.int (gI (a))]) (st := []) rfl dX9_power_2 okX9_find lX9_107 itX9_find seX9_find rfl hob (by decide) (by decide) rfl (Nat.le_of_ble_eq_true rfl) (sC_find N _ B p hp fa sy T (a) gW_a hob hT) (by omega) (by omega) (fun v1 hc1 q1 => ?_)
  obtain ⟨hq2, hr2⟩ := q1
  rcases hr2 with ⟨F, qa, g_a, rfl, l_a, pp_a⟩ | ⟨g_a, rfl⟩
  · skip
    refine Go.nf (h' := h) (st' := [.ref (qa)]) hq2 rfl (Nat.le_refl _) (Nat.le_refl _) ?_
    refine g_astore (ls2 := [(5, .ref (qa)), (0, .ref (B)), (1, .int (gI (a))), (2, .long (gJ (n))), (4, .int (gI (m)))]) dX9_power_5 (by decide) rfl ?_
    refine g_aload_n 1 dX9_power_7 rfl ?_
    refine g_iload 4 dX9_power_8 rfl ?_
    refine g_callV (nc2 := 0) (ns2 := 0) (ci := 9) (As := [.int (gI (m))]) (st := []) rfl dX9_power_10 okX9_find lX9_107 itX9_find seX9_find rfl hob (by decide) (by decide) rfl (Nat.le_of_ble_eq_true rfl) (sC_find N _ B p hp fa sy T (m) gW_m hob hT) (by omega) (by omega) (fun v3 hc3 q3 => ?_)
    obtain ⟨hq4, hr4⟩ := q3
    rcases hr4 with ⟨G, qm, g_m, rfl, l_m, pp_m⟩ | ⟨g_m, rfl⟩
    · skip
      refine Go.nf (h' := h) (st' := [.ref (qm)]) hq4 rfl (Nat.le_refl _) (Nat.le_refl _) ?_
      refine g_astore (ls2 := [(6, .ref (qm)), (5, .ref (qa)), (0, .ref (B)), (1, .int (gI (a))), (2, .long (gJ (n))), (4, .int (gI (m)))]) dX9_power_13 (by decide) rfl ?_
      refine g_aload 1 dX9_power_15 rfl ?_
      refine g_ifnull (tgt := 25) dX9_power_17 rfl ?_
      refine g_aload 0 dX9_power_20 rfl ?_
      refine g_ifnn (tgt := 27) dX9_power_22 rfl ?_
      have hFr := row_po hp pp_a.pb 0
      have hGr := row_po hp pp_m.pb 0
      have hGd := pp_m.dg
      refine g_aload 1 dX9_power_27 rfl ?_
      refine g_callV (nc2 := 0) (ns2 := 0) (ci := 4) (As := []) (st := []) rfl dX9_power_29 okX4_isPlain lX9_131 itX4_isPlain seX4_isPlain rfl (pp_a).o (by decide) (by decide) rfl (Nat.le_of_ble_eq_true rfl) (sQ_isPlain N _ (qa) p hp F pp_a) (by omega) (by omega) (fun v5 hc5 q5 => ?_)
      obtain ⟨hq6, rfl⟩ := q5
      refine Go.nf (h' := h) (st' := [.int (gI (if dY hp F < 1 then 1 else 0))]) hq6 rfl (Nat.le_refl _) (Nat.le_refl _) ?_
      refine g_if_eq (tgt := 49) dX9_power_32 rfl (by first | assumption | (unfold gW; omega) | (unfold gW; split <;> omega)) (fun c7 => ?_) (fun c7 => ?_)
      · skip
        have hyF : ¬ dY hp F < 1 := fun z => by rw [if_pos z] at c7; omega
        clear c7
        refine g_bipush dX9_power_49 (by decide) ?_
        exact g_iret dX9_power_51 rfl ⟨(FK.fr (Fr.rf ((B + 29) :: (B + 31) :: (B + 33) :: (B + 27) :: pl B) h) (fun x e hx hk => Ni_hi hk.1 (hi_c (by omega) (hi_c (by omega) (hi_c (by omega) (hi_c (by omega) hi_pl)))))), (-2), T, (by rw [ap2_s g_a g_m]; unfold rpw; rw [if_neg (by omega)]; exact ⟨rfl, rfl⟩), rfl, ⟨hob, hw, hw4, h5, h27, h29, h31, h33, hpt, (by rw [((Fr.rf ((B + 29) :: (B + 31) :: (B + 33) :: (B + 27) :: pl B) h)).1]; exact hlo)⟩, hT⟩
      · skip
        have hyF : dY hp F < 1 := by
                                                                      by_cases z : dY hp F < 1
                                                                      · exact z
                                                                      · rw [if_neg z] at c7; omega
        clear c7
        refine g_aload 0 dX9_power_35 rfl ?_
        refine g_callV (nc2 := 0) (ns2 := 0) (ci := 4) (As := []) (st := []) rfl dX9_power_37 okX4_isPlain lX9_131 itX4_isPlain seX4_isPlain rfl (pp_m).o (by decide) (by decide) rfl (Nat.le_of_ble_eq_true rfl) (sQ_isPlain N _ (qm) p hp G pp_m) (by omega) (by omega) (fun v8 hc8 q8 => ?_)
        obtain ⟨hq9, rfl⟩ := q8
        refine Go.nf (h' := h) (st' := [.int (gI (if dY hp G < 1 then 1 else 0))]) hq9 rfl (Nat.le_refl _) (Nat.le_refl _) ?_
        refine g_if_eq (tgt := 49) dX9_power_40 rfl (by first | assumption | (unfold gW; omega) | (unfold gW; split <;> omega)) (fun c10 => ?_) (fun c10 => ?_)
        · skip
          have hyG : ¬ dY hp G < 1 := fun z => by rw [if_pos z] at c10; omega
          clear c10
          refine g_bipush dX9_power_49 (by decide) ?_
          exact g_iret dX9_power_51 rfl ⟨(FK.fr (Fr.rf ((B + 29) :: (B + 31) :: (B + 33) :: (B + 27) :: pl B) h) (fun x e hx hk => Ni_hi hk.1 (hi_c (by omega) (hi_c (by omega) (hi_c (by omega) (hi_c (by omega) hi_pl)))))), (-2), T, (by rw [ap2_s g_a g_m]; unfold rpw; rw [if_neg (by omega)]; exact ⟨rfl, rfl⟩), rfl, ⟨hob, hw, hw4, h5, h27, h29, h31, h33, hpt, (by rw [((Fr.rf ((B + 29) :: (B + 31) :: (B + 33) :: (B + 27) :: pl B) h)).1]; exact hlo)⟩, hT⟩
        · skip
          have hyG : dY hp G < 1 := by
                                                                      by_cases z : dY hp G < 1
                                                                      · exact z
                                                                      · rw [if_neg z] at c10; omega
          clear c10
          refine g_lload_n 4 dX9_power_43 rfl ?_
          refine g_lconst0 dX9_power_44 ?_
          refine g_lcmp dX9_power_45 (by first | assumption | (unfold gX; omega)) (by unfold gX; omega) ?_
          refine g_if_ge (tgt := 52) dX9_power_46 rfl (gW_cmp _ _) (fun c11 => ?_) (fun c11 => ?_)
          · skip
            have hn0 : 0 ≤ n := by
                                                                      rcases Int.lt_or_le n 0 with z | z
                                                                      · have := gcmp_lt.mpr z; omega
                                                                      · exact z
            refine g_aload 0 dX9_power_52 rfl ?_
            refine g_getf 1 dX9_power_54 kX4 (by decide) fX9_135 (pp_m).o rfl ?_
            refine g_iconst dX9_power_57 ?_
            refine g_icmp_ge (tgt := 64) dX9_power_58 rfl (by first | assumption | (unfold gW; omega) | (unfold gW; split <;> omega)) (by first | assumption | (unfold gW; omega) | (unfold gW; split <;> omega)) (fun c12 => ?_) (fun c12 => ?_)
            · skip
              have hdG := dX_0 hp pp_m.pb hyG
              refine g_aload 1 dX9_power_64 rfl ?_
              refine g_aload_n 2 dX9_power_66 rfl ?_
              refine g_getf 7 dX9_power_67 kX9 (by decide) fX9_59 hob rfl ?_
              refine g_callV (nc2 := 0) (ns2 := 0) (ci := 4) (As := [.ref (B + 29)]) (st := []) rfl dX9_power_70 okX4_toRow lX9_138 itX4_toRow seX4_toRow rfl (pp_a).o (by decide) (by decide) rfl (Nat.le_of_ble_eq_true rfl) (sQ_toRow N _ (qa) (B + 29) p hp hp2 (F) pp_a h29 (show AP (qa) (B + 29) by unfold AP; omega)) (by omega) (by omega) (fun v13 hc13 q13 => ?_)
              obtain ⟨rfl, frc14, rn14_0⟩ := q13
              have fk15_0 : hc13.2 (B) = some (cO B (fa) (sy)) := Fr.at0 frc14 (Ni.c ⟨(show NE (B) (B + 29) by unfold NE; omega), (show NE (B) (B + 30) by unfold NE; omega)⟩ (Ni.n _)) hob
              have fk15_1 : hc13.2 (B + 4) = some (oB 8 [.ref (B + 1), .ref (B + 5)]) := Fr.at0 frc14 (Ni.c ⟨(show NE (B + 4) (B + 29) by unfold NE; omega), (show NE (B + 4) (B + 30) by unfold NE; omega)⟩ (Ni.n _)) hw4
              have fk15_2 : hc13.2 (B + 7) = some (oB 2 [.ref (B + 1), .ref (B + 8), .ref (B + 10), .ref (B + 12), .ref (B + 14), .ref (B + 16), .ref (B + 18), .ref (B + 20), .ref (B + 22)]) := Fr.at0 frc14 (Ni.c ⟨(show NE (B + 7) (B + 29) by unfold NE; omega), (show NE (B + 7) (B + 30) by unfold NE; omega)⟩ (Ni.n _)) hw.1
              have fk15_3 : hc13.2 (B + 1) = some (oB 1 [.int (gI ((p : Int)))]) := Fr.at0 frc14 (Ni.c ⟨(show NE (B + 1) (B + 29) by unfold NE; omega), (show NE (B + 1) (B + 30) by unfold NE; omega)⟩ (Ni.n _)) hw.2.1
              have rk15_0 : PW p B hc13 := (hw).fr2 frc14 (ok_c (by omega) (fun _ h => absurd h (List.not_mem_nil)))
              have rk15_6 : CPt p B hc13 (c) X V := (hpt).fr frc14 (Ni.c ⟨(show NE (B + 24) (B + 29) by unfold NE; omega), (show NE (B + 24) (B + 30) by unfold NE; omega)⟩ (Ni.n _)) (Ni.c ⟨(show NE (B + 25) (B + 29) by unfold NE; omega), (show NE (B + 25) (B + 30) by unfold NE; omega)⟩ (Ni.n _)) (Ni.c ⟨(show NE (B + 26) (B + 29) by unfold NE; omega), (show NE (B + 26) (B + 30) by unfold NE; omega)⟩ (Ni.n _))
              have rk15_7 : CP hp B hc13 (T) := (hT).fr frc14 (Ni.c ⟨(show NE (B + 2) (B + 29) by unfold NE; omega), (show NE (B + 2) (B + 30) by unfold NE; omega)⟩ (Ni.n _)) (Ni.c ⟨(show NE (B + 3) (B + 29) by unfold NE; omega), (show NE (B + 3) (B + 30) by unfold NE; omega)⟩ (Ni.n _)) (lo_c (by omega) (fun _ h => absurd h (List.not_mem_nil)))
              have rk5015_0 : PA hc13 (B + 5) := (h5).fr frc14 (Ai.c (show AP (B + 5) (B + 29) by unfold AP; omega) (Ai.n _))
              have rk5015_1 : PA hc13 (B + 27) := (h27).fr frc14 (Ai.c (show AP (B + 27) (B + 29) by unfold AP; omega) (Ai.n _))
              have rk5015_3 : RA 84 hc13 (B + 31) := (h31).fr frc14 (Ai.c (show AP (B + 31) (B + 29) by unfold AP; omega) (Ai.n _))
              have rk5015_4 : RA 84 hc13 (B + 33) := (h33).fr frc14 (Ai.c (show AP (B + 33) (B + 29) by unfold AP; omega) (Ai.n _))
              have rk5015_5 : PP hp hc13 (qa) (F) := (pp_a).fr frc14 (Ai.c (show AP (qa) (B + 29) by unfold AP; omega) (Ai.n _))
              have rk5015_6 : PP hp hc13 (qm) (G) := (pp_m).fr frc14 (Ai.c (show AP (qm) (B + 29) by unfold AP; omega) (Ai.n _))
              have fr15 : Fr ((B + 29) :: (B + 31) :: (B + 33) :: (B + 27) :: pl B) h hc13 := ((Fr.rf ((B + 29) :: (B + 31) :: (B + 33) :: (B + 27) :: pl B) h)).tr ((frc14).mo (sub_c (List.Mem.head _) sub_n))
              refine Go.nf (h' := hc13) (st' := []) rfl rfl (Nat.le_refl _) (Nat.le_refl _) ?_
              refine g_aload 0 dX9_power_73 rfl ?_
              refine g_aload_n 2 dX9_power_75 rfl ?_
              refine g_getf 8 dX9_power_76 kX9 (by decide) fX9_63 fk15_0 rfl ?_
              refine g_callV (nc2 := 0) (ns2 := 0) (ci := 4) (As := [.ref (B + 31)]) (st := []) rfl dX9_power_79 okX4_toRow lX9_138 itX4_toRow seX4_toRow rfl (rk5015_6).o (by decide) (by decide) rfl (Nat.le_of_ble_eq_true rfl) (sQ_toRow N _ (qm) (B + 31) p hp hp2 (G) rk5015_6 rk5015_3 (show AP (qm) (B + 31) by unfold AP; omega)) (by omega) (by omega) (fun v16 hc16 q16 => ?_)
              obtain ⟨rfl, frc17, rn17_0⟩ := q16
              have fk18_0 : hc16.2 (B) = some (cO B (fa) (sy)) := Fr.at0 frc17 (Ni.c ⟨(show NE (B) (B + 31) by unfold NE; omega), (show NE (B) (B + 32) by unfold NE; omega)⟩ (Ni.n _)) fk15_0
              have fk18_1 : hc16.2 (B + 4) = some (oB 8 [.ref (B + 1), .ref (B + 5)]) := Fr.at0 frc17 (Ni.c ⟨(show NE (B + 4) (B + 31) by unfold NE; omega), (show NE (B + 4) (B + 32) by unfold NE; omega)⟩ (Ni.n _)) fk15_1
              have fk18_2 : hc16.2 (B + 7) = some (oB 2 [.ref (B + 1), .ref (B + 8), .ref (B + 10), .ref (B + 12), .ref (B + 14), .ref (B + 16), .ref (B + 18), .ref (B + 20), .ref (B + 22)]) := Fr.at0 frc17 (Ni.c ⟨(show NE (B + 7) (B + 31) by unfold NE; omega), (show NE (B + 7) (B + 32) by unfold NE; omega)⟩ (Ni.n _)) fk15_2
              have fk18_3 : hc16.2 (B + 1) = some (oB 1 [.int (gI ((p : Int)))]) := Fr.at0 frc17 (Ni.c ⟨(show NE (B + 1) (B + 31) by unfold NE; omega), (show NE (B + 1) (B + 32) by unfold NE; omega)⟩ (Ni.n _)) fk15_3
              have rk18_6 : PW p B hc16 := (rk15_0).fr2 frc17 (ok_c (by omega) (fun _ h => absurd h (List.not_mem_nil)))
              have rk18_7 : CPt p B hc16 (c) X V := (rk15_6).fr frc17 (Ni.c ⟨(show NE (B + 24) (B + 31) by unfold NE; omega), (show NE (B + 24) (B + 32) by unfold NE; omega)⟩ (Ni.n _)) (Ni.c ⟨(show NE (B + 25) (B + 31) by unfold NE; omega), (show NE (B + 25) (B + 32) by unfold NE; omega)⟩ (Ni.n _)) (Ni.c ⟨(show NE (B + 26) (B + 31) by unfold NE; omega), (show NE (B + 26) (B + 32) by unfold NE; omega)⟩ (Ni.n _))
              have rk18_8 : CP hp B hc16 (T) := (rk15_7).fr frc17 (Ni.c ⟨(show NE (B + 2) (B + 31) by unfold NE; omega), (show NE (B + 2) (B + 32) by unfold NE; omega)⟩ (Ni.n _)) (Ni.c ⟨(show NE (B + 3) (B + 31) by unfold NE; omega), (show NE (B + 3) (B + 32) by unfold NE; omega)⟩ (Ni.n _)) (lo_c (by omega) (fun _ h => absurd h (List.not_mem_nil)))
              have rk5018_0 : PA hc16 (B + 5) := (rk5015_0).fr frc17 (Ai.c (show AP (B + 5) (B + 31) by unfold AP; omega) (Ai.n _))
              have rk5018_1 : PA hc16 (B + 27) := (rk5015_1).fr frc17 (Ai.c (show AP (B + 27) (B + 31) by unfold AP; omega) (Ai.n _))
              have rk5018_3 : RA 84 hc16 (B + 33) := (rk5015_4).fr frc17 (Ai.c (show AP (B + 33) (B + 31) by unfold AP; omega) (Ai.n _))
              have rk5018_4 : PP hp hc16 (qa) (F) := (rk5015_5).fr frc17 (Ai.c (show AP (qa) (B + 31) by unfold AP; omega) (Ai.n _))
              have rk5018_5 : PP hp hc16 (qm) (G) := (rk5015_6).fr frc17 (Ai.c (show AP (qm) (B + 31) by unfold AP; omega) (Ai.n _))
              have rk5018_6 : RP hp 84 hc16 (B + 29) (F 0) := (rn14_0).fr frc17 (Ai.c (show AP (B + 29) (B + 31) by unfold AP; omega) (Ai.n _))
              have fr18 : Fr ((B + 29) :: (B + 31) :: (B + 33) :: (B + 27) :: pl B) h hc16 := (fr15).tr ((frc17).mo (sub_c (List.Mem.tail _ (List.Mem.head _)) sub_n))
              refine Go.nf (h' := hc16) (st' := []) rfl rfl (Nat.le_refl _) (Nat.le_refl _) ?_
              refine g_aload_n 2 dX9_power_82 rfl ?_
              refine g_getf 4 dX9_power_83 kX9 (by decide) fX9_38 fk18_0 rfl ?_
              refine g_aload_n 2 dX9_power_86 rfl ?_
              refine g_getf 7 dX9_power_87 kX9 (by decide) fX9_59 fk18_0 rfl ?_
              refine g_lload_n 4 dX9_power_90 rfl ?_
              refine g_aload_n 2 dX9_power_91 rfl ?_
              refine g_getf 8 dX9_power_92 kX9 (by decide) fX9_63 fk18_0 rfl ?_
              refine g_aload_n 2 dX9_power_95 rfl ?_
              refine g_getf 9 dX9_power_96 kX9 (by decide) fX9_66 fk18_0 rfl ?_
              refine g_callV (nc2 := 0) (ns2 := 0) (ci := 2) (As := [.ref (B + 29), .long (gJ (n)), .ref (B + 31), .ref (B + 33)]) (st := []) rfl dX9_power_99 okX2_powerModulo lX9_142 itX2_powerModulo seX2_powerModulo rfl fk18_2 (by decide) (by decide) rfl (Nat.le_of_ble_eq_true rfl) (sP_powerModulo N _ B (B + 29) (B + 31) (B + 33) p hp hp2 (n) (F 0) (G 0) rk18_6 rk5018_6 rn17_0 rk5018_3 (by omega) (by omega) (by assumption) (by omega) (by omega) (by omega)) (by omega) (by omega) (fun v19 hc19 q19 => ?_)
              obtain ⟨rfl, frc20, rn20_0, rn20_1⟩ := q19
              have fk21_0 : hc19.2 (B) = some (cO B (fa) (sy)) := Fr.at0 frc20 (Ni.c ⟨(show NE (B) (B + 33) by unfold NE; omega), (show NE (B) (B + 34) by unfold NE; omega)⟩ (Ni_pl (by omega))) fk18_0
              have fk21_1 : hc19.2 (B + 4) = some (oB 8 [.ref (B + 1), .ref (B + 5)]) := Fr.at0 frc20 (Ni.c ⟨(show NE (B + 4) (B + 33) by unfold NE; omega), (show NE (B + 4) (B + 34) by unfold NE; omega)⟩ (Ni_pl (by omega))) fk18_1
              have fk21_2 : hc19.2 (B + 7) = some (oB 2 [.ref (B + 1), .ref (B + 8), .ref (B + 10), .ref (B + 12), .ref (B + 14), .ref (B + 16), .ref (B + 18), .ref (B + 20), .ref (B + 22)]) := Fr.at0 frc20 (Ni.c ⟨(show NE (B + 7) (B + 33) by unfold NE; omega), (show NE (B + 7) (B + 34) by unfold NE; omega)⟩ (Ni_pl (by omega))) fk18_2
              have fk21_3 : hc19.2 (B + 1) = some (oB 1 [.int (gI ((p : Int)))]) := Fr.at0 frc20 (Ni.c ⟨(show NE (B + 1) (B + 33) by unfold NE; omega), (show NE (B + 1) (B + 34) by unfold NE; omega)⟩ (Ni_pl (by omega))) fk18_3
              have rk21_7 : CPt p B hc19 (c) X V := (rk18_7).fr frc20 (Ni.c ⟨(show NE (B + 24) (B + 33) by unfold NE; omega), (show NE (B + 24) (B + 34) by unfold NE; omega)⟩ (Ni_pl (by omega))) (Ni.c ⟨(show NE (B + 25) (B + 33) by unfold NE; omega), (show NE (B + 25) (B + 34) by unfold NE; omega)⟩ (Ni_pl (by omega))) (Ni.c ⟨(show NE (B + 26) (B + 33) by unfold NE; omega), (show NE (B + 26) (B + 34) by unfold NE; omega)⟩ (Ni_pl (by omega)))
              have rk21_8 : CP hp B hc19 (T) := (rk18_8).fr frc20 (Ni.c ⟨(show NE (B + 2) (B + 33) by unfold NE; omega), (show NE (B + 2) (B + 34) by unfold NE; omega)⟩ (Ni_pl (by omega))) (Ni.c ⟨(show NE (B + 3) (B + 33) by unfold NE; omega), (show NE (B + 3) (B + 34) by unfold NE; omega)⟩ (Ni_pl (by omega))) (lo_c (by omega) lo_pl)
              have rk5021_0 : PA hc19 (B + 5) := (rk5018_0).fr frc20 (Ai.c (show AP (B + 5) (B + 33) by unfold AP; omega) (Ai_pl (by omega)))
              have rk5021_1 : PA hc19 (B + 27) := (rk5018_1).fr frc20 (Ai.c (show AP (B + 27) (B + 33) by unfold AP; omega) (Ai_pl (by omega)))
              have rk5021_3 : PP hp hc19 (qa) (F) := (rk5018_4).fr frc20 (Ai.c (show AP (qa) (B + 33) by unfold AP; omega) (Ai_pl (by omega)))
              have rk5021_4 : PP hp hc19 (qm) (G) := (rk5018_5).fr frc20 (Ai.c (show AP (qm) (B + 33) by unfold AP; omega) (Ai_pl (by omega)))
              have rk5021_5 : RP hp 84 hc19 (B + 29) (F 0) := (rk5018_6).fr frc20 (Ai.c (show AP (B + 29) (B + 33) by unfold AP; omega) (Ai_pl (by omega)))
              have rk5021_6 : RP hp 84 hc19 (B + 31) (G 0) := (rn17_0).fr frc20 (Ai.c (show AP (B + 31) (B + 33) by unfold AP; omega) (Ai_pl (by omega)))
              have fr21 : Fr ((B + 29) :: (B + 31) :: (B + 33) :: (B + 27) :: pl B) h hc19 := (fr18).tr ((frc20).mo (sub_c (List.Mem.tail _ (List.Mem.tail _ (List.Mem.head _))) (fun _ hx => (List.Mem.tail _ (List.Mem.tail _ (List.Mem.tail _ (List.Mem.tail _ hx)))))))
              refine Go.nf (h' := hc19) (st' := []) rfl rfl (Nat.le_refl _) (Nat.le_refl _) ?_
              have hrl : dgi hp (rm hp (pwp hp (F 0) n.toNat) (G 0)) < dgi hp (G 0) := rm_lt hp (pw_po hp hFr.1 n.toNat) hGr.1 (by omega)
              refine g_aload_n 2 dX9_power_102 rfl ?_
              refine g_getf 6 dX9_power_103 kX9 (by decide) fX9_50 fk21_0 rfl ?_
              refine g_aload_n 2 dX9_power_106 rfl ?_
              refine g_getf 9 dX9_power_107 kX9 (by decide) fX9_66 fk21_0 rfl ?_
              refine g_callV (nc2 := 0) (ns2 := 0) (ci := 4) (As := [.ref (B + 33)]) (st := []) rfl dX9_power_110 okX4_fromRow lX9_146 itX4_fromRow seX4_fromRow rfl (Classical.choose_spec (PA.o rk5021_1)) (by decide) (by decide) rfl (Nat.le_of_ble_eq_true rfl) (sQ_fromRow N _ (B + 27) (B + 33) 84 p hp hp2 (rm hp (pwp hp (F 0) (n).toNat) (G 0)) rk5021_1 rn20_0 (by omega) (show AP (B + 27) (B + 33) by unfold AP; omega)) (by omega) (by omega) (fun v22 hc22 q22 => ?_)
              obtain ⟨rfl, frc23, rn23_0⟩ := q22
              have fk24_0 : hc22.2 (B) = some (cO B (fa) (sy)) := Fr.at0 frc23 (Ni.c ⟨(show NE (B) (B + 27) by unfold NE; omega), (show NE (B) (B + 28) by unfold NE; omega)⟩ (Ni.n _)) fk21_0
              have fk24_1 : hc22.2 (B + 4) = some (oB 8 [.ref (B + 1), .ref (B + 5)]) := Fr.at0 frc23 (Ni.c ⟨(show NE (B + 4) (B + 27) by unfold NE; omega), (show NE (B + 4) (B + 28) by unfold NE; omega)⟩ (Ni.n _)) fk21_1
              have fk24_2 : hc22.2 (B + 7) = some (oB 2 [.ref (B + 1), .ref (B + 8), .ref (B + 10), .ref (B + 12), .ref (B + 14), .ref (B + 16), .ref (B + 18), .ref (B + 20), .ref (B + 22)]) := Fr.at0 frc23 (Ni.c ⟨(show NE (B + 7) (B + 27) by unfold NE; omega), (show NE (B + 7) (B + 28) by unfold NE; omega)⟩ (Ni.n _)) fk21_2
              have fk24_3 : hc22.2 (B + 1) = some (oB 1 [.int (gI ((p : Int)))]) := Fr.at0 frc23 (Ni.c ⟨(show NE (B + 1) (B + 27) by unfold NE; omega), (show NE (B + 1) (B + 28) by unfold NE; omega)⟩ (Ni.n _)) fk21_3
              have rk24_6 : CPt p B hc22 (c) X V := (rk21_7).fr frc23 (Ni.c ⟨(show NE (B + 24) (B + 27) by unfold NE; omega), (show NE (B + 24) (B + 28) by unfold NE; omega)⟩ (Ni.n _)) (Ni.c ⟨(show NE (B + 25) (B + 27) by unfold NE; omega), (show NE (B + 25) (B + 28) by unfold NE; omega)⟩ (Ni.n _)) (Ni.c ⟨(show NE (B + 26) (B + 27) by unfold NE; omega), (show NE (B + 26) (B + 28) by unfold NE; omega)⟩ (Ni.n _))
              have rk24_7 : CP hp B hc22 (T) := (rk21_8).fr frc23 (Ni.c ⟨(show NE (B + 2) (B + 27) by unfold NE; omega), (show NE (B + 2) (B + 28) by unfold NE; omega)⟩ (Ni.n _)) (Ni.c ⟨(show NE (B + 3) (B + 27) by unfold NE; omega), (show NE (B + 3) (B + 28) by unfold NE; omega)⟩ (Ni.n _)) (lo_c (by omega) (fun _ h => absurd h (List.not_mem_nil)))
              have rk24_9 : PW p B hc22 := (rn20_1).fr2 frc23 (ok_c (by omega) (fun _ h => absurd h (List.not_mem_nil)))
              have rk5024_0 : PA hc22 (B + 5) := (rk5021_0).fr frc23 (Ai.c (show AP (B + 5) (B + 27) by unfold AP; omega) (Ai.n _))
              have rk5024_2 : PP hp hc22 (qa) (F) := (rk5021_3).fr frc23 (Ai.c (show AP (qa) (B + 27) by unfold AP; omega) (Ai.n _))
              have rk5024_3 : PP hp hc22 (qm) (G) := (rk5021_4).fr frc23 (Ai.c (show AP (qm) (B + 27) by unfold AP; omega) (Ai.n _))
              have rk5024_4 : RP hp 84 hc22 (B + 29) (F 0) := (rk5021_5).fr frc23 (Ai.c (show AP (B + 29) (B + 27) by unfold AP; omega) (Ai.n _))
              have rk5024_5 : RP hp 84 hc22 (B + 31) (G 0) := (rk5021_6).fr frc23 (Ai.c (show AP (B + 31) (B + 27) by unfold AP; omega) (Ai.n _))
              have rk5024_6 : RP hp 84 hc22 (B + 33) (rm hp (pwp hp (F 0) (n).toNat) (G 0)) := (rn20_0).fr frc23 (Ai.c (show AP (B + 33) (B + 27) by unfold AP; omega) (Ai.n _))
              have fr24 : Fr ((B + 29) :: (B + 31) :: (B + 33) :: (B + 27) :: pl B) h hc22 := (fr21).tr ((frc23).mo (sub_c (List.Mem.tail _ (List.Mem.tail _ (List.Mem.tail _ (List.Mem.head _)))) sub_n))
              refine Go.nf (h' := hc22) (st' := []) rfl rfl (Nat.le_refl _) (Nat.le_refl _) ?_
              refine g_aload_n 2 dX9_power_113 rfl ?_
              refine g_aload_n 2 dX9_power_114 rfl ?_
              refine g_getf 6 dX9_power_115 kX9 (by decide) fX9_50 fk24_0 rfl ?_
              refine g_callV (nc2 := 2) (ns2 := 290) (ci := 9) (As := [.ref (B + 27)]) (st := []) rfl dX9_power_118 okX9_keep lX9_103 itX9_keep seX9_keep rfl fk24_0 (by decide) (by decide) rfl (Nat.le_of_ble_eq_true rfl) (sC_keep N _ B p hp hp2 c X V fa sy T (pF hp (rm hp (pwp hp (F 0) (n).toNat) (G 0))) (⟨fk24_0, rk24_9, fk24_1, rk5024_0, (rn23_0).ra, (rk5024_4).ra, (rk5024_5).ra, (rk5024_6).ra, rk24_6, (by rw [(fr24).1]; exact hlo)⟩) rk24_7 rn23_0) (by omega) (by omega) (fun v25 hc25 q25 => ?_)
              obtain ⟨w26, hK26, rfl, cp26, fk26⟩ := q25
              have cs26 := CSt.fk ⟨fk24_0, rk24_9, fk24_1, rk5024_0, (rn23_0).ra, (rk5024_4).ra, (rk5024_5).ra, (rk5024_6).ra, rk24_6, (by rw [(fr24).1]; exact hlo)⟩ fk26
              have fz26 : FK (pK B) h hc25 := FK.tr (FK.fr fr24 (fun x e hx hk => Ni_hi hk.1 (hi_c (by omega) (hi_c (by omega) (hi_c (by omega) (hi_c (by omega) hi_pl)))))) (fk26.mo (fun x e _ hk => kpK_pK hk))
              refine Go.nf (h' := hc25) (st' := [.int (gI (w26))]) rfl rfl (Nat.le_refl _) (Nat.le_refl _) ?_
              exact g_iret dX9_power_121 rfl ⟨fz26, w26, _, (by rw [ap2_s g_a g_m]; unfold rpw; rw [if_pos (by omega), if_neg (by rw [← dX_0 hp pp_m.pb hyG]; omega), kR_i hp (by omega)]; exact ⟨hK26, rfl⟩), rfl, cs26, cp26⟩
            · skip
              refine g_bipush dX9_power_61 (by decide) ?_
              exact g_iret dX9_power_63 rfl ⟨(FK.fr (Fr.rf ((B + 29) :: (B + 31) :: (B + 33) :: (B + 27) :: pl B) h) (fun x e hx hk => Ni_hi hk.1 (hi_c (by omega) (hi_c (by omega) (hi_c (by omega) (hi_c (by omega) hi_pl)))))), (-3), T, (by rw [ap2_s g_a g_m]; unfold rpw; rw [if_pos (by omega), if_pos (by rw [← dX_0 hp pp_m.pb hyG]; omega)]; exact ⟨rfl, rfl⟩), rfl, ⟨hob, hw, hw4, h5, h27, h29, h31, h33, hpt, (by rw [((Fr.rf ((B + 29) :: (B + 31) :: (B + 33) :: (B + 27) :: pl B) h)).1]; exact hlo)⟩, hT⟩
          · skip
            have hn0 : n < 0 := gcmp_lt.mp c11
            refine g_bipush dX9_power_49 (by decide) ?_
            exact g_iret dX9_power_51 rfl ⟨(FK.fr (Fr.rf ((B + 29) :: (B + 31) :: (B + 33) :: (B + 27) :: pl B) h) (fun x e hx hk => Ni_hi hk.1 (hi_c (by omega) (hi_c (by omega) (hi_c (by omega) (hi_c (by omega) hi_pl)))))), (-2), T, (by rw [ap2_s g_a g_m]; unfold rpw; rw [if_neg (by omega)]; exact ⟨rfl, rfl⟩), rfl, ⟨hob, hw, hw4, h5, h27, h29, h31, h33, hpt, (by rw [((Fr.rf ((B + 29) :: (B + 31) :: (B + 33) :: (B + 27) :: pl B) h)).1]; exact hlo)⟩, hT⟩
    · skip
      refine Go.nf (h' := h) (st' := [.null]) hq4 rfl (Nat.le_refl _) (Nat.le_refl _) ?_
      refine g_astoreN (ls2 := [(6, .null), (5, .ref (qa)), (0, .ref (B)), (1, .int (gI (a))), (2, .long (gJ (n))), (4, .int (gI (m)))]) dX9_power_13 (by decide) rfl ?_
      refine g_aload 1 dX9_power_15 rfl ?_
      refine g_ifnull (tgt := 25) dX9_power_17 rfl ?_
      refine g_aloadN 0 dX9_power_20 rfl ?_
      refine g_ifnnN (x := 0) (tgt := 27) dX9_power_22 rfl ?_
      refine g_iconst dX9_power_25 ?_
      exact g_iret dX9_power_26 rfl ⟨(FK.fr (Fr.rf ((B + 29) :: (B + 31) :: (B + 33) :: (B + 27) :: pl B) h) (fun x e hx hk => Ni_hi hk.1 (hi_c (by omega) (hi_c (by omega) (hi_c (by omega) (hi_c (by omega) hi_pl)))))), (-1), T, (by rw [ap2_nb g_m]; exact ⟨rfl, rfl⟩), rfl, ⟨hob, hw, hw4, h5, h27, h29, h31, h33, hpt, (by rw [((Fr.rf ((B + 29) :: (B + 31) :: (B + 33) :: (B + 27) :: pl B) h)).1]; exact hlo)⟩, hT⟩
  · skip
    refine Go.nf (h' := h) (st' := [.null]) hq2 rfl (Nat.le_refl _) (Nat.le_refl _) ?_
    refine g_astoreN (ls2 := [(5, .null), (0, .ref (B)), (1, .int (gI (a))), (2, .long (gJ (n))), (4, .int (gI (m)))]) dX9_power_5 (by decide) rfl ?_
    refine g_aload_n 1 dX9_power_7 rfl ?_
    refine g_iload 4 dX9_power_8 rfl ?_
    refine g_callV (nc2 := 0) (ns2 := 0) (ci := 9) (As := [.int (gI (m))]) (st := []) rfl dX9_power_10 okX9_find lX9_107 itX9_find seX9_find rfl hob (by decide) (by decide) rfl (Nat.le_of_ble_eq_true rfl) (sC_find N _ B p hp fa sy T (m) gW_m hob hT) (by omega) (by omega) (fun v27 hc27 q27 => ?_)
    obtain ⟨hq28, hr28⟩ := q27
    rcases hr28 with ⟨G, qm, g_m, rfl, l_m, pp_m⟩ | ⟨g_m, rfl⟩
    · skip
      refine Go.nf (h' := h) (st' := [.ref (qm)]) hq28 rfl (Nat.le_refl _) (Nat.le_refl _) ?_
      refine g_astore (ls2 := [(6, .ref (qm)), (5, .null), (0, .ref (B)), (1, .int (gI (a))), (2, .long (gJ (n))), (4, .int (gI (m)))]) dX9_power_13 (by decide) rfl ?_
      refine g_aloadN 1 dX9_power_15 rfl ?_
      refine g_ifnullN (x := 0) (tgt := 25) dX9_power_17 rfl ?_
      refine g_iconst dX9_power_25 ?_
      exact g_iret dX9_power_26 rfl ⟨(FK.fr (Fr.rf ((B + 29) :: (B + 31) :: (B + 33) :: (B + 27) :: pl B) h) (fun x e hx hk => Ni_hi hk.1 (hi_c (by omega) (hi_c (by omega) (hi_c (by omega) (hi_c (by omega) hi_pl)))))), (-1), T, (by rw [ap2_na g_a]; exact ⟨rfl, rfl⟩), rfl, ⟨hob, hw, hw4, h5, h27, h29, h31, h33, hpt, (by rw [((Fr.rf ((B + 29) :: (B + 31) :: (B + 33) :: (B + 27) :: pl B) h)).1]; exact hlo)⟩, hT⟩
    · skip
      refine Go.nf (h' := h) (st' := [.null]) hq28 rfl (Nat.le_refl _) (Nat.le_refl _) ?_
      refine g_astoreN (ls2 := [(6, .null), (5, .null), (0, .ref (B)), (1, .int (gI (a))), (2, .long (gJ (n))), (4, .int (gI (m)))]) dX9_power_13 (by decide) rfl ?_
      refine g_aloadN 1 dX9_power_15 rfl ?_
      refine g_ifnullN (x := 0) (tgt := 25) dX9_power_17 rfl ?_
      refine g_iconst dX9_power_25 ?_
      exact g_iret dX9_power_26 rfl ⟨(FK.fr (Fr.rf ((B + 29) :: (B + 31) :: (B + 33) :: (B + 27) :: pl B) h) (fun x e hx hk => Ni_hi hk.1 (hi_c (by omega) (hi_c (by omega) (hi_c (by omega) (hi_c (by omega) hi_pl)))))), (-1), T, (by rw [ap2_na g_a]; exact ⟨rfl, rfl⟩), rfl, ⟨hob, hw, hw4, h5, h27, h29, h31, h33, hpt, (by rw [((Fr.rf ((B + 29) :: (B + 31) :: (B + 33) :: (B + 27) :: pl B) h)).1]; exact hlo)⟩, hT⟩
