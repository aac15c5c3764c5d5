set_option maxHeartbeats 4000000 in
set_option maxRecDepth 100000 in
theorem sF_isOpen (N : GN) (h : GH) (B f r p : Nat) (hp : prm p) (hp2 : p ≤ 65536) (hBf : B + 58 ≤ f) (hrf : B + 58 ≤ r) (sz : Int) (fv fr : Px p) (ar19 : AP r (f + 19)) (hsp : h.2 (f + 12) = some (spO B f sz)) (hth : h.2 (B + 7) = some (oB 2 [.ref (B + 1), .ref (B + 8), .ref (B + 10), .ref (B + 12), .ref (B + 14), .ref (B + 16), .ref (B + 18), .ref (B + 20), .ref (B + 22)])) (hfl : h.2 (B + 1) = some (oB 1 [.int (gI ((p : Int)))])) (h17 : RP hp 84 h (f + 17) fv) (h19 : RA 84 h (f + 19)) (hr : RP hp 84 h r fr) (hS : RA 84 h (B + 10)) : Sp N yX6_isOpen mX6_isOpen 0 0 [.ref (f + 12), .ref (r)] h (fun v h1 => (dgi hp fr < 2 ∧ v = some (.int (gI 0)) ∧ h1 = h) ∨ (2 ≤ dgi hp fr ∧ Fr [f + 19, B + 10] h h1 ∧ RP hp 84 h1 (f + 19) (rm hp fv fr) ∧ RA 84 h1 (B + 10) ∧ v = some (.int (gI (if 0 < dgi hp (rm hp fv fr) then 1 else 0))))) := by
  refine Sp.of (by decide) rfl rfl (Nat.le_of_ble_eq_true rfl) ?_
  show Go N mX6_isOpen _ 0 0 h 0 [(0, .ref (f + 12)), (1, .ref (r))] []
  have arS : AP r (B + 10) := by unfold AP; omega
  have hlr := hr.lt
  have hp1 := hp.1
  refine g_aload_n 1 dX6_isOpen_0 rfl ?_
  refine g_getf 1 dX6_isOpen_1 kX5 (by decide) fX6_50 (hr).o rfl ?_
  refine g_iconst dX6_isOpen_4 ?_
  refine g_icmp_ge (tgt := 10) dX6_isOpen_5 rfl (by first | assumption | (unfold gW; omega) | (unfold gW; split <;> omega)) (by first | assumption | (unfold gW; omega) | (unfold gW; split <;> omega)) (fun c1 => ?_) (fun c1 => ?_)
  · skip
    refine g_aload_n 0 dX6_isOpen_10 rfl ?_
    refine g_getf 6 dX6_isOpen_11 kX6 (by decide) fX6_31 hsp rfl ?_
    refine g_aload_n 0 dX6_isOpen_14 rfl ?_
    refine g_getf 5 dX6_isOpen_15 kX6 (by decide) fX6_28 hsp rfl ?_
    have hdc := (h17).lt
    refine g_callV (nc2 := 0) (ns2 := 0) (ci := 5) (As := [.ref (f + 17)]) (st := []) rfl dX6_isOpen_18 okX5_copy lX6_46 itX5_copy seX5_copy rfl (Classical.choose_spec (RA.o h19)) (by decide) (by decide) rfl (Nat.le_of_ble_eq_true rfl) (sP_copy N _ (f + 19) (f + 17) 84 84 p hp hp2 (fv) h19 h17 (by omega) (show AP (f + 19) (f + 17) by unfold AP; omega)) (by omega) (by omega) (fun v2 hc2 q2 => ?_)
    obtain ⟨rfl, frc3, rn3_0⟩ := q2
    have fk4_0 : hc2.2 (f + 12) = some (oB 6 [.ref (B + 1), .ref (B + 7), .ref (f + 13), .ref (f + 14), .ref (f + 15), .ref (f + 17), .ref (f + 19), .int (gI (sz))]) := Fr.at0 frc3 (Ni.c ⟨(show NE (f + 12) (f + 19) by unfold NE; omega), (show NE (f + 12) (f + 20) by unfold NE; omega)⟩ (Ni.n _)) hsp
    have fk4_1 : hc2.2 (B + 7) = some (oB 2 [.ref (B + 1), .ref (B + 8), .ref (B + 10), .ref (B + 12), .ref (B + 14), .ref (B + 16), .ref (B + 18), .ref (B + 20), .ref (B + 22)]) := Fr.at0 frc3 (Ni.c ⟨(show NE (B + 7) (f + 19) by unfold NE; omega), (show NE (B + 7) (f + 20) by unfold NE; omega)⟩ (Ni.n _)) hth
    have fk4_2 : hc2.2 (B + 1) = some (oB 1 [.int (gI ((p : Int)))]) := Fr.at0 frc3 (Ni.c ⟨(show NE (B + 1) (f + 19) by unfold NE; omega), (show NE (B + 1) (f + 20) by unfold NE; omega)⟩ (Ni.n _)) hfl
    have rk5004_0 : RP hp 84 hc2 (f + 17) (fv) := (h17).fr frc3 (Ai.c (show AP (f + 17) (f + 19) by unfold AP; omega) (Ai.n _))
    have rk5004_2 : RP hp 84 hc2 (r) (fr) := (hr).fr frc3 (Ai.c ar19 (Ai.n _))
    have rk5004_3 : RA 84 hc2 (B + 10) := (hS).fr frc3 (Ai.c (show AP (B + 10) (f + 19) by unfold AP; omega) (Ai.n _))
    have fr4 : Fr [f + 19, B + 10] h hc2 := ((Fr.rf [f + 19, B + 10] h)).tr ((frc3).mo (sub_c (List.Mem.head _) sub_n))
    refine Go.nf (h' := hc2) (st' := []) rfl rfl (Nat.le_refl _) (Nat.le_refl _) ?_
    refine g_aload_n 0 dX6_isOpen_21 rfl ?_
    refine g_getf 1 dX6_isOpen_22 kX6 (by decide) fX6_38 fk4_0 rfl ?_
    refine g_aload_n 0 dX6_isOpen_25 rfl ?_
    refine g_getf 6 dX6_isOpen_26 kX6 (by decide) fX6_31 fk4_0 rfl ?_
    refine g_aload_n 1 dX6_isOpen_29 rfl ?_
    refine g_aload_n 0 dX6_isOpen_30 rfl ?_
    refine g_getf 1 dX6_isOpen_31 kX6 (by decide) fX6_38 fk4_0 rfl ?_
    refine g_getf 2 dX6_isOpen_34 kX2 (by decide) fX6_124 fk4_1 rfl ?_
    have hdr := (rn3_0).lt
    have hdb := (rk5004_2).lt
    refine g_callV (nc2 := 0) (ns2 := 0) (ci := 2) (As := [.ref (f + 19), .ref (r), .ref (B + 10)]) (st := []) rfl dX6_isOpen_37 okX2_reduce lX6_127 itX2_reduce seX2_reduce rfl fk4_1 (by decide) (by decide) rfl (Nat.le_of_ble_eq_true rfl) (sP_reduce N _ B (f + 19) (r) (B + 10) 84 84 84 p hp hp2 (dgi hp (fv)) (p : Int) (fv) (fr) (by omega) fk4_1 fk4_2 (rn3_0).ru rk5004_2 rk5004_3 (by omega) (by omega) (ar19).s (show AP (f + 19) (B + 10) by unfold AP; omega) arS (by omega) (by omega) (by omega)) (by omega) (by omega) (fun v5 hc5 q5 => ?_)
    obtain ⟨rfl, frc6, rn6_0, rn6_1⟩ := q5
    have fk7_0 : hc5.2 (f + 12) = some (oB 6 [.ref (B + 1), .ref (B + 7), .ref (f + 13), .ref (f + 14), .ref (f + 15), .ref (f + 17), .ref (f + 19), .int (gI (sz))]) := Fr.at0 frc6 (Ni.c ⟨(show NE (f + 12) (f + 19) by unfold NE; omega), (show NE (f + 12) (f + 20) by unfold NE; omega)⟩ (Ni.c ⟨(show NE (f + 12) (B + 10) by unfold NE; omega), (show NE (f + 12) (B + 11) by unfold NE; omega)⟩ (Ni.n _))) fk4_0
    have fk7_1 : hc5.2 (B + 7) = some (oB 2 [.ref (B + 1), .ref (B + 8), .ref (B + 10), .ref (B + 12), .ref (B + 14), .ref (B + 16), .ref (B + 18), .ref (B + 20), .ref (B + 22)]) := Fr.at0 frc6 (Ni.c ⟨(show NE (B + 7) (f + 19) by unfold NE; omega), (show NE (B + 7) (f + 20) by unfold NE; omega)⟩ (Ni.c ⟨(show NE (B + 7) (B + 10) by unfold NE; omega), (show NE (B + 7) (B + 11) by unfold NE; omega)⟩ (Ni.n _))) fk4_1
    have fk7_2 : hc5.2 (B + 1) = some (oB 1 [.int (gI ((p : Int)))]) := Fr.at0 frc6 (Ni.c ⟨(show NE (B + 1) (f + 19) by unfold NE; omega), (show NE (B + 1) (f + 20) by unfold NE; omega)⟩ (Ni.c ⟨(show NE (B + 1) (B + 10) by unfold NE; omega), (show NE (B + 1) (B + 11) by unfold NE; omega)⟩ (Ni.n _))) fk4_2
    have rk5007_0 : RP hp 84 hc5 (f + 17) (fv) := (rk5004_0).fr frc6 (Ai.c (show AP (f + 17) (f + 19) by unfold AP; omega) (Ai.c (show AP (f + 17) (B + 10) by unfold AP; omega) (Ai.n _)))
    have rk5007_1 : RP hp 84 hc5 (r) (fr) := (rk5004_2).fr frc6 (Ai.c ar19 (Ai.c arS (Ai.n _)))
    have fr7 : Fr [f + 19, B + 10] h hc5 := (fr4).tr ((frc6).mo (sub_c (List.Mem.head _) (sub_c (List.Mem.tail _ (List.Mem.head _)) sub_n)))
    refine Go.nf (h' := hc5) (st' := []) rfl rfl (Nat.le_refl _) (Nat.le_refl _) ?_
    refine g_aload_n 0 dX6_isOpen_40 rfl ?_
    refine g_getf 6 dX6_isOpen_41 kX6 (by decide) fX6_31 fk7_0 rfl ?_
    have hdt := (rn6_0).lt
    refine g_getf 1 dX6_isOpen_44 kX5 (by decide) fX6_50 (rn6_0).o rfl ?_
    refine g_if_le (tgt := 54) dX6_isOpen_47 rfl (by first | assumption | (unfold gW; omega) | (unfold gW; split <;> omega)) (fun c8 => ?_) (fun c8 => ?_)
    · skip
      refine g_iconst dX6_isOpen_54 ?_
      exact g_zret dX6_isOpen_55 rfl (by omega) (Or.inr ⟨by omega, fr7, rn6_0, (rn6_1).ra, by rw [if_neg (by omega)]⟩)
    · skip
      refine g_iconst dX6_isOpen_50 ?_
      refine g_goto (tgt := 55) dX6_isOpen_51 rfl ?_
      exact g_zret dX6_isOpen_55 rfl (by omega) (Or.inr ⟨by omega, fr7, rn6_0, (rn6_1).ra, by rw [if_pos (by omega)]⟩)
  · skip
    refine g_iconst dX6_isOpen_8 ?_
    exact g_zret dX6_isOpen_9 rfl (by omega) (Or.inl ⟨by omega, rfl, rfl⟩)
