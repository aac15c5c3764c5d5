section
variable {p : Nat}
theorem mnc0 (h : prm p) {d : Px p} (hd : po (fR h) d) (h0 : dgi h d = 0) (hm : mnc h d) : letI := pR h; d = 1 := by
  letI := fR h
  letI := pR h
  refine funext fun k => ?_
  show d k = if k = 0 then 1 else 0
  by_cases z : k = 0
  · rw [if_pos z, z]
    rcases hm with y | y
    · omega
    · rw [h0] at y; exact y
  · rw [if_neg z]
    exact dgi_dl h hd k (by omega)
theorem sq_whole (h : prm p) {R : Px p} (hR : po (fR h) R) (h0 : 0 ≤ dgi h R) (hm : mnc h R) (hd : 0 ≤ dgi h (drv h R)) (h1 : dgi h (gP h R (drv h R)) < 1) : sqf h R := by
  obtain ⟨a1, a2, a3, a4, a5, a6, a7, a8⟩ := sq_part h hR h0 hm hd
  have G := gP_sp h hR (drv_po h hR)
  have e := mnc0 h G.1 (by omega) G.2.2.2.2
  letI := pR h
  have e2 : R = gP h R (drv h R) * qt h R (gP h R (drv h R)) := a2
  have e3 : R = qt h R (gP h R (drv h R)) := by
    have e4 : R = 1 * qt h R (gP h R (drv h R)) := by rw [← e]; exact e2
    exact e4.trans (by grind)
  rw [e3]; exact a4
/-- what part() leaves -/
def ptR (h : prm p) (F : Px p) (hn hn1 : Int) (H H1 : Int → Px p) (fc fc1 : Int) (Q Q1 : Int → Px p) : Prop := (∀ i : Int, 0 ≤ i → i < hn → H1 i = H i) ∧ (∀ i : Int, hn ≤ i → i < hn1 → mnc h (H1 i) ∧ 1 ≤ dgi h (H1 i) ∧ dv (fR h) (H1 i) F) ∧ (hn1 = hn ∨ (hn1 = hn + 1 ∧ dgi h (H1 hn) < dgi h F) ∨ (hn1 = hn + 2 ∧ dgi h (H1 hn) + dgi h (H1 (hn + 1)) ≤ dgi h F)) ∧ (∀ x : Px p, inL fc Q x → inL fc1 Q1 x) ∧ ∀ x : Px p, isFc h F x → inL fc1 Q1 x ∨ ∃ i : Int, hn ≤ i ∧ i < hn1 ∧ dv (fR h) x (H1 i)
end
set_option maxHeartbeats 4000000 in
set_option maxRecDepth 100000 in
theorem sM_partF (N : GN) (h : GH) (B p : Nat) (hp : prm p) (hp2 : p ≤ 65536) (h0 : GH) (hf le fc pn rn hn qn : Int) (g9 g10 g11 g12 g13 g14 g15 g16 g17 g18 g19 g20 : Int → Int) (n : Int) (F F0 : Px p) (hnd : dgi hp F = n) (hn40 : 1 ≤ n ∧ n ≤ 40) (hmn : mnc hp F) (hF0 : po (fR hp) F0) (hF040 : 0 ≤ dgi hp F0 ∧ dgi hp F0 ≤ 40) (hdF : dv (fR hp) F F0) (H Q : Int → Px p) (hhn : 0 ≤ hn ∧ hn + n ≤ 50) (hTH : TB hp g16 g17 hn H) (hT : TB hp g9 g11 fc Q) (hLI : LI hp F0 fc Q) (hRD : RD B h0 h p hf le fc pn rn hn qn g9 g10 g11 g12 g13 g14 g15 g16 g17 g18 g19 g20) (h11 : MG hp B h 11 F) : Sp N yX10_part mX10_part 0 0 [.ref (B), .int (gI (11))] h (fun v h1 => v = none ∧ NR B [12, 13, 14, 15, 16, 17, 18, 19, 21, 22, 23, 24, 25, 26, 30, 31, 32, 33, 34, 35, 36, 37] h h1 ∧ ∃ fc1 Q1 d9 d11 hn1 H1 k16 k17 k18 k19 k20, RD B h0 h1 p hf le fc1 pn rn hn1 qn d9 g10 d11 g12 g13 g14 g15 k16 k17 k18 k19 k20 ∧ TB hp d9 d11 fc1 Q1 ∧ TB hp k16 k17 hn1 H1 ∧ LI hp F0 fc1 Q1 ∧ ptR hp F hn hn1 H H1 fc fc1 Q Q1) := by
  refine Sp.of (by decide) rfl rfl (Nat.le_of_ble_eq_true rfl) ?_
  show Go N mX10_part _ 0 0 h 0 [(0, .ref (B)), (1, .int (gI (11)))] []
  have hp1 := hp.1
  have neA : NE B (B + 5) := by unfold NE; omega
  have neB : NE B (B + 6) := by unfold NE; omega
  have neC : NE (B + 5) (B + 6) := by unfold NE; omega
  have hFp := h11.po
  have hcn0 := cnt_le hp hF0 (by omega) hLI.2.1 hLI.2.2
  have hcn1 := hLI.1
  refine g_aload_n 0 dX10_part_0 rfl ?_
  refine g_getf 6 dX10_part_1 kX10 (by decide) fX10_26 (RD.o hRD) rfl ?_
  refine g_iload_n 1 dX10_part_4 rfl ?_
  obtain ⟨dz1, ez1, fz1⟩ := MG.get h11
  refine g_iaload dX10_part_5 ez1 (by omega) (by omega) (by omega) ?_
  rw [fz1]
  rw [hnd]
  refine g_iconst dX10_part_6 ?_
  refine g_icmp_ne (tgt := 16) dX10_part_7 rfl (by first | assumption | (unfold gW; omega) | (unfold gW; split <;> omega)) (by first | assumption | (unfold gW; omega) | (unfold gW; split <;> omega)) (fun c2 => ?_) (fun c2 => ?_)
  · skip
    refine g_aload_n 0 dX10_part_16 rfl ?_
    refine g_bipush dX10_part_17 (by decide) ?_
    refine g_iconst dX10_part_19 ?_
    refine g_callV (nc2 := 0) (ns2 := 0) (ci := 10) (As := [.int (gI (12)), .int (gI (0))]) (st := []) rfl dX10_part_20 okX10_be lX10_170 itX10_be seX10_be rfl (RD.o hRD) (by decide) (by decide) rfl (Nat.le_of_ble_eq_true rfl) (sM_be N _ B p hp hp2 _ _ _ _ _ _ _ (12) (0) (by omega) (by omega) (by omega) (RD.o hRD) (RD.ma hRD)) (by omega) (by omega) (fun v3 hc3 q3 => ?_)
    obtain ⟨rfl, mfc4, rn4_0⟩ := q3
    have rk5_0 : RD B h0 hc3 p hf le fc pn rn hn qn g9 g10 g11 g12 g13 g14 g15 g16 g17 g18 g19 g20 := RD.mf hRD mfc4
    have rk5_1 : NR B [12, 13, 14, 15, 16, 17, 18, 19, 21, 22, 23, 24, 25, 26, 30, 31, 32, 33, 34, 35, 36, 37] h hc3 := NR.tr (NR.rf B [12, 13, 14, 15, 16, 17, 18, 19, 21, 22, 23, 24, 25, 26, 30, 31, 32, 33, 34, 35, 36, 37] h) ((MF.nr mfc4).mo (sbI_c (List.Mem.head _) sbI_n))
    have rk5_2 : MG hp B hc3 (11) (F) := (h11).fr hp2 mfc4 (Nr.c (by omega) Nr.n)
    refine Go.nf (h' := hc3) (st' := []) rfl rfl (Nat.le_refl _) (Nat.le_refl _) ?_
    have hzD := rn4_0
    have hdp := drv_po hp hFp
    have hdl := drv_lt hp hFp (by omega)
    have hdg := dgi_ge hp hdp
    obtain ⟨Ry, dy, huy, hvy, hRy, hDy⟩ := (RD.ma rk5_0)
    have hat6 := (rk5_2).at huy hvy hRy hDy
    have hat7 := (rn4_0).at huy hvy hRy hDy
    refine g_iconst dX10_part_23 ?_
    refine g_istore_n (ls2 := [(2, .int (gI (1))), (0, .ref (B)), (1, .int (gI (11)))]) dX10_part_24 rfl (by decide) rfl ?_
    have lo : ∀ (kk : Nat) (i : Int) (hlo : GH), kk = (50 - i).toNat → Fr [B + 5] hc3 hlo → hlo.2 (B + 5) = some (aI 8000 (ar (gup Ry 12 (gF (Ry 12) (cf (drv hp F)) (i - 1))))) → hlo.2 (B + 6) = some (aI 40 (dy)) → (1 ≤ i ∧ i ≤ n + 1) → Go N mX10_part (fun v h1 => v = none ∧ NR B [12, 13, 14, 15, 16, 17, 18, 19, 21, 22, 23, 24, 25, 26, 30, 31, 32, 33, 34, 35, 36, 37] h h1 ∧ ∃ fc1 Q1 d9 d11 hn1 H1 k16 k17 k18 k19 k20, RD B h0 h1 p hf le fc1 pn rn hn1 qn d9 g10 d11 g12 g13 g14 g15 k16 k17 k18 k19 k20 ∧ TB hp d9 d11 fc1 Q1 ∧ TB hp k16 k17 hn1 H1 ∧ LI hp F0 fc1 Q1 ∧ ptR hp F hn hn1 H H1 fc fc1 Q Q1) 0 0 hlo 25 [(2, .int (gI (i))), (0, .ref (B)), (1, .int (gI (11)))] [] := by
      refine Go.ind (fun kk ih_lo => ?_)
      intro i hlo hkk_lo fr_lo cf_lo_0 cf_lo_1 hi_
      have cg_lo_0 : hlo.2 (B) = some (mO B ((p : Int)) (hf) (le) (fc) (pn) (rn) (hn) (qn)) := Fr.at0 fr_lo (Ni.c ⟨neA, neB⟩ (Ni.n _)) (RD.o rk5_0)
      have cg_lo_1 : hlo.2 (B + 9) = some (aI 41 (g9)) := Fr.at0 fr_lo (Ni.c ⟨(show NE (B + 9) (B + 5) by unfold NE; omega), (show NE (B + 9) (B + 6) by unfold NE; omega)⟩ (Ni.n _)) (RD.t9 rk5_0)
      have cg_lo_2 : hlo.2 (B + 10) = some (aI 41 (g10)) := Fr.at0 fr_lo (Ni.c ⟨(show NE (B + 10) (B + 5) by unfold NE; omega), (show NE (B + 10) (B + 6) by unfold NE; omega)⟩ (Ni.n _)) (RD.t10 rk5_0)
      have cg_lo_3 : hlo.2 (B + 11) = some (aI 1681 (g11)) := Fr.at0 fr_lo (Ni.c ⟨(show NE (B + 11) (B + 5) by unfold NE; omega), (show NE (B + 11) (B + 6) by unfold NE; omega)⟩ (Ni.n _)) (RD.t11 rk5_0)
      have cg_lo_4 : hlo.2 (B + 12) = some (aI 41 (g12)) := Fr.at0 fr_lo (Ni.c ⟨(show NE (B + 12) (B + 5) by unfold NE; omega), (show NE (B + 12) (B + 6) by unfold NE; omega)⟩ (Ni.n _)) (RD.t12 rk5_0)
      have cg_lo_5 : hlo.2 (B + 13) = some (aI 41 (g13)) := Fr.at0 fr_lo (Ni.c ⟨(show NE (B + 13) (B + 5) by unfold NE; omega), (show NE (B + 13) (B + 6) by unfold NE; omega)⟩ (Ni.n _)) (RD.t13 rk5_0)
      have cg_lo_6 : hlo.2 (B + 14) = some (aI 1681 (g14)) := Fr.at0 fr_lo (Ni.c ⟨(show NE (B + 14) (B + 5) by unfold NE; omega), (show NE (B + 14) (B + 6) by unfold NE; omega)⟩ (Ni.n _)) (RD.t14 rk5_0)
      have cg_lo_7 : hlo.2 (B + 15) = some (aI 41 (g15)) := Fr.at0 fr_lo (Ni.c ⟨(show NE (B + 15) (B + 5) by unfold NE; omega), (show NE (B + 15) (B + 6) by unfold NE; omega)⟩ (Ni.n _)) (RD.t15 rk5_0)
      have cg_lo_8 : hlo.2 (B + 16) = some (aI 100 (g16)) := Fr.at0 fr_lo (Ni.c ⟨(show NE (B + 16) (B + 5) by unfold NE; omega), (show NE (B + 16) (B + 6) by unfold NE; omega)⟩ (Ni.n _)) (RD.t16 rk5_0)
      have cg_lo_9 : hlo.2 (B + 17) = some (aI 4100 (g17)) := Fr.at0 fr_lo (Ni.c ⟨(show NE (B + 17) (B + 5) by unfold NE; omega), (show NE (B + 17) (B + 6) by unfold NE; omega)⟩ (Ni.n _)) (RD.t17 rk5_0)
      have cg_lo_10 : hlo.2 (B + 18) = some (aI 1681 (g18)) := Fr.at0 fr_lo (Ni.c ⟨(show NE (B + 18) (B + 5) by unfold NE; omega), (show NE (B + 18) (B + 6) by unfold NE; omega)⟩ (Ni.n _)) (RD.t18 rk5_0)
      have cg_lo_11 : hlo.2 (B + 19) = some (aI 41 (g19)) := Fr.at0 fr_lo (Ni.c ⟨(show NE (B + 19) (B + 5) by unfold NE; omega), (show NE (B + 19) (B + 6) by unfold NE; omega)⟩ (Ni.n _)) (RD.t19 rk5_0)
      have cg_lo_12 : hlo.2 (B + 20) = some (aI 1681 (g20)) := Fr.at0 fr_lo (Ni.c ⟨(show NE (B + 20) (B + 5) by unfold NE; omega), (show NE (B + 20) (B + 6) by unfold NE; omega)⟩ (Ni.n _)) (RD.t20 rk5_0)
      refine g_iload_n 0 dX10_part_25 rfl ?_
      refine g_aload_n 1 dX10_part_26 rfl ?_
      refine g_getf 6 dX10_part_27 kX10 (by decide) fX10_26 cg_lo_0 rfl ?_
      refine g_iload_n 2 dX10_part_30 rfl ?_
      refine g_iaload dX10_part_31 cf_lo_1 (by omega) (by omega) (by omega) ?_
      rw [show (dy) (11) = n from hat6.1.trans hnd]
      refine g_icmp_gt (tgt := 76) dX10_part_32 rfl (by first | assumption | (unfold gW; omega) | (unfold gW; split <;> omega)) (by first | assumption | (unfold gW; omega) | (unfold gW; split <;> omega)) (fun c158 => ?_) (fun c158 => ?_)
      · skip
        have hc9 : i = n + 1 := by omega
        refine g_aload_n 1 dX10_part_76 rfl ?_
        refine g_bipush dX10_part_77 (by decide) ?_
        refine g_callV (nc2 := 0) (ns2 := 0) (ci := 10) (As := [.int (gI (12))]) (st := []) rfl dX10_part_79 okX10_measure lX10_164 itX10_measure seX10_measure rfl cg_lo_0 (by decide) (by decide) rfl (Nat.le_of_ble_eq_true rfl) (sM_measure N _ B p hp hp2 _ _ _ _ _ _ _ (12) (by omega) cg_lo_0 ((gup Ry 12 (gF (Ry 12) (cf (drv hp F)) (i - 1)))) (dy) (drv hp F) cf_lo_0 cf_lo_1 (fun j j0 j1 => by
                                                                      rw [gup_s]; unfold gF
                                                                      split
                                                                      · exact cf_in _ hp _
                                                                      · rw [(hzD.at huy hvy hRy hDy).2 j j0 j1]; exact cf_in _ hp _) (by
                                                                      rw [gup_s]
                                                                      refine (ph_cf hp hdp (d := 199) (by omega)).symm.trans (ph_cg hp (fun j j0 j1 => ?_))
                                                                      unfold gF
                                                                      by_cases z : 0 ≤ j ∧ j < i - 1
                                                                      · rw [if_pos z]
                                                                      · rw [if_neg z, (hzD.at huy hvy hRy hDy).2 j j0 (by omega), cf_hi hp hdp (by omega), cf_hi hp (cz_po hp _) (by
                                                                          have : dgi hp (cz hp (zi hp 0)) = -1 := by rw [cz_z0]; exact dgi_0 hp
                                                                          omega)])) (by omega) (by omega) (fun v159 hc159 q159 => ?_)
        obtain ⟨rfl, mfc160, rn160⟩ := q159
        have mfd160 : MF B [] [12] hc3 hc159 := (MF.one (r := 12) fr_lo huy hvy hRy hDy cf_lo_0 cf_lo_1 (fun s hs => gup_n _ _ hs) (fun _ _ => rfl)).tr mfc160
        have fk161_0 : hc159.2 (B) = some (mO B ((p : Int)) (hf) (le) (fc) (pn) (rn) (hn) (qn)) := Fr.at0 mfc160.1 (Ni.c ⟨neA, neB⟩ (Ni.n _)) cg_lo_0
        have fk161_1 : hc159.2 (B + 9) = some (aI 41 (g9)) := Fr.at0 mfc160.1 (Ni.c ⟨(show NE (B + 9) (B + 5) by unfold NE; omega), (show NE (B + 9) (B + 6) by unfold NE; omega)⟩ (Ni.n _)) cg_lo_1
        have fk161_2 : hc159.2 (B + 10) = some (aI 41 (g10)) := Fr.at0 mfc160.1 (Ni.c ⟨(show NE (B + 10) (B + 5) by unfold NE; omega), (show NE (B + 10) (B + 6) by unfold NE; omega)⟩ (Ni.n _)) cg_lo_2
        have fk161_3 : hc159.2 (B + 11) = some (aI 1681 (g11)) := Fr.at0 mfc160.1 (Ni.c ⟨(show NE (B + 11) (B + 5) by unfold NE; omega), (show NE (B + 11) (B + 6) by unfold NE; omega)⟩ (Ni.n _)) cg_lo_3
        have fk161_4 : hc159.2 (B + 12) = some (aI 41 (g12)) := Fr.at0 mfc160.1 (Ni.c ⟨(show NE (B + 12) (B + 5) by unfold NE; omega), (show NE (B + 12) (B + 6) by unfold NE; omega)⟩ (Ni.n _)) cg_lo_4
        have fk161_5 : hc159.2 (B + 13) = some (aI 41 (g13)) := Fr.at0 mfc160.1 (Ni.c ⟨(show NE (B + 13) (B + 5) by unfold NE; omega), (show NE (B + 13) (B + 6) by unfold NE; omega)⟩ (Ni.n _)) cg_lo_5
        have fk161_6 : hc159.2 (B + 14) = some (aI 1681 (g14)) := Fr.at0 mfc160.1 (Ni.c ⟨(show NE (B + 14) (B + 5) by unfold NE; omega), (show NE (B + 14) (B + 6) by unfold NE; omega)⟩ (Ni.n _)) cg_lo_6
        have fk161_7 : hc159.2 (B + 15) = some (aI 41 (g15)) := Fr.at0 mfc160.1 (Ni.c ⟨(show NE (B + 15) (B + 5) by unfold NE; omega), (show NE (B + 15) (B + 6) by unfold NE; omega)⟩ (Ni.n _)) cg_lo_7
        have fk161_8 : hc159.2 (B + 16) = some (aI 100 (g16)) := Fr.at0 mfc160.1 (Ni.c ⟨(show NE (B + 16) (B + 5) by unfold NE; omega), (show NE (B + 16) (B + 6) by unfold NE; omega)⟩ (Ni.n _)) cg_lo_8
        have fk161_9 : hc159.2 (B + 17) = some (aI 4100 (g17)) := Fr.at0 mfc160.1 (Ni.c ⟨(show NE (B + 17) (B + 5) by unfold NE; omega), (show NE (B + 17) (B + 6) by unfold NE; omega)⟩ (Ni.n _)) cg_lo_9
        have fk161_10 : hc159.2 (B + 18) = some (aI 1681 (g18)) := Fr.at0 mfc160.1 (Ni.c ⟨(show NE (B + 18) (B + 5) by unfold NE; omega), (show NE (B + 18) (B + 6) by unfold NE; omega)⟩ (Ni.n _)) cg_lo_10
        have fk161_11 : hc159.2 (B + 19) = some (aI 41 (g19)) := Fr.at0 mfc160.1 (Ni.c ⟨(show NE (B + 19) (B + 5) by unfold NE; omega), (show NE (B + 19) (B + 6) by unfold NE; omega)⟩ (Ni.n _)) cg_lo_11
        have fk161_12 : hc159.2 (B + 20) = some (aI 1681 (g20)) := Fr.at0 mfc160.1 (Ni.c ⟨(show NE (B + 20) (B + 5) by unfold NE; omega), (show NE (B + 20) (B + 6) by unfold NE; omega)⟩ (Ni.n _)) cg_lo_12
        have fr161 : Fr [B + 5] hc3 hc159 := (fr_lo).tr ((mfc160.1).mo (sub_c (List.Mem.head _) sub_n))
        refine Go.nf (h' := hc159) (st' := []) rfl rfl (Nat.le_refl _) (Nat.le_refl _) ?_
        have rk212_0 : RD B h0 hc159 p hf le fc pn rn hn qn g9 g10 g11 g12 g13 g14 g15 g16 g17 g18 g19 g20 := RD.mf rk5_0 mfd160
        have rk212_1 : NR B [12, 13, 14, 15, 16, 17, 18, 19, 21, 22, 23, 24, 25, 26, 30, 31, 32, 33, 34, 35, 36, 37] h hc159 := NR.tr rk5_1 ((MF.nr mfd160).mo (sbI_c (List.Mem.head _) sbI_n))
        have rk212_2 : MG hp B hc159 (11) (F) := (rk5_2).fr hp2 mfd160 (Nr.c (by omega) Nr.n)
        have hl12 := (rn160).lt
        refine g_aload_n 1 dX10_part_82 rfl ?_
        refine g_getf 6 dX10_part_83 kX10 (by decide) fX10_26 (RD.o rk212_0) rfl ?_
        refine g_bipush dX10_part_86 (by decide) ?_
        obtain ⟨dz213, ez213, fz213⟩ := MG.get rn160
        refine g_iaload dX10_part_88 ez213 (by omega) (by omega) (by omega) ?_
        rw [fz213]
        refine g_if_ge (tgt := 161) dX10_part_89 rfl (by first | assumption | (unfold gW; omega) | (unfold gW; split <;> omega)) (fun c214 => ?_) (fun c214 => ?_)
        · skip
          obtain ⟨a1, a2, a3, a4, a5, a6, a7, a8⟩ := sq_part hp hFp (by omega) hmn (by omega)
          have hGm := (gP_sp hp hFp hdp)
          refine g_aload_n 1 dX10_part_161 rfl ?_
          refine g_iload_n 2 dX10_part_162 rfl ?_
          refine g_bipush dX10_part_163 (by decide) ?_
          refine g_bipush dX10_part_165 (by decide) ?_
          refine g_callV (nc2 := 0) (ns2 := 0) (ci := 10) (As := [.int (gI (11)), .int (gI (12)), .int (gI (13))]) (st := []) rfl dX10_part_167 okX10_common lX10_185 itX10_common seX10_common rfl (RD.o rk212_0) (by decide) (by decide) rfl (Nat.le_of_ble_eq_true rfl) (sM_common N _ B p hp hp2 _ _ _ _ _ _ _ (11) (12) (13) (by omega) (by omega) (by omega) (F) (drv hp F) (RD.o rk212_0) (RD.ma rk212_0) rk212_2 rn160) (by omega) (by omega) (fun v215 hc215 q215 => ?_)
          obtain ⟨rfl, mfc216, rn216_0⟩ := q215
          have rk217_0 : RD B h0 hc215 p hf le fc pn rn hn qn g9 g10 g11 g12 g13 g14 g15 g16 g17 g18 g19 g20 := RD.mf rk212_0 mfc216
          have rk217_1 : NR B [12, 13, 14, 15, 16, 17, 18, 19, 21, 22, 23, 24, 25, 26, 30, 31, 32, 33, 34, 35, 36, 37] h hc215 := NR.tr rk212_1 ((MF.nr mfc216).mo (sbI_c (List.Mem.tail _ (List.Mem.tail _ (List.Mem.tail _ (List.Mem.tail _ (List.Mem.tail _ (List.Mem.tail _ (List.Mem.tail _ (List.Mem.tail _ (List.Mem.tail _ (List.Mem.tail _ (List.Mem.tail _ (List.Mem.tail _ (List.Mem.tail _ (List.Mem.tail _ (List.Mem.head _))))))))))))))) (sbI_c (List.Mem.tail _ (List.Mem.tail _ (List.Mem.tail _ (List.Mem.tail _ (List.Mem.tail _ (List.Mem.tail _ (List.Mem.tail _ (List.Mem.tail _ (List.Mem.tail _ (List.Mem.tail _ (List.Mem.tail _ (List.Mem.tail _ (List.Mem.tail _ (List.Mem.tail _ (List.Mem.tail _ (List.Mem.head _)))))))))))))))) (sbI_c (List.Mem.tail _ (List.Mem.tail _ (List.Mem.tail _ (List.Mem.tail _ (List.Mem.tail _ (List.Mem.tail _ (List.Mem.tail _ (List.Mem.tail _ (List.Mem.tail _ (List.Mem.tail _ (List.Mem.tail _ (List.Mem.tail _ (List.Mem.tail _ (List.Mem.tail _ (List.Mem.tail _ (List.Mem.tail _ (List.Mem.head _))))))))))))))))) (sbI_c (List.Mem.tail _ (List.Mem.tail _ (List.Mem.tail _ (List.Mem.tail _ (List.Mem.tail _ (List.Mem.tail _ (List.Mem.tail _ (List.Mem.tail _ (List.Mem.tail _ (List.Mem.tail _ (List.Mem.tail _ (List.Mem.tail _ (List.Mem.tail _ (List.Mem.tail _ (List.Mem.tail _ (List.Mem.tail _ (List.Mem.tail _ (List.Mem.head _)))))))))))))))))) (sbI_c (List.Mem.tail _ (List.Mem.head _)) sbI_n))))))
          have rk217_2 : MG hp B hc215 (11) (F) := (rk212_2).fr hp2 mfc216 (Nr.c (by omega) (Nr.c (by omega) (Nr.c (by omega) (Nr.c (by omega) (Nr.c (by omega) Nr.n)))))
          have rk217_3 : MG hp B hc215 (12) (drv hp F) := (rn160).fr hp2 mfc216 (Nr.c (by omega) (Nr.c (by omega) (Nr.c (by omega) (Nr.c (by omega) (Nr.c (by omega) Nr.n)))))
          refine Go.nf (h' := hc215) (st' := []) rfl rfl (Nat.le_refl _) (Nat.le_refl _) ?_
          have hl13 := (rn216_0).lt
          refine g_aload_n 1 dX10_part_170 rfl ?_
          refine g_getf 6 dX10_part_171 kX10 (by decide) fX10_26 (RD.o rk217_0) rfl ?_
          refine g_bipush dX10_part_174 (by decide) ?_
          obtain ⟨dz218, ez218, fz218⟩ := MG.get rn216_0
          refine g_iaload dX10_part_176 ez218 (by omega) (by omega) (by omega) ?_
          rw [fz218]
          refine g_if_le (tgt := 204) dX10_part_177 rfl (by first | assumption | (unfold gW; omega) | (unfold gW; split <;> omega)) (fun c219 => ?_) (fun c219 => ?_)
          · skip
            have hsqF := sq_whole hp hFp (by omega) hmn (by omega) (by omega)
            refine g_aload_n 1 dX10_part_204 rfl ?_
            refine g_iload_n 2 dX10_part_205 rfl ?_
            refine g_callV (nc2 := 0) (ns2 := 0) (ci := 10) (As := [.int (gI (11))]) (st := []) rfl dX10_part_206 okX10_byFixed lX10_226 itX10_byFixed seX10_byFixed rfl (RD.o rk217_0) (by decide) (by decide) rfl (Nat.le_of_ble_eq_true rfl) (sM_byFixed N _ B p hp hp2 h0 hf le fc pn rn hn qn g9 g10 g11 g12 g13 g14 g15 g16 g17 g18 g19 g20 n F F0 hnd ⟨by omega, by omega⟩ hmn hsqF hF0 hF040 hdF H Q ⟨by omega, by omega⟩ hTH hT hLI rk217_0 rk217_2) (by omega) (by omega) (fun v220 hc220 q220 => ?_)
            obtain ⟨rfl, nr221, fc1, Q1, d9, d11, k16, k17, k18, k19, k20, rd221, tb1, tb2, li1, hx1⟩ := q220
            have rk222_1 : NR B [12, 13, 14, 15, 16, 17, 18, 19, 21, 22, 23, 24, 25, 26, 30, 31, 32, 33, 34, 35, 36, 37] h hc220 := NR.tr rk217_1 (NR.mo nr221 (sbI_c (List.Mem.tail _ (List.Mem.tail _ (List.Mem.tail _ (List.Mem.head _)))) (sbI_c (List.Mem.tail _ (List.Mem.tail _ (List.Mem.tail _ (List.Mem.tail _ (List.Mem.head _))))) (sbI_c (List.Mem.tail _ (List.Mem.tail _ (List.Mem.tail _ (List.Mem.tail _ (List.Mem.tail _ (List.Mem.head _)))))) (sbI_c (List.Mem.tail _ (List.Mem.tail _ (List.Mem.tail _ (List.Mem.tail _ (List.Mem.tail _ (List.Mem.tail _ (List.Mem.head _))))))) (sbI_c (List.Mem.tail _ (List.Mem.tail _ (List.Mem.tail _ (List.Mem.tail _ (List.Mem.tail _ (List.Mem.tail _ (List.Mem.tail _ (List.Mem.head _)))))))) (sbI_c (List.Mem.tail _ (List.Mem.tail _ (List.Mem.tail _ (List.Mem.tail _ (List.Mem.tail _ (List.Mem.tail _ (List.Mem.tail _ (List.Mem.tail _ (List.Mem.head _))))))))) (sbI_c (List.Mem.tail _ (List.Mem.tail _ (List.Mem.tail _ (List.Mem.tail _ (List.Mem.tail _ (List.Mem.tail _ (List.Mem.tail _ (List.Mem.tail _ (List.Mem.tail _ (List.Mem.head _)))))))))) (sbI_c (List.Mem.tail _ (List.Mem.tail _ (List.Mem.tail _ (List.Mem.tail _ (List.Mem.tail _ (List.Mem.tail _ (List.Mem.tail _ (List.Mem.tail _ (List.Mem.tail _ (List.Mem.tail _ (List.Mem.head _))))))))))) (sbI_c (List.Mem.tail _ (List.Mem.tail _ (List.Mem.tail _ (List.Mem.tail _ (List.Mem.tail _ (List.Mem.tail _ (List.Mem.tail _ (List.Mem.tail _ (List.Mem.tail _ (List.Mem.tail _ (List.Mem.tail _ (List.Mem.head _)))))))))))) (sbI_c (List.Mem.tail _ (List.Mem.tail _ (List.Mem.tail _ (List.Mem.tail _ (List.Mem.tail _ (List.Mem.tail _ (List.Mem.tail _ (List.Mem.tail _ (List.Mem.tail _ (List.Mem.tail _ (List.Mem.tail _ (List.Mem.tail _ (List.Mem.head _))))))))))))) (sbI_c (List.Mem.tail _ (List.Mem.tail _ (List.Mem.tail _ (List.Mem.tail _ (List.Mem.tail _ (List.Mem.tail _ (List.Mem.tail _ (List.Mem.tail _ (List.Mem.tail _ (List.Mem.tail _ (List.Mem.tail _ (List.Mem.tail _ (List.Mem.tail _ (List.Mem.head _)))))))))))))) (sbI_c (List.Mem.tail _ (List.Mem.tail _ (List.Mem.tail _ (List.Mem.tail _ (List.Mem.tail _ (List.Mem.tail _ (List.Mem.tail _ (List.Mem.tail _ (List.Mem.tail _ (List.Mem.tail _ (List.Mem.tail _ (List.Mem.tail _ (List.Mem.tail _ (List.Mem.tail _ (List.Mem.head _))))))))))))))) (sbI_c (List.Mem.tail _ (List.Mem.tail _ (List.Mem.tail _ (List.Mem.tail _ (List.Mem.tail _ (List.Mem.tail _ (List.Mem.tail _ (List.Mem.tail _ (List.Mem.tail _ (List.Mem.tail _ (List.Mem.tail _ (List.Mem.tail _ (List.Mem.tail _ (List.Mem.tail _ (List.Mem.tail _ (List.Mem.head _)))))))))))))))) (sbI_c (List.Mem.tail _ (List.Mem.tail _ (List.Mem.tail _ (List.Mem.tail _ (List.Mem.tail _ (List.Mem.tail _ (List.Mem.tail _ (List.Mem.tail _ (List.Mem.tail _ (List.Mem.tail _ (List.Mem.tail _ (List.Mem.tail _ (List.Mem.tail _ (List.Mem.tail _ (List.Mem.tail _ (List.Mem.tail _ (List.Mem.head _))))))))))))))))) (sbI_c (List.Mem.tail _ (List.Mem.tail _ (List.Mem.tail _ (List.Mem.tail _ (List.Mem.tail _ (List.Mem.tail _ (List.Mem.tail _ (List.Mem.tail _ (List.Mem.tail _ (List.Mem.tail _ (List.Mem.tail _ (List.Mem.tail _ (List.Mem.tail _ (List.Mem.tail _ (List.Mem.tail _ (List.Mem.tail _ (List.Mem.tail _ (List.Mem.head _)))))))))))))))))) (sbI_c (List.Mem.tail _ (List.Mem.tail _ (List.Mem.tail _ (List.Mem.tail _ (List.Mem.tail _ (List.Mem.tail _ (List.Mem.tail _ (List.Mem.tail _ (List.Mem.tail _ (List.Mem.tail _ (List.Mem.tail _ (List.Mem.tail _ (List.Mem.tail _ (List.Mem.tail _ (List.Mem.tail _ (List.Mem.tail _ (List.Mem.tail _ (List.Mem.tail _ (List.Mem.head _))))))))))))))))))) (sbI_c (List.Mem.tail _ (List.Mem.tail _ (List.Mem.tail _ (List.Mem.tail _ (List.Mem.tail _ (List.Mem.tail _ (List.Mem.tail _ (List.Mem.tail _ (List.Mem.tail _ (List.Mem.tail _ (List.Mem.tail _ (List.Mem.tail _ (List.Mem.tail _ (List.Mem.tail _ (List.Mem.tail _ (List.Mem.tail _ (List.Mem.tail _ (List.Mem.tail _ (List.Mem.tail _ (List.Mem.head _)))))))))))))))))))) (sbI_c (List.Mem.tail _ (List.Mem.tail _ (List.Mem.tail _ (List.Mem.tail _ (List.Mem.tail _ (List.Mem.tail _ (List.Mem.tail _ (List.Mem.tail _ (List.Mem.tail _ (List.Mem.tail _ (List.Mem.tail _ (List.Mem.tail _ (List.Mem.tail _ (List.Mem.tail _ (List.Mem.tail _ (List.Mem.tail _ (List.Mem.tail _ (List.Mem.tail _ (List.Mem.tail _ (List.Mem.tail _ (List.Mem.head _))))))))))))))))))))) (sbI_c (List.Mem.tail _ (List.Mem.tail _ (List.Mem.tail _ (List.Mem.tail _ (List.Mem.tail _ (List.Mem.tail _ (List.Mem.tail _ (List.Mem.tail _ (List.Mem.tail _ (List.Mem.tail _ (List.Mem.tail _ (List.Mem.tail _ (List.Mem.tail _ (List.Mem.tail _ (List.Mem.tail _ (List.Mem.tail _ (List.Mem.tail _ (List.Mem.tail _ (List.Mem.tail _ (List.Mem.tail _ (List.Mem.tail _ (List.Mem.head _)))))))))))))))))))))) sbI_n))))))))))))))))))))
            have rk222_2 : MG hp B hc220 (11) (F) := nr221 p hp (11) _ hp2 (Nr.c (by omega) (Nr.c (by omega) (Nr.c (by omega) (Nr.c (by omega) (Nr.c (by omega) (Nr.c (by omega) (Nr.c (by omega) (Nr.c (by omega) (Nr.c (by omega) (Nr.c (by omega) (Nr.c (by omega) (Nr.c (by omega) (Nr.c (by omega) (Nr.c (by omega) (Nr.c (by omega) (Nr.c (by omega) (Nr.c (by omega) (Nr.c (by omega) (Nr.c (by omega) Nr.n))))))))))))))))))) rk217_2
            have rk222_3 : MG hp B hc220 (12) (drv hp F) := nr221 p hp (12) _ hp2 (Nr.c (by omega) (Nr.c (by omega) (Nr.c (by omega) (Nr.c (by omega) (Nr.c (by omega) (Nr.c (by omega) (Nr.c (by omega) (Nr.c (by omega) (Nr.c (by omega) (Nr.c (by omega) (Nr.c (by omega) (Nr.c (by omega) (Nr.c (by omega) (Nr.c (by omega) (Nr.c (by omega) (Nr.c (by omega) (Nr.c (by omega) (Nr.c (by omega) (Nr.c (by omega) Nr.n))))))))))))))))))) rk217_3
            have rk222_4 : MG hp B hc220 (13) (gP hp (F) (drv hp F)) := nr221 p hp (13) _ hp2 (Nr.c (by omega) (Nr.c (by omega) (Nr.c (by omega) (Nr.c (by omega) (Nr.c (by omega) (Nr.c (by omega) (Nr.c (by omega) (Nr.c (by omega) (Nr.c (by omega) (Nr.c (by omega) (Nr.c (by omega) (Nr.c (by omega) (Nr.c (by omega) (Nr.c (by omega) (Nr.c (by omega) (Nr.c (by omega) (Nr.c (by omega) (Nr.c (by omega) (Nr.c (by omega) Nr.n))))))))))))))))))) rn216_0
            refine Go.nf (h' := hc220) (st' := []) rfl rfl (Nat.le_refl _) (Nat.le_refl _) ?_
            exact g_vret dX10_part_209 rfl ⟨rfl, rk222_1, fc1, Q1, d9, d11, hn, H, k16, k17, k18, k19, k20, rd221, tb1, tb2, li1, (fun i i0 i1 => rfl), (fun i i0 i1 => by omega), Or.inl rfl, (fun x z => (hx1 x).mpr (Or.inl z)), fun x z => Or.inl ((hx1 x).mpr (Or.inr z))⟩
          · skip
            have hq13 := qt_dgi hp hFp hGm.1 (by omega)
            refine g_aload_n 1 dX10_part_180 rfl ?_
            refine g_iload_n 2 dX10_part_181 rfl ?_
            refine g_bipush dX10_part_182 (by decide) ?_
            refine g_bipush dX10_part_184 (by decide) ?_
            refine g_bipush dX10_part_186 (by decide) ?_
            refine g_callV (nc2 := 0) (ns2 := 0) (ci := 10) (As := [.int (gI (11)), .int (gI (13)), .int (gI (14)), .int (gI (15))]) (st := []) rfl dX10_part_188 okX10_divide lX10_176 itX10_divide seX10_divide rfl (RD.o rk217_0) (by decide) (by decide) rfl (Nat.le_of_ble_eq_true rfl) (sM_divide N _ B p hp hp2 _ _ _ _ _ _ _ (11) (13) (14) (15) (by omega) (by omega) (by omega) (by omega) (by omega) (by omega) (F) (gP hp (F) (drv hp F)) (RD.o rk217_0) (RD.ma rk217_0) rk217_2 rn216_0 (by omega)) (by omega) (by omega) (fun v223 hc223 q223 => ?_)
            obtain ⟨rfl, mfc224, rn224_0, rn224_1⟩ := q223
            have rk225_0 : RD B h0 hc223 p hf le fc pn rn hn qn g9 g10 g11 g12 g13 g14 g15 g16 g17 g18 g19 g20 := RD.mf rk217_0 mfc224
            have rk225_1 : NR B [12, 13, 14, 15, 16, 17, 18, 19, 21, 22, 23, 24, 25, 26, 30, 31, 32, 33, 34, 35, 36, 37] h hc223 := NR.tr rk217_1 ((MF.nr mfc224).mo (sbI_c (List.Mem.tail _ (List.Mem.tail _ (List.Mem.tail _ (List.Mem.head _)))) (sbI_c (List.Mem.tail _ (List.Mem.tail _ (List.Mem.head _))) sbI_n)))
            have rk225_2 : MG hp B hc223 (11) (F) := (rk217_2).fr hp2 mfc224 (Nr.c (by omega) (Nr.c (by omega) Nr.n))
            have rk225_3 : MG hp B hc223 (12) (drv hp F) := (rk217_3).fr hp2 mfc224 (Nr.c (by omega) (Nr.c (by omega) Nr.n))
            have rk225_4 : MG hp B hc223 (13) (gP hp (F) (drv hp F)) := (rn216_0).fr hp2 mfc224 (Nr.c (by omega) (Nr.c (by omega) Nr.n))
            refine Go.nf (h' := hc223) (st' := []) rfl rfl (Nat.le_refl _) (Nat.le_refl _) ?_
            refine g_aload_n 1 dX10_part_191 rfl ?_
            refine g_bipush dX10_part_192 (by decide) ?_
            refine g_callV (nc2 := 0) (ns2 := 0) (ci := 10) (As := [.int (gI (13))]) (st := []) rfl dX10_part_194 okX10_push lX10_211 itX10_push seX10_push rfl (RD.o rk225_0) (by decide) (by decide) rfl (Nat.le_of_ble_eq_true rfl) (sM_push N _ B p hp hp2 h0 hf le fc pn rn hn qn g9 g10 g11 g12 g13 g14 g15 g16 g17 g18 g19 g20 13 (by omega) (gP hp (F) (drv hp F)) (by omega) (fun _ => ⟨by omega, by omega⟩) rk225_0 rk225_4) (by omega) (by omega) (fun v226 hc226 q226 => ?_)
            obtain ⟨rfl, nr227, hcs227⟩ := q226
            rcases hcs227 with ⟨hx, _⟩ | ⟨_, rd227⟩
            · exfalso; omega
            have rk228_1 : NR B [12, 13, 14, 15, 16, 17, 18, 19, 21, 22, 23, 24, 25, 26, 30, 31, 32, 33, 34, 35, 36, 37] h hc226 := NR.tr rk225_1 (NR.mo nr227 sbI_n)
            have rk228_2 : MG hp B hc226 (11) (F) := nr227 p hp (11) _ hp2 Nr.n rk225_2
            have rk228_3 : MG hp B hc226 (12) (drv hp F) := nr227 p hp (12) _ hp2 Nr.n rk225_3
            have rk228_4 : MG hp B hc226 (13) (gP hp (F) (drv hp F)) := nr227 p hp (13) _ hp2 Nr.n rk225_4
            have rk228_5 : MG hp B hc226 (15) (rm hp (F) (gP hp (F) (drv hp F))) := nr227 p hp (15) _ hp2 Nr.n rn224_0
            have rk228_6 : MG hp B hc226 (14) (qt hp (F) (gP hp (F) (drv hp F))) := nr227 p hp (14) _ hp2 Nr.n rn224_1
            refine Go.nf (h' := hc226) (st' := []) rfl rfl (Nat.le_refl _) (Nat.le_refl _) ?_
            refine g_aload_n 1 dX10_part_197 rfl ?_
            refine g_bipush dX10_part_198 (by decide) ?_
            refine g_callV (nc2 := 0) (ns2 := 0) (ci := 10) (As := [.int (gI (14))]) (st := []) rfl dX10_part_200 okX10_push lX10_211 itX10_push seX10_push rfl (RD.o rd227) (by decide) (by decide) rfl (Nat.le_of_ble_eq_true rfl) (sM_push N _ B p hp hp2 h0 hf le fc pn rn (hn + 1) qn g9 g10 g11 g12 g13 g14 g15 (gup (g16) (hn) (dgi hp (gP hp (F) (drv hp F)))) (wT (g17) (hn) (gP hp (F) (drv hp F)) 41) g18 g19 g20 14 (by omega) (qt hp (F) (gP hp (F) (drv hp F))) (by omega) (fun _ => ⟨by omega, by omega⟩) rd227 rk228_6) (by omega) (by omega) (fun v229 hc229 q229 => ?_)
            obtain ⟨rfl, nr230, hcs230⟩ := q229
            rcases hcs230 with ⟨hx, _⟩ | ⟨_, rd230⟩
            · exfalso; omega
            have rk231_1 : NR B [12, 13, 14, 15, 16, 17, 18, 19, 21, 22, 23, 24, 25, 26, 30, 31, 32, 33, 34, 35, 36, 37] h hc229 := NR.tr rk228_1 (NR.mo nr230 sbI_n)
            have rk231_2 : MG hp B hc229 (11) (F) := nr230 p hp (11) _ hp2 Nr.n rk228_2
            have rk231_3 : MG hp B hc229 (12) (drv hp F) := nr230 p hp (12) _ hp2 Nr.n rk228_3
            have rk231_4 : MG hp B hc229 (13) (gP hp (F) (drv hp F)) := nr230 p hp (13) _ hp2 Nr.n rk228_4
            have rk231_5 : MG hp B hc229 (15) (rm hp (F) (gP hp (F) (drv hp F))) := nr230 p hp (15) _ hp2 Nr.n rk228_5
            have rk231_6 : MG hp B hc229 (14) (qt hp (F) (gP hp (F) (drv hp F))) := nr230 p hp (14) _ hp2 Nr.n rk228_6
            refine Go.nf (h' := hc229) (st' := []) rfl rfl (Nat.le_refl _) (Nat.le_refl _) ?_
            exact g_vret dX10_part_203 rfl ⟨rfl, rk231_1, fc, Q, g9, g11, hn + 1 + 1, (fun t => if t = hn + 1 then qt hp F (gP hp F (drv hp F)) else (fun t => if t = hn then gP hp F (drv hp F) else H t) t), _, _, _, _, _, rd230, hT, TB.put (TB.put hTH (by omega) (Int.le_refl _) hGm.1 (by omega) (m := hn + 1) (Or.inr ⟨rfl, rfl⟩) (by omega)) (by omega) (Int.le_refl _) a1 (by omega) (m := hn + 1 + 1) (Or.inr ⟨rfl, rfl⟩) (by omega), hLI, (fun i i0 i1 => by
                                                                      dsimp only
                                                                      rw [if_neg (by omega), if_neg (by omega)]), (fun i i0 i1 => by
                                                                      dsimp only
                                                                      by_cases y : i = hn + 1
                                                                      · rw [if_pos y]; exact ⟨a3, by omega, _, hGm.1, a2⟩
                                                                      · rw [if_neg y, if_pos (by omega)]; exact ⟨hGm.2.2.2.2, by omega, a8⟩), Or.inr (Or.inr ⟨by omega, by
                                                                      dsimp only
                                                                      rw [if_neg (by omega), if_pos rfl, if_pos rfl]; omega⟩), (fun x z => z), fun x z => Or.inr (by
                                                                      have z3 := z.2.2
                                                                      rw [a2] at z3
                                                                      rcases irr_prime (fld_p hp) z.1 hGm.1 a1 z3 with y | y
                                                                      · exact ⟨hn, by omega, by omega, by dsimp only; rw [if_neg (by omega), if_pos rfl]; exact y⟩
                                                                      · exact ⟨hn + 1, by omega, by omega, by dsimp only; rw [if_pos rfl]; exact y⟩)⟩
        · skip
          refine g_aload_n 1 dX10_part_92 rfl ?_
          refine g_bipush dX10_part_93 (by decide) ?_
          refine g_iconst dX10_part_95 ?_
          refine g_callV (nc2 := 0) (ns2 := 0) (ci := 10) (As := [.int (gI (13)), .int (gI (0))]) (st := []) rfl dX10_part_96 okX10_be lX10_170 itX10_be seX10_be rfl (RD.o rk212_0) (by decide) (by decide) rfl (Nat.le_of_ble_eq_true rfl) (sM_be N _ B p hp hp2 _ _ _ _ _ _ _ (13) (0) (by omega) (by omega) (by omega) (RD.o rk212_0) (RD.ma rk212_0)) (by omega) (by omega) (fun v232 hc232 q232 => ?_)
          obtain ⟨rfl, mfc233, rn233_0⟩ := q232
          have rk234_0 : RD B h0 hc232 p hf le fc pn rn hn qn g9 g10 g11 g12 g13 g14 g15 g16 g17 g18 g19 g20 := RD.mf rk212_0 mfc233
          have rk234_1 : NR B [12, 13, 14, 15, 16, 17, 18, 19, 21, 22, 23, 24, 25, 26, 30, 31, 32, 33, 34, 35, 36, 37] h hc232 := NR.tr rk212_1 ((MF.nr mfc233).mo (sbI_c (List.Mem.tail _ (List.Mem.head _)) sbI_n))
          have rk234_2 : MG hp B hc232 (11) (F) := (rk212_2).fr hp2 mfc233 (Nr.c (by omega) Nr.n)
          have rk234_3 : MG hp B hc232 (12) (drv hp F) := (rn160).fr hp2 mfc233 (Nr.c (by omega) Nr.n)
          refine Go.nf (h' := hc232) (st' := []) rfl rfl (Nat.le_refl _) (Nat.le_refl _) ?_
          have hzE := rn233_0
          obtain ⟨hr1, hr2, hr3, hr4, hr5⟩ := rt_mnc hp hFp (by omega) (by omega) hmn
          have hr6 : 2 * dgi hp (rtP F) ≤ p * dgi hp (rtP F) := Int.mul_le_mul_of_nonneg_right (by omega) hr4
          have hr7 : 1 ≤ dgi hp (rtP F) := by
                                                                      rcases Int.lt_or_le (dgi hp (rtP F)) 1 with z | z
                                                                      · rw [show dgi hp (rtP F) = 0 by omega, Int.mul_zero] at hr5; omega
                                                                      · exact z
          obtain ⟨RE, dE, huE, hvE, hRE, hDE⟩ := (RD.ma rk234_0)
          have hat235 := (rk234_2).at huE hvE hRE hDE
          have hat236 := (rk234_3).at huE hvE hRE hDE
          have hat237 := (rn233_0).at huE hvE hRE hDE
          refine g_iconst dX10_part_99 ?_
          refine g_istore_n (ls2 := [(2, .int (gI (0))), (0, .ref (B)), (1, .int (gI (11)))]) dX10_part_100 rfl (by decide) rfl ?_
          have lp : ∀ (kk : Nat) (i : Int) (j : Int) (hlp : GH), kk = (70000 - i).toNat → Fr [B + 5] hc232 hlp → hlp.2 (B + 5) = some (aI 8000 (ar (gup RE 13 (gF (RE 13) (cf (rtP F)) j)))) → hlp.2 (B + 6) = some (aI 40 (dE)) → (0 ≤ i ∧ i ≤ n + p) → (i = j * p) → (0 ≤ j ∧ j ≤ i ∧ (0 < j → j * p ≤ n + p ∧ (j - 1) * p ≤ n)) → Go N mX10_part (fun v h1 => v = none ∧ NR B [12, 13, 14, 15, 16, 17, 18, 19, 21, 22, 23, 24, 25, 26, 30, 31, 32, 33, 34, 35, 36, 37] h h1 ∧ ∃ fc1 Q1 d9 d11 hn1 H1 k16 k17 k18 k19 k20, RD B h0 h1 p hf le fc1 pn rn hn1 qn d9 g10 d11 g12 g13 g14 g15 k16 k17 k18 k19 k20 ∧ TB hp d9 d11 fc1 Q1 ∧ TB hp k16 k17 hn1 H1 ∧ LI hp F0 fc1 Q1 ∧ ptR hp F hn hn1 H H1 fc fc1 Q Q1) 0 0 hlp 101 [(2, .int (gI (i))), (0, .ref (B)), (1, .int (gI (11)))] [] := by
            refine Go.ind (fun kk ih_lp => ?_)
            intro i j hlp hkk_lp fr_lp cf_lp_0 cf_lp_1 hi_ hij hj_
            have cg_lp_0 : hlp.2 (B) = some (mO B ((p : Int)) (hf) (le) (fc) (pn) (rn) (hn) (qn)) := Fr.at0 fr_lp (Ni.c ⟨neA, neB⟩ (Ni.n _)) (RD.o rk234_0)
            have cg_lp_1 : hlp.2 (B + 9) = some (aI 41 (g9)) := Fr.at0 fr_lp (Ni.c ⟨(show NE (B + 9) (B + 5) by unfold NE; omega), (show NE (B + 9) (B + 6) by unfold NE; omega)⟩ (Ni.n _)) (RD.t9 rk234_0)
            have cg_lp_2 : hlp.2 (B + 10) = some (aI 41 (g10)) := Fr.at0 fr_lp (Ni.c ⟨(show NE (B + 10) (B + 5) by unfold NE; omega), (show NE (B + 10) (B + 6) by unfold NE; omega)⟩ (Ni.n _)) (RD.t10 rk234_0)
            have cg_lp_3 : hlp.2 (B + 11) = some (aI 1681 (g11)) := Fr.at0 fr_lp (Ni.c ⟨(show NE (B + 11) (B + 5) by unfold NE; omega), (show NE (B + 11) (B + 6) by unfold NE; omega)⟩ (Ni.n _)) (RD.t11 rk234_0)
            have cg_lp_4 : hlp.2 (B + 12) = some (aI 41 (g12)) := Fr.at0 fr_lp (Ni.c ⟨(show NE (B + 12) (B + 5) by unfold NE; omega), (show NE (B + 12) (B + 6) by unfold NE; omega)⟩ (Ni.n _)) (RD.t12 rk234_0)
            have cg_lp_5 : hlp.2 (B + 13) = some (aI 41 (g13)) := Fr.at0 fr_lp (Ni.c ⟨(show NE (B + 13) (B + 5) by unfold NE; omega), (show NE (B + 13) (B + 6) by unfold NE; omega)⟩ (Ni.n _)) (RD.t13 rk234_0)
            have cg_lp_6 : hlp.2 (B + 14) = some (aI 1681 (g14)) := Fr.at0 fr_lp (Ni.c ⟨(show NE (B + 14) (B + 5) by unfold NE; omega), (show NE (B + 14) (B + 6) by unfold NE; omega)⟩ (Ni.n _)) (RD.t14 rk234_0)
            have cg_lp_7 : hlp.2 (B + 15) = some (aI 41 (g15)) := Fr.at0 fr_lp (Ni.c ⟨(show NE (B + 15) (B + 5) by unfold NE; omega), (show NE (B + 15) (B + 6) by unfold NE; omega)⟩ (Ni.n _)) (RD.t15 rk234_0)
            have cg_lp_8 : hlp.2 (B + 16) = some (aI 100 (g16)) := Fr.at0 fr_lp (Ni.c ⟨(show NE (B + 16) (B + 5) by unfold NE; omega), (show NE (B + 16) (B + 6) by unfold NE; omega)⟩ (Ni.n _)) (RD.t16 rk234_0)
            have cg_lp_9 : hlp.2 (B + 17) = some (aI 4100 (g17)) := Fr.at0 fr_lp (Ni.c ⟨(show NE (B + 17) (B + 5) by unfold NE; omega), (show NE (B + 17) (B + 6) by unfold NE; omega)⟩ (Ni.n _)) (RD.t17 rk234_0)
            have cg_lp_10 : hlp.2 (B + 18) = some (aI 1681 (g18)) := Fr.at0 fr_lp (Ni.c ⟨(show NE (B + 18) (B + 5) by unfold NE; omega), (show NE (B + 18) (B + 6) by unfold NE; omega)⟩ (Ni.n _)) (RD.t18 rk234_0)
            have cg_lp_11 : hlp.2 (B + 19) = some (aI 41 (g19)) := Fr.at0 fr_lp (Ni.c ⟨(show NE (B + 19) (B + 5) by unfold NE; omega), (show NE (B + 19) (B + 6) by unfold NE; omega)⟩ (Ni.n _)) (RD.t19 rk234_0)
            have cg_lp_12 : hlp.2 (B + 20) = some (aI 1681 (g20)) := Fr.at0 fr_lp (Ni.c ⟨(show NE (B + 20) (B + 5) by unfold NE; omega), (show NE (B + 20) (B + 6) by unfold NE; omega)⟩ (Ni.n _)) (RD.t20 rk234_0)
            refine g_iload_n 0 dX10_part_101 rfl ?_
            refine g_aload_n 1 dX10_part_102 rfl ?_
            refine g_getf 6 dX10_part_103 kX10 (by decide) fX10_26 cg_lp_0 rfl ?_
            refine g_iload_n 2 dX10_part_106 rfl ?_
            refine g_iaload dX10_part_107 cf_lp_1 (by omega) (by omega) (by omega) ?_
            rw [show (dE) (11) = n from hat235.1.trans hnd]
            refine g_icmp_gt (tgt := 148) dX10_part_108 rfl (by first | assumption | (unfold gW; omega) | (unfold gW; split <;> omega)) (by first | assumption | (unfold gW; omega) | (unfold gW; split <;> omega)) (fun c388 => ?_) (fun c388 => ?_)
            · skip
              refine g_aload_n 1 dX10_part_148 rfl ?_
              refine g_bipush dX10_part_149 (by decide) ?_
              refine g_callV (nc2 := 0) (ns2 := 0) (ci := 10) (As := [.int (gI (13))]) (st := []) rfl dX10_part_151 okX10_measure lX10_164 itX10_measure seX10_measure rfl cg_lp_0 (by decide) (by decide) rfl (Nat.le_of_ble_eq_true rfl) (sM_measure N _ B p hp hp2 _ _ _ _ _ _ _ (13) (by omega) cg_lp_0 ((gup RE 13 (gF (RE 13) (cf (rtP F)) j))) (dE) (rtP F) cf_lp_0 cf_lp_1 (fun k k0 k1 => by
                                                                      rw [gup_s]; unfold gF
                                                                      split
                                                                      · exact cf_in _ hp _
                                                                      · rw [(hzE.at huE hvE hRE hDE).2 k k0 k1]; exact cf_in _ hp _) (by
                                                                      rw [gup_s]
                                                                      refine (ph_cf hp hr1 (d := 199) (by omega)).symm.trans (ph_cg hp (fun k k0 k1 => ?_))
                                                                      unfold gF
                                                                      by_cases z : 0 ≤ k ∧ k < j
                                                                      · rw [if_pos z]
                                                                      · have h8 : j * p ≤ k * p := Int.mul_le_mul_of_nonneg_right (by omega) (by omega)
                                                                        have h9 : dgi hp (rtP F) < k := by
                                                                          rcases Int.lt_or_le (dgi hp (rtP F)) k with y | y
                                                                          · exact y
                                                                          · exfalso
                                                                            have h7 : k * p ≤ dgi hp (rtP F) * p := Int.mul_le_mul_of_nonneg_right y (by omega)
                                                                            rw [Int.mul_comm (dgi hp (rtP F)), ← hr5] at h7
                                                                            omega
                                                                        rw [if_neg z, (hzE.at huE hvE hRE hDE).2 k k0 (by omega), cf_hi hp hr1 h9, cf_hi hp (cz_po hp _) (by
                                                                          have : dgi hp (cz hp (zi hp 0)) = -1 := by rw [cz_z0]; exact dgi_0 hp
                                                                          omega)])) (by omega) (by omega) (fun v389 hc389 q389 => ?_)
              obtain ⟨rfl, mfc390, rn390⟩ := q389
              have mfd390 : MF B [] [13] hc232 hc389 := (MF.one (r := 13) fr_lp huE hvE hRE hDE cf_lp_0 cf_lp_1 (fun s hs => gup_n _ _ hs) (fun _ _ => rfl)).tr mfc390
              have fk391_0 : hc389.2 (B) = some (mO B ((p : Int)) (hf) (le) (fc) (pn) (rn) (hn) (qn)) := Fr.at0 mfc390.1 (Ni.c ⟨neA, neB⟩ (Ni.n _)) cg_lp_0
              have fk391_1 : hc389.2 (B + 9) = some (aI 41 (g9)) := Fr.at0 mfc390.1 (Ni.c ⟨(show NE (B + 9) (B + 5) by unfold NE; omega), (show NE (B + 9) (B + 6) by unfold NE; omega)⟩ (Ni.n _)) cg_lp_1
              have fk391_2 : hc389.2 (B + 10) = some (aI 41 (g10)) := Fr.at0 mfc390.1 (Ni.c ⟨(show NE (B + 10) (B + 5) by unfold NE; omega), (show NE (B + 10) (B + 6) by unfold NE; omega)⟩ (Ni.n _)) cg_lp_2
              have fk391_3 : hc389.2 (B + 11) = some (aI 1681 (g11)) := Fr.at0 mfc390.1 (Ni.c ⟨(show NE (B + 11) (B + 5) by unfold NE; omega), (show NE (B + 11) (B + 6) by unfold NE; omega)⟩ (Ni.n _)) cg_lp_3
              have fk391_4 : hc389.2 (B + 12) = some (aI 41 (g12)) := Fr.at0 mfc390.1 (Ni.c ⟨(show NE (B + 12) (B + 5) by unfold NE; omega), (show NE (B + 12) (B + 6) by unfold NE; omega)⟩ (Ni.n _)) cg_lp_4
              have fk391_5 : hc389.2 (B + 13) = some (aI 41 (g13)) := Fr.at0 mfc390.1 (Ni.c ⟨(show NE (B + 13) (B + 5) by unfold NE; omega), (show NE (B + 13) (B + 6) by unfold NE; omega)⟩ (Ni.n _)) cg_lp_5
              have fk391_6 : hc389.2 (B + 14) = some (aI 1681 (g14)) := Fr.at0 mfc390.1 (Ni.c ⟨(show NE (B + 14) (B + 5) by unfold NE; omega), (show NE (B + 14) (B + 6) by unfold NE; omega)⟩ (Ni.n _)) cg_lp_6
              have fk391_7 : hc389.2 (B + 15) = some (aI 41 (g15)) := Fr.at0 mfc390.1 (Ni.c ⟨(show NE (B + 15) (B + 5) by unfold NE; omega), (show NE (B + 15) (B + 6) by unfold NE; omega)⟩ (Ni.n _)) cg_lp_7
              have fk391_8 : hc389.2 (B + 16) = some (aI 100 (g16)) := Fr.at0 mfc390.1 (Ni.c ⟨(show NE (B + 16) (B + 5) by unfold NE; omega), (show NE (B + 16) (B + 6) by unfold NE; omega)⟩ (Ni.n _)) cg_lp_8
              have fk391_9 : hc389.2 (B + 17) = some (aI 4100 (g17)) := Fr.at0 mfc390.1 (Ni.c ⟨(show NE (B + 17) (B + 5) by unfold NE; omega), (show NE (B + 17) (B + 6) by unfold NE; omega)⟩ (Ni.n _)) cg_lp_9
              have fk391_10 : hc389.2 (B + 18) = some (aI 1681 (g18)) := Fr.at0 mfc390.1 (Ni.c ⟨(show NE (B + 18) (B + 5) by unfold NE; omega), (show NE (B + 18) (B + 6) by unfold NE; omega)⟩ (Ni.n _)) cg_lp_10
              have fk391_11 : hc389.2 (B + 19) = some (aI 41 (g19)) := Fr.at0 mfc390.1 (Ni.c ⟨(show NE (B + 19) (B + 5) by unfold NE; omega), (show NE (B + 19) (B + 6) by unfold NE; omega)⟩ (Ni.n _)) cg_lp_11
              have fk391_12 : hc389.2 (B + 20) = some (aI 1681 (g20)) := Fr.at0 mfc390.1 (Ni.c ⟨(show NE (B + 20) (B + 5) by unfold NE; omega), (show NE (B + 20) (B + 6) by unfold NE; omega)⟩ (Ni.n _)) cg_lp_12
              have fr391 : Fr [B + 5] hc232 hc389 := (fr_lp).tr ((mfc390.1).mo (sub_c (List.Mem.head _) sub_n))
              refine Go.nf (h' := hc389) (st' := []) rfl rfl (Nat.le_refl _) (Nat.le_refl _) ?_
              have rk442_0 : RD B h0 hc389 p hf le fc pn rn hn qn g9 g10 g11 g12 g13 g14 g15 g16 g17 g18 g19 g20 := RD.mf rk234_0 mfd390
              have rk442_1 : NR B [12, 13, 14, 15, 16, 17, 18, 19, 21, 22, 23, 24, 25, 26, 30, 31, 32, 33, 34, 35, 36, 37] h hc389 := NR.tr rk234_1 ((MF.nr mfd390).mo (sbI_c (List.Mem.tail _ (List.Mem.head _)) sbI_n))
              have rk442_2 : MG hp B hc389 (11) (F) := (rk234_2).fr hp2 mfd390 (Nr.c (by omega) Nr.n)
              have rk442_3 : MG hp B hc389 (12) (drv hp F) := (rk234_3).fr hp2 mfd390 (Nr.c (by omega) Nr.n)
              refine g_aload_n 1 dX10_part_154 rfl ?_
              refine g_bipush dX10_part_155 (by decide) ?_
              refine g_callV (nc2 := 0) (ns2 := 0) (ci := 10) (As := [.int (gI (13))]) (st := []) rfl dX10_part_157 okX10_push lX10_211 itX10_push seX10_push rfl (RD.o rk442_0) (by decide) (by decide) rfl (Nat.le_of_ble_eq_true rfl) (sM_push N _ B p hp hp2 h0 hf le fc pn rn hn qn g9 g10 g11 g12 g13 g14 g15 g16 g17 g18 g19 g20 13 (by omega) (rtP F) (by omega) (fun _ => ⟨by omega, by omega⟩) rk442_0 rn390) (by omega) (by omega) (fun v443 hc443 q443 => ?_)
              obtain ⟨rfl, nr444, hcs444⟩ := q443
              rcases hcs444 with ⟨hx, _⟩ | ⟨_, rd444⟩
              · exfalso; omega
              have rk445_1 : NR B [12, 13, 14, 15, 16, 17, 18, 19, 21, 22, 23, 24, 25, 26, 30, 31, 32, 33, 34, 35, 36, 37] h hc443 := NR.tr rk442_1 (NR.mo nr444 sbI_n)
              have rk445_2 : MG hp B hc443 (11) (F) := nr444 p hp (11) _ hp2 Nr.n rk442_2
              have rk445_3 : MG hp B hc443 (12) (drv hp F) := nr444 p hp (12) _ hp2 Nr.n rk442_3
              have rk445_4 : MG hp B hc443 (13) (rtP F) := nr444 p hp (13) _ hp2 Nr.n rn390
              refine Go.nf (h' := hc443) (st' := []) rfl rfl (Nat.le_refl _) (Nat.le_refl _) ?_
              exact g_vret dX10_part_160 rfl ⟨rfl, rk445_1, fc, Q, g9, g11, hn + 1, (fun t => if t = hn then rtP F else H t), _, _, _, _, _, rd444, hT, TB.put hTH (by omega) (Int.le_refl _) hr1 (by omega) (Or.inr ⟨rfl, rfl⟩) (by omega), hLI, (fun i i0 i1 => if_neg (by omega)), (fun i i0 i1 => by
                                                                      dsimp only
                                                                      rw [if_pos (by omega)]
                                                                      refine ⟨hr3, by omega, ?_⟩
                                                                      letI := pR hp
                                                                      rw [hr2]
                                                                      have e9 := dv_pw_le hp hr1 (show 1 ≤ p by omega)
                                                                      rw [pw_1 hp] at e9; rw [← hr2] at e9 ⊢; exact e9), Or.inr (Or.inl ⟨rfl, by
                                                                      dsimp only
                                                                      rw [if_pos rfl]; omega⟩), (fun x z => z), fun x z => Or.inr ⟨hn, by omega, by omega, by
                                                                      dsimp only
                                                                      rw [if_pos rfl]
                                                                      letI := pR hp
                                                                      have hdS := dgi_dg hp hr1 hr4
                                                                      have h7 := (ml_dv hp z.1 (pw_dg hp hdS p)).mp (by rw [← hr2]; exact z.2.2)
                                                                      rw [ml_pw hp z.1 hdS] at h7
                                                                      refine (ml_dv hp z.1 hdS).mpr ?_
                                                                      rcases Nat.eq_zero_or_pos (mlt hp x (rtP F)) with y | y
                                                                      · rw [y, Nat.mul_zero] at h7; omega
                                                                      · exact y⟩⟩
            · skip
              refine g_aload_n 1 dX10_part_111 rfl ?_
              refine g_getf 5 dX10_part_112 kX10 (by decide) fX10_23 cg_lp_0 rfl ?_
              refine g_sipush dX10_part_115 (by decide) ?_
              refine g_iload_n 0 dX10_part_118 rfl ?_
              refine g_aload_n 1 dX10_part_119 rfl ?_
              refine g_getf 0 dX10_part_120 kX10 (by decide) fX10_78 cg_lp_0 rfl ?_
              refine g_idiv dX10_part_123 (by omega) (by omega) (by omega) (by omega) ?_
              have hjd : (i) / ((p : Int)) = j := by
                                                                      rw [hij]; exact Int.mul_ediv_cancel j (by omega)
              rw [hjd]
              refine g_iadd dX10_part_124 ?_
              refine g_aload_n 1 dX10_part_125 rfl ?_
              refine g_getf 5 dX10_part_126 kX10 (by decide) fX10_23 cg_lp_0 rfl ?_
              refine g_sipush dX10_part_129 (by decide) ?_
              refine g_iload_n 2 dX10_part_132 rfl ?_
              refine g_imul dX10_part_133 ?_
              refine g_iload_n 0 dX10_part_134 rfl ?_
              refine g_iadd dX10_part_135 ?_
              refine g_iaload dX10_part_136 cf_lp_0 (by omega) (by omega) (by omega) ?_
              have hq_ : (ar (gup RE 13 (gF (RE 13) (cf (rtP F)) j))) (((200) * (11)) + (i)) = cf (rtP F) j := by
                                                                      rw [ar_r _ (by omega) (by omega), gup_n _ _ (by omega), hat235.2 i (by omega) (by omega), hij]
                                                                      unfold cf rtP
                                                                      rw [if_pos (by rw [← hij]; omega), if_pos (by omega), Int.toNat_mul (by omega) (by omega), Int.toNat_natCast]
              rw [hq_]
              refine g_iastore dX10_part_137 cf_lp_0 (by omega) (by omega) (by omega) ?_
              obtain ⟨hh446, eh446⟩ : ∃ z : GH, z = hset hlp (B + 5) (aI 8000 (gup (ar (gup RE 13 (gF (RE 13) (cf (rtP F)) j))) ((2600) + (j)) (cf (rtP F) j))) := ⟨_, rfl⟩
              refine Go.hp eh446.symm ?_
              have fh446_0 : hh446.2 (B) = some (mO B ((p : Int)) (hf) (le) (fc) (pn) (rn) (hn) (qn)) := hs_n eh446 neA cg_lp_0
              have fh446_1 : hh446.2 (B + 9) = some (aI 41 (g9)) := hs_n eh446 (show NE (B + 9) (B + 5) by unfold NE; omega) cg_lp_1
              have fh446_2 : hh446.2 (B + 10) = some (aI 41 (g10)) := hs_n eh446 (show NE (B + 10) (B + 5) by unfold NE; omega) cg_lp_2
              have fh446_3 : hh446.2 (B + 11) = some (aI 1681 (g11)) := hs_n eh446 (show NE (B + 11) (B + 5) by unfold NE; omega) cg_lp_3
              have fh446_4 : hh446.2 (B + 12) = some (aI 41 (g12)) := hs_n eh446 (show NE (B + 12) (B + 5) by unfold NE; omega) cg_lp_4
              have fh446_5 : hh446.2 (B + 13) = some (aI 41 (g13)) := hs_n eh446 (show NE (B + 13) (B + 5) by unfold NE; omega) cg_lp_5
              have fh446_6 : hh446.2 (B + 14) = some (aI 1681 (g14)) := hs_n eh446 (show NE (B + 14) (B + 5) by unfold NE; omega) cg_lp_6
              have fh446_7 : hh446.2 (B + 15) = some (aI 41 (g15)) := hs_n eh446 (show NE (B + 15) (B + 5) by unfold NE; omega) cg_lp_7
              have fh446_8 : hh446.2 (B + 16) = some (aI 100 (g16)) := hs_n eh446 (show NE (B + 16) (B + 5) by unfold NE; omega) cg_lp_8
              have fh446_9 : hh446.2 (B + 17) = some (aI 4100 (g17)) := hs_n eh446 (show NE (B + 17) (B + 5) by unfold NE; omega) cg_lp_9
              have fh446_10 : hh446.2 (B + 18) = some (aI 1681 (g18)) := hs_n eh446 (show NE (B + 18) (B + 5) by unfold NE; omega) cg_lp_10
              have fh446_11 : hh446.2 (B + 19) = some (aI 41 (g19)) := hs_n eh446 (show NE (B + 19) (B + 5) by unfold NE; omega) cg_lp_11
              have fh446_12 : hh446.2 (B + 20) = some (aI 1681 (g20)) := hs_n eh446 (show NE (B + 20) (B + 5) by unfold NE; omega) cg_lp_12
              have fh446_13 : hh446.2 (B + 5) = some (aI 8000 (gup (ar (gup RE 13 (gF (RE 13) (cf (rtP F)) j))) ((2600) + (j)) (cf (rtP F) j))) := hs_s eh446
              have fh446_14 : hh446.2 (B + 6) = some (aI 40 (dE)) := hs_n eh446 (neC).s cf_lp_1
              have fr446 : Fr [B + 5] hc232 hh446 := Fr.w0 fr_lp (List.Mem.head _) eh446
              refine g_iload_n 0 dX10_part_138 rfl ?_
              refine g_aload_n 1 dX10_part_139 rfl ?_
              refine g_getf 0 dX10_part_140 kX10 (by decide) fX10_78 fh446_0 rfl ?_
              refine g_iadd dX10_part_143 ?_
              refine g_istore_n (ls2 := [(2, .int (gI ((i) + ((p : Int))))), (0, .ref (B)), (1, .int (gI (11)))]) dX10_part_144 rfl (by decide) rfl ?_
              refine g_goto (tgt := 101) dX10_part_145 rfl ?_
              exact ih_lp _ (by omega) (i + (p : Int)) (j + 1) hh446 rfl fr446 (by rw [← gF_s (RE 13) (cf (rtP F)) hj_.1, ← ar_wg RE _ hj_.1 (by omega)]; exact fh446_13) fh446_14 (by omega) (by rw [Int.add_mul, hij, Int.one_mul]) (⟨by omega, by omega, fun z => ⟨by rw [Int.add_mul, ← hij, Int.one_mul]; omega, by rw [show j + 1 - 1 = j by omega, ← hij]; omega⟩⟩)
          exact lp _ (0) (0) hc232 rfl (Fr.rf [B + 5] hc232) (by rw [gF_0, gup_id]; exact hRE) hDE (by omega) (by rw [Int.zero_mul]) (⟨by omega, by omega, fun z => by omega⟩)
      · skip
        refine g_aload_n 1 dX10_part_35 rfl ?_
        refine g_getf 5 dX10_part_36 kX10 (by decide) fX10_23 cg_lo_0 rfl ?_
        refine g_sipush dX10_part_39 (by decide) ?_
        refine g_iload_n 0 dX10_part_42 rfl ?_
        refine g_iadd dX10_part_43 ?_
        refine g_iconst dX10_part_44 ?_
        refine g_isub dX10_part_45 ?_
        refine g_iload_n 0 dX10_part_46 rfl ?_
        refine g_i2l dX10_part_47 (by first | assumption | (unfold gW; omega) | (unfold gW; split <;> omega)) ?_
        refine g_aload_n 1 dX10_part_48 rfl ?_
        refine g_getf 5 dX10_part_49 kX10 (by decide) fX10_23 cg_lo_0 rfl ?_
        refine g_sipush dX10_part_52 (by decide) ?_
        refine g_iload_n 2 dX10_part_55 rfl ?_
        refine g_imul dX10_part_56 ?_
        refine g_iload_n 0 dX10_part_57 rfl ?_
        refine g_iadd dX10_part_58 ?_
        refine g_iaload dX10_part_59 cf_lo_0 (by omega) (by omega) (by omega) ?_
        have hq_ : (ar (gup Ry 12 (gF (Ry 12) (cf (drv hp F)) (i - 1)))) (((200) * (11)) + (i)) = cf F i := by
                                                                      rw [ar_r _ (by omega) (by omega), gup_n _ _ (by omega)]; exact hat6.2 i (by omega) (by omega)
        rw [hq_]
        have hci := cf_in F hp i
        refine g_i2l dX10_part_60 (by first | assumption | (unfold gW; omega) | (unfold gW; split <;> omega)) ?_
        refine g_lmul dX10_part_61 ?_
        refine g_aload_n 1 dX10_part_62 rfl ?_
        refine g_getf 0 dX10_part_63 kX10 (by decide) fX10_78 cg_lo_0 rfl ?_
        refine g_i2l dX10_part_66 (by first | assumption | (unfold gW; omega) | (unfold gW; split <;> omega)) ?_
        have hmi : 0 ≤ i * cf F i ∧ i * cf F i ≤ 200 * 65536 := ⟨Int.mul_nonneg (by omega) hci.1, Int.mul_le_mul (by omega) (by omega) hci.1 (by omega)⟩
        refine g_lrem dX10_part_67 (by unfold gX; omega) (by unfold gX; omega) (by omega) ?_
        have hq2 : ((i) * (cf F i)).tmod ((p : Int)) = cf (drv hp F) (i - 1) := by
                                                                      rw [Int.tmod_eq_emod_of_nonneg hmi.1]
                                                                      refine cf_of hp (emod_in hp _) (by omega) ?_
                                                                      letI := fR hp
                                                                      show _ = zi hp (((i - 1).toNat : Int) + 1) * F ((i - 1).toNat + 1)
                                                                      rw [zi_mod, zi_mul, show (((i - 1).toNat : Nat) : Int) + 1 = i by omega, show (i - 1).toNat + 1 = i.toNat by omega]
                                                                      have e9 := cf_zi hp F i.toNat
                                                                      rw [show ((i.toNat : Nat) : Int) = i by omega] at e9
                                                                      rw [e9]
        rw [hq2]
        refine g_l2i dX10_part_68 ?_
        refine g_iastore dX10_part_69 cf_lo_0 (by omega) (by omega) (by omega) ?_
        obtain ⟨hh547, eh547⟩ : ∃ z : GH, z = hset hlo (B + 5) (aI 8000 (gup (ar (gup Ry 12 (gF (Ry 12) (cf (drv hp F)) (i - 1)))) (((2400) + (i)) - (1)) (cf (drv hp F) (i - 1)))) := ⟨_, rfl⟩
        refine Go.hp eh547.symm ?_
        have fh547_0 : hh547.2 (B) = some (mO B ((p : Int)) (hf) (le) (fc) (pn) (rn) (hn) (qn)) := hs_n eh547 neA cg_lo_0
        have fh547_1 : hh547.2 (B + 9) = some (aI 41 (g9)) := hs_n eh547 (show NE (B + 9) (B + 5) by unfold NE; omega) cg_lo_1
        have fh547_2 : hh547.2 (B + 10) = some (aI 41 (g10)) := hs_n eh547 (show NE (B + 10) (B + 5) by unfold NE; omega) cg_lo_2
        have fh547_3 : hh547.2 (B + 11) = some (aI 1681 (g11)) := hs_n eh547 (show NE (B + 11) (B + 5) by unfold NE; omega) cg_lo_3
        have fh547_4 : hh547.2 (B + 12) = some (aI 41 (g12)) := hs_n eh547 (show NE (B + 12) (B + 5) by unfold NE; omega) cg_lo_4
        have fh547_5 : hh547.2 (B + 13) = some (aI 41 (g13)) := hs_n eh547 (show NE (B + 13) (B + 5) by unfold NE; omega) cg_lo_5
        have fh547_6 : hh547.2 (B + 14) = some (aI 1681 (g14)) := hs_n eh547 (show NE (B + 14) (B + 5) by unfold NE; omega) cg_lo_6
        have fh547_7 : hh547.2 (B + 15) = some (aI 41 (g15)) := hs_n eh547 (show NE (B + 15) (B + 5) by unfold NE; omega) cg_lo_7
        have fh547_8 : hh547.2 (B + 16) = some (aI 100 (g16)) := hs_n eh547 (show NE (B + 16) (B + 5) by unfold NE; omega) cg_lo_8
        have fh547_9 : hh547.2 (B + 17) = some (aI 4100 (g17)) := hs_n eh547 (show NE (B + 17) (B + 5) by unfold NE; omega) cg_lo_9
        have fh547_10 : hh547.2 (B + 18) = some (aI 1681 (g18)) := hs_n eh547 (show NE (B + 18) (B + 5) by unfold NE; omega) cg_lo_10
        have fh547_11 : hh547.2 (B + 19) = some (aI 41 (g19)) := hs_n eh547 (show NE (B + 19) (B + 5) by unfold NE; omega) cg_lo_11
        have fh547_12 : hh547.2 (B + 20) = some (aI 1681 (g20)) := hs_n eh547 (show NE (B + 20) (B + 5) by unfold NE; omega) cg_lo_12
        have fh547_13 : hh547.2 (B + 5) = some (aI 8000 (gup (ar (gup Ry 12 (gF (Ry 12) (cf (drv hp F)) (i - 1)))) (((2400) + (i)) - (1)) (cf (drv hp F) (i - 1)))) := hs_s eh547
        have fh547_14 : hh547.2 (B + 6) = some (aI 40 (dy)) := hs_n eh547 (neC).s cf_lo_1
        have fr547 : Fr [B + 5] hc3 hh547 := Fr.w0 fr_lo (List.Mem.head _) eh547
        refine g_iinc 0 (ls2 := [(2, .int (gI (i + 1))), (0, .ref (B)), (1, .int (gI (11)))]) dX10_part_70 rfl (by decide) rfl ?_
        refine g_goto (tgt := 25) dX10_part_73 rfl ?_
        exact ih_lo _ (by omega) (i + 1) hh547 rfl fr547 (by
                                                                      have e8 := fh547_13
                                                                      rw [show (2400 + i) - 1 = 200 * 12 + (i - 1) by omega, ar_wg Ry _ (by omega) (by omega), gF_s (Ry 12) (cf (drv hp F)) (by omega), show i - 1 + 1 = i + 1 - 1 by omega] at e8
                                                                      exact e8) fh547_14 (by omega)
    exact lo _ (1) hc3 rfl (Fr.rf [B + 5] hc3) (by rw [show (1 : Int) - 1 = 0 by omega, gF_0, gup_id]; exact hRy) hDy (by omega)
  · skip
    have hF1 : irr (fR hp) F := by
                                                                      have d9 := dgi_dg hp hFp (by omega)
                                                                      rw [show (dgi hp F).toNat = 1 by omega] at d9; exact irr_d1 hp d9
    refine g_aload_n 0 dX10_part_10 rfl ?_
    refine g_iload_n 1 dX10_part_11 rfl ?_
    refine g_callV (nc2 := 0) (ns2 := 0) (ci := 10) (As := [.int (gI (11))]) (st := []) rfl dX10_part_12 okX10_found lX10_223 itX10_found seX10_found rfl (RD.o hRD) (by decide) (by decide) rfl (Nat.le_of_ble_eq_true rfl) (sM_found N _ B p hp hp2 h0 hf le fc pn rn hn qn g9 g10 g11 g12 g13 g14 g15 g16 g17 g18 g19 g20 11 (by omega) ⟨by omega, by omega⟩ F Q (by omega) hT hLI.2.1 hRD h11) (by omega) (by omega) (fun v648 hc648 q648 => ?_)
    obtain ⟨rfl, nr649, fcz, Qz, d9z, d11z, rd649, tbz, fnz⟩ := q648
    have rk650_1 : NR B [12, 13, 14, 15, 16, 17, 18, 19, 21, 22, 23, 24, 25, 26, 30, 31, 32, 33, 34, 35, 36, 37] h hc648 := NR.tr (NR.rf B [12, 13, 14, 15, 16, 17, 18, 19, 21, 22, 23, 24, 25, 26, 30, 31, 32, 33, 34, 35, 36, 37] h) (NR.mo nr649 sbI_n)
    have rk650_2 : MG hp B hc648 (11) (F) := nr649 p hp (11) _ hp2 Nr.n h11
    refine Go.nf (h' := hc648) (st' := []) rfl rfl (Nat.le_refl _) (Nat.le_refl _) ?_
    exact g_vret dX10_part_15 rfl ⟨rfl, rk650_1, fcz, Qz, d9z, d11z, hn, H, g16, g17, _, _, _, rd649, tbz, hTH, LI_f hp hLI ⟨hF1, hmn, hdF⟩ fnz, (fun i i0 i1 => rfl), (fun i i0 i1 => by omega), Or.inl rfl, (fun x z => (fnz.2.2 x).mpr (Or.inl z)), fun x z => Or.inl ((fnz.2.2 x).mpr (Or.inr (irr_eq hp z.1 hF1 z.2.1 hmn z.2.2)))⟩
