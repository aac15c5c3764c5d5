section
variable {p : Nat}
theorem isG_sy (h : prm p) {f g d : Px p} (w : isG h f g d) : isG h g f d := by
  letI := pR h
  obtain ⟨a, b, c, ⟨u, v, hu, hv, e⟩, m⟩ := w
  exact ⟨a, c, b, ⟨v, u, hv, hu, by rw [e]; grind⟩, m⟩
theorem gP_sy (h : prm p) {f g : Px p} (hf : po (fR h) f) (hg : po (fR h) g) : gP h f g = gP h g f := gP_un h hg hf (isG_sy h (gP_sp h hf hg))
end
set_option maxHeartbeats 4000000 in
set_option maxRecDepth 100000 in
theorem sM_split (N : GN) (h : GH) (B p : Nat) (hp : prm p) (hp2 : p ≤ 65536) (h0 : GH) (hf le fc pn rn hn qn : Int) (g9 g10 g11 g12 g13 g14 g15 g16 g17 g18 g19 g20 : Int → Int) (b : Int) (hb : 0 ≤ b ∧ b < hn) (hhn : hn < 100) (H : Int → Px p) (w fv t0 : Px p) (s : Fp p) (et0 : t0 = (letI := pR hp; fv + cz hp s)) (hTB : TB hp g16 g17 hn H) (hd1 : 1 ≤ dgi hp (H b)) (hmn : mnc hp (H b)) (hsq : sqf hp (H b)) (hk : ker hp w fv) (hdv : dv (fR hp) (H b) w) (hRD : RD B h0 h p hf le fc pn rn hn qn g9 g10 g11 g12 g13 g14 g15 g16 g17 g18 g19 g20) (h21 : MG hp B h 21 t0) : Sp N yX10_split mX10_split 0 0 [.ref (B), .int (gI (b))] h (fun v h1 => v = none ∧ NR B [15, 22, 23, 24, 25, 26, 30, 31, 32, 33, 34, 35, 36, 37] h h1 ∧ ((alk hp fv (H b) s ∧ RD B h0 h1 p hf le fc pn rn hn qn g9 g10 g11 g12 g13 g14 g15 g16 g17 g18 g19 g20) ∨ ∃ d k, prt hp fv (H b) s d k ∧ RD B h0 h1 p hf le fc pn rn (hn + 1) qn g9 g10 g11 g12 g13 g14 g15 (gup (gup g16 b (dgi hp (d))) hn (dgi hp (k))) (wT (wT g17 b (d) 41) hn (k) 41) g18 g19 g20)) := by
  refine Sp.of (by decide) rfl rfl (Nat.le_of_ble_eq_true rfl) ?_
  show Go N mX10_split _ 0 0 h 0 [(0, .ref (B)), (1, .int (gI (b)))] []
  have hp1 := hp.1
  have neA : NE B (B + 5) := by unfold NE; omega
  have neB : NE B (B + 6) := by unfold NE; omega
  have neC : NE (B + 5) (B + 6) := by unfold NE; omega
  obtain ⟨hfp, hfd, hfD, hGk⟩ := hTB b hb.1 hb.2
  have hGp := hfp
  have ht0 := h21.po
  have hgc := dgi_ge hp hfp
  refine g_aload_n 0 dX10_split_0 rfl ?_
  refine g_bipush dX10_split_1 (by decide) ?_
  refine g_iconst dX10_split_3 ?_
  refine g_callV (nc2 := 0) (ns2 := 0) (ci := 10) (As := [.int (gI (22)), .int (gI (0))]) (st := []) rfl dX10_split_4 okX10_be lX10_170 itX10_be seX10_be rfl (RD.o hRD) (by decide) (by decide) rfl (Nat.le_of_ble_eq_true rfl) (sM_be N _ B p hp hp2 _ _ _ _ _ _ _ (22) (0) (by omega) (by omega) (by omega) (RD.o hRD) (RD.ma hRD)) (by omega) (by omega) (fun v1 hc1 q1 => ?_)
  obtain ⟨rfl, mfc2, rn2_0⟩ := q1
  have rk3_0 : RD B h0 hc1 p hf le fc pn rn hn qn g9 g10 g11 g12 g13 g14 g15 g16 g17 g18 g19 g20 := RD.mf hRD mfc2
  have rk3_1 : NR B [15, 22, 23, 24, 25, 26, 30, 31, 32, 33, 34, 35, 36, 37] h hc1 := NR.tr (NR.rf B [15, 22, 23, 24, 25, 26, 30, 31, 32, 33, 34, 35, 36, 37] h) ((MF.nr mfc2).mo (sbI_c (List.Mem.tail _ (List.Mem.head _)) sbI_n))
  have rk3_2 : MG hp B hc1 (21) (t0) := (h21).fr hp2 mfc2 (Nr.c (by omega) Nr.n)
  refine Go.nf (h' := hc1) (st' := []) rfl rfl (Nat.le_refl _) (Nat.le_refl _) ?_
  have hz := rn2_0
  obtain ⟨R, d, hu, hv, hR, hD⟩ := (RD.ma rk3_0)
  have hat4 := (rk3_2).at hu hv hR hD
  have hat5 := (rn2_0).at hu hv hR hD
  refine g_iconst dX10_split_7 ?_
  refine g_istore_n (ls2 := [(2, .int (gI (0))), (0, .ref (B)), (1, .int (gI (b)))]) dX10_split_8 rfl (by decide) rfl ?_
  have lo : ∀ (kk : Nat) (c : Int) (hlo : GH), kk = (41 - c).toNat → Fr [B + 5] hc1 hlo → hlo.2 (B + 5) = some (aI 8000 (ar (gup R 22 (gF (R 22) (cf (H b)) c)))) → hlo.2 (B + 6) = some (aI 40 (d)) → (0 ≤ c ∧ c ≤ 41) → Go N mX10_split (fun v h1 => v = none ∧ NR B [15, 22, 23, 24, 25, 26, 30, 31, 32, 33, 34, 35, 36, 37] h h1 ∧ ((alk hp fv (H b) s ∧ RD B h0 h1 p hf le fc pn rn hn qn g9 g10 g11 g12 g13 g14 g15 g16 g17 g18 g19 g20) ∨ ∃ d k, prt hp fv (H b) s d k ∧ RD B h0 h1 p hf le fc pn rn (hn + 1) qn g9 g10 g11 g12 g13 g14 g15 (gup (gup g16 b (dgi hp (d))) hn (dgi hp (k))) (wT (wT g17 b (d) 41) hn (k) 41) g18 g19 g20)) 0 0 hlo 9 [(2, .int (gI (c))), (0, .ref (B)), (1, .int (gI (b)))] [] := by
    refine Go.ind (fun kk ih_lo => ?_)
    intro c hlo hkk_lo fr_lo cf_lo_0 cf_lo_1 hc
    have cg_lo_0 : hlo.2 (B) = some (mO B ((p : Int)) (hf) (le) (fc) (pn) (rn) (hn) (qn)) := Fr.at0 fr_lo (Ni.c ⟨neA, neB⟩ (Ni.n _)) (RD.o rk3_0)
    have cg_lo_1 : hlo.2 (B + 9) = some (aI 41 (g9)) := Fr.at0 fr_lo (Ni.c ⟨(show NE (B + 9) (B + 5) by unfold NE; omega), (show NE (B + 9) (B + 6) by unfold NE; omega)⟩ (Ni.n _)) (RD.t9 rk3_0)
    have cg_lo_2 : hlo.2 (B + 10) = some (aI 41 (g10)) := Fr.at0 fr_lo (Ni.c ⟨(show NE (B + 10) (B + 5) by unfold NE; omega), (show NE (B + 10) (B + 6) by unfold NE; omega)⟩ (Ni.n _)) (RD.t10 rk3_0)
    have cg_lo_3 : hlo.2 (B + 11) = some (aI 1681 (g11)) := Fr.at0 fr_lo (Ni.c ⟨(show NE (B + 11) (B + 5) by unfold NE; omega), (show NE (B + 11) (B + 6) by unfold NE; omega)⟩ (Ni.n _)) (RD.t11 rk3_0)
    have cg_lo_4 : hlo.2 (B + 12) = some (aI 41 (g12)) := Fr.at0 fr_lo (Ni.c ⟨(show NE (B + 12) (B + 5) by unfold NE; omega), (show NE (B + 12) (B + 6) by unfold NE; omega)⟩ (Ni.n _)) (RD.t12 rk3_0)
    have cg_lo_5 : hlo.2 (B + 13) = some (aI 41 (g13)) := Fr.at0 fr_lo (Ni.c ⟨(show NE (B + 13) (B + 5) by unfold NE; omega), (show NE (B + 13) (B + 6) by unfold NE; omega)⟩ (Ni.n _)) (RD.t13 rk3_0)
    have cg_lo_6 : hlo.2 (B + 14) = some (aI 1681 (g14)) := Fr.at0 fr_lo (Ni.c ⟨(show NE (B + 14) (B + 5) by unfold NE; omega), (show NE (B + 14) (B + 6) by unfold NE; omega)⟩ (Ni.n _)) (RD.t14 rk3_0)
    have cg_lo_7 : hlo.2 (B + 15) = some (aI 41 (g15)) := Fr.at0 fr_lo (Ni.c ⟨(show NE (B + 15) (B + 5) by unfold NE; omega), (show NE (B + 15) (B + 6) by unfold NE; omega)⟩ (Ni.n _)) (RD.t15 rk3_0)
    have cg_lo_8 : hlo.2 (B + 16) = some (aI 100 (g16)) := Fr.at0 fr_lo (Ni.c ⟨(show NE (B + 16) (B + 5) by unfold NE; omega), (show NE (B + 16) (B + 6) by unfold NE; omega)⟩ (Ni.n _)) (RD.t16 rk3_0)
    have cg_lo_9 : hlo.2 (B + 17) = some (aI 4100 (g17)) := Fr.at0 fr_lo (Ni.c ⟨(show NE (B + 17) (B + 5) by unfold NE; omega), (show NE (B + 17) (B + 6) by unfold NE; omega)⟩ (Ni.n _)) (RD.t17 rk3_0)
    have cg_lo_10 : hlo.2 (B + 18) = some (aI 1681 (g18)) := Fr.at0 fr_lo (Ni.c ⟨(show NE (B + 18) (B + 5) by unfold NE; omega), (show NE (B + 18) (B + 6) by unfold NE; omega)⟩ (Ni.n _)) (RD.t18 rk3_0)
    have cg_lo_11 : hlo.2 (B + 19) = some (aI 41 (g19)) := Fr.at0 fr_lo (Ni.c ⟨(show NE (B + 19) (B + 5) by unfold NE; omega), (show NE (B + 19) (B + 6) by unfold NE; omega)⟩ (Ni.n _)) (RD.t19 rk3_0)
    have cg_lo_12 : hlo.2 (B + 20) = some (aI 1681 (g20)) := Fr.at0 fr_lo (Ni.c ⟨(show NE (B + 20) (B + 5) by unfold NE; omega), (show NE (B + 20) (B + 6) by unfold NE; omega)⟩ (Ni.n _)) (RD.t20 rk3_0)
    refine g_iload_n 0 dX10_split_9 rfl ?_
    refine g_bipush dX10_split_10 (by decide) ?_
    refine g_icmp_gt (tgt := 42) dX10_split_12 rfl (by first | assumption | (unfold gW; omega) | (unfold gW; split <;> omega)) (by first | assumption | (unfold gW; omega) | (unfold gW; split <;> omega)) (fun c156 => ?_) (fun c156 => ?_)
    · skip
      have hc9 : c = 41 := by omega
      refine g_aload_n 1 dX10_split_42 rfl ?_
      refine g_bipush dX10_split_43 (by decide) ?_
      refine g_callV (nc2 := 0) (ns2 := 0) (ci := 10) (As := [.int (gI (22))]) (st := []) rfl dX10_split_45 okX10_measure lX10_164 itX10_measure seX10_measure rfl cg_lo_0 (by decide) (by decide) rfl (Nat.le_of_ble_eq_true rfl) (sM_measure N _ B p hp hp2 _ _ _ _ _ _ _ (22) (by omega) cg_lo_0 ((gup R 22 (gF (R 22) (cf (H b)) c))) (d) (H b) cf_lo_0 cf_lo_1 (fun j j0 j1 => by
                                                                      rw [gup_s]; unfold gF
                                                                      split
                                                                      · exact cf_in _ hp _
                                                                      · rw [(hz.at hu hv hR hD).2 j j0 j1]; exact cf_in _ hp _) (by
                                                                      rw [gup_s]
                                                                      refine (ph_cf hp hGp (d := 199) (by omega)).symm.trans (ph_cg hp (fun j j0 j1 => ?_))
                                                                      unfold gF
                                                                      by_cases z : 0 ≤ j ∧ j < c
                                                                      · rw [if_pos z]
                                                                      · rw [if_neg z, (hz.at hu hv hR hD).2 j j0 (by omega), cf_hi hp hGp (by omega), cf_hi hp (cz_po hp _) (by
                                                                          have : dgi hp (cz hp (zi hp 0)) = -1 := by rw [cz_z0]; exact dgi_0 hp
                                                                          omega)])) (by omega) (by omega) (fun v157 hc157 q157 => ?_)
      obtain ⟨rfl, mfc158, rn158⟩ := q157
      have mfd158 : MF B [] [22] hc1 hc157 := (MF.one (r := 22) fr_lo hu hv hR hD cf_lo_0 cf_lo_1 (fun s hs => gup_n _ _ hs) (fun _ _ => rfl)).tr mfc158
      have fk159_0 : hc157.2 (B) = some (mO B ((p : Int)) (hf) (le) (fc) (pn) (rn) (hn) (qn)) := Fr.at0 mfc158.1 (Ni.c ⟨neA, neB⟩ (Ni.n _)) cg_lo_0
      have fk159_1 : hc157.2 (B + 9) = some (aI 41 (g9)) := Fr.at0 mfc158.1 (Ni.c ⟨(show NE (B + 9) (B + 5) by unfold NE; omega), (show NE (B + 9) (B + 6) by unfold NE; omega)⟩ (Ni.n _)) cg_lo_1
      have fk159_2 : hc157.2 (B + 10) = some (aI 41 (g10)) := Fr.at0 mfc158.1 (Ni.c ⟨(show NE (B + 10) (B + 5) by unfold NE; omega), (show NE (B + 10) (B + 6) by unfold NE; omega)⟩ (Ni.n _)) cg_lo_2
      have fk159_3 : hc157.2 (B + 11) = some (aI 1681 (g11)) := Fr.at0 mfc158.1 (Ni.c ⟨(show NE (B + 11) (B + 5) by unfold NE; omega), (show NE (B + 11) (B + 6) by unfold NE; omega)⟩ (Ni.n _)) cg_lo_3
      have fk159_4 : hc157.2 (B + 12) = some (aI 41 (g12)) := Fr.at0 mfc158.1 (Ni.c ⟨(show NE (B + 12) (B + 5) by unfold NE; omega), (show NE (B + 12) (B + 6) by unfold NE; omega)⟩ (Ni.n _)) cg_lo_4
      have fk159_5 : hc157.2 (B + 13) = some (aI 41 (g13)) := Fr.at0 mfc158.1 (Ni.c ⟨(show NE (B + 13) (B + 5) by unfold NE; omega), (show NE (B + 13) (B + 6) by unfold NE; omega)⟩ (Ni.n _)) cg_lo_5
      have fk159_6 : hc157.2 (B + 14) = some (aI 1681 (g14)) := Fr.at0 mfc158.1 (Ni.c ⟨(show NE (B + 14) (B + 5) by unfold NE; omega), (show NE (B + 14) (B + 6) by unfold NE; omega)⟩ (Ni.n _)) cg_lo_6
      have fk159_7 : hc157.2 (B + 15) = some (aI 41 (g15)) := Fr.at0 mfc158.1 (Ni.c ⟨(show NE (B + 15) (B + 5) by unfold NE; omega), (show NE (B + 15) (B + 6) by unfold NE; omega)⟩ (Ni.n _)) cg_lo_7
      have fk159_8 : hc157.2 (B + 16) = some (aI 100 (g16)) := Fr.at0 mfc158.1 (Ni.c ⟨(show NE (B + 16) (B + 5) by unfold NE; omega), (show NE (B + 16) (B + 6) by unfold NE; omega)⟩ (Ni.n _)) cg_lo_8
      have fk159_9 : hc157.2 (B + 17) = some (aI 4100 (g17)) := Fr.at0 mfc158.1 (Ni.c ⟨(show NE (B + 17) (B + 5) by unfold NE; omega), (show NE (B + 17) (B + 6) by unfold NE; omega)⟩ (Ni.n _)) cg_lo_9
      have fk159_10 : hc157.2 (B + 18) = some (aI 1681 (g18)) := Fr.at0 mfc158.1 (Ni.c ⟨(show NE (B + 18) (B + 5) by unfold NE; omega), (show NE (B + 18) (B + 6) by unfold NE; omega)⟩ (Ni.n _)) cg_lo_10
      have fk159_11 : hc157.2 (B + 19) = some (aI 41 (g19)) := Fr.at0 mfc158.1 (Ni.c ⟨(show NE (B + 19) (B + 5) by unfold NE; omega), (show NE (B + 19) (B + 6) by unfold NE; omega)⟩ (Ni.n _)) cg_lo_11
      have fk159_12 : hc157.2 (B + 20) = some (aI 1681 (g20)) := Fr.at0 mfc158.1 (Ni.c ⟨(show NE (B + 20) (B + 5) by unfold NE; omega), (show NE (B + 20) (B + 6) by unfold NE; omega)⟩ (Ni.n _)) cg_lo_12
      have fr159 : Fr [B + 5] hc1 hc157 := (fr_lo).tr ((mfc158.1).mo (sub_c (List.Mem.head _) sub_n))
      refine Go.nf (h' := hc157) (st' := []) rfl rfl (Nat.le_refl _) (Nat.le_refl _) ?_
      have rk210_0 : RD B h0 hc157 p hf le fc pn rn hn qn g9 g10 g11 g12 g13 g14 g15 g16 g17 g18 g19 g20 := RD.mf rk3_0 mfd158
      have rk210_1 : NR B [15, 22, 23, 24, 25, 26, 30, 31, 32, 33, 34, 35, 36, 37] h hc157 := NR.tr rk3_1 ((MF.nr mfd158).mo (sbI_c (List.Mem.tail _ (List.Mem.head _)) sbI_n))
      have rk210_2 : MG hp B hc157 (21) (t0) := (rk3_2).fr hp2 mfd158 (Nr.c (by omega) Nr.n)
      refine g_aload_n 1 dX10_split_48 rfl ?_
      refine g_getf 6 dX10_split_49 kX10 (by decide) fX10_26 (RD.o rk210_0) rfl ?_
      refine g_bipush dX10_split_52 (by decide) ?_
      obtain ⟨dz211, ez211, fz211⟩ := MG.get rn158
      refine g_iaload dX10_split_54 ez211 (by omega) (by omega) (by omega) ?_
      rw [fz211]
      refine g_iconst dX10_split_55 ?_
      refine g_icmp_ge (tgt := 60) dX10_split_56 rfl (by first | assumption | (unfold gW; omega) | (unfold gW; split <;> omega)) (by first | assumption | (unfold gW; omega) | (unfold gW; split <;> omega)) (fun c212 => ?_) (fun c212 => ?_)
      · skip
        refine g_aload_n 1 dX10_split_60 rfl ?_
        refine g_bipush dX10_split_61 (by decide) ?_
        refine g_bipush dX10_split_63 (by decide) ?_
        refine g_bipush dX10_split_65 (by decide) ?_
        refine g_bipush dX10_split_67 (by decide) ?_
        refine g_callV (nc2 := 0) (ns2 := 0) (ci := 10) (As := [.int (gI (21)), .int (gI (22)), .int (gI (15)), .int (gI (23))]) (st := []) rfl dX10_split_69 okX10_divide lX10_176 itX10_divide seX10_divide rfl (RD.o rk210_0) (by decide) (by decide) rfl (Nat.le_of_ble_eq_true rfl) (sM_divide N _ B p hp hp2 _ _ _ _ _ _ _ (21) (22) (15) (23) (by omega) (by omega) (by omega) (by omega) (by omega) (by omega) (t0) (H b) (RD.o rk210_0) (RD.ma rk210_0) rk210_2 rn158 (by omega)) (by omega) (by omega) (fun v213 hc213 q213 => ?_)
        obtain ⟨rfl, mfc214, rn214_0, rn214_1⟩ := q213
        have rk215_0 : RD B h0 hc213 p hf le fc pn rn hn qn g9 g10 g11 g12 g13 g14 g15 g16 g17 g18 g19 g20 := RD.mf rk210_0 mfc214
        have rk215_1 : NR B [15, 22, 23, 24, 25, 26, 30, 31, 32, 33, 34, 35, 36, 37] h hc213 := NR.tr rk210_1 ((MF.nr mfc214).mo (sbI_c (List.Mem.tail _ (List.Mem.tail _ (List.Mem.head _))) (sbI_c (List.Mem.head _) sbI_n)))
        have rk215_2 : MG hp B hc213 (21) (t0) := (rk210_2).fr hp2 mfc214 (Nr.c (by omega) (Nr.c (by omega) Nr.n))
        have rk215_3 : MG hp B hc213 (22) (H b) := (rn158).fr hp2 mfc214 (Nr.c (by omega) (Nr.c (by omega) Nr.n))
        refine Go.nf (h' := hc213) (st' := []) rfl rfl (Nat.le_refl _) (Nat.le_refl _) ?_
        refine g_aload_n 1 dX10_split_72 rfl ?_
        refine g_getf 0 dX10_split_73 kX10 (by decide) fX10_78 (RD.o rk215_0) rfl ?_
        refine g_iconst dX10_split_76 ?_
        refine g_icmp_le (tgt := 116) dX10_split_77 rfl (by first | assumption | (unfold gW; omega) | (unfold gW; split <;> omega)) (by first | assumption | (unfold gW; omega) | (unfold gW; split <;> omega)) (fun c216 => ?_) (fun c216 => ?_)
        · skip
          have htp : po (fR hp) (rm hp t0 (H b)) := rm_po hp ht0 hfp (by omega)
          have hp22 : p = 2 := by omega
          have eg : gP hp (H b) (rm hp t0 (H b)) = gP hp (tpl hp (rm hp t0 (H b))) (H b) := by
                                                                      have e0 : tpl hp (rm hp t0 (H b)) = rm hp t0 (H b) := if_pos hp22
                                                                      rw [e0]; exact gP_sy hp hfp htp
          refine g_aload_n 1 dX10_split_116 rfl ?_
          refine g_bipush dX10_split_117 (by decide) ?_
          refine g_bipush dX10_split_119 (by decide) ?_
          refine g_bipush dX10_split_121 (by decide) ?_
          refine g_callV (nc2 := 0) (ns2 := 0) (ci := 10) (As := [.int (gI (22)), .int (gI (23)), .int (gI (24))]) (st := []) rfl dX10_split_123 okX10_common lX10_185 itX10_common seX10_common rfl (RD.o rk215_0) (by decide) (by decide) rfl (Nat.le_of_ble_eq_true rfl) (sM_common N _ B p hp hp2 _ _ _ _ _ _ _ (22) (23) (24) (by omega) (by omega) (by omega) (H b) (rm hp (t0) (H b)) (RD.o rk215_0) (RD.ma rk215_0) rk215_3 rn214_0) (by omega) (by omega) (fun v217 hc217 q217 => ?_)
          obtain ⟨rfl, mfc218, rn218_0⟩ := q217
          have rk219_0 : RD B h0 hc217 p hf le fc pn rn hn qn g9 g10 g11 g12 g13 g14 g15 g16 g17 g18 g19 g20 := RD.mf rk215_0 mfc218
          have rk219_1 : NR B [15, 22, 23, 24, 25, 26, 30, 31, 32, 33, 34, 35, 36, 37] h hc217 := NR.tr rk215_1 ((MF.nr mfc218).mo (sbI_c (List.Mem.tail _ (List.Mem.tail _ (List.Mem.tail _ (List.Mem.tail _ (List.Mem.tail _ (List.Mem.tail _ (List.Mem.head _))))))) (sbI_c (List.Mem.tail _ (List.Mem.tail _ (List.Mem.tail _ (List.Mem.tail _ (List.Mem.tail _ (List.Mem.tail _ (List.Mem.tail _ (List.Mem.head _)))))))) (sbI_c (List.Mem.tail _ (List.Mem.tail _ (List.Mem.tail _ (List.Mem.tail _ (List.Mem.tail _ (List.Mem.tail _ (List.Mem.tail _ (List.Mem.tail _ (List.Mem.head _))))))))) (sbI_c (List.Mem.tail _ (List.Mem.tail _ (List.Mem.tail _ (List.Mem.tail _ (List.Mem.tail _ (List.Mem.tail _ (List.Mem.tail _ (List.Mem.tail _ (List.Mem.tail _ (List.Mem.head _)))))))))) (sbI_c (List.Mem.tail _ (List.Mem.tail _ (List.Mem.tail _ (List.Mem.head _)))) sbI_n))))))
          have rk219_2 : MG hp B hc217 (21) (t0) := (rk215_2).fr hp2 mfc218 (Nr.c (by omega) (Nr.c (by omega) (Nr.c (by omega) (Nr.c (by omega) (Nr.c (by omega) Nr.n)))))
          have rk219_3 : MG hp B hc217 (22) (H b) := (rk215_3).fr hp2 mfc218 (Nr.c (by omega) (Nr.c (by omega) (Nr.c (by omega) (Nr.c (by omega) (Nr.c (by omega) Nr.n)))))
          have rk219_4 : MG hp B hc217 (23) (rm hp (t0) (H b)) := (rn214_0).fr hp2 mfc218 (Nr.c (by omega) (Nr.c (by omega) (Nr.c (by omega) (Nr.c (by omega) (Nr.c (by omega) Nr.n)))))
          have rk219_5 : MG hp B hc217 (15) (qt hp (t0) (H b)) := (rn214_1).fr hp2 mfc218 (Nr.c (by omega) (Nr.c (by omega) (Nr.c (by omega) (Nr.c (by omega) (Nr.c (by omega) Nr.n)))))
          refine Go.nf (h' := hc217) (st' := []) rfl rfl (Nat.le_refl _) (Nat.le_refl _) ?_
          have rz220 : MG hp B hc217 24 (gP hp (tpl hp (rm hp t0 (H b))) (H b)) := by rw [← eg]; exact rn218_0
          have hgg : isG hp (tpl hp (rm hp t0 (H b))) (H b) (gP hp (tpl hp (rm hp t0 (H b))) (H b)) := gP_sp hp (tpl_po hp htp) hfp
          have htv : (letI := pR hp; dv (fR hp) (H b) (rm hp t0 (H b) - (fv + cz hp s))) := by
                                                                      letI := pR hp
                                                                      have e1 := dv_neg hp (rm_dv hp ht0 hfp (by omega))
                                                                      rw [et0] at e1; rw [et0]; exact e1
          have hdl9 := rz220.lt
          refine g_aload_n 1 dX10_split_126 rfl ?_
          refine g_getf 6 dX10_split_127 kX10 (by decide) fX10_26 (RD.o rk219_0) rfl ?_
          refine g_bipush dX10_split_130 (by decide) ?_
          obtain ⟨dz221, ez221, fz221⟩ := MG.get rz220
          refine g_iaload dX10_split_132 ez221 (by omega) (by omega) (by omega) ?_
          rw [fz221]
          refine g_if_le (tgt := 219) dX10_split_133 rfl (by first | assumption | (unfold gW; omega) | (unfold gW; split <;> omega)) (fun c222 => ?_) (fun c222 => ?_)
          · skip
            exact g_vret dX10_split_219 rfl ⟨rfl, rk219_1, Or.inl ⟨cut_no hp hsq (dgi_dg hp hfp (by omega)) hk hdv htp htv hgg (by omega), rk219_0⟩⟩
          · skip
            refine g_aload_n 1 dX10_split_136 rfl ?_
            refine g_getf 6 dX10_split_137 kX10 (by decide) fX10_26 (RD.o rk219_0) rfl ?_
            refine g_bipush dX10_split_140 (by decide) ?_
            obtain ⟨dz223, ez223, fz223⟩ := MG.get rz220
            refine g_iaload dX10_split_142 ez223 (by omega) (by omega) (by omega) ?_
            rw [fz223]
            refine g_aload_n 1 dX10_split_143 rfl ?_
            refine g_getf 6 dX10_split_144 kX10 (by decide) fX10_26 (RD.o rk219_0) rfl ?_
            refine g_bipush dX10_split_147 (by decide) ?_
            obtain ⟨dz224, ez224, fz224⟩ := MG.get rk219_3
            refine g_iaload dX10_split_149 ez224 (by omega) (by omega) (by omega) ?_
            rw [fz224]
            refine g_icmp_ge (tgt := 219) dX10_split_150 rfl (by first | assumption | (unfold gW; omega) | (unfold gW; split <;> omega)) (by first | assumption | (unfold gW; omega) | (unfold gW; split <;> omega)) (fun c225 => ?_) (fun c225 => ?_)
            · skip
              exact g_vret dX10_split_219 rfl ⟨rfl, rk219_1, Or.inl ⟨cut_no hp hsq (dgi_dg hp hfp (by omega)) hk hdv htp htv hgg (by omega), rk219_0⟩⟩
            · skip
              have hpt := prt_y hp hmn hsq hfp hk hdv htp htv hgg (by omega) (by omega)
              have hqd := qt_dgi hp hfp hgg.1 (by omega)
              refine g_aload_n 1 dX10_split_153 rfl ?_
              refine g_bipush dX10_split_154 (by decide) ?_
              refine g_bipush dX10_split_156 (by decide) ?_
              refine g_bipush dX10_split_158 (by decide) ?_
              refine g_bipush dX10_split_160 (by decide) ?_
              refine g_callV (nc2 := 0) (ns2 := 0) (ci := 10) (As := [.int (gI (22)), .int (gI (24)), .int (gI (25)), .int (gI (26))]) (st := []) rfl dX10_split_162 okX10_divide lX10_176 itX10_divide seX10_divide rfl (RD.o rk219_0) (by decide) (by decide) rfl (Nat.le_of_ble_eq_true rfl) (sM_divide N _ B p hp hp2 _ _ _ _ _ _ _ (22) (24) (25) (26) (by omega) (by omega) (by omega) (by omega) (by omega) (by omega) (H b) (gP hp (tpl hp (rm hp t0 (H b))) (H b)) (RD.o rk219_0) (RD.ma rk219_0) rk219_3 rz220 (by omega)) (by omega) (by omega) (fun v226 hc226 q226 => ?_)
              obtain ⟨rfl, mfc227, rn227_0, rn227_1⟩ := q226
              have rk228_0 : RD B h0 hc226 p hf le fc pn rn hn qn g9 g10 g11 g12 g13 g14 g15 g16 g17 g18 g19 g20 := RD.mf rk219_0 mfc227
              have rk228_1 : NR B [15, 22, 23, 24, 25, 26, 30, 31, 32, 33, 34, 35, 36, 37] h hc226 := NR.tr rk219_1 ((MF.nr mfc227).mo (sbI_c (List.Mem.tail _ (List.Mem.tail _ (List.Mem.tail _ (List.Mem.tail _ (List.Mem.tail _ (List.Mem.head _)))))) (sbI_c (List.Mem.tail _ (List.Mem.tail _ (List.Mem.tail _ (List.Mem.tail _ (List.Mem.head _))))) sbI_n)))
              have rk228_2 : MG hp B hc226 (21) (t0) := (rk219_2).fr hp2 mfc227 (Nr.c (by omega) (Nr.c (by omega) Nr.n))
              have rk228_3 : MG hp B hc226 (22) (H b) := (rk219_3).fr hp2 mfc227 (Nr.c (by omega) (Nr.c (by omega) Nr.n))
              have rk228_4 : MG hp B hc226 (23) (rm hp (t0) (H b)) := (rk219_4).fr hp2 mfc227 (Nr.c (by omega) (Nr.c (by omega) Nr.n))
              have rk228_5 : MG hp B hc226 (15) (qt hp (t0) (H b)) := (rk219_5).fr hp2 mfc227 (Nr.c (by omega) (Nr.c (by omega) Nr.n))
              have rk228_6 : MG hp B hc226 (24) (gP hp (tpl hp (rm hp t0 (H b))) (H b)) := (rz220).fr hp2 mfc227 (Nr.c (by omega) (Nr.c (by omega) Nr.n))
              refine Go.nf (h' := hc226) (st' := []) rfl rfl (Nat.le_refl _) (Nat.le_refl _) ?_
              refine g_aload_n 1 dX10_split_165 rfl ?_
              refine g_getf 22 dX10_split_166 kX10 (by decide) fX10_57 (RD.o rk228_0) rfl ?_
              refine g_iload_n 2 dX10_split_169 rfl ?_
              refine g_aload_n 1 dX10_split_170 rfl ?_
              refine g_getf 6 dX10_split_171 kX10 (by decide) fX10_26 (RD.o rk228_0) rfl ?_
              refine g_bipush dX10_split_174 (by decide) ?_
              obtain ⟨dz229, ez229, fz229⟩ := MG.get rk228_6
              refine g_iaload dX10_split_176 ez229 (by omega) (by omega) (by omega) ?_
              rw [fz229]
              refine g_iastore dX10_split_177 (RD.t16 rk228_0) (by omega) (by omega) (by omega) ?_
              obtain ⟨hh230, eh230⟩ : ∃ z : GH, z = hset hc226 (B + 16) (aI 100 (gup (g16) (b) (dgi hp (gP hp (tpl hp (rm hp t0 (H b))) (H b))))) := ⟨_, rfl⟩
              refine Go.hp eh230.symm ?_
              have rd230 : RD B h0 hh230 p hf le fc pn rn hn qn g9 g10 g11 g12 g13 g14 g15 (gup (g16) (b) (dgi hp (gP hp (tpl hp (rm hp t0 (H b))) (H b)))) g17 g18 g19 g20 := RD.cell rk228_0 (by rw [eh230]; rfl) (fun x hx => by rw [eh230, hset_n _ _ (by omega)]) (hs_n eh230 (show NE (B) (B + 16) by unfold NE; omega) (RD.o rk228_0)) (hs_n eh230 (show NE (B + 9) (B + 16) by unfold NE; omega) (RD.t9 rk228_0)) (hs_n eh230 (show NE (B + 10) (B + 16) by unfold NE; omega) (RD.t10 rk228_0)) (hs_n eh230 (show NE (B + 11) (B + 16) by unfold NE; omega) (RD.t11 rk228_0)) (hs_n eh230 (show NE (B + 12) (B + 16) by unfold NE; omega) (RD.t12 rk228_0)) (hs_n eh230 (show NE (B + 13) (B + 16) by unfold NE; omega) (RD.t13 rk228_0)) (hs_n eh230 (show NE (B + 14) (B + 16) by unfold NE; omega) (RD.t14 rk228_0)) (hs_n eh230 (show NE (B + 15) (B + 16) by unfold NE; omega) (RD.t15 rk228_0)) (hs_s eh230) (hs_n eh230 (show NE (B + 17) (B + 16) by unfold NE; omega) (RD.t17 rk228_0)) (hs_n eh230 (show NE (B + 18) (B + 16) by unfold NE; omega) (RD.t18 rk228_0)) (hs_n eh230 (show NE (B + 19) (B + 16) by unfold NE; omega) (RD.t19 rk228_0)) (hs_n eh230 (show NE (B + 20) (B + 16) by unfold NE; omega) (RD.t20 rk228_0))
              have e5_230 : hh230.2 (B + 5) = hc226.2 (B + 5) := by rw [eh230, hset_n _ _ (by omega)]
              have e6_230 : hh230.2 (B + 6) = hc226.2 (B + 6) := by rw [eh230, hset_n _ _ (by omega)]
              have rg230_1 : NR B [15, 22, 23, 24, 25, 26, 30, 31, 32, 33, 34, 35, 36, 37] h hh230 := NR.h5 rk228_1 e5_230 e6_230
              have rg230_2 : MG hp B hh230 (21) (t0) := (rk228_2).of5 e5_230 e6_230
              have rg230_3 : MG hp B hh230 (22) (H b) := (rk228_3).of5 e5_230 e6_230
              have rg230_4 : MG hp B hh230 (23) (rm hp (t0) (H b)) := (rk228_4).of5 e5_230 e6_230
              have rg230_5 : MG hp B hh230 (15) (qt hp (t0) (H b)) := (rk228_5).of5 e5_230 e6_230
              have rg230_6 : MG hp B hh230 (24) (gP hp (tpl hp (rm hp t0 (H b))) (H b)) := (rk228_6).of5 e5_230 e6_230
              have rg230_7 : MG hp B hh230 (26) (rm hp (H b) (gP hp (tpl hp (rm hp t0 (H b))) (H b))) := (rn227_0).of5 e5_230 e6_230
              have rg230_8 : MG hp B hh230 (25) (qt hp (H b) (gP hp (tpl hp (rm hp t0 (H b))) (H b))) := (rn227_1).of5 e5_230 e6_230
              refine g_iconst dX10_split_178 ?_
              refine g_istore_n (ls2 := [(2, .int (gI (0))), (0, .ref (B)), (1, .int (gI (b)))]) dX10_split_179 rfl (by decide) rfl ?_
              have lw : ∀ (kk : Nat) (c : Int) (hlw : GH), kk = (41 - c).toNat → True → RD B h0 hlw p hf le fc pn rn hn qn g9 g10 g11 g12 g13 g14 g15 (gup (g16) (b) (dgi hp (gP hp (tpl hp (rm hp t0 (H b))) (H b)))) (wT g17 b (gP hp (tpl hp (rm hp t0 (H b))) (H b)) c) g18 g19 g20 → NR B [15, 22, 23, 24, 25, 26, 30, 31, 32, 33, 34, 35, 36, 37] h hlw → MG hp B hlw (21) (t0) → MG hp B hlw (22) (H b) → MG hp B hlw (23) (rm hp (t0) (H b)) → MG hp B hlw (15) (qt hp (t0) (H b)) → MG hp B hlw (24) (gP hp (tpl hp (rm hp t0 (H b))) (H b)) → MG hp B hlw (26) (rm hp (H b) (gP hp (tpl hp (rm hp t0 (H b))) (H b))) → MG hp B hlw (25) (qt hp (H b) (gP hp (tpl hp (rm hp t0 (H b))) (H b))) → (0 ≤ c ∧ c ≤ 41) → Go N mX10_split (fun v h1 => v = none ∧ NR B [15, 22, 23, 24, 25, 26, 30, 31, 32, 33, 34, 35, 36, 37] h h1 ∧ ((alk hp fv (H b) s ∧ RD B h0 h1 p hf le fc pn rn hn qn g9 g10 g11 g12 g13 g14 g15 g16 g17 g18 g19 g20) ∨ ∃ d k, prt hp fv (H b) s d k ∧ RD B h0 h1 p hf le fc pn rn (hn + 1) qn g9 g10 g11 g12 g13 g14 g15 (gup (gup g16 b (dgi hp (d))) hn (dgi hp (k))) (wT (wT g17 b (d) 41) hn (k) 41) g18 g19 g20)) 0 0 hlw 180 [(2, .int (gI (c))), (0, .ref (B)), (1, .int (gI (b)))] [] := by
                refine Go.ind (fun kk ih_lw => ?_)
                intro c hlw hkk_lw fr_lw cr_lw_0 cr_lw_1 cr_lw_2 cr_lw_3 cr_lw_4 cr_lw_5 cr_lw_6 cr_lw_7 cr_lw_8 hc
                refine g_iload_n 0 dX10_split_180 rfl ?_
                refine g_bipush dX10_split_181 (by decide) ?_
                refine g_icmp_gt (tgt := 213) dX10_split_183 rfl (by first | assumption | (unfold gW; omega) | (unfold gW; split <;> omega)) (by first | assumption | (unfold gW; omega) | (unfold gW; split <;> omega)) (fun c331 => ?_) (fun c331 => ?_)
                · skip
                  have rdz : RD B h0 hlw p hf le fc pn rn hn qn g9 g10 g11 g12 g13 g14 g15 (gup (g16) (b) (dgi hp (gP hp (tpl hp (rm hp t0 (H b))) (H b)))) (wT g17 b (gP hp (tpl hp (rm hp t0 (H b))) (H b)) 41) g18 g19 g20 := by
                                                                      have hc9 : c = 41 := by omega
                                                                      have e9 := cr_lw_0
                                                                      rw [hc9] at e9; exact e9
                  refine g_aload_n 1 dX10_split_213 rfl ?_
                  refine g_bipush dX10_split_214 (by decide) ?_
                  refine g_callV (nc2 := 0) (ns2 := 0) (ci := 10) (As := [.int (gI (25))]) (st := []) rfl dX10_split_216 okX10_push lX10_211 itX10_push seX10_push rfl (RD.o rdz) (by decide) (by decide) rfl (Nat.le_of_ble_eq_true rfl) (sM_push N _ B p hp hp2 h0 hf le fc pn rn hn qn g9 g10 g11 g12 g13 g14 g15 (gup (g16) (b) (dgi hp (gP hp (tpl hp (rm hp t0 (H b))) (H b)))) (wT g17 b (gP hp (tpl hp (rm hp t0 (H b))) (H b)) 41) g18 g19 g20 25 (by omega) (qt hp (H b) (gP hp (tpl hp (rm hp t0 (H b))) (H b))) (by omega) (fun _ => ⟨by omega, by omega⟩) rdz cr_lw_8) (by omega) (by omega) (fun v332 hc332 q332 => ?_)
                  obtain ⟨rfl, nr333, hcs333⟩ := q332
                  rcases hcs333 with ⟨hx, _⟩ | ⟨_, rd333⟩
                  · exfalso; omega
                  have rk334_1 : NR B [15, 22, 23, 24, 25, 26, 30, 31, 32, 33, 34, 35, 36, 37] h hc332 := NR.tr cr_lw_1 (NR.mo nr333 sbI_n)
                  have rk334_2 : MG hp B hc332 (21) (t0) := nr333 p hp (21) _ hp2 Nr.n cr_lw_2
                  have rk334_3 : MG hp B hc332 (22) (H b) := nr333 p hp (22) _ hp2 Nr.n cr_lw_3
                  have rk334_4 : MG hp B hc332 (23) (rm hp (t0) (H b)) := nr333 p hp (23) _ hp2 Nr.n cr_lw_4
                  have rk334_5 : MG hp B hc332 (15) (qt hp (t0) (H b)) := nr333 p hp (15) _ hp2 Nr.n cr_lw_5
                  have rk334_6 : MG hp B hc332 (24) (gP hp (tpl hp (rm hp t0 (H b))) (H b)) := nr333 p hp (24) _ hp2 Nr.n cr_lw_6
                  have rk334_7 : MG hp B hc332 (26) (rm hp (H b) (gP hp (tpl hp (rm hp t0 (H b))) (H b))) := nr333 p hp (26) _ hp2 Nr.n cr_lw_7
                  have rk334_8 : MG hp B hc332 (25) (qt hp (H b) (gP hp (tpl hp (rm hp t0 (H b))) (H b))) := nr333 p hp (25) _ hp2 Nr.n cr_lw_8
                  refine Go.nf (h' := hc332) (st' := []) rfl rfl (Nat.le_refl _) (Nat.le_refl _) ?_
                  exact g_vret dX10_split_219 rfl ⟨rfl, rk334_1, Or.inr ⟨_, _, hpt, rd333⟩⟩
                · skip
                  refine g_aload_n 1 dX10_split_186 rfl ?_
                  refine g_getf 23 dX10_split_187 kX10 (by decide) fX10_60 (RD.o cr_lw_0) rfl ?_
                  refine g_bipush dX10_split_190 (by decide) ?_
                  refine g_iload_n 2 dX10_split_192 rfl ?_
                  refine g_imul dX10_split_193 ?_
                  refine g_iload_n 0 dX10_split_194 rfl ?_
                  refine g_iadd dX10_split_195 ?_
                  refine g_aload_n 1 dX10_split_196 rfl ?_
                  refine g_getf 5 dX10_split_197 kX10 (by decide) fX10_23 (RD.o cr_lw_0) rfl ?_
                  refine g_sipush dX10_split_200 (by decide) ?_
                  refine g_iload_n 0 dX10_split_203 rfl ?_
                  refine g_iadd dX10_split_204 ?_
                  obtain ⟨R335, er335, fr335⟩ := MG.num cr_lw_6
                  refine g_iaload dX10_split_205 er335 (by omega) (by omega) (by omega) ?_
                  rw [show ar R335 (4800 + (c)) = R335 24 (c) from ar_r R335 (r := 24) (show 0 ≤ c by omega) (show c < 200 by omega), fr335 (c) (by omega) (by omega)]
                  refine g_iastore dX10_split_206 (RD.t17 cr_lw_0) (by omega) (by omega) (by omega) ?_
                  obtain ⟨hh336, eh336⟩ : ∃ z : GH, z = hset hlw (B + 17) (aI 4100 (gup (wT g17 b (gP hp (tpl hp (rm hp t0 (H b))) (H b)) c) (((41) * (b)) + (c)) (cf (gP hp (tpl hp (rm hp t0 (H b))) (H b)) (c)))) := ⟨_, rfl⟩
                  refine Go.hp eh336.symm ?_
                  have rd336 : RD B h0 hh336 p hf le fc pn rn hn qn g9 g10 g11 g12 g13 g14 g15 (gup (g16) (b) (dgi hp (gP hp (tpl hp (rm hp t0 (H b))) (H b)))) (gup (wT g17 b (gP hp (tpl hp (rm hp t0 (H b))) (H b)) c) (((41) * (b)) + (c)) (cf (gP hp (tpl hp (rm hp t0 (H b))) (H b)) (c))) g18 g19 g20 := RD.cell cr_lw_0 (by rw [eh336]; rfl) (fun x hx => by rw [eh336, hset_n _ _ (by omega)]) (hs_n eh336 (show NE (B) (B + 17) by unfold NE; omega) (RD.o cr_lw_0)) (hs_n eh336 (show NE (B + 9) (B + 17) by unfold NE; omega) (RD.t9 cr_lw_0)) (hs_n eh336 (show NE (B + 10) (B + 17) by unfold NE; omega) (RD.t10 cr_lw_0)) (hs_n eh336 (show NE (B + 11) (B + 17) by unfold NE; omega) (RD.t11 cr_lw_0)) (hs_n eh336 (show NE (B + 12) (B + 17) by unfold NE; omega) (RD.t12 cr_lw_0)) (hs_n eh336 (show NE (B + 13) (B + 17) by unfold NE; omega) (RD.t13 cr_lw_0)) (hs_n eh336 (show NE (B + 14) (B + 17) by unfold NE; omega) (RD.t14 cr_lw_0)) (hs_n eh336 (show NE (B + 15) (B + 17) by unfold NE; omega) (RD.t15 cr_lw_0)) (hs_n eh336 (show NE (B + 16) (B + 17) by unfold NE; omega) (RD.t16 cr_lw_0)) (hs_s eh336) (hs_n eh336 (show NE (B + 18) (B + 17) by unfold NE; omega) (RD.t18 cr_lw_0)) (hs_n eh336 (show NE (B + 19) (B + 17) by unfold NE; omega) (RD.t19 cr_lw_0)) (hs_n eh336 (show NE (B + 20) (B + 17) by unfold NE; omega) (RD.t20 cr_lw_0))
                  have e5_336 : hh336.2 (B + 5) = hlw.2 (B + 5) := by rw [eh336, hset_n _ _ (by omega)]
                  have e6_336 : hh336.2 (B + 6) = hlw.2 (B + 6) := by rw [eh336, hset_n _ _ (by omega)]
                  have rg336_1 : NR B [15, 22, 23, 24, 25, 26, 30, 31, 32, 33, 34, 35, 36, 37] h hh336 := NR.h5 cr_lw_1 e5_336 e6_336
                  have rg336_2 : MG hp B hh336 (21) (t0) := (cr_lw_2).of5 e5_336 e6_336
                  have rg336_3 : MG hp B hh336 (22) (H b) := (cr_lw_3).of5 e5_336 e6_336
                  have rg336_4 : MG hp B hh336 (23) (rm hp (t0) (H b)) := (cr_lw_4).of5 e5_336 e6_336
                  have rg336_5 : MG hp B hh336 (15) (qt hp (t0) (H b)) := (cr_lw_5).of5 e5_336 e6_336
                  have rg336_6 : MG hp B hh336 (24) (gP hp (tpl hp (rm hp t0 (H b))) (H b)) := (cr_lw_6).of5 e5_336 e6_336
                  have rg336_7 : MG hp B hh336 (26) (rm hp (H b) (gP hp (tpl hp (rm hp t0 (H b))) (H b))) := (cr_lw_7).of5 e5_336 e6_336
                  have rg336_8 : MG hp B hh336 (25) (qt hp (H b) (gP hp (tpl hp (rm hp t0 (H b))) (H b))) := (cr_lw_8).of5 e5_336 e6_336
                  refine g_iinc 0 (ls2 := [(2, .int (gI (c + 1))), (0, .ref (B)), (1, .int (gI (b)))]) dX10_split_207 rfl (by decide) rfl ?_
                  refine g_goto (tgt := 180) dX10_split_210 rfl ?_
                  exact ih_lw _ (by omega) (c + 1) hh336 rfl fr_lw (by rw [← wT_s g17 b (gP hp (tpl hp (rm hp t0 (H b))) (H b)) hc.1]; exact rd336) rg336_1 rg336_2 rg336_3 rg336_4 rg336_5 rg336_6 rg336_7 rg336_8 (by omega)
              exact lw _ (0) hh230 rfl trivial (by rw [wT_0]; exact rd230) rg230_1 rg230_2 rg230_3 rg230_4 rg230_5 rg230_6 rg230_7 rg230_8 (by omega)
        · skip
          refine g_aload_n 1 dX10_split_80 rfl ?_
          refine g_bipush dX10_split_81 (by decide) ?_
          refine g_aload_n 1 dX10_split_83 rfl ?_
          refine g_getf 0 dX10_split_84 kX10 (by decide) fX10_78 (RD.o rk215_0) rfl ?_
          refine g_iconst dX10_split_87 ?_
          refine g_isub dX10_split_88 ?_
          refine g_iconst dX10_split_89 ?_
          refine g_idiv dX10_split_90 (by omega) (by omega) (by omega) (by omega) ?_
          refine g_i2l dX10_split_91 (by first | assumption | (unfold gW; omega) | (unfold gW; split <;> omega)) ?_
          refine g_bipush dX10_split_92 (by decide) ?_
          refine g_bipush dX10_split_94 (by decide) ?_
          have hn9 : ((((p : Int)) - (1)) / (2)).toNat = (p - 1) / 2 := by omega
          refine g_callV (nc2 := 0) (ns2 := 0) (ci := 10) (As := [.int (gI (23)), .long (gJ ((((p : Int)) - (1)) / (2))), .int (gI (22)), .int (gI (24))]) (st := []) rfl dX10_split_96 okX10_raise lX10_195 itX10_raise seX10_raise rfl (RD.o rk215_0) (by decide) (by decide) rfl (Nat.le_of_ble_eq_true rfl) (sM_raise N _ B p hp hp2 _ _ _ _ _ _ _ (23) (22) (24) ((((p : Int)) - (1)) / (2)) (by omega) (by omega) (by omega) (by omega) (by omega) (by omega) (rm hp (t0) (H b)) (H b) (RD.o rk215_0) (RD.ma rk215_0) rn214_0 rk215_3 (by omega)) (by omega) (by omega) (fun v437 hc437 q437 => ?_)
          obtain ⟨rfl, mfc438, rn438_0⟩ := q437
          have rk439_0 : RD B h0 hc437 p hf le fc pn rn hn qn g9 g10 g11 g12 g13 g14 g15 g16 g17 g18 g19 g20 := RD.mf rk215_0 mfc438
          have rk439_1 : NR B [15, 22, 23, 24, 25, 26, 30, 31, 32, 33, 34, 35, 36, 37] h hc437 := NR.tr rk215_1 ((MF.nr mfc438).mo (sbI_c (List.Mem.tail _ (List.Mem.tail _ (List.Mem.tail _ (List.Mem.tail _ (List.Mem.tail _ (List.Mem.tail _ (List.Mem.tail _ (List.Mem.tail _ (List.Mem.tail _ (List.Mem.tail _ (List.Mem.head _))))))))))) (sbI_c (List.Mem.tail _ (List.Mem.tail _ (List.Mem.tail _ (List.Mem.tail _ (List.Mem.tail _ (List.Mem.tail _ (List.Mem.tail _ (List.Mem.tail _ (List.Mem.tail _ (List.Mem.tail _ (List.Mem.tail _ (List.Mem.head _)))))))))))) (sbI_c (List.Mem.tail _ (List.Mem.tail _ (List.Mem.tail _ (List.Mem.tail _ (List.Mem.tail _ (List.Mem.tail _ (List.Mem.tail _ (List.Mem.tail _ (List.Mem.tail _ (List.Mem.tail _ (List.Mem.tail _ (List.Mem.tail _ (List.Mem.head _))))))))))))) (sbI_c (List.Mem.tail _ (List.Mem.tail _ (List.Mem.tail _ (List.Mem.tail _ (List.Mem.tail _ (List.Mem.tail _ (List.Mem.tail _ (List.Mem.tail _ (List.Mem.tail _ (List.Mem.tail _ (List.Mem.tail _ (List.Mem.tail _ (List.Mem.tail _ (List.Mem.head _)))))))))))))) (sbI_c (List.Mem.tail _ (List.Mem.tail _ (List.Mem.tail _ (List.Mem.head _)))) sbI_n))))))
          have rk439_2 : MG hp B hc437 (21) (t0) := (rk215_2).fr hp2 mfc438 (Nr.c (by omega) (Nr.c (by omega) (Nr.c (by omega) (Nr.c (by omega) (Nr.c (by omega) Nr.n)))))
          have rk439_3 : MG hp B hc437 (22) (H b) := (rk215_3).fr hp2 mfc438 (Nr.c (by omega) (Nr.c (by omega) (Nr.c (by omega) (Nr.c (by omega) (Nr.c (by omega) Nr.n)))))
          have rk439_4 : MG hp B hc437 (23) (rm hp (t0) (H b)) := (rn214_0).fr hp2 mfc438 (Nr.c (by omega) (Nr.c (by omega) (Nr.c (by omega) (Nr.c (by omega) (Nr.c (by omega) Nr.n)))))
          have rk439_5 : MG hp B hc437 (15) (qt hp (t0) (H b)) := (rn214_1).fr hp2 mfc438 (Nr.c (by omega) (Nr.c (by omega) (Nr.c (by omega) (Nr.c (by omega) (Nr.c (by omega) Nr.n)))))
          refine Go.nf (h' := hc437) (st' := []) rfl rfl (Nat.le_refl _) (Nat.le_refl _) ?_
          have rz440 : MG hp B hc437 24 (rm hp (pwp hp (rm hp t0 (H b)) ((p - 1) / 2)) (H b)) := by rw [← hn9]; exact rn438_0
          refine g_aload_n 1 dX10_split_99 rfl ?_
          refine g_bipush dX10_split_100 (by decide) ?_
          refine g_iconst dX10_split_102 ?_
          refine g_callV (nc2 := 0) (ns2 := 0) (ci := 10) (As := [.int (gI (25)), .int (gI (1))]) (st := []) rfl dX10_split_103 okX10_be lX10_170 itX10_be seX10_be rfl (RD.o rk439_0) (by decide) (by decide) rfl (Nat.le_of_ble_eq_true rfl) (sM_be N _ B p hp hp2 _ _ _ _ _ _ _ (25) (1) (by omega) (by omega) (by omega) (RD.o rk439_0) (RD.ma rk439_0)) (by omega) (by omega) (fun v441 hc441 q441 => ?_)
          obtain ⟨rfl, mfc442, rn442_0⟩ := q441
          have rk443_0 : RD B h0 hc441 p hf le fc pn rn hn qn g9 g10 g11 g12 g13 g14 g15 g16 g17 g18 g19 g20 := RD.mf rk439_0 mfc442
          have rk443_1 : NR B [15, 22, 23, 24, 25, 26, 30, 31, 32, 33, 34, 35, 36, 37] h hc441 := NR.tr rk439_1 ((MF.nr mfc442).mo (sbI_c (List.Mem.tail _ (List.Mem.tail _ (List.Mem.tail _ (List.Mem.tail _ (List.Mem.head _))))) sbI_n))
          have rk443_2 : MG hp B hc441 (21) (t0) := (rk439_2).fr hp2 mfc442 (Nr.c (by omega) Nr.n)
          have rk443_3 : MG hp B hc441 (22) (H b) := (rk439_3).fr hp2 mfc442 (Nr.c (by omega) Nr.n)
          have rk443_4 : MG hp B hc441 (23) (rm hp (t0) (H b)) := (rk439_4).fr hp2 mfc442 (Nr.c (by omega) Nr.n)
          have rk443_5 : MG hp B hc441 (15) (qt hp (t0) (H b)) := (rk439_5).fr hp2 mfc442 (Nr.c (by omega) Nr.n)
          have rk443_6 : MG hp B hc441 (24) (rm hp (pwp hp (rm hp t0 (H b)) ((p - 1) / 2)) (H b)) := (rz440).fr hp2 mfc442 (Nr.c (by omega) Nr.n)
          refine Go.nf (h' := hc441) (st' := []) rfl rfl (Nat.le_refl _) (Nat.le_refl _) ?_
          refine g_aload_n 1 dX10_split_106 rfl ?_
          refine g_bipush dX10_split_107 (by decide) ?_
          refine g_bipush dX10_split_109 (by decide) ?_
          refine g_bipush dX10_split_111 (by decide) ?_
          refine g_callV (nc2 := 0) (ns2 := 0) (ci := 10) (As := [.int (gI (24)), .int (gI (25)), .int (gI (23))]) (st := []) rfl dX10_split_113 okX10_minus lX10_192 itX10_minus seX10_minus rfl (RD.o rk443_0) (by decide) (by decide) rfl (Nat.le_of_ble_eq_true rfl) (sM_minus N _ B p hp hp2 _ _ _ _ _ _ _ (24) (25) (23) (by omega) (rm hp (pwp hp (rm hp t0 (H b)) ((p - 1) / 2)) (H b)) (cz hp (zi hp (1))) (RD.o rk443_0) (RD.ma rk443_0) rk443_6 rn442_0) (by omega) (by omega) (fun v444 hc444 q444 => ?_)
          obtain ⟨rfl, mfc445, rn445_0⟩ := q444
          have rk446_0 : RD B h0 hc444 p hf le fc pn rn hn qn g9 g10 g11 g12 g13 g14 g15 g16 g17 g18 g19 g20 := RD.mf rk443_0 mfc445
          have rk446_1 : NR B [15, 22, 23, 24, 25, 26, 30, 31, 32, 33, 34, 35, 36, 37] h hc444 := NR.tr rk443_1 ((MF.nr mfc445).mo (sbI_c (List.Mem.tail _ (List.Mem.tail _ (List.Mem.head _))) sbI_n))
          have rk446_2 : MG hp B hc444 (21) (t0) := (rk443_2).fr hp2 mfc445 (Nr.c (by omega) Nr.n)
          have rk446_3 : MG hp B hc444 (22) (H b) := (rk443_3).fr hp2 mfc445 (Nr.c (by omega) Nr.n)
          have rk446_5 : MG hp B hc444 (15) (qt hp (t0) (H b)) := (rk443_5).fr hp2 mfc445 (Nr.c (by omega) Nr.n)
          have rk446_6 : MG hp B hc444 (24) (rm hp (pwp hp (rm hp t0 (H b)) ((p - 1) / 2)) (H b)) := (rk443_6).fr hp2 mfc445 (Nr.c (by omega) Nr.n)
          have rk446_7 : MG hp B hc444 (25) (cz hp (zi hp (1))) := (rn442_0).fr hp2 mfc445 (Nr.c (by omega) Nr.n)
          refine Go.nf (h' := hc444) (st' := []) rfl rfl (Nat.le_refl _) (Nat.le_refl _) ?_
          have htp : po (fR hp) (rm hp t0 (H b)) := rm_po hp ht0 hfp (by omega)
          have hup : po (fR hp) (rm hp (pwp hp (rm hp t0 (H b)) ((p - 1) / 2)) (H b)) := rm_po hp (pw_po hp htp _) hfp (by omega)
          have ec1 : cz hp (zi hp 1) = (letI := pR hp; (1 : Px p)) := cz_z1 hp
          have hxp : po (fR hp) (psb hp (rm hp (pwp hp (rm hp t0 (H b)) ((p - 1) / 2)) (H b)) (cz hp (zi hp (1)))) := sub_po hup (cz_po hp _)
          have eg : gP hp (H b) (psb hp (rm hp (pwp hp (rm hp t0 (H b)) ((p - 1) / 2)) (H b)) (cz hp (zi hp (1)))) = gP hp (tpl hp (rm hp t0 (H b))) (H b) := by
                                                                      letI := pR hp
                                                                      rw [gP_sy hp hfp hxp]
                                                                      have e0 : tpl hp (rm hp t0 (H b)) = (pwp hp (rm hp t0 (H b)) ((p - 1) / 2) - 1 : Px p) := if_neg (by omega)
                                                                      rw [e0]
                                                                      refine gP_un hp (sub_po (pw_po hp htp _) (one_po (fR hp))) hfp (isG_cg hp hfp ?_ (gP_sp hp hxp hfp))
                                                                      have e2 := rm_dv hp (pw_po hp htp ((p - 1) / 2)) hfp (by omega)
                                                                      have e3 : (pwp hp (rm hp t0 (H b)) ((p - 1) / 2) - 1 : Px p) - (rm hp (pwp hp (rm hp t0 (H b)) ((p - 1) / 2)) (H b) - cz hp (zi hp 1)) = pwp hp (rm hp t0 (H b)) ((p - 1) / 2) - rm hp (pwp hp (rm hp t0 (H b)) ((p - 1) / 2)) (H b) := by
                                                                        rw [ec1]
                                                                        generalize pwp hp (rm hp t0 (H b)) ((p - 1) / 2) = x
                                                                        generalize rm hp x (H b) = y
                                                                        grind
                                                                      show dv (fR hp) (H b) ((pwp hp (rm hp t0 (H b)) ((p - 1) / 2) - 1 : Px p) - (rm hp (pwp hp (rm hp t0 (H b)) ((p - 1) / 2)) (H b) - cz hp (zi hp 1)))
                                                                      rw [e3]; exact e2
          refine g_aload_n 1 dX10_split_116 rfl ?_
          refine g_bipush dX10_split_117 (by decide) ?_
          refine g_bipush dX10_split_119 (by decide) ?_
          refine g_bipush dX10_split_121 (by decide) ?_
          refine g_callV (nc2 := 0) (ns2 := 0) (ci := 10) (As := [.int (gI (22)), .int (gI (23)), .int (gI (24))]) (st := []) rfl dX10_split_123 okX10_common lX10_185 itX10_common seX10_common rfl (RD.o rk446_0) (by decide) (by decide) rfl (Nat.le_of_ble_eq_true rfl) (sM_common N _ B p hp hp2 _ _ _ _ _ _ _ (22) (23) (24) (by omega) (by omega) (by omega) (H b) (psb hp (rm hp (pwp hp (rm hp t0 (H b)) ((p - 1) / 2)) (H b)) (cz hp (zi hp (1)))) (RD.o rk446_0) (RD.ma rk446_0) rk446_3 rn445_0) (by omega) (by omega) (fun v447 hc447 q447 => ?_)
          obtain ⟨rfl, mfc448, rn448_0⟩ := q447
          have rk449_0 : RD B h0 hc447 p hf le fc pn rn hn qn g9 g10 g11 g12 g13 g14 g15 g16 g17 g18 g19 g20 := RD.mf rk446_0 mfc448
          have rk449_1 : NR B [15, 22, 23, 24, 25, 26, 30, 31, 32, 33, 34, 35, 36, 37] h hc447 := NR.tr rk446_1 ((MF.nr mfc448).mo (sbI_c (List.Mem.tail _ (List.Mem.tail _ (List.Mem.tail _ (List.Mem.tail _ (List.Mem.tail _ (List.Mem.tail _ (List.Mem.head _))))))) (sbI_c (List.Mem.tail _ (List.Mem.tail _ (List.Mem.tail _ (List.Mem.tail _ (List.Mem.tail _ (List.Mem.tail _ (List.Mem.tail _ (List.Mem.head _)))))))) (sbI_c (List.Mem.tail _ (List.Mem.tail _ (List.Mem.tail _ (List.Mem.tail _ (List.Mem.tail _ (List.Mem.tail _ (List.Mem.tail _ (List.Mem.tail _ (List.Mem.head _))))))))) (sbI_c (List.Mem.tail _ (List.Mem.tail _ (List.Mem.tail _ (List.Mem.tail _ (List.Mem.tail _ (List.Mem.tail _ (List.Mem.tail _ (List.Mem.tail _ (List.Mem.tail _ (List.Mem.head _)))))))))) (sbI_c (List.Mem.tail _ (List.Mem.tail _ (List.Mem.tail _ (List.Mem.head _)))) sbI_n))))))
          have rk449_2 : MG hp B hc447 (21) (t0) := (rk446_2).fr hp2 mfc448 (Nr.c (by omega) (Nr.c (by omega) (Nr.c (by omega) (Nr.c (by omega) (Nr.c (by omega) Nr.n)))))
          have rk449_3 : MG hp B hc447 (22) (H b) := (rk446_3).fr hp2 mfc448 (Nr.c (by omega) (Nr.c (by omega) (Nr.c (by omega) (Nr.c (by omega) (Nr.c (by omega) Nr.n)))))
          have rk449_4 : MG hp B hc447 (15) (qt hp (t0) (H b)) := (rk446_5).fr hp2 mfc448 (Nr.c (by omega) (Nr.c (by omega) (Nr.c (by omega) (Nr.c (by omega) (Nr.c (by omega) Nr.n)))))
          have rk449_6 : MG hp B hc447 (25) (cz hp (zi hp (1))) := (rk446_7).fr hp2 mfc448 (Nr.c (by omega) (Nr.c (by omega) (Nr.c (by omega) (Nr.c (by omega) (Nr.c (by omega) Nr.n)))))
          have rk449_7 : MG hp B hc447 (23) (psb hp (rm hp (pwp hp (rm hp t0 (H b)) ((p - 1) / 2)) (H b)) (cz hp (zi hp (1)))) := (rn445_0).fr hp2 mfc448 (Nr.c (by omega) (Nr.c (by omega) (Nr.c (by omega) (Nr.c (by omega) (Nr.c (by omega) Nr.n)))))
          refine Go.nf (h' := hc447) (st' := []) rfl rfl (Nat.le_refl _) (Nat.le_refl _) ?_
          have rz450 : MG hp B hc447 24 (gP hp (tpl hp (rm hp t0 (H b))) (H b)) := by rw [← eg]; exact rn448_0
          have hgg : isG hp (tpl hp (rm hp t0 (H b))) (H b) (gP hp (tpl hp (rm hp t0 (H b))) (H b)) := gP_sp hp (tpl_po hp htp) hfp
          have htv : (letI := pR hp; dv (fR hp) (H b) (rm hp t0 (H b) - (fv + cz hp s))) := by
                                                                      letI := pR hp
                                                                      have e1 := dv_neg hp (rm_dv hp ht0 hfp (by omega))
                                                                      rw [et0] at e1; rw [et0]; exact e1
          have hdl9 := rz450.lt
          refine g_aload_n 1 dX10_split_126 rfl ?_
          refine g_getf 6 dX10_split_127 kX10 (by decide) fX10_26 (RD.o rk449_0) rfl ?_
          refine g_bipush dX10_split_130 (by decide) ?_
          obtain ⟨dz451, ez451, fz451⟩ := MG.get rz450
          refine g_iaload dX10_split_132 ez451 (by omega) (by omega) (by omega) ?_
          rw [fz451]
          refine g_if_le (tgt := 219) dX10_split_133 rfl (by first | assumption | (unfold gW; omega) | (unfold gW; split <;> omega)) (fun c452 => ?_) (fun c452 => ?_)
          · skip
            exact g_vret dX10_split_219 rfl ⟨rfl, rk449_1, Or.inl ⟨cut_no hp hsq (dgi_dg hp hfp (by omega)) hk hdv htp htv hgg (by omega), rk449_0⟩⟩
          · skip
            refine g_aload_n 1 dX10_split_136 rfl ?_
            refine g_getf 6 dX10_split_137 kX10 (by decide) fX10_26 (RD.o rk449_0) rfl ?_
            refine g_bipush dX10_split_140 (by decide) ?_
            obtain ⟨dz453, ez453, fz453⟩ := MG.get rz450
            refine g_iaload dX10_split_142 ez453 (by omega) (by omega) (by omega) ?_
            rw [fz453]
            refine g_aload_n 1 dX10_split_143 rfl ?_
            refine g_getf 6 dX10_split_144 kX10 (by decide) fX10_26 (RD.o rk449_0) rfl ?_
            refine g_bipush dX10_split_147 (by decide) ?_
            obtain ⟨dz454, ez454, fz454⟩ := MG.get rk449_3
            refine g_iaload dX10_split_149 ez454 (by omega) (by omega) (by omega) ?_
            rw [fz454]
            refine g_icmp_ge (tgt := 219) dX10_split_150 rfl (by first | assumption | (unfold gW; omega) | (unfold gW; split <;> omega)) (by first | assumption | (unfold gW; omega) | (unfold gW; split <;> omega)) (fun c455 => ?_) (fun c455 => ?_)
            · skip
              exact g_vret dX10_split_219 rfl ⟨rfl, rk449_1, Or.inl ⟨cut_no hp hsq (dgi_dg hp hfp (by omega)) hk hdv htp htv hgg (by omega), rk449_0⟩⟩
            · skip
              have hpt := prt_y hp hmn hsq hfp hk hdv htp htv hgg (by omega) (by omega)
              have hqd := qt_dgi hp hfp hgg.1 (by omega)
              refine g_aload_n 1 dX10_split_153 rfl ?_
              refine g_bipush dX10_split_154 (by decide) ?_
              refine g_bipush dX10_split_156 (by decide) ?_
              refine g_bipush dX10_split_158 (by decide) ?_
              refine g_bipush dX10_split_160 (by decide) ?_
              refine g_callV (nc2 := 0) (ns2 := 0) (ci := 10) (As := [.int (gI (22)), .int (gI (24)), .int (gI (25)), .int (gI (26))]) (st := []) rfl dX10_split_162 okX10_divide lX10_176 itX10_divide seX10_divide rfl (RD.o rk449_0) (by decide) (by decide) rfl (Nat.le_of_ble_eq_true rfl) (sM_divide N _ B p hp hp2 _ _ _ _ _ _ _ (22) (24) (25) (26) (by omega) (by omega) (by omega) (by omega) (by omega) (by omega) (H b) (gP hp (tpl hp (rm hp t0 (H b))) (H b)) (RD.o rk449_0) (RD.ma rk449_0) rk449_3 rz450 (by omega)) (by omega) (by omega) (fun v456 hc456 q456 => ?_)
              obtain ⟨rfl, mfc457, rn457_0, rn457_1⟩ := q456
              have rk458_0 : RD B h0 hc456 p hf le fc pn rn hn qn g9 g10 g11 g12 g13 g14 g15 g16 g17 g18 g19 g20 := RD.mf rk449_0 mfc457
              have rk458_1 : NR B [15, 22, 23, 24, 25, 26, 30, 31, 32, 33, 34, 35, 36, 37] h hc456 := NR.tr rk449_1 ((MF.nr mfc457).mo (sbI_c (List.Mem.tail _ (List.Mem.tail _ (List.Mem.tail _ (List.Mem.tail _ (List.Mem.tail _ (List.Mem.head _)))))) (sbI_c (List.Mem.tail _ (List.Mem.tail _ (List.Mem.tail _ (List.Mem.tail _ (List.Mem.head _))))) sbI_n)))
              have rk458_2 : MG hp B hc456 (21) (t0) := (rk449_2).fr hp2 mfc457 (Nr.c (by omega) (Nr.c (by omega) Nr.n))
              have rk458_3 : MG hp B hc456 (22) (H b) := (rk449_3).fr hp2 mfc457 (Nr.c (by omega) (Nr.c (by omega) Nr.n))
              have rk458_4 : MG hp B hc456 (15) (qt hp (t0) (H b)) := (rk449_4).fr hp2 mfc457 (Nr.c (by omega) (Nr.c (by omega) Nr.n))
              have rk458_6 : MG hp B hc456 (23) (psb hp (rm hp (pwp hp (rm hp t0 (H b)) ((p - 1) / 2)) (H b)) (cz hp (zi hp (1)))) := (rk449_7).fr hp2 mfc457 (Nr.c (by omega) (Nr.c (by omega) Nr.n))
              have rk458_7 : MG hp B hc456 (24) (gP hp (tpl hp (rm hp t0 (H b))) (H b)) := (rz450).fr hp2 mfc457 (Nr.c (by omega) (Nr.c (by omega) Nr.n))
              refine Go.nf (h' := hc456) (st' := []) rfl rfl (Nat.le_refl _) (Nat.le_refl _) ?_
              refine g_aload_n 1 dX10_split_165 rfl ?_
              refine g_getf 22 dX10_split_166 kX10 (by decide) fX10_57 (RD.o rk458_0) rfl ?_
              refine g_iload_n 2 dX10_split_169 rfl ?_
              refine g_aload_n 1 dX10_split_170 rfl ?_
              refine g_getf 6 dX10_split_171 kX10 (by decide) fX10_26 (RD.o rk458_0) rfl ?_
              refine g_bipush dX10_split_174 (by decide) ?_
              obtain ⟨dz459, ez459, fz459⟩ := MG.get rk458_7
              refine g_iaload dX10_split_176 ez459 (by omega) (by omega) (by omega) ?_
              rw [fz459]
              refine g_iastore dX10_split_177 (RD.t16 rk458_0) (by omega) (by omega) (by omega) ?_
              obtain ⟨hh460, eh460⟩ : ∃ z : GH, z = hset hc456 (B + 16) (aI 100 (gup (g16) (b) (dgi hp (gP hp (tpl hp (rm hp t0 (H b))) (H b))))) := ⟨_, rfl⟩
              refine Go.hp eh460.symm ?_
              have rd460 : RD B h0 hh460 p hf le fc pn rn hn qn g9 g10 g11 g12 g13 g14 g15 (gup (g16) (b) (dgi hp (gP hp (tpl hp (rm hp t0 (H b))) (H b)))) g17 g18 g19 g20 := RD.cell rk458_0 (by rw [eh460]; rfl) (fun x hx => by rw [eh460, hset_n _ _ (by omega)]) (hs_n eh460 (show NE (B) (B + 16) by unfold NE; omega) (RD.o rk458_0)) (hs_n eh460 (show NE (B + 9) (B + 16) by unfold NE; omega) (RD.t9 rk458_0)) (hs_n eh460 (show NE (B + 10) (B + 16) by unfold NE; omega) (RD.t10 rk458_0)) (hs_n eh460 (show NE (B + 11) (B + 16) by unfold NE; omega) (RD.t11 rk458_0)) (hs_n eh460 (show NE (B + 12) (B + 16) by unfold NE; omega) (RD.t12 rk458_0)) (hs_n eh460 (show NE (B + 13) (B + 16) by unfold NE; omega) (RD.t13 rk458_0)) (hs_n eh460 (show NE (B + 14) (B + 16) by unfold NE; omega) (RD.t14 rk458_0)) (hs_n eh460 (show NE (B + 15) (B + 16) by unfold NE; omega) (RD.t15 rk458_0)) (hs_s eh460) (hs_n eh460 (show NE (B + 17) (B + 16) by unfold NE; omega) (RD.t17 rk458_0)) (hs_n eh460 (show NE (B + 18) (B + 16) by unfold NE; omega) (RD.t18 rk458_0)) (hs_n eh460 (show NE (B + 19) (B + 16) by unfold NE; omega) (RD.t19 rk458_0)) (hs_n eh460 (show NE (B + 20) (B + 16) by unfold NE; omega) (RD.t20 rk458_0))
              have e5_460 : hh460.2 (B + 5) = hc456.2 (B + 5) := by rw [eh460, hset_n _ _ (by omega)]
              have e6_460 : hh460.2 (B + 6) = hc456.2 (B + 6) := by rw [eh460, hset_n _ _ (by omega)]
              have rg460_1 : NR B [15, 22, 23, 24, 25, 26, 30, 31, 32, 33, 34, 35, 36, 37] h hh460 := NR.h5 rk458_1 e5_460 e6_460
              have rg460_2 : MG hp B hh460 (21) (t0) := (rk458_2).of5 e5_460 e6_460
              have rg460_3 : MG hp B hh460 (22) (H b) := (rk458_3).of5 e5_460 e6_460
              have rg460_4 : MG hp B hh460 (15) (qt hp (t0) (H b)) := (rk458_4).of5 e5_460 e6_460
              have rg460_5 : MG hp B hh460 (23) (psb hp (rm hp (pwp hp (rm hp t0 (H b)) ((p - 1) / 2)) (H b)) (cz hp (zi hp (1)))) := (rk458_6).of5 e5_460 e6_460
              have rg460_6 : MG hp B hh460 (24) (gP hp (tpl hp (rm hp t0 (H b))) (H b)) := (rk458_7).of5 e5_460 e6_460
              have rg460_7 : MG hp B hh460 (26) (rm hp (H b) (gP hp (tpl hp (rm hp t0 (H b))) (H b))) := (rn457_0).of5 e5_460 e6_460
              have rg460_8 : MG hp B hh460 (25) (qt hp (H b) (gP hp (tpl hp (rm hp t0 (H b))) (H b))) := (rn457_1).of5 e5_460 e6_460
              refine g_iconst dX10_split_178 ?_
              refine g_istore_n (ls2 := [(2, .int (gI (0))), (0, .ref (B)), (1, .int (gI (b)))]) dX10_split_179 rfl (by decide) rfl ?_
              have lw : ∀ (kk : Nat) (c : Int) (hlw : GH), kk = (41 - c).toNat → True → RD B h0 hlw p hf le fc pn rn hn qn g9 g10 g11 g12 g13 g14 g15 (gup (g16) (b) (dgi hp (gP hp (tpl hp (rm hp t0 (H b))) (H b)))) (wT g17 b (gP hp (tpl hp (rm hp t0 (H b))) (H b)) c) g18 g19 g20 → NR B [15, 22, 23, 24, 25, 26, 30, 31, 32, 33, 34, 35, 36, 37] h hlw → MG hp B hlw (21) (t0) → MG hp B hlw (22) (H b) → MG hp B hlw (15) (qt hp (t0) (H b)) → MG hp B hlw (23) (psb hp (rm hp (pwp hp (rm hp t0 (H b)) ((p - 1) / 2)) (H b)) (cz hp (zi hp (1)))) → MG hp B hlw (24) (gP hp (tpl hp (rm hp t0 (H b))) (H b)) → MG hp B hlw (26) (rm hp (H b) (gP hp (tpl hp (rm hp t0 (H b))) (H b))) → MG hp B hlw (25) (qt hp (H b) (gP hp (tpl hp (rm hp t0 (H b))) (H b))) → (0 ≤ c ∧ c ≤ 41) → Go N mX10_split (fun v h1 => v = none ∧ NR B [15, 22, 23, 24, 25, 26, 30, 31, 32, 33, 34, 35, 36, 37] h h1 ∧ ((alk hp fv (H b) s ∧ RD B h0 h1 p hf le fc pn rn hn qn g9 g10 g11 g12 g13 g14 g15 g16 g17 g18 g19 g20) ∨ ∃ d k, prt hp fv (H b) s d k ∧ RD B h0 h1 p hf le fc pn rn (hn + 1) qn g9 g10 g11 g12 g13 g14 g15 (gup (gup g16 b (dgi hp (d))) hn (dgi hp (k))) (wT (wT g17 b (d) 41) hn (k) 41) g18 g19 g20)) 0 0 hlw 180 [(2, .int (gI (c))), (0, .ref (B)), (1, .int (gI (b)))] [] := by
                refine Go.ind (fun kk ih_lw => ?_)
                intro c hlw hkk_lw fr_lw cr_lw_0 cr_lw_1 cr_lw_2 cr_lw_3 cr_lw_4 cr_lw_5 cr_lw_6 cr_lw_7 cr_lw_8 hc
                refine g_iload_n 0 dX10_split_180 rfl ?_
                refine g_bipush dX10_split_181 (by decide) ?_
                refine g_icmp_gt (tgt := 213) dX10_split_183 rfl (by first | assumption | (unfold gW; omega) | (unfold gW; split <;> omega)) (by first | assumption | (unfold gW; omega) | (unfold gW; split <;> omega)) (fun c561 => ?_) (fun c561 => ?_)
                · skip
                  have rdz : RD B h0 hlw p hf le fc pn rn hn qn g9 g10 g11 g12 g13 g14 g15 (gup (g16) (b) (dgi hp (gP hp (tpl hp (rm hp t0 (H b))) (H b)))) (wT g17 b (gP hp (tpl hp (rm hp t0 (H b))) (H b)) 41) g18 g19 g20 := by
                                                                      have hc9 : c = 41 := by omega
                                                                      have e9 := cr_lw_0
                                                                      rw [hc9] at e9; exact e9
                  refine g_aload_n 1 dX10_split_213 rfl ?_
                  refine g_bipush dX10_split_214 (by decide) ?_
                  refine g_callV (nc2 := 0) (ns2 := 0) (ci := 10) (As := [.int (gI (25))]) (st := []) rfl dX10_split_216 okX10_push lX10_211 itX10_push seX10_push rfl (RD.o rdz) (by decide) (by decide) rfl (Nat.le_of_ble_eq_true rfl) (sM_push N _ B p hp hp2 h0 hf le fc pn rn hn qn g9 g10 g11 g12 g13 g14 g15 (gup (g16) (b) (dgi hp (gP hp (tpl hp (rm hp t0 (H b))) (H b)))) (wT g17 b (gP hp (tpl hp (rm hp t0 (H b))) (H b)) 41) g18 g19 g20 25 (by omega) (qt hp (H b) (gP hp (tpl hp (rm hp t0 (H b))) (H b))) (by omega) (fun _ => ⟨by omega, by omega⟩) rdz cr_lw_8) (by omega) (by omega) (fun v562 hc562 q562 => ?_)
                  obtain ⟨rfl, nr563, hcs563⟩ := q562
                  rcases hcs563 with ⟨hx, _⟩ | ⟨_, rd563⟩
                  · exfalso; omega
                  have rk564_1 : NR B [15, 22, 23, 24, 25, 26, 30, 31, 32, 33, 34, 35, 36, 37] h hc562 := NR.tr cr_lw_1 (NR.mo nr563 sbI_n)
                  have rk564_2 : MG hp B hc562 (21) (t0) := nr563 p hp (21) _ hp2 Nr.n cr_lw_2
                  have rk564_3 : MG hp B hc562 (22) (H b) := nr563 p hp (22) _ hp2 Nr.n cr_lw_3
                  have rk564_4 : MG hp B hc562 (15) (qt hp (t0) (H b)) := nr563 p hp (15) _ hp2 Nr.n cr_lw_4
                  have rk564_5 : MG hp B hc562 (23) (psb hp (rm hp (pwp hp (rm hp t0 (H b)) ((p - 1) / 2)) (H b)) (cz hp (zi hp (1)))) := nr563 p hp (23) _ hp2 Nr.n cr_lw_5
                  have rk564_6 : MG hp B hc562 (24) (gP hp (tpl hp (rm hp t0 (H b))) (H b)) := nr563 p hp (24) _ hp2 Nr.n cr_lw_6
                  have rk564_7 : MG hp B hc562 (26) (rm hp (H b) (gP hp (tpl hp (rm hp t0 (H b))) (H b))) := nr563 p hp (26) _ hp2 Nr.n cr_lw_7
                  have rk564_8 : MG hp B hc562 (25) (qt hp (H b) (gP hp (tpl hp (rm hp t0 (H b))) (H b))) := nr563 p hp (25) _ hp2 Nr.n cr_lw_8
                  refine Go.nf (h' := hc562) (st' := []) rfl rfl (Nat.le_refl _) (Nat.le_refl _) ?_
                  exact g_vret dX10_split_219 rfl ⟨rfl, rk564_1, Or.inr ⟨_, _, hpt, rd563⟩⟩
                · skip
                  refine g_aload_n 1 dX10_split_186 rfl ?_
                  refine g_getf 23 dX10_split_187 kX10 (by decide) fX10_60 (RD.o cr_lw_0) rfl ?_
                  refine g_bipush dX10_split_190 (by decide) ?_
                  refine g_iload_n 2 dX10_split_192 rfl ?_
                  refine g_imul dX10_split_193 ?_
                  refine g_iload_n 0 dX10_split_194 rfl ?_
                  refine g_iadd dX10_split_195 ?_
                  refine g_aload_n 1 dX10_split_196 rfl ?_
                  refine g_getf 5 dX10_split_197 kX10 (by decide) fX10_23 (RD.o cr_lw_0) rfl ?_
                  refine g_sipush dX10_split_200 (by decide) ?_
                  refine g_iload_n 0 dX10_split_203 rfl ?_
                  refine g_iadd dX10_split_204 ?_
                  obtain ⟨R565, er565, fr565⟩ := MG.num cr_lw_6
                  refine g_iaload dX10_split_205 er565 (by omega) (by omega) (by omega) ?_
                  rw [show ar R565 (4800 + (c)) = R565 24 (c) from ar_r R565 (r := 24) (show 0 ≤ c by omega) (show c < 200 by omega), fr565 (c) (by omega) (by omega)]
                  refine g_iastore dX10_split_206 (RD.t17 cr_lw_0) (by omega) (by omega) (by omega) ?_
                  obtain ⟨hh566, eh566⟩ : ∃ z : GH, z = hset hlw (B + 17) (aI 4100 (gup (wT g17 b (gP hp (tpl hp (rm hp t0 (H b))) (H b)) c) (((41) * (b)) + (c)) (cf (gP hp (tpl hp (rm hp t0 (H b))) (H b)) (c)))) := ⟨_, rfl⟩
                  refine Go.hp eh566.symm ?_
                  have rd566 : RD B h0 hh566 p hf le fc pn rn hn qn g9 g10 g11 g12 g13 g14 g15 (gup (g16) (b) (dgi hp (gP hp (tpl hp (rm hp t0 (H b))) (H b)))) (gup (wT g17 b (gP hp (tpl hp (rm hp t0 (H b))) (H b)) c) (((41) * (b)) + (c)) (cf (gP hp (tpl hp (rm hp t0 (H b))) (H b)) (c))) g18 g19 g20 := RD.cell cr_lw_0 (by rw [eh566]; rfl) (fun x hx => by rw [eh566, hset_n _ _ (by omega)]) (hs_n eh566 (show NE (B) (B + 17) by unfold NE; omega) (RD.o cr_lw_0)) (hs_n eh566 (show NE (B + 9) (B + 17) by unfold NE; omega) (RD.t9 cr_lw_0)) (hs_n eh566 (show NE (B + 10) (B + 17) by unfold NE; omega) (RD.t10 cr_lw_0)) (hs_n eh566 (show NE (B + 11) (B + 17) by unfold NE; omega) (RD.t11 cr_lw_0)) (hs_n eh566 (show NE (B + 12) (B + 17) by unfold NE; omega) (RD.t12 cr_lw_0)) (hs_n eh566 (show NE (B + 13) (B + 17) by unfold NE; omega) (RD.t13 cr_lw_0)) (hs_n eh566 (show NE (B + 14) (B + 17) by unfold NE; omega) (RD.t14 cr_lw_0)) (hs_n eh566 (show NE (B + 15) (B + 17) by unfold NE; omega) (RD.t15 cr_lw_0)) (hs_n eh566 (show NE (B + 16) (B + 17) by unfold NE; omega) (RD.t16 cr_lw_0)) (hs_s eh566) (hs_n eh566 (show NE (B + 18) (B + 17) by unfold NE; omega) (RD.t18 cr_lw_0)) (hs_n eh566 (show NE (B + 19) (B + 17) by unfold NE; omega) (RD.t19 cr_lw_0)) (hs_n eh566 (show NE (B + 20) (B + 17) by unfold NE; omega) (RD.t20 cr_lw_0))
                  have e5_566 : hh566.2 (B + 5) = hlw.2 (B + 5) := by rw [eh566, hset_n _ _ (by omega)]
                  have e6_566 : hh566.2 (B + 6) = hlw.2 (B + 6) := by rw [eh566, hset_n _ _ (by omega)]
                  have rg566_1 : NR B [15, 22, 23, 24, 25, 26, 30, 31, 32, 33, 34, 35, 36, 37] h hh566 := NR.h5 cr_lw_1 e5_566 e6_566
                  have rg566_2 : MG hp B hh566 (21) (t0) := (cr_lw_2).of5 e5_566 e6_566
                  have rg566_3 : MG hp B hh566 (22) (H b) := (cr_lw_3).of5 e5_566 e6_566
                  have rg566_4 : MG hp B hh566 (15) (qt hp (t0) (H b)) := (cr_lw_4).of5 e5_566 e6_566
                  have rg566_5 : MG hp B hh566 (23) (psb hp (rm hp (pwp hp (rm hp t0 (H b)) ((p - 1) / 2)) (H b)) (cz hp (zi hp (1)))) := (cr_lw_5).of5 e5_566 e6_566
                  have rg566_6 : MG hp B hh566 (24) (gP hp (tpl hp (rm hp t0 (H b))) (H b)) := (cr_lw_6).of5 e5_566 e6_566
                  have rg566_7 : MG hp B hh566 (26) (rm hp (H b) (gP hp (tpl hp (rm hp t0 (H b))) (H b))) := (cr_lw_7).of5 e5_566 e6_566
                  have rg566_8 : MG hp B hh566 (25) (qt hp (H b) (gP hp (tpl hp (rm hp t0 (H b))) (H b))) := (cr_lw_8).of5 e5_566 e6_566
                  refine g_iinc 0 (ls2 := [(2, .int (gI (c + 1))), (0, .ref (B)), (1, .int (gI (b)))]) dX10_split_207 rfl (by decide) rfl ?_
                  refine g_goto (tgt := 180) dX10_split_210 rfl ?_
                  exact ih_lw _ (by omega) (c + 1) hh566 rfl fr_lw (by rw [← wT_s g17 b (gP hp (tpl hp (rm hp t0 (H b))) (H b)) hc.1]; exact rd566) rg566_1 rg566_2 rg566_3 rg566_4 rg566_5 rg566_6 rg566_7 rg566_8 (by omega)
              exact lw _ (0) hh460 rfl trivial (by rw [wT_0]; exact rd460) rg460_1 rg460_2 rg460_3 rg460_4 rg460_5 rg460_6 rg460_7 rg460_8 (by omega)
      · skip
        exact g_vret dX10_split_59 rfl ⟨rfl, rk210_1, Or.inl ⟨(by
                                                                      obtain ⟨y, hy⟩ := cst_rm hp hk.1 hfp (by omega) (by have := rm_lt hp hk.1 hfp (by omega); omega)
                                                                      exact alk_c hp hy _), rk210_0⟩⟩
    · skip
      refine g_aload_n 1 dX10_split_15 rfl ?_
      refine g_getf 5 dX10_split_16 kX10 (by decide) fX10_23 cg_lo_0 rfl ?_
      refine g_sipush dX10_split_19 (by decide) ?_
      refine g_iload_n 0 dX10_split_22 rfl ?_
      refine g_iadd dX10_split_23 ?_
      refine g_aload_n 1 dX10_split_24 rfl ?_
      refine g_getf 23 dX10_split_25 kX10 (by decide) fX10_60 cg_lo_0 rfl ?_
      refine g_bipush dX10_split_28 (by decide) ?_
      refine g_iload_n 2 dX10_split_30 rfl ?_
      refine g_imul dX10_split_31 ?_
      refine g_iload_n 0 dX10_split_32 rfl ?_
      refine g_iadd dX10_split_33 ?_
      refine g_iaload dX10_split_34 cg_lo_9 (by omega) (by omega) (by omega) ?_
      have hq_ : (g17) (((41) * (b)) + (c)) = cf (H b) c := hGk c hc.1 (by omega)
      rw [hq_]
      refine g_iastore dX10_split_35 cf_lo_0 (by omega) (by omega) (by omega) ?_
      obtain ⟨hh667, eh667⟩ : ∃ z : GH, z = hset hlo (B + 5) (aI 8000 (gup (ar (gup R 22 (gF (R 22) (cf (H b)) c))) ((4400) + (c)) (cf (H b) c))) := ⟨_, rfl⟩
      refine Go.hp eh667.symm ?_
      have fh667_0 : hh667.2 (B) = some (mO B ((p : Int)) (hf) (le) (fc) (pn) (rn) (hn) (qn)) := hs_n eh667 neA cg_lo_0
      have fh667_1 : hh667.2 (B + 9) = some (aI 41 (g9)) := hs_n eh667 (show NE (B + 9) (B + 5) by unfold NE; omega) cg_lo_1
      have fh667_2 : hh667.2 (B + 10) = some (aI 41 (g10)) := hs_n eh667 (show NE (B + 10) (B + 5) by unfold NE; omega) cg_lo_2
      have fh667_3 : hh667.2 (B + 11) = some (aI 1681 (g11)) := hs_n eh667 (show NE (B + 11) (B + 5) by unfold NE; omega) cg_lo_3
      have fh667_4 : hh667.2 (B + 12) = some (aI 41 (g12)) := hs_n eh667 (show NE (B + 12) (B + 5) by unfold NE; omega) cg_lo_4
      have fh667_5 : hh667.2 (B + 13) = some (aI 41 (g13)) := hs_n eh667 (show NE (B + 13) (B + 5) by unfold NE; omega) cg_lo_5
      have fh667_6 : hh667.2 (B + 14) = some (aI 1681 (g14)) := hs_n eh667 (show NE (B + 14) (B + 5) by unfold NE; omega) cg_lo_6
      have fh667_7 : hh667.2 (B + 15) = some (aI 41 (g15)) := hs_n eh667 (show NE (B + 15) (B + 5) by unfold NE; omega) cg_lo_7
      have fh667_8 : hh667.2 (B + 16) = some (aI 100 (g16)) := hs_n eh667 (show NE (B + 16) (B + 5) by unfold NE; omega) cg_lo_8
      have fh667_9 : hh667.2 (B + 17) = some (aI 4100 (g17)) := hs_n eh667 (show NE (B + 17) (B + 5) by unfold NE; omega) cg_lo_9
      have fh667_10 : hh667.2 (B + 18) = some (aI 1681 (g18)) := hs_n eh667 (show NE (B + 18) (B + 5) by unfold NE; omega) cg_lo_10
      have fh667_11 : hh667.2 (B + 19) = some (aI 41 (g19)) := hs_n eh667 (show NE (B + 19) (B + 5) by unfold NE; omega) cg_lo_11
      have fh667_12 : hh667.2 (B + 20) = some (aI 1681 (g20)) := hs_n eh667 (show NE (B + 20) (B + 5) by unfold NE; omega) cg_lo_12
      have fh667_13 : hh667.2 (B + 5) = some (aI 8000 (gup (ar (gup R 22 (gF (R 22) (cf (H b)) c))) ((4400) + (c)) (cf (H b) c))) := hs_s eh667
      have fh667_14 : hh667.2 (B + 6) = some (aI 40 (d)) := hs_n eh667 (neC).s cf_lo_1
      have fr667 : Fr [B + 5] hc1 hh667 := Fr.w0 fr_lo (List.Mem.head _) eh667
      refine g_iinc 0 (ls2 := [(2, .int (gI (c + 1))), (0, .ref (B)), (1, .int (gI (b)))]) dX10_split_36 rfl (by decide) rfl ?_
      refine g_goto (tgt := 9) dX10_split_39 rfl ?_
      exact ih_lo _ (by omega) (c + 1) hh667 rfl fr667 (by rw [← gF_s (R 22) (cf (H b)) hc.1, ← ar_wg R _ hc.1 (by omega)]; exact fh667_13) fh667_14 (by omega)
  exact lo _ (0) hc1 rfl (Fr.rf [B + 5] hc1) (by rw [gF_0, gup_id]; exact hR) hD (by omega)
