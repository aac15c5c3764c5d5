section
variable {p : Nat}
/-- g has been divided out m times -/
def dou (h : prm p) (g R R1 : Px p) (m : Int) : Prop := letI := pR h; po (fR h) R1 ∧ 0 ≤ dgi h R1 ∧ R = g ^ m.toNat * R1 ∧ 0 ≤ m ∧ m + dgi h R1 ≤ dgi h R
theorem dou_0 (h : prm p) {g R : Px p} (hR : po (fR h) R) (h0 : 0 ≤ dgi h R) : dou h g R R 0 := by
  letI := pR h
  refine ⟨hR, h0, ?_, by omega, by omega⟩
  show R = g ^ (0 : Nat) * R
  rw [pw_0 (pR h)]; grind
theorem dou_s (h : prm p) {g R R1 : Px p} {m : Int} (hg : irr (fR h) g) (w : dou h g R R1 m) (hd : dv (fR h) g R1) : dou h g R (qt h R1 g) (m + 1) := by
  letI := pR h
  obtain ⟨w1, w2, w3, w4, w5⟩ := w
  obtain ⟨d, d1, d2⟩ := hg.2.1
  have hgd := dgi_of h d2
  have q := qt_of h w1 hg.1 (by omega) hd
  have hle := dv_deg (fld_p h) d2 (dgi_dg h w1 w2) hd
  have qd := qt_dgi h w1 hg.1 (by omega)
  refine ⟨q.1, by omega, ?_, by omega, by omega⟩
  rw [show (m + 1).toNat = m.toNat + 1 by omega, pw_s (pR h)]
  have e1 : R1 = g * qt h R1 g := q.2
  have e2 : R = g ^ m.toNat * (g * qt h R1 g) := by rw [← e1]; exact w3
  refine e2.trans ?_
  generalize qt h R1 g = x
  generalize g ^ m.toNat = y
  grind
theorem dou_e (h : prm p) {g R R1 : Px p} {m : Int} (w : dou h g R R1 m) (hn : ¬ dv (fR h) g R1) : mul_e h g R R1 m.toNat := ⟨w.1, w.2.2.1, hn⟩
end
set_option maxHeartbeats 4000000 in
set_option maxRecDepth 100000 in
theorem sF_divideOut (N : GN) (h : GH) (B f r p : Nat) (hp : prm p) (hp2 : p ≤ 65536) (hBf : B + 58 ≤ f) (hrf : f + 21 ≤ r) (h0 : GH) (gr0 gp0 gr gp : Int → Option Nat) (gt gq gR : Int → Int) (n pn rn tg le sz e : Int) (Q : Int → Px p) (g R : Px p) (hg : irr (fR hp) g) (hR : 0 ≤ dgi hp R ∧ dgi hp R ≤ 40) (hF : FW hp B f h0 gr0 gp0 h gr gp gt gq gR n pn rn tg le sz e Q) (hw : PW p B h) (h6 : RP hp 84 h (f + 6) R) (hr : RP hp 84 h r g) : Sp N yX0_divideOut mX0_divideOut 0 0 [.ref (f), .ref (r)] h (fun v h1 => ∃ m R1, v = some (.int (gI m)) ∧ dou hp g R R1 m ∧ mul_e hp g R R1 m.toNat ∧ RP hp 84 h1 (f + 6) R1 ∧ PW p B h1 ∧ FW hp B f h0 gr0 gp0 h1 gr gp gt gq gR n pn rn tg le sz e Q) := by
  refine Sp.of (by decide) rfl rfl (Nat.le_of_ble_eq_true rfl) ?_
  show Go N mX0_divideOut _ 0 0 h 0 [(0, .ref (f)), (1, .ref (r))] []
  obtain ⟨dg1, dg2, dg3⟩ := hg.2.1
  have hgd : 1 ≤ dgi hp g := by rw [dgi_of hp dg3]; omega
  have hlg := hr.lt
  have hp1 := hp.1
  refine g_iconst dX0_divideOut_0 ?_
  refine g_istore_n (ls2 := [(2, .int (gI (0))), (0, .ref (f)), (1, .ref (r))]) dX0_divideOut_1 rfl (by decide) rfl ?_
  refine g_iconst dX0_divideOut_2 ?_
  refine g_istore_n (ls2 := [(3, .int (gI (0))), (2, .int (gI (0))), (0, .ref (f)), (1, .ref (r))]) dX0_divideOut_3 rfl (by decide) rfl ?_
  have lt : ∀ (kk : Nat) (m : Int) (R1 : Px p) (hlt : GH), kk = (50 - m).toNat → True → FW hp B f h0 gr0 gp0 hlt gr gp gt gq gR n pn rn tg le sz e (Q) → PW p B hlt → RP hp 84 hlt (f + 6) (R1) → RP hp 84 hlt (r) (g) → (dou hp g R R1 m) → Go N mX0_divideOut (fun v h1 => ∃ m R1, v = some (.int (gI m)) ∧ dou hp g R R1 m ∧ mul_e hp g R R1 m.toNat ∧ RP hp 84 h1 (f + 6) R1 ∧ PW p B h1 ∧ FW hp B f h0 gr0 gp0 h1 gr gp gt gq gR n pn rn tg le sz e Q) 0 0 hlt 4 [(3, .int (gI (m))), (2, .int (gI (m))), (0, .ref (f)), (1, .ref (r))] [] := by
    refine Go.ind (fun kk ih_lt => ?_)
    intro m R1 hlt hkk_lt fr_lt cr_lt_0 cr_lt_1 cr_lt_2 cr_lt_3 hm
    have hm1 := hm.2.1
    have hm4 := hm.2.2.2.1
    have hm5 := hm.2.2.2.2
    refine g_iload_n 0 dX0_divideOut_4 rfl ?_
    refine g_bipush dX0_divideOut_5 (by decide) ?_
    refine g_icmp_gt (tgt := 83) dX0_divideOut_7 rfl (by first | assumption | (unfold gW; omega) | (unfold gW; split <;> omega)) (by first | assumption | (unfold gW; omega) | (unfold gW; split <;> omega)) (fun c101 => ?_) (fun c101 => ?_)
    · skip
      refine g_iload_n 1 dX0_divideOut_83 rfl ?_
      exact g_iret dX0_divideOut_84 rfl ⟨m, R1, rfl, hm, dou_e hp hm (fun q => by have := dv_deg (fld_p hp) (dgi_dg hp hg.1 (by omega)) (dgi_dg hp hm.1 (by omega)) q; omega), cr_lt_2, cr_lt_1, cr_lt_0⟩
    · skip
      refine g_aload_n 2 dX0_divideOut_10 rfl ?_
      refine g_getf 8 dX0_divideOut_11 kX0 (by decide) fX0_34 (FW.ob cr_lt_0) rfl ?_
      refine g_getf 1 dX0_divideOut_14 kX5 (by decide) fX0_93 (cr_lt_2).o rfl ?_
      refine g_aload_n 3 dX0_divideOut_17 rfl ?_
      refine g_getf 1 dX0_divideOut_18 kX5 (by decide) fX0_93 (cr_lt_3).o rfl ?_
      refine g_icmp_lt (tgt := 83) dX0_divideOut_21 rfl (by first | assumption | (unfold gW; omega) | (unfold gW; split <;> omega)) (by first | assumption | (unfold gW; omega) | (unfold gW; split <;> omega)) (fun c102 => ?_) (fun c102 => ?_)
      · skip
        refine g_iload_n 1 dX0_divideOut_83 rfl ?_
        exact g_iret dX0_divideOut_84 rfl ⟨m, R1, rfl, hm, dou_e hp hm (fun q => by have := dv_deg (fld_p hp) (dgi_dg hp hg.1 (by omega)) (dgi_dg hp hm.1 (by omega)) q; omega), cr_lt_2, cr_lt_1, cr_lt_0⟩
      · skip
        refine g_aload_n 2 dX0_divideOut_24 rfl ?_
        refine g_getf 9 dX0_divideOut_25 kX0 (by decide) fX0_38 (FW.ob cr_lt_0) rfl ?_
        refine g_aload_n 2 dX0_divideOut_28 rfl ?_
        refine g_getf 8 dX0_divideOut_29 kX0 (by decide) fX0_34 (FW.ob cr_lt_0) rfl ?_
        have hdcf8 := (cr_lt_2).lt
        refine g_callV (nc2 := 0) (ns2 := 0) (ci := 5) (As := [.ref (f + 6)]) (st := []) rfl dX0_divideOut_32 okX5_copy lX0_84 itX5_copy seX5_copy rfl (Classical.choose_spec (RA.o (FW.ra cr_lt_0 8 (by omega)))) (by decide) (by decide) rfl (Nat.le_of_ble_eq_true rfl) (sP_copy N _ (f + 8) (f + 6) 84 84 p hp hp2 (R1) (FW.ra cr_lt_0 8 (by omega)) cr_lt_2 (by omega) (show AP (f + 8) (f + 6) by unfold AP; omega)) (by omega) (by omega) (fun v103 hc103 q103 => ?_)
        obtain ⟨rfl, frc104, rn104_0⟩ := q103
        have rk105_0 : PW p B hc103 := (cr_lt_1).fr2 frc104 (ok_c (by omega) (fun _ h => absurd h (List.not_mem_nil)))
        have rk5105_0 : RP hp 84 hc103 (f + 6) (R1) := (cr_lt_2).fr frc104 (Ai.c (show AP (f + 6) (f + 8) by unfold AP; omega) (Ai.n _))
        have rk5105_1 : RP hp 84 hc103 (r) (g) := (cr_lt_3).fr frc104 (Ai.c (show AP (r) (f + 8) by unfold AP; omega) (Ai.n _))
        refine Go.nf (h' := hc103) (st' := []) rfl rfl (Nat.le_refl _) (Nat.le_refl _) ?_
        have fw106 : FW hp B f h0 gr0 gp0 hc103 gr gp gt gq gR n pn rn tg le sz e (Q) := FW.pr cr_lt_0 frc104 (fw_c (by omega) fw_n) (six (Or.inl (Ai.c (show AP (f + 6) (f + 8) by unfold AP; omega) (Ai.n _))) (Or.inr (rn104_0).ra) (Or.inl (Ai.c (show AP (f + 10) (f + 8) by unfold AP; omega) (Ai.n _))) (Or.inl (Ai.c (show AP (f + 15) (f + 8) by unfold AP; omega) (Ai.n _))) (Or.inl (Ai.c (show AP (f + 17) (f + 8) by unfold AP; omega) (Ai.n _))) (Or.inl (Ai.c (show AP (f + 19) (f + 8) by unfold AP; omega) (Ai.n _)))) (Or.inl ⟨(Ni.c ⟨(show NE (f + 12) (f + 8) by unfold NE; omega), (show NE (f + 12) (f + 9) by unfold NE; omega)⟩ (Ni.n _)), rfl⟩) (Or.inl (Ni.c ⟨(show NE (f + 13) (f + 8) by unfold NE; omega), (show NE (f + 13) (f + 9) by unfold NE; omega)⟩ (Ni.n _))) (Or.inl (Ni.c ⟨(show NE (f + 14) (f + 8) by unfold NE; omega), (show NE (f + 14) (f + 9) by unfold NE; omega)⟩ (Ni.n _)))
        refine g_aload_n 2 dX0_divideOut_35 rfl ?_
        refine g_getf 1 dX0_divideOut_36 kX0 (by decide) fX0_48 (FW.ob fw106) rfl ?_
        refine g_aload_n 2 dX0_divideOut_39 rfl ?_
        refine g_getf 9 dX0_divideOut_40 kX0 (by decide) fX0_38 (FW.ob fw106) rfl ?_
        refine g_aload_n 3 dX0_divideOut_43 rfl ?_
        refine g_aload_n 2 dX0_divideOut_44 rfl ?_
        refine g_getf 10 dX0_divideOut_45 kX0 (by decide) fX0_41 (FW.ob fw106) rfl ?_
        refine g_callV (nc2 := 0) (ns2 := 0) (ci := 2) (As := [.ref (f + 8), .ref (r), .ref (f + 10)]) (st := []) rfl dX0_divideOut_48 okX2_reduce lX0_115 itX2_reduce seX2_reduce rfl (rk105_0).1 (by decide) (by decide) rfl (Nat.le_of_ble_eq_true rfl) (sP_reduce N _ B (f + 8) (r) (f + 10) 84 84 84 p hp hp2 (dgi hp (R1)) (p : Int) (R1) (g) (by omega) (rk105_0).1 (rk105_0).2.1 (rn104_0).ru rk5105_1 (FW.ra fw106 10 (by omega)) (by omega) (by omega) (show AP (f + 8) (r) by unfold AP; omega) (show AP (f + 8) (f + 10) by unfold AP; omega) (show AP (r) (f + 10) by unfold AP; omega) (by omega) (by omega) (by omega)) (by omega) (by omega) (fun v107 hc107 q107 => ?_)
        obtain ⟨rfl, frc108, rn108_0, rn108_1⟩ := q107
        have rk109_2 : PW p B hc107 := (rk105_0).fr2 frc108 (ok_c (by omega) (ok_c (by omega) (fun _ h => absurd h (List.not_mem_nil))))
        have rk5109_0 : RP hp 84 hc107 (f + 6) (R1) := (rk5105_0).fr frc108 (Ai.c (show AP (f + 6) (f + 8) by unfold AP; omega) (Ai.c (show AP (f + 6) (f + 10) by unfold AP; omega) (Ai.n _)))
        have rk5109_1 : RP hp 84 hc107 (r) (g) := (rk5105_1).fr frc108 (Ai.c (show AP (r) (f + 8) by unfold AP; omega) (Ai.c (show AP (r) (f + 10) by unfold AP; omega) (Ai.n _)))
        refine Go.nf (h' := hc107) (st' := []) rfl rfl (Nat.le_refl _) (Nat.le_refl _) ?_
        have fw110 : FW hp B f h0 gr0 gp0 hc107 gr gp gt gq gR n pn rn tg le sz e (Q) := FW.pr fw106 frc108 (fw_c (by omega) (fw_c (by omega) fw_n)) (six (Or.inl (Ai.c (show AP (f + 6) (f + 8) by unfold AP; omega) (Ai.c (show AP (f + 6) (f + 10) by unfold AP; omega) (Ai.n _)))) (Or.inr (rn108_0).ra) (Or.inr (rn108_1).ra) (Or.inl (Ai.c (show AP (f + 15) (f + 8) by unfold AP; omega) (Ai.c (show AP (f + 15) (f + 10) by unfold AP; omega) (Ai.n _)))) (Or.inl (Ai.c (show AP (f + 17) (f + 8) by unfold AP; omega) (Ai.c (show AP (f + 17) (f + 10) by unfold AP; omega) (Ai.n _)))) (Or.inl (Ai.c (show AP (f + 19) (f + 8) by unfold AP; omega) (Ai.c (show AP (f + 19) (f + 10) by unfold AP; omega) (Ai.n _))))) (Or.inl ⟨(Ni.c ⟨(show NE (f + 12) (f + 8) by unfold NE; omega), (show NE (f + 12) (f + 9) by unfold NE; omega)⟩ (Ni.c ⟨(show NE (f + 12) (f + 10) by unfold NE; omega), (show NE (f + 12) (f + 11) by unfold NE; omega)⟩ (Ni.n _))), rfl⟩) (Or.inl (Ni.c ⟨(show NE (f + 13) (f + 8) by unfold NE; omega), (show NE (f + 13) (f + 9) by unfold NE; omega)⟩ (Ni.c ⟨(show NE (f + 13) (f + 10) by unfold NE; omega), (show NE (f + 13) (f + 11) by unfold NE; omega)⟩ (Ni.n _)))) (Or.inl (Ni.c ⟨(show NE (f + 14) (f + 8) by unfold NE; omega), (show NE (f + 14) (f + 9) by unfold NE; omega)⟩ (Ni.c ⟨(show NE (f + 14) (f + 10) by unfold NE; omega), (show NE (f + 14) (f + 11) by unfold NE; omega)⟩ (Ni.n _))))
        have hdw := (rn108_0).lt
        refine g_aload_n 2 dX0_divideOut_51 rfl ?_
        refine g_getf 9 dX0_divideOut_52 kX0 (by decide) fX0_38 (FW.ob fw110) rfl ?_
        refine g_getf 1 dX0_divideOut_55 kX5 (by decide) fX0_93 (rn108_0).o rfl ?_
        refine g_if_lt (tgt := 63) dX0_divideOut_58 rfl (by first | assumption | (unfold gW; omega) | (unfold gW; split <;> omega)) (fun c111 => ?_) (fun c111 => ?_)
        · skip
          refine g_aload_n 2 dX0_divideOut_63 rfl ?_
          refine g_getf 8 dX0_divideOut_64 kX0 (by decide) fX0_34 (FW.ob fw110) rfl ?_
          refine g_aload_n 2 dX0_divideOut_67 rfl ?_
          refine g_getf 10 dX0_divideOut_68 kX0 (by decide) fX0_41 (FW.ob fw110) rfl ?_
          have hdcf6 := (rn108_1).lt
          refine g_callV (nc2 := 0) (ns2 := 0) (ci := 5) (As := [.ref (f + 10)]) (st := []) rfl dX0_divideOut_71 okX5_copy lX0_84 itX5_copy seX5_copy rfl (rk5109_0).o (by decide) (by decide) rfl (Nat.le_of_ble_eq_true rfl) (sP_copy N _ (f + 6) (f + 10) 84 84 p hp hp2 (qt hp (R1) (g)) (rk5109_0).ra rn108_1 (by omega) (show AP (f + 6) (f + 10) by unfold AP; omega)) (by omega) (by omega) (fun v112 hc112 q112 => ?_)
          obtain ⟨rfl, frc113, rn113_0⟩ := q112
          have rk114_2 : PW p B hc112 := (rk109_2).fr2 frc113 (ok_c (by omega) (fun _ h => absurd h (List.not_mem_nil)))
          have rk5114_1 : RP hp 84 hc112 (r) (g) := (rk5109_1).fr frc113 (Ai.c (show AP (r) (f + 6) by unfold AP; omega) (Ai.n _))
          have rk5114_2 : RP hp 84 hc112 (f + 8) (rm hp (R1) (g)) := (rn108_0).fr frc113 (Ai.c (show AP (f + 8) (f + 6) by unfold AP; omega) (Ai.n _))
          have rk5114_3 : RP hp 84 hc112 (f + 10) (qt hp (R1) (g)) := (rn108_1).fr frc113 (Ai.c (show AP (f + 10) (f + 6) by unfold AP; omega) (Ai.n _))
          refine Go.nf (h' := hc112) (st' := []) rfl rfl (Nat.le_refl _) (Nat.le_refl _) ?_
          have fw115 : FW hp B f h0 gr0 gp0 hc112 gr gp gt gq gR n pn rn tg le sz e (Q) := FW.pr fw110 frc113 (fw_c (by omega) fw_n) (six (Or.inr (rn113_0).ra) (Or.inl (Ai.c (show AP (f + 8) (f + 6) by unfold AP; omega) (Ai.n _))) (Or.inl (Ai.c (show AP (f + 10) (f + 6) by unfold AP; omega) (Ai.n _))) (Or.inl (Ai.c (show AP (f + 15) (f + 6) by unfold AP; omega) (Ai.n _))) (Or.inl (Ai.c (show AP (f + 17) (f + 6) by unfold AP; omega) (Ai.n _))) (Or.inl (Ai.c (show AP (f + 19) (f + 6) by unfold AP; omega) (Ai.n _)))) (Or.inl ⟨(Ni.c ⟨(show NE (f + 12) (f + 6) by unfold NE; omega), (show NE (f + 12) (f + 7) by unfold NE; omega)⟩ (Ni.n _)), rfl⟩) (Or.inl (Ni.c ⟨(show NE (f + 13) (f + 6) by unfold NE; omega), (show NE (f + 13) (f + 7) by unfold NE; omega)⟩ (Ni.n _))) (Or.inl (Ni.c ⟨(show NE (f + 14) (f + 6) by unfold NE; omega), (show NE (f + 14) (f + 7) by unfold NE; omega)⟩ (Ni.n _)))
          refine g_iinc 1 (ls2 := [(2, .int (gI (m + 1))), (3, .int (gI (m))), (0, .ref (f)), (1, .ref (r))]) dX0_divideOut_74 rfl (by decide) rfl ?_
          refine g_iinc 1 (ls2 := [(3, .int (gI (m + 1))), (2, .int (gI (m + 1))), (0, .ref (f)), (1, .ref (r))]) dX0_divideOut_77 rfl (by decide) rfl ?_
          refine g_goto (tgt := 4) dX0_divideOut_80 rfl ?_
          exact ih_lt _ (by omega) (m + 1) (qt hp R1 g) hc112 rfl fr_lt fw115 rk114_2 rn113_0 rk5114_1 (dou_s hp hg hm ((rm_dvz hp hm.1 hg.1 (by omega)).mp (by omega)))
        · skip
          refine g_iload_n 1 dX0_divideOut_61 rfl ?_
          exact g_iret dX0_divideOut_62 rfl ⟨m, R1, rfl, hm, dou_e hp hm (fun q => by have := (rm_dvz hp hm.1 hg.1 (by omega)).mpr q; omega), rk5109_0, rk109_2, fw110⟩
  exact lt _ (0) (R) h rfl trivial hF hw h6 hr (dou_0 hp h6.po (by omega))
