section
variable {p : Nat}
theorem PO_sh (h : prm p) {d s : Int} {g : Int → Int} {f : Px p} (w : PO h d g f) (hd : 1 ≤ d) : PO h d (gup g 0 ((g 0 + s) % p)) (letI := pR h; f + cz h (zi h s)) := by
  letI := fR h
  letI := pR h
  have hp := h.1
  refine ⟨w.1, fun k k0 k1 => ?_, fun _ => ?_, funext fun k => ?_⟩
  · unfold gup
    split
    · exact emod_in h _
    · exact w.2.1 k k0 k1
  · unfold gup
    rw [if_neg (by omega)]
    exact w.2.2.1 (by omega)
  · have e := congrFun w.2.2.2 k
    show f k + (if k = 0 then zi h s else 0) = (if (k : Int) ≤ d then zi h (gup g 0 ((g 0 + s) % p) k) else 0)
    rw [e]
    show (if (k : Int) ≤ d then zi h (g k) else 0) + _ = _
    unfold gup
    by_cases z : k = 0
    · subst z
      rw [if_pos (by omega), if_pos rfl, if_pos (by omega), if_pos (by omega), zi_mod, zi_add]; rfl
    · rw [if_neg z, if_neg (show ¬ (k : Int) = 0 by omega)]
      split <;> grind
theorem ph_m1 (h : prm p) {d T : Int} {g : Int → Int} {u : Px p} (w : PO h d g u) (hT : (0 ≤ d ∧ T = d) ∨ (d < 0 ∧ T = 0)) : (letI := pR h; u - 1) = ph h (gup g 0 ((cf u 0 - 1) % p)) T := funext fun k => by
  letI := fR h
  letI := pR h
  have hp := h.1
  show u k - (if k = 0 then 1 else 0) = (if (k : Int) ≤ T then zi h (gup g 0 ((cf u 0 - 1) % p) k) else 0)
  unfold gup
  by_cases z : k = 0
  · subst z
    rw [if_pos rfl, if_pos (by omega), if_pos (by omega), zi_mod, zi_sub, zi_1]
    have e := cf_zi h u 0
    rw [← e]; rfl
  · have e := congrFun w.2.2.2 k
    rw [if_neg z, if_neg (show ¬ (k : Int) = 0 by omega), e]
    show (if (k : Int) ≤ d then zi h (g k) else 0) - 0 = _
    by_cases y : (k : Int) ≤ d
    · rw [if_pos y, if_pos (by omega)]; grind
    · rw [if_neg y, if_neg (by omega)]; grind
theorem isG_cg (h : prm p) {f f2 g d : Px p} (hg : po (fR h) g) (e : letI := pR h; dv (fR h) g (f2 - f)) (w : isG h f g d) : isG h f2 g d := by
  letI := pR h
  obtain ⟨w1, w2, w3, ⟨u, v, hu, hv, w4⟩, w5⟩ := w
  obtain ⟨q, hq, eq⟩ := e
  have eq2 : f2 - f = q * g := eq
  refine ⟨w1, ?_, w3, ⟨u, v - u * q, hu, sub_po hv (mul_po hu hq), ?_⟩, w5⟩
  · have a := dv_add w2 (dv_tr w3 (show dv (fR h) g (f2 - f) from ⟨q, hq, eq⟩))
    have e3 : f + (f2 - f) = f2 := by grind
    rw [← e3]; exact a
  · rw [w4]
    have e4 : f2 = f + q * g := by rw [← eq2]; grind
    rw [e4]; grind
theorem mnc_co (h : prm p) {f d k : Px p} {a b : Nat} (hd : dg (fR h) d a) (hk : dg (fR h) k b) (e : f = zmul (fR h) d k) (md : mnc h d) (mf : mnc h f) : mnc h k := by
  letI := fR h
  have hf : dg (fR h) f (a + b) := by rw [e]; exact mul_dg (fld_p h) hd hk
  rcases md with z | z
  · rw [dgi_of h hd] at z; omega
  rcases mf with y | y
  · rw [dgi_of h hf] at y; omega
  refine Or.inr ?_
  rw [dgi_of h hd] at z
  rw [dgi_of h hf] at y
  rw [dgi_of h hk]
  rw [show ((a : Int)).toNat = a by omega] at z
  rw [show (((a + b : Nat) : Int)).toNat = a + b by omega, e, mul_top (fR h) hd.2 hk.2, z] at y
  rw [show ((b : Int)).toNat = b by omega, ← y]; grind
theorem mnc_mul (h : prm p) {d k : Px p} {a b : Nat} (hd : dg (fR h) d a) (hk : dg (fR h) k b) (md : mnc h d) (mk : mnc h k) : mnc h (zmul (fR h) d k) := by
  letI := fR h
  have hf : dg (fR h) (zmul (fR h) d k) (a + b) := mul_dg (fld_p h) hd hk
  rcases md with z | z
  · rw [dgi_of h hd] at z; omega
  rcases mk with y | y
  · rw [dgi_of h hk] at y; omega
  refine Or.inr ?_
  rw [dgi_of h hd] at z
  rw [dgi_of h hk] at y
  rw [dgi_of h hf]
  rw [show ((a : Int)).toNat = a by omega] at z
  rw [show ((b : Int)).toNat = b by omega] at y
  rw [show (((a + b : Nat) : Int)).toNat = a + b by omega, mul_top (fR h) hd.2 hk.2, z, y]; grind
/-- a divisor and its quotient -/
theorem qt_of (h : prm p) {f d : Px p} (hf : po (fR h) f) (hd : po (fR h) d) (h0 : 0 ≤ dgi h d) (hv : dv (fR h) d f) : po (fR h) (qt h f d) ∧ f = zmul (fR h) d (qt h f d) := by
  letI := pR h
  obtain ⟨a, b, c⟩ := qr_sp h hf hd h0
  have e := dgi_z h (rm_po h hf hd h0) ((rm_dvz h hf hd h0).mpr hv)
  refine ⟨a, ?_⟩
  show f = d * qt h f d
  rw [e] at b
  exact b.trans (by grind)
/-- what parts() does -/
def prt (h : prm p) (fv fr : Px p) (s : Fp p) (d k : Px p) : Prop := po (fR h) d ∧ po (fR h) k ∧ fr = zmul (fR h) d k ∧ alk h fv d s ∧ alk h fv k s ∧ 1 ≤ dgi h d ∧ 1 ≤ dgi h k ∧ mnc h d ∧ mnc h k
theorem prt_y (h : prm p) {w fv fr t d : Px p} {s : Fp p} (hm : mnc h fr) (hsq : sqf h fr) (hfp : po (fR h) fr) (hk : ker h w fv) (hd : dv (fR h) fr w) (ht : po (fR h) t) (htv : letI := pR h; dv (fR h) fr (t - (fv + cz h s))) (hg : isG h (tpl h t) fr d) (h1 : 1 ≤ dgi h d) (h2 : dgi h d < dgi h fr) : prt h fv fr s d (qt h fr d) := by
  have h3 := qt_of h hfp hg.1 (by omega) hg.2.2.1
  obtain ⟨a1, a2⟩ := cut_alk h hsq hfp hk hd ht htv hg h3.1 h3.2
  have h4 := qt_dgi h hfp hg.1 (by omega)
  refine ⟨hg.1, h3.1, h3.2, a1, a2, h1, by omega, hg.2.2.2.2, ?_⟩
  exact mnc_co h (dgi_dg h hg.1 (by omega)) (dgi_dg h h3.1 (by omega)) h3.2 hg.2.2.2.2 hm
end
set_option maxHeartbeats 4000000 in
set_option maxRecDepth 100000 in
theorem sF_parts (N : GN) (h : GH) (B f r o p : Nat) (hp : prm p) (hp2 : p ≤ 65536) (hBf : B + 58 ≤ f) (hrf : f + 21 ≤ r) (hof : f + 21 ≤ o) (sz s : Int) (hs : 0 ≤ s ∧ s < p) (w fv fr : Px p) (hd1 : 1 ≤ dgi hp (rm hp fv fr)) (hdr : 2 ≤ dgi hp fr ∧ dgi hp fr ≤ 40) (hm : mnc hp fr) (hsq : sqf hp fr) (hk : ker hp w fv) (hd : dv (fR hp) fr w) (aro : AP r o) (hw : PW p B h) (hsp : h.2 (f + 12) = some (spO B f sz)) (h19 : RP hp 84 h (f + 19) (rm hp fv fr)) (hr : RP hp 84 h r fr) (ho : RA 84 h o) : Sp N yX6_parts mX6_parts 0 0 [.ref (f + 12), .ref (r), .int (gI (s)), .ref (o)] h (fun v h1 => Fr ((f + 19) :: r :: o :: pl B) h h1 ∧ PW p B h1 ∧ RA 84 h1 (f + 19) ∧ ((v = some (.int (gI 0)) ∧ alk hp fv fr (zi hp s) ∧ RP hp 84 h1 r fr ∧ RA 84 h1 o) ∨ (v = some (.int (gI 1)) ∧ ∃ d k, prt hp fv fr (zi hp s) d k ∧ RP hp 84 h1 r d ∧ RP hp 84 h1 o k))) := by
  refine Sp.of (by decide) rfl rfl (Nat.le_of_ble_eq_true rfl) ?_
  show Go N mX6_parts _ 0 0 h 0 [(0, .ref (f + 12)), (1, .ref (r)), (2, .int (gI (s))), (3, .ref (o))] []
  have ar19 : AP r (f + 19) := by unfold AP; omega
  have ao19 : AP o (f + 19) := by unfold AP; omega
  have aro9 := aro
  unfold AP at aro9
  have hp1 := hp.1
  obtain ⟨g9, ⟨y1, y2, y3, y4, y5, y6, y7⟩, hP9⟩ := h19
  have hgb9 := hP9.2.1 0 (by omega) (by omega)
  refine g_aload_n 0 dX6_parts_0 rfl ?_
  refine g_getf 6 dX6_parts_1 kX6 (by decide) fX6_31 hsp rfl ?_
  refine g_getf 0 dX6_parts_4 kX5 (by decide) fX6_90 y1 rfl ?_
  refine g_iconst dX6_parts_7 ?_
  refine g_aload_n 0 dX6_parts_8 rfl ?_
  refine g_getf 6 dX6_parts_9 kX6 (by decide) fX6_31 hsp rfl ?_
  refine g_getf 0 dX6_parts_12 kX5 (by decide) fX6_90 y1 rfl ?_
  refine g_iconst dX6_parts_15 ?_
  refine g_laload dX6_parts_16 y2 (by omega) (by omega) (by omega) ?_
  refine g_iload_n 2 dX6_parts_17 rfl ?_
  refine g_i2l dX6_parts_18 (by first | assumption | (unfold gW; omega) | (unfold gW; split <;> omega)) ?_
  refine g_ladd dX6_parts_19 ?_
  refine g_aload_n 0 dX6_parts_20 rfl ?_
  refine g_getf 0 dX6_parts_21 kX6 (by decide) fX6_34 hsp rfl ?_
  refine g_getf 0 dX6_parts_24 kX1 (by decide) fX6_73 hw.2.1 rfl ?_
  refine g_i2l dX6_parts_27 (by first | assumption | (unfold gW; omega) | (unfold gW; split <;> omega)) ?_
  refine g_lrem dX6_parts_28 (by unfold gX; omega) (by unfold gX; omega) (by omega) ?_
  refine g_lastore dX6_parts_29 y2 (by omega) (by omega) (by omega) ?_
  obtain ⟨hh1, eh1⟩ : ∃ z : GH, z = hset h (f + 20) (aJ 84 (gup (g9) (0) ((((g9) (0)) + (s)).tmod ((p : Int))))) := ⟨_, rfl⟩
  refine Go.hp eh1.symm ?_
  have fh1_0 : hh1.2 (f + 12) = some (oB 6 [.ref (B + 1), .ref (B + 7), .ref (f + 13), .ref (f + 14), .ref (f + 15), .ref (f + 17), .ref (f + 19), .int (gI (sz))]) := hs_n eh1 (show NE (f + 12) (f + 20) by unfold NE; omega) hsp
  have fh1_1 : hh1.2 (B + 7) = some (oB 2 [.ref (B + 1), .ref (B + 8), .ref (B + 10), .ref (B + 12), .ref (B + 14), .ref (B + 16), .ref (B + 18), .ref (B + 20), .ref (B + 22)]) := hs_n eh1 (show NE (B + 7) (f + 20) by unfold NE; omega) hw.1
  have fh1_2 : hh1.2 (B + 1) = some (oB 1 [.int (gI ((p : Int)))]) := hs_n eh1 (show NE (B + 1) (f + 20) by unfold NE; omega) hw.2.1
  have fh1_3 : hh1.2 (f + 19) = some (oB 5 [.ref (f + 20), .int (gI (dgi hp (rm hp fv fr)))]) := hs_n eh1 (show NE (f + 19) (f + 20) by unfold NE; omega) y1
  have fh1_4 : hh1.2 (f + 20) = some (aJ 84 (gup (g9) (0) ((((g9) (0)) + (s)).tmod ((p : Int))))) := hs_s eh1
  have fx1 : Fr [f + 19] h hh1 := Fr.w1 (Fr.rf _ _) (List.Mem.head _) eh1
  have rk1_0 : PW p B hh1 := (hw).fr2 fx1 (ok_c (by omega) (fun _ h => absurd h (List.not_mem_nil)))
  have rk5001_0 : RP hp 84 hh1 (r) (fr) := (hr).fr fx1 (Ai.c ar19 (Ai.n _))
  have rk5001_1 : RA 84 hh1 (o) := (ho).fr fx1 (Ai.c ao19 (Ai.n _))
  have fr1 : Fr ((f + 19) :: r :: o :: pl B) h hh1 := Fr.w1 (Fr.rf ((f + 19) :: r :: o :: pl B) h) (List.Mem.head _) eh1
  have etm : (g9 0 + s).tmod (p : Int) = (g9 0 + s) % p := Int.tmod_eq_emod_of_nonneg (by omega)
  have hPs : PO hp (dgi hp (rm hp fv fr)) (gup g9 0 ((g9 0 + s).tmod (p : Int))) (letI := pR hp; rm hp fv fr + cz hp (zi hp s)) := by
                                                                      rw [etm]; exact PO_sh hp (s := s) hP9 (by omega)
  have hts : RP hp 84 hh1 (f + 19) (letI := pR hp; rm hp fv fr + cz hp (zi hp s)) := RP.mk fh1_3 fh1_4 (by omega) hPs hp2
  refine g_aload_n 0 dX6_parts_30 rfl ?_
  refine g_getf 0 dX6_parts_31 kX6 (by decide) fX6_34 fh1_0 rfl ?_
  refine g_getf 0 dX6_parts_34 kX1 (by decide) fX6_73 fh1_2 rfl ?_
  refine g_iconst dX6_parts_37 ?_
  refine g_icmp_le (tgt := 113) dX6_parts_38 rfl (by first | assumption | (unfold gW; omega) | (unfold gW; split <;> omega)) (by first | assumption | (unfold gW; omega) | (unfold gW; split <;> omega)) (fun c2 => ?_) (fun c2 => ?_)
  · skip
    have htp : po (fR hp) (letI := pR hp; rm hp fv fr + cz hp (zi hp s)) := add_po (rm_po hp hk.1 hr.po (by omega)) (cz_po hp _)
    have hp22 : p = 2 := by omega
    have eg : gP hp (letI := pR hp; rm hp fv fr + cz hp (zi hp s)) fr = gP hp (tpl hp (letI := pR hp; rm hp fv fr + cz hp (zi hp s))) fr := by
                                                                      have e0 : tpl hp (letI := pR hp; rm hp fv fr + cz hp (zi hp s)) = (letI := pR hp; rm hp fv fr + cz hp (zi hp s)) := if_pos hp22
                                                                      rw [e0]
    refine g_aload_n 0 dX6_parts_113 rfl ?_
    refine g_getf 1 dX6_parts_114 kX6 (by decide) fX6_38 fh1_0 rfl ?_
    refine g_aload_n 0 dX6_parts_117 rfl ?_
    refine g_getf 6 dX6_parts_118 kX6 (by decide) fX6_31 fh1_0 rfl ?_
    refine g_aload_n 1 dX6_parts_121 rfl ?_
    refine g_aload_n 0 dX6_parts_122 rfl ?_
    refine g_getf 6 dX6_parts_123 kX6 (by decide) fX6_31 fh1_0 rfl ?_
    refine g_callV (nc2 := 0) (ns2 := 0) (ci := 2) (As := [.ref (f + 19), .ref (r), .ref (f + 19)]) (st := []) rfl dX6_parts_126 okX2_commonDivisor lX6_134 itX2_commonDivisor seX2_commonDivisor rfl fh1_1 (by decide) (by decide) rfl (Nat.le_of_ble_eq_true rfl) ((show Sp N yX2_commonDivisor mX2_commonDivisor 0 0 _ _ (fun v h1 => v = none ∧ Fr ((f + 19) :: pl B) _ h1 ∧ RP hp 84 h1 (f + 19) (gP hp (tpl hp (letI := pR hp; rm hp fv fr + cz hp (zi hp s))) fr) ∧ PW p B h1) by rw [← eg]; exact sP_common N _ B (f + 19) (r) (f + 19) p hp hp2 ((letI := pR hp; rm hp fv fr + cz hp (zi hp s))) (fr) rk1_0 hts rk5001_0 (hts).ra (by omega) (by omega) (by omega))) (by omega) (by omega) (fun v3 hc3 q3 => ?_)
    obtain ⟨rfl, frc4, rn4_0, rn4_1⟩ := q3
    have fk5_0 : hc3.2 (f + 12) = some (oB 6 [.ref (B + 1), .ref (B + 7), .ref (f + 13), .ref (f + 14), .ref (f + 15), .ref (f + 17), .ref (f + 19), .int (gI (sz))]) := Fr.at0 frc4 (Ni.c ⟨(show NE (f + 12) (f + 19) by unfold NE; omega), (show NE (f + 12) (f + 20) by unfold NE; omega)⟩ (Ni_pl (by omega))) fh1_0
    have fk5_1 : hc3.2 (B + 7) = some (oB 2 [.ref (B + 1), .ref (B + 8), .ref (B + 10), .ref (B + 12), .ref (B + 14), .ref (B + 16), .ref (B + 18), .ref (B + 20), .ref (B + 22)]) := Fr.at0 frc4 (Ni.c ⟨(show NE (B + 7) (f + 19) by unfold NE; omega), (show NE (B + 7) (f + 20) by unfold NE; omega)⟩ (Ni_pl (by omega))) fh1_1
    have fk5_2 : hc3.2 (B + 1) = some (oB 1 [.int (gI ((p : Int)))]) := Fr.at0 frc4 (Ni.c ⟨(show NE (B + 1) (f + 19) by unfold NE; omega), (show NE (B + 1) (f + 20) by unfold NE; omega)⟩ (Ni_pl (by omega))) fh1_2
    have rk5005_0 : RP hp 84 hc3 (r) (fr) := (rk5001_0).fr frc4 (Ai.c ar19 (Ai_pl (by omega)))
    have rk5005_1 : RA 84 hc3 (o) := (rk5001_1).fr frc4 (Ai.c ao19 (Ai_pl (by omega)))
    have fr5 : Fr ((f + 19) :: r :: o :: pl B) h hc3 := (fr1).tr ((frc4).mo (sub_c (List.Mem.head _) (fun _ hx => (List.Mem.tail _ (List.Mem.tail _ (List.Mem.tail _ hx))))))
    refine Go.nf (h' := hc3) (st' := []) rfl rfl (Nat.le_refl _) (Nat.le_refl _) ?_
    have hgg : isG hp (tpl hp (letI := pR hp; rm hp fv fr + cz hp (zi hp s))) fr (gP hp (tpl hp (letI := pR hp; rm hp fv fr + cz hp (zi hp s))) fr) := gP_sp hp (tpl_po hp htp) hr.po
    have htv : (letI := pR hp; dv (fR hp) fr ((letI := pR hp; rm hp fv fr + cz hp (zi hp s)) - (fv + cz hp (zi hp s)))) := by
                                                                      letI := pR hp
                                                                      have e1 := dv_neg hp (rm_dv hp hk.1 hr.po (by omega))
                                                                      have e2 : (rm hp fv fr + cz hp (zi hp s)) - (fv + cz hp (zi hp s)) = rm hp fv fr - fv := by
                                                                        generalize cz hp (zi hp s) = x
                                                                        generalize rm hp fv fr = y
                                                                        grind
                                                                      rw [e2]; exact e1
    have hdl9 := (rn4_0).lt
    refine g_aload_n 0 dX6_parts_129 rfl ?_
    refine g_getf 6 dX6_parts_130 kX6 (by decide) fX6_31 fk5_0 rfl ?_
    refine g_getf 1 dX6_parts_133 kX5 (by decide) fX6_50 (rn4_0).o rfl ?_
    refine g_iconst dX6_parts_136 ?_
    refine g_icmp_lt (tgt := 154) dX6_parts_137 rfl (by first | assumption | (unfold gW; omega) | (unfold gW; split <;> omega)) (by first | assumption | (unfold gW; omega) | (unfold gW; split <;> omega)) (fun c6 => ?_) (fun c6 => ?_)
    · skip
      refine g_iconst dX6_parts_154 ?_
      exact g_zret dX6_parts_155 rfl (by omega) ⟨fr5, rn4_1, (rn4_0).ra, Or.inl ⟨rfl, cut_no hp hsq (dgi_dg hp hr.po (by omega)) hk hd htp htv hgg (by omega), rk5005_0, rk5005_1⟩⟩
    · skip
      refine g_aload_n 0 dX6_parts_140 rfl ?_
      refine g_getf 6 dX6_parts_141 kX6 (by decide) fX6_31 fk5_0 rfl ?_
      refine g_getf 1 dX6_parts_144 kX5 (by decide) fX6_50 (rn4_0).o rfl ?_
      refine g_aload_n 1 dX6_parts_147 rfl ?_
      refine g_getf 1 dX6_parts_148 kX5 (by decide) fX6_50 (rk5005_0).o rfl ?_
      refine g_icmp_lt (tgt := 156) dX6_parts_151 rfl (by first | assumption | (unfold gW; omega) | (unfold gW; split <;> omega)) (by first | assumption | (unfold gW; omega) | (unfold gW; split <;> omega)) (fun c7 => ?_) (fun c7 => ?_)
      · skip
        refine g_aload_n 0 dX6_parts_156 rfl ?_
        refine g_getf 1 dX6_parts_157 kX6 (by decide) fX6_38 fk5_0 rfl ?_
        refine g_aload_n 1 dX6_parts_160 rfl ?_
        refine g_aload_n 0 dX6_parts_161 rfl ?_
        refine g_getf 6 dX6_parts_162 kX6 (by decide) fX6_31 fk5_0 rfl ?_
        refine g_aload_n 3 dX6_parts_165 rfl ?_
        have hpt := prt_y hp hm hsq hr.po hk hd htp htv hgg (by omega) (by omega)
        refine g_callV (nc2 := 0) (ns2 := 0) (ci := 2) (As := [.ref (r), .ref (f + 19), .ref (o)]) (st := []) rfl dX6_parts_166 okX2_reduce lX6_127 itX2_reduce seX2_reduce rfl fk5_1 (by decide) (by decide) rfl (Nat.le_of_ble_eq_true rfl) (sP_reduce N _ B (r) (f + 19) (o) 84 84 84 p hp hp2 (dgi hp (fr)) (p : Int) (fr) (gP hp (tpl hp (letI := pR hp; rm hp fv fr + cz hp (zi hp s))) fr) (by omega) fk5_1 fk5_2 (rk5005_0).ru rn4_0 rk5005_1 (by omega) (by omega) ar19 aro (ao19).s (by omega) (by omega) (by omega)) (by omega) (by omega) (fun v8 hc8 q8 => ?_)
        obtain ⟨rfl, frc9, rn9_0, rn9_1⟩ := q8
        have fk10_0 : hc8.2 (f + 12) = some (oB 6 [.ref (B + 1), .ref (B + 7), .ref (f + 13), .ref (f + 14), .ref (f + 15), .ref (f + 17), .ref (f + 19), .int (gI (sz))]) := Fr.at0 frc9 (Ni.c ⟨(show NE (f + 12) (r) by unfold NE; omega), (show NE (f + 12) (r + 1) by unfold NE; omega)⟩ (Ni.c ⟨(show NE (f + 12) (o) by unfold NE; omega), (show NE (f + 12) (o + 1) by unfold NE; omega)⟩ (Ni.n _))) fk5_0
        have fk10_1 : hc8.2 (B + 7) = some (oB 2 [.ref (B + 1), .ref (B + 8), .ref (B + 10), .ref (B + 12), .ref (B + 14), .ref (B + 16), .ref (B + 18), .ref (B + 20), .ref (B + 22)]) := Fr.at0 frc9 (Ni.c ⟨(show NE (B + 7) (r) by unfold NE; omega), (show NE (B + 7) (r + 1) by unfold NE; omega)⟩ (Ni.c ⟨(show NE (B + 7) (o) by unfold NE; omega), (show NE (B + 7) (o + 1) by unfold NE; omega)⟩ (Ni.n _))) fk5_1
        have fk10_2 : hc8.2 (B + 1) = some (oB 1 [.int (gI ((p : Int)))]) := Fr.at0 frc9 (Ni.c ⟨(show NE (B + 1) (r) by unfold NE; omega), (show NE (B + 1) (r + 1) by unfold NE; omega)⟩ (Ni.c ⟨(show NE (B + 1) (o) by unfold NE; omega), (show NE (B + 1) (o + 1) by unfold NE; omega)⟩ (Ni.n _))) fk5_2
        have rk10_3 : PW p B hc8 := (rn4_1).fr2 frc9 (ok_c (by omega) (ok_c (by omega) (fun _ h => absurd h (List.not_mem_nil))))
        have rk5010_2 : RP hp 84 hc8 (f + 19) (gP hp (tpl hp (letI := pR hp; rm hp fv fr + cz hp (zi hp s))) fr) := (rn4_0).fr frc9 (Ai.c (ar19).s (Ai.c (ao19).s (Ai.n _)))
        have fr10 : Fr ((f + 19) :: r :: o :: pl B) h hc8 := (fr5).tr ((frc9).mo (sub_c (List.Mem.tail _ (List.Mem.head _)) (sub_c (List.Mem.tail _ (List.Mem.tail _ (List.Mem.head _))) sub_n)))
        refine Go.nf (h' := hc8) (st' := []) rfl rfl (Nat.le_refl _) (Nat.le_refl _) ?_
        refine g_aload_n 1 dX6_parts_169 rfl ?_
        refine g_aload_n 0 dX6_parts_170 rfl ?_
        refine g_getf 6 dX6_parts_171 kX6 (by decide) fX6_31 fk10_0 rfl ?_
        refine g_callV (nc2 := 0) (ns2 := 0) (ci := 5) (As := [.ref (f + 19)]) (st := []) rfl dX6_parts_174 okX5_copy lX6_46 itX5_copy seX5_copy rfl (rn9_0).o (by decide) (by decide) rfl (Nat.le_of_ble_eq_true rfl) (sP_copy N _ (r) (f + 19) 84 84 p hp hp2 (gP hp (tpl hp (letI := pR hp; rm hp fv fr + cz hp (zi hp s))) fr) (rn9_0).ra rk5010_2 (by omega) ar19) (by omega) (by omega) (fun v11 hc11 q11 => ?_)
        obtain ⟨rfl, frc12, rn12_0⟩ := q11
        have fk13_0 : hc11.2 (f + 12) = some (oB 6 [.ref (B + 1), .ref (B + 7), .ref (f + 13), .ref (f + 14), .ref (f + 15), .ref (f + 17), .ref (f + 19), .int (gI (sz))]) := Fr.at0 frc12 (Ni.c ⟨(show NE (f + 12) (r) by unfold NE; omega), (show NE (f + 12) (r + 1) by unfold NE; omega)⟩ (Ni.n _)) fk10_0
        have fk13_1 : hc11.2 (B + 7) = some (oB 2 [.ref (B + 1), .ref (B + 8), .ref (B + 10), .ref (B + 12), .ref (B + 14), .ref (B + 16), .ref (B + 18), .ref (B + 20), .ref (B + 22)]) := Fr.at0 frc12 (Ni.c ⟨(show NE (B + 7) (r) by unfold NE; omega), (show NE (B + 7) (r + 1) by unfold NE; omega)⟩ (Ni.n _)) fk10_1
        have fk13_2 : hc11.2 (B + 1) = some (oB 1 [.int (gI ((p : Int)))]) := Fr.at0 frc12 (Ni.c ⟨(show NE (B + 1) (r) by unfold NE; omega), (show NE (B + 1) (r + 1) by unfold NE; omega)⟩ (Ni.n _)) fk10_2
        have rk13_1 : PW p B hc11 := (rk10_3).fr2 frc12 (ok_c (by omega) (fun _ h => absurd h (List.not_mem_nil)))
        have rk5013_0 : RP hp 84 hc11 (f + 19) (gP hp (tpl hp (letI := pR hp; rm hp fv fr + cz hp (zi hp s))) fr) := (rk5010_2).fr frc12 (Ai.c (ar19).s (Ai.n _))
        have rk5013_2 : RP hp 84 hc11 (o) (qt hp (fr) (gP hp (tpl hp (letI := pR hp; rm hp fv fr + cz hp (zi hp s))) fr)) := (rn9_1).fr frc12 (Ai.c (aro).s (Ai.n _))
        have fr13 : Fr ((f + 19) :: r :: o :: pl B) h hc11 := (fr10).tr ((frc12).mo (sub_c (List.Mem.tail _ (List.Mem.head _)) sub_n))
        refine Go.nf (h' := hc11) (st' := []) rfl rfl (Nat.le_refl _) (Nat.le_refl _) ?_
        refine g_iconst dX6_parts_177 ?_
        exact g_zret dX6_parts_178 rfl (by omega) ⟨fr13, rk13_1, (rk5013_0).ra, Or.inr ⟨rfl, _, _, hpt, rn12_0, rk5013_2⟩⟩
      · skip
        refine g_iconst dX6_parts_154 ?_
        exact g_zret dX6_parts_155 rfl (by omega) ⟨fr5, rn4_1, (rn4_0).ra, Or.inl ⟨rfl, cut_no hp hsq (dgi_dg hp hr.po (by omega)) hk hd htp htv hgg (by omega), rk5005_0, rk5005_1⟩⟩
  · skip
    refine g_aload_n 0 dX6_parts_41 rfl ?_
    refine g_getf 1 dX6_parts_42 kX6 (by decide) fX6_38 fh1_0 rfl ?_
    refine g_aload_n 0 dX6_parts_45 rfl ?_
    refine g_getf 6 dX6_parts_46 kX6 (by decide) fX6_31 fh1_0 rfl ?_
    refine g_aload_n 0 dX6_parts_49 rfl ?_
    refine g_getf 0 dX6_parts_50 kX6 (by decide) fX6_34 fh1_0 rfl ?_
    refine g_getf 0 dX6_parts_53 kX1 (by decide) fX6_73 fh1_2 rfl ?_
    refine g_iconst dX6_parts_56 ?_
    refine g_isub dX6_parts_57 ?_
    refine g_iconst dX6_parts_58 ?_
    refine g_idiv dX6_parts_59 (by omega) (by omega) (by omega) (by omega) ?_
    refine g_i2l dX6_parts_60 (by first | assumption | (unfold gW; omega) | (unfold gW; split <;> omega)) ?_
    refine g_aload_n 1 dX6_parts_61 rfl ?_
    refine g_aload_n 0 dX6_parts_62 rfl ?_
    refine g_getf 6 dX6_parts_63 kX6 (by decide) fX6_31 fh1_0 rfl ?_
    have hn9 : ((((p : Int)) - (1)) / (2)).toNat = (p - 1) / 2 := by omega
    refine g_callV (nc2 := 0) (ns2 := 0) (ci := 2) (As := [.ref (f + 19), .long (gJ ((((p : Int)) - (1)) / (2))), .ref (r), .ref (f + 19)]) (st := []) rfl dX6_parts_66 okX2_powerModulo lX6_93 itX2_powerModulo seX2_powerModulo rfl fh1_1 (by decide) (by decide) rfl (Nat.le_of_ble_eq_true rfl) ((show Sp N yX2_powerModulo mX2_powerModulo 0 0 _ _ (fun v h1 => v = none ∧ Fr ((f + 19) :: pl B) _ h1 ∧ RP hp 84 h1 (f + 19) (rm hp (pwp hp ((letI := pR hp; rm hp fv fr + cz hp (zi hp s))) ((p - 1) / 2)) fr) ∧ PW p B h1) by rw [← hn9]; exact sP_powerModulo N _ B (f + 19) (r) (f + 19) p hp hp2 ((((p : Int)) - (1)) / (2)) ((letI := pR hp; rm hp fv fr + cz hp (zi hp s))) (fr) rk1_0 hts rk5001_0 (hts).ra ⟨by omega, by omega⟩ (by omega) (by unfold gX; omega) (by omega) (by omega) (by omega))) (by omega) (by omega) (fun v14 hc14 q14 => ?_)
    obtain ⟨rfl, frc15, rn15_0, rn15_1⟩ := q14
    have fk16_0 : hc14.2 (f + 12) = some (oB 6 [.ref (B + 1), .ref (B + 7), .ref (f + 13), .ref (f + 14), .ref (f + 15), .ref (f + 17), .ref (f + 19), .int (gI (sz))]) := Fr.at0 frc15 (Ni.c ⟨(show NE (f + 12) (f + 19) by unfold NE; omega), (show NE (f + 12) (f + 20) by unfold NE; omega)⟩ (Ni_pl (by omega))) fh1_0
    have fk16_1 : hc14.2 (B + 7) = some (oB 2 [.ref (B + 1), .ref (B + 8), .ref (B + 10), .ref (B + 12), .ref (B + 14), .ref (B + 16), .ref (B + 18), .ref (B + 20), .ref (B + 22)]) := Fr.at0 frc15 (Ni.c ⟨(show NE (B + 7) (f + 19) by unfold NE; omega), (show NE (B + 7) (f + 20) by unfold NE; omega)⟩ (Ni_pl (by omega))) fh1_1
    have fk16_2 : hc14.2 (B + 1) = some (oB 1 [.int (gI ((p : Int)))]) := Fr.at0 frc15 (Ni.c ⟨(show NE (B + 1) (f + 19) by unfold NE; omega), (show NE (B + 1) (f + 20) by unfold NE; omega)⟩ (Ni_pl (by omega))) fh1_2
    have rk5016_0 : RP hp 84 hc14 (r) (fr) := (rk5001_0).fr frc15 (Ai.c ar19 (Ai_pl (by omega)))
    have rk5016_1 : RA 84 hc14 (o) := (rk5001_1).fr frc15 (Ai.c ao19 (Ai_pl (by omega)))
    have fr16 : Fr ((f + 19) :: r :: o :: pl B) h hc14 := (fr1).tr ((frc15).mo (sub_c (List.Mem.head _) (fun _ hx => (List.Mem.tail _ (List.Mem.tail _ (List.Mem.tail _ hx))))))
    refine Go.nf (h' := hc14) (st' := []) rfl rfl (Nat.le_refl _) (Nat.le_refl _) ?_
    have hru := rn15_0
    have hcu := cf_in (rm hp (pwp hp ((letI := pR hp; rm hp fv fr + cz hp (zi hp s))) ((p - 1) / 2)) fr) hp 0
    refine g_aload_n 0 dX6_parts_69 rfl ?_
    refine g_getf 6 dX6_parts_70 kX6 (by decide) fX6_31 fk16_0 rfl ?_
    refine g_getf 0 dX6_parts_73 kX5 (by decide) fX6_90 (rn15_0).o rfl ?_
    refine g_iconst dX6_parts_76 ?_
    refine g_aload_n 0 dX6_parts_77 rfl ?_
    refine g_getf 0 dX6_parts_78 kX6 (by decide) fX6_34 fk16_0 rfl ?_
    refine g_aload_n 0 dX6_parts_81 rfl ?_
    refine g_getf 6 dX6_parts_82 kX6 (by decide) fX6_31 fk16_0 rfl ?_
    refine g_iconst dX6_parts_85 ?_
    refine g_callV (nc2 := 0) (ns2 := 0) (ci := 5) (As := [.int (gI (0))]) (st := [.ref (B + 1), .int (gI (0)), .ref (f + 20)]) rfl dX6_parts_86 okX5_number lX6_99 itX5_number seX5_number rfl (rn15_0).o (by decide) (by decide) rfl (Nat.le_of_ble_eq_true rfl) (sP_number N _ (f + 19) 84 p hp (rm hp (pwp hp ((letI := pR hp; rm hp fv fr + cz hp (zi hp s))) ((p - 1) / 2)) fr) (0) (by unfold gW; omega) rn15_0) (by omega) (by omega) (fun v18 hc18 q18 => ?_)
    obtain ⟨hq19, rfl⟩ := q18
    refine Go.nf (h' := hc14) (st' := [.long (gJ (cf (rm hp (pwp hp ((letI := pR hp; rm hp fv fr + cz hp (zi hp s))) ((p - 1) / 2)) fr) (0))), .ref (B + 1), .int (gI (0)), .ref (f + 20)]) hq19 rfl (Nat.le_refl _) (Nat.le_refl _) ?_
    refine g_lconst1 dX6_parts_89 ?_
    refine g_lsub dX6_parts_90 ?_
    refine g_callV (nc2 := 0) (ns2 := 0) (ci := 1) (As := [.long (gJ ((cf (rm hp (pwp hp ((letI := pR hp; rm hp fv fr + cz hp (zi hp s))) ((p - 1) / 2)) fr) (0)) - (1)))]) (st := [.int (gI (0)), .ref (f + 20)]) rfl dX6_parts_91 okX1_mod lX6_103 itX1_mod seX1_mod rfl fk16_2 (by decide) (by decide) rfl (Nat.le_of_ble_eq_true rfl) (sX1_mod N _ (B + 1) (p : Int) ((cf (rm hp (pwp hp ((letI := pR hp; rm hp fv fr + cz hp (zi hp s))) ((p - 1) / 2)) fr) (0)) - (1)) (by unfold gX; omega) (by omega) (by omega) fk16_2) (by omega) (by omega) (fun v20 hc20 q20 => ?_)
    obtain ⟨hq21, rfl⟩ := q20
    rw [gMod_em (show (0 : Int) < p by omega)]
    refine Go.nf (h' := hc14) (st' := [.long (gJ (((cf (rm hp (pwp hp ((letI := pR hp; rm hp fv fr + cz hp (zi hp s))) ((p - 1) / 2)) fr) (0)) - (1)) % (p : Int))), .int (gI (0)), .ref (f + 20)]) hq21 rfl (Nat.le_refl _) (Nat.le_refl _) ?_
    obtain ⟨g8, ⟨z1, z2, z3, z4, z5, z6, z7⟩, hP8⟩ := rn15_0
    refine g_lastore dX6_parts_94 z2 (by omega) (by omega) (by omega) ?_
    obtain ⟨hh22, eh22⟩ : ∃ z : GH, z = hset hc14 (f + 20) (aJ 84 (gup (g8) (0) (((cf (rm hp (pwp hp ((letI := pR hp; rm hp fv fr + cz hp (zi hp s))) ((p - 1) / 2)) fr) (0)) - (1)) % (p : Int)))) := ⟨_, rfl⟩
    refine Go.hp eh22.symm ?_
    have fh22_0 : hh22.2 (f + 12) = some (oB 6 [.ref (B + 1), .ref (B + 7), .ref (f + 13), .ref (f + 14), .ref (f + 15), .ref (f + 17), .ref (f + 19), .int (gI (sz))]) := hs_n eh22 (show NE (f + 12) (f + 20) by unfold NE; omega) fk16_0
    have fh22_1 : hh22.2 (B + 7) = some (oB 2 [.ref (B + 1), .ref (B + 8), .ref (B + 10), .ref (B + 12), .ref (B + 14), .ref (B + 16), .ref (B + 18), .ref (B + 20), .ref (B + 22)]) := hs_n eh22 (show NE (B + 7) (f + 20) by unfold NE; omega) fk16_1
    have fh22_2 : hh22.2 (B + 1) = some (oB 1 [.int (gI ((p : Int)))]) := hs_n eh22 (show NE (B + 1) (f + 20) by unfold NE; omega) fk16_2
    have fh22_3 : hh22.2 (f + 19) = some (oB 5 [.ref (f + 20), .int (gI (dgi hp (rm hp (pwp hp ((letI := pR hp; rm hp fv fr + cz hp (zi hp s))) ((p - 1) / 2)) fr)))]) := hs_n eh22 (show NE (f + 19) (f + 20) by unfold NE; omega) z1
    have fh22_4 : hh22.2 (f + 20) = some (aJ 84 (gup (g8) (0) (((cf (rm hp (pwp hp ((letI := pR hp; rm hp fv fr + cz hp (zi hp s))) ((p - 1) / 2)) fr) (0)) - (1)) % (p : Int)))) := hs_s eh22
    have fx22 : Fr [f + 19] hc14 hh22 := Fr.w1 (Fr.rf _ _) (List.Mem.head _) eh22
    have rk22_2 : PW p B hh22 := (rn15_1).fr2 fx22 (ok_c (by omega) (fun _ h => absurd h (List.not_mem_nil)))
    have rk5022_0 : RP hp 84 hh22 (r) (fr) := (rk5016_0).fr fx22 (Ai.c ar19 (Ai.n _))
    have rk5022_1 : RA 84 hh22 (o) := (rk5016_1).fr fx22 (Ai.c ao19 (Ai.n _))
    have fr22 : Fr ((f + 19) :: r :: o :: pl B) h hh22 := Fr.w1 fr16 (List.Mem.head _) eh22
    refine g_aload_n 0 dX6_parts_95 rfl ?_
    refine g_getf 6 dX6_parts_96 kX6 (by decide) fX6_31 fh22_0 rfl ?_
    refine g_iconst dX6_parts_99 ?_
    refine g_aload_n 0 dX6_parts_100 rfl ?_
    refine g_getf 6 dX6_parts_101 kX6 (by decide) fX6_31 fh22_0 rfl ?_
    refine g_getf 1 dX6_parts_104 kX5 (by decide) fX6_50 fh22_3 rfl ?_
    refine g_max dX6_parts_107 lX6_131 (by first | assumption | (unfold gW; omega) | (unfold gW; split <;> omega)) (by first | assumption | (unfold gW; omega) | (unfold gW; split <;> omega)) (by decide) (Nat.le_of_ble_eq_true rfl) ?_
    have hT8 : (0 ≤ dgi hp (rm hp (pwp hp ((letI := pR hp; rm hp fv fr + cz hp (zi hp s))) ((p - 1) / 2)) fr) ∧ (if 0 < dgi hp (rm hp (pwp hp ((letI := pR hp; rm hp fv fr + cz hp (zi hp s))) ((p - 1) / 2)) fr) then dgi hp (rm hp (pwp hp ((letI := pR hp; rm hp fv fr + cz hp (zi hp s))) ((p - 1) / 2)) fr) else 0) = dgi hp (rm hp (pwp hp ((letI := pR hp; rm hp fv fr + cz hp (zi hp s))) ((p - 1) / 2)) fr)) ∨ (dgi hp (rm hp (pwp hp ((letI := pR hp; rm hp fv fr + cz hp (zi hp s))) ((p - 1) / 2)) fr) < 0 ∧ (if 0 < dgi hp (rm hp (pwp hp ((letI := pR hp; rm hp fv fr + cz hp (zi hp s))) ((p - 1) / 2)) fr) then dgi hp (rm hp (pwp hp ((letI := pR hp; rm hp fv fr + cz hp (zi hp s))) ((p - 1) / 2)) fr) else 0) = 0) := by
                                                                      split <;> omega
    have hb8 : ∀ k, 0 ≤ k → k ≤ (if 0 < dgi hp (rm hp (pwp hp ((letI := pR hp; rm hp fv fr + cz hp (zi hp s))) ((p - 1) / 2)) fr) then dgi hp (rm hp (pwp hp ((letI := pR hp; rm hp fv fr + cz hp (zi hp s))) ((p - 1) / 2)) fr) else 0) → 0 ≤ (gup (g8) (0) (((cf (rm hp (pwp hp ((letI := pR hp; rm hp fv fr + cz hp (zi hp s))) ((p - 1) / 2)) fr) (0)) - (1)) % (p : Int))) k ∧ (gup (g8) (0) (((cf (rm hp (pwp hp ((letI := pR hp; rm hp fv fr + cz hp (zi hp s))) ((p - 1) / 2)) fr) (0)) - (1)) % (p : Int))) k < p := fun k k0 k1 => by
                                                                      unfold gup
                                                                      split
                                                                      · exact emod_in hp _
                                                                      · exact hP8.2.1 k k0 (by omega)
    refine g_callV (nc2 := 0) (ns2 := 0) (ci := 5) (As := [.int (gI (if 0 < dgi hp (rm hp (pwp hp ((letI := pR hp; rm hp fv fr + cz hp (zi hp s))) ((p - 1) / 2)) fr) then dgi hp (rm hp (pwp hp ((letI := pR hp; rm hp fv fr + cz hp (zi hp s))) ((p - 1) / 2)) fr) else 0))]) (st := []) rfl dX6_parts_110 okX5_settle lX6_121 itX5_settle seX5_settle rfl fh22_3 (by decide) (by decide) rfl (Nat.le_of_ble_eq_true rfl) (sP_settle N _ (f + 19) 84 p hp hp2 (dgi hp (rm hp (pwp hp ((letI := pR hp; rm hp fv fr + cz hp (zi hp s))) ((p - 1) / 2)) fr)) (if 0 < dgi hp (rm hp (pwp hp ((letI := pR hp; rm hp fv fr + cz hp (zi hp s))) ((p - 1) / 2)) fr) then dgi hp (rm hp (pwp hp ((letI := pR hp; rm hp fv fr + cz hp (zi hp s))) ((p - 1) / 2)) fr) else 0) (gup (g8) (0) (((cf (rm hp (pwp hp ((letI := pR hp; rm hp fv fr + cz hp (zi hp s))) ((p - 1) / 2)) fr) (0)) - (1)) % (p : Int))) (letI := pR hp; rm hp (pwp hp ((letI := pR hp; rm hp fv fr + cz hp (zi hp s))) ((p - 1) / 2)) fr - 1) (by omega) (by omega) (by omega) (by omega) hb8 (ph_m1 hp hP8 hT8) fh22_3 fh22_4) (by omega) (by omega) (fun v23 hc23 q23 => ?_)
    obtain ⟨rfl, frc24, rn24_0⟩ := q23
    have fk25_0 : hc23.2 (f + 12) = some (oB 6 [.ref (B + 1), .ref (B + 7), .ref (f + 13), .ref (f + 14), .ref (f + 15), .ref (f + 17), .ref (f + 19), .int (gI (sz))]) := Fr.at0 frc24 (Ni.c ⟨(show NE (f + 12) (f + 19) by unfold NE; omega), (show NE (f + 12) (f + 20) by unfold NE; omega)⟩ (Ni.n _)) fh22_0
    have fk25_1 : hc23.2 (B + 7) = some (oB 2 [.ref (B + 1), .ref (B + 8), .ref (B + 10), .ref (B + 12), .ref (B + 14), .ref (B + 16), .ref (B + 18), .ref (B + 20), .ref (B + 22)]) := Fr.at0 frc24 (Ni.c ⟨(show NE (B + 7) (f + 19) by unfold NE; omega), (show NE (B + 7) (f + 20) by unfold NE; omega)⟩ (Ni.n _)) fh22_1
    have fk25_2 : hc23.2 (B + 1) = some (oB 1 [.int (gI ((p : Int)))]) := Fr.at0 frc24 (Ni.c ⟨(show NE (B + 1) (f + 19) by unfold NE; omega), (show NE (B + 1) (f + 20) by unfold NE; omega)⟩ (Ni.n _)) fh22_2
    have rk25_2 : PW p B hc23 := (rk22_2).fr2 frc24 (ok_c (by omega) (fun _ h => absurd h (List.not_mem_nil)))
    have rk5025_0 : RP hp 84 hc23 (r) (fr) := (rk5022_0).fr frc24 (Ai.c ar19 (Ai.n _))
    have rk5025_1 : RA 84 hc23 (o) := (rk5022_1).fr frc24 (Ai.c ao19 (Ai.n _))
    have fr25 : Fr ((f + 19) :: r :: o :: pl B) h hc23 := (fr22).tr ((frc24).mo (sub_c (List.Mem.head _) sub_n))
    refine Go.nf (h' := hc23) (st' := []) rfl rfl (Nat.le_refl _) (Nat.le_refl _) ?_
    have htp : po (fR hp) (letI := pR hp; rm hp fv fr + cz hp (zi hp s)) := add_po (rm_po hp hk.1 hr.po (by omega)) (cz_po hp _)
    have hup : po (fR hp) (rm hp (pwp hp ((letI := pR hp; rm hp fv fr + cz hp (zi hp s))) ((p - 1) / 2)) fr) := rm_po hp (pw_po hp htp _) hr.po (by omega)
    have eg : gP hp (letI := pR hp; rm hp (pwp hp ((letI := pR hp; rm hp fv fr + cz hp (zi hp s))) ((p - 1) / 2)) fr - 1) fr = gP hp (tpl hp (letI := pR hp; rm hp fv fr + cz hp (zi hp s))) fr := by
                                                                      letI := pR hp
                                                                      have e0 : tpl hp (letI := pR hp; rm hp fv fr + cz hp (zi hp s)) = (pwp hp (letI := pR hp; rm hp fv fr + cz hp (zi hp s)) ((p - 1) / 2) - 1 : Px p) := if_neg (by omega)
                                                                      rw [e0]
                                                                      refine gP_un hp (sub_po (pw_po hp htp _) (one_po (fR hp))) hr.po (isG_cg hp hr.po ?_ (gP_sp hp (sub_po hup (one_po (fR hp))) hr.po))
                                                                      have e2 := rm_dv hp (pw_po hp htp ((p - 1) / 2)) hr.po (by omega)
                                                                      have e3 : (pwp hp (letI := pR hp; rm hp fv fr + cz hp (zi hp s)) ((p - 1) / 2) - 1 : Px p) - (rm hp (pwp hp ((letI := pR hp; rm hp fv fr + cz hp (zi hp s))) ((p - 1) / 2)) fr - 1) = pwp hp (letI := pR hp; rm hp fv fr + cz hp (zi hp s)) ((p - 1) / 2) - rm hp (pwp hp ((letI := pR hp; rm hp fv fr + cz hp (zi hp s))) ((p - 1) / 2)) fr := by
                                                                        generalize pwp hp (letI := pR hp; rm hp fv fr + cz hp (zi hp s)) ((p - 1) / 2) = x
                                                                        generalize rm hp x fr = y
                                                                        grind
                                                                      rw [e3]; exact e2
    refine g_aload_n 0 dX6_parts_113 rfl ?_
    refine g_getf 1 dX6_parts_114 kX6 (by decide) fX6_38 fk25_0 rfl ?_
    refine g_aload_n 0 dX6_parts_117 rfl ?_
    refine g_getf 6 dX6_parts_118 kX6 (by decide) fX6_31 fk25_0 rfl ?_
    refine g_aload_n 1 dX6_parts_121 rfl ?_
    refine g_aload_n 0 dX6_parts_122 rfl ?_
    refine g_getf 6 dX6_parts_123 kX6 (by decide) fX6_31 fk25_0 rfl ?_
    refine g_callV (nc2 := 0) (ns2 := 0) (ci := 2) (As := [.ref (f + 19), .ref (r), .ref (f + 19)]) (st := []) rfl dX6_parts_126 okX2_commonDivisor lX6_134 itX2_commonDivisor seX2_commonDivisor rfl fk25_1 (by decide) (by decide) rfl (Nat.le_of_ble_eq_true rfl) ((show Sp N yX2_commonDivisor mX2_commonDivisor 0 0 _ _ (fun v h1 => v = none ∧ Fr ((f + 19) :: pl B) _ h1 ∧ RP hp 84 h1 (f + 19) (gP hp (tpl hp (letI := pR hp; rm hp fv fr + cz hp (zi hp s))) fr) ∧ PW p B h1) by rw [← eg]; exact sP_common N _ B (f + 19) (r) (f + 19) p hp hp2 ((letI := pR hp; rm hp (pwp hp ((letI := pR hp; rm hp fv fr + cz hp (zi hp s))) ((p - 1) / 2)) fr - 1)) (fr) rk25_2 rn24_0 rk5025_0 (rn24_0).ra (by omega) (by omega) (by omega))) (by omega) (by omega) (fun v26 hc26 q26 => ?_)
    obtain ⟨rfl, frc27, rn27_0, rn27_1⟩ := q26
    have fk28_0 : hc26.2 (f + 12) = some (oB 6 [.ref (B + 1), .ref (B + 7), .ref (f + 13), .ref (f + 14), .ref (f + 15), .ref (f + 17), .ref (f + 19), .int (gI (sz))]) := Fr.at0 frc27 (Ni.c ⟨(show NE (f + 12) (f + 19) by unfold NE; omega), (show NE (f + 12) (f + 20) by unfold NE; omega)⟩ (Ni_pl (by omega))) fk25_0
    have fk28_1 : hc26.2 (B + 7) = some (oB 2 [.ref (B + 1), .ref (B + 8), .ref (B + 10), .ref (B + 12), .ref (B + 14), .ref (B + 16), .ref (B + 18), .ref (B + 20), .ref (B + 22)]) := Fr.at0 frc27 (Ni.c ⟨(show NE (B + 7) (f + 19) by unfold NE; omega), (show NE (B + 7) (f + 20) by unfold NE; omega)⟩ (Ni_pl (by omega))) fk25_1
    have fk28_2 : hc26.2 (B + 1) = some (oB 1 [.int (gI ((p : Int)))]) := Fr.at0 frc27 (Ni.c ⟨(show NE (B + 1) (f + 19) by unfold NE; omega), (show NE (B + 1) (f + 20) by unfold NE; omega)⟩ (Ni_pl (by omega))) fk25_2
    have rk5028_0 : RP hp 84 hc26 (r) (fr) := (rk5025_0).fr frc27 (Ai.c ar19 (Ai_pl (by omega)))
    have rk5028_1 : RA 84 hc26 (o) := (rk5025_1).fr frc27 (Ai.c ao19 (Ai_pl (by omega)))
    have fr28 : Fr ((f + 19) :: r :: o :: pl B) h hc26 := (fr25).tr ((frc27).mo (sub_c (List.Mem.head _) (fun _ hx => (List.Mem.tail _ (List.Mem.tail _ (List.Mem.tail _ hx))))))
    refine Go.nf (h' := hc26) (st' := []) rfl rfl (Nat.le_refl _) (Nat.le_refl _) ?_
    have hgg : isG hp (tpl hp (letI := pR hp; rm hp fv fr + cz hp (zi hp s))) fr (gP hp (tpl hp (letI := pR hp; rm hp fv fr + cz hp (zi hp s))) fr) := gP_sp hp (tpl_po hp htp) hr.po
    have htv : (letI := pR hp; dv (fR hp) fr ((letI := pR hp; rm hp fv fr + cz hp (zi hp s)) - (fv + cz hp (zi hp s)))) := by
                                                                      letI := pR hp
                                                                      have e1 := dv_neg hp (rm_dv hp hk.1 hr.po (by omega))
                                                                      have e2 : (rm hp fv fr + cz hp (zi hp s)) - (fv + cz hp (zi hp s)) = rm hp fv fr - fv := by
                                                                        generalize cz hp (zi hp s) = x
                                                                        generalize rm hp fv fr = y
                                                                        grind
                                                                      rw [e2]; exact e1
    have hdl9 := (rn27_0).lt
    refine g_aload_n 0 dX6_parts_129 rfl ?_
    refine g_getf 6 dX6_parts_130 kX6 (by decide) fX6_31 fk28_0 rfl ?_
    refine g_getf 1 dX6_parts_133 kX5 (by decide) fX6_50 (rn27_0).o rfl ?_
    refine g_iconst dX6_parts_136 ?_
    refine g_icmp_lt (tgt := 154) dX6_parts_137 rfl (by first | assumption | (unfold gW; omega) | (unfold gW; split <;> omega)) (by first | assumption | (unfold gW; omega) | (unfold gW; split <;> omega)) (fun c29 => ?_) (fun c29 => ?_)
    · skip
      refine g_iconst dX6_parts_154 ?_
      exact g_zret dX6_parts_155 rfl (by omega) ⟨fr28, rn27_1, (rn27_0).ra, Or.inl ⟨rfl, cut_no hp hsq (dgi_dg hp hr.po (by omega)) hk hd htp htv hgg (by omega), rk5028_0, rk5028_1⟩⟩
    · skip
      refine g_aload_n 0 dX6_parts_140 rfl ?_
      refine g_getf 6 dX6_parts_141 kX6 (by decide) fX6_31 fk28_0 rfl ?_
      refine g_getf 1 dX6_parts_144 kX5 (by decide) fX6_50 (rn27_0).o rfl ?_
      refine g_aload_n 1 dX6_parts_147 rfl ?_
      refine g_getf 1 dX6_parts_148 kX5 (by decide) fX6_50 (rk5028_0).o rfl ?_
      refine g_icmp_lt (tgt := 156) dX6_parts_151 rfl (by first | assumption | (unfold gW; omega) | (unfold gW; split <;> omega)) (by first | assumption | (unfold gW; omega) | (unfold gW; split <;> omega)) (fun c30 => ?_) (fun c30 => ?_)
      · skip
        refine g_aload_n 0 dX6_parts_156 rfl ?_
        refine g_getf 1 dX6_parts_157 kX6 (by decide) fX6_38 fk28_0 rfl ?_
        refine g_aload_n 1 dX6_parts_160 rfl ?_
        refine g_aload_n 0 dX6_parts_161 rfl ?_
        refine g_getf 6 dX6_parts_162 kX6 (by decide) fX6_31 fk28_0 rfl ?_
        refine g_aload_n 3 dX6_parts_165 rfl ?_
        have hpt := prt_y hp hm hsq hr.po hk hd htp htv hgg (by omega) (by omega)
        refine g_callV (nc2 := 0) (ns2 := 0) (ci := 2) (As := [.ref (r), .ref (f + 19), .ref (o)]) (st := []) rfl dX6_parts_166 okX2_reduce lX6_127 itX2_reduce seX2_reduce rfl fk28_1 (by decide) (by decide) rfl (Nat.le_of_ble_eq_true rfl) (sP_reduce N _ B (r) (f + 19) (o) 84 84 84 p hp hp2 (dgi hp (fr)) (p : Int) (fr) (gP hp (tpl hp (letI := pR hp; rm hp fv fr + cz hp (zi hp s))) fr) (by omega) fk28_1 fk28_2 (rk5028_0).ru rn27_0 rk5028_1 (by omega) (by omega) ar19 aro (ao19).s (by omega) (by omega) (by omega)) (by omega) (by omega) (fun v31 hc31 q31 => ?_)
        obtain ⟨rfl, frc32, rn32_0, rn32_1⟩ := q31
        have fk33_0 : hc31.2 (f + 12) = some (oB 6 [.ref (B + 1), .ref (B + 7), .ref (f + 13), .ref (f + 14), .ref (f + 15), .ref (f + 17), .ref (f + 19), .int (gI (sz))]) := Fr.at0 frc32 (Ni.c ⟨(show NE (f + 12) (r) by unfold NE; omega), (show NE (f + 12) (r + 1) by unfold NE; omega)⟩ (Ni.c ⟨(show NE (f + 12) (o) by unfold NE; omega), (show NE (f + 12) (o + 1) by unfold NE; omega)⟩ (Ni.n _))) fk28_0
        have fk33_1 : hc31.2 (B + 7) = some (oB 2 [.ref (B + 1), .ref (B + 8), .ref (B + 10), .ref (B + 12), .ref (B + 14), .ref (B + 16), .ref (B + 18), .ref (B + 20), .ref (B + 22)]) := Fr.at0 frc32 (Ni.c ⟨(show NE (B + 7) (r) by unfold NE; omega), (show NE (B + 7) (r + 1) by unfold NE; omega)⟩ (Ni.c ⟨(show NE (B + 7) (o) by unfold NE; omega), (show NE (B + 7) (o + 1) by unfold NE; omega)⟩ (Ni.n _))) fk28_1
        have fk33_2 : hc31.2 (B + 1) = some (oB 1 [.int (gI ((p : Int)))]) := Fr.at0 frc32 (Ni.c ⟨(show NE (B + 1) (r) by unfold NE; omega), (show NE (B + 1) (r + 1) by unfold NE; omega)⟩ (Ni.c ⟨(show NE (B + 1) (o) by unfold NE; omega), (show NE (B + 1) (o + 1) by unfold NE; omega)⟩ (Ni.n _))) fk28_2
        have rk33_3 : PW p B hc31 := (rn27_1).fr2 frc32 (ok_c (by omega) (ok_c (by omega) (fun _ h => absurd h (List.not_mem_nil))))
        have rk5033_2 : RP hp 84 hc31 (f + 19) (gP hp (tpl hp (letI := pR hp; rm hp fv fr + cz hp (zi hp s))) fr) := (rn27_0).fr frc32 (Ai.c (ar19).s (Ai.c (ao19).s (Ai.n _)))
        have fr33 : Fr ((f + 19) :: r :: o :: pl B) h hc31 := (fr28).tr ((frc32).mo (sub_c (List.Mem.tail _ (List.Mem.head _)) (sub_c (List.Mem.tail _ (List.Mem.tail _ (List.Mem.head _))) sub_n)))
        refine Go.nf (h' := hc31) (st' := []) rfl rfl (Nat.le_refl _) (Nat.le_refl _) ?_
        refine g_aload_n 1 dX6_parts_169 rfl ?_
        refine g_aload_n 0 dX6_parts_170 rfl ?_
        refine g_getf 6 dX6_parts_171 kX6 (by decide) fX6_31 fk33_0 rfl ?_
        refine g_callV (nc2 := 0) (ns2 := 0) (ci := 5) (As := [.ref (f + 19)]) (st := []) rfl dX6_parts_174 okX5_copy lX6_46 itX5_copy seX5_copy rfl (rn32_0).o (by decide) (by decide) rfl (Nat.le_of_ble_eq_true rfl) (sP_copy N _ (r) (f + 19) 84 84 p hp hp2 (gP hp (tpl hp (letI := pR hp; rm hp fv fr + cz hp (zi hp s))) fr) (rn32_0).ra rk5033_2 (by omega) ar19) (by omega) (by omega) (fun v34 hc34 q34 => ?_)
        obtain ⟨rfl, frc35, rn35_0⟩ := q34
        have fk36_0 : hc34.2 (f + 12) = some (oB 6 [.ref (B + 1), .ref (B + 7), .ref (f + 13), .ref (f + 14), .ref (f + 15), .ref (f + 17), .ref (f + 19), .int (gI (sz))]) := Fr.at0 frc35 (Ni.c ⟨(show NE (f + 12) (r) by unfold NE; omega), (show NE (f + 12) (r + 1) by unfold NE; omega)⟩ (Ni.n _)) fk33_0
        have fk36_1 : hc34.2 (B + 7) = some (oB 2 [.ref (B + 1), .ref (B + 8), .ref (B + 10), .ref (B + 12), .ref (B + 14), .ref (B + 16), .ref (B + 18), .ref (B + 20), .ref (B + 22)]) := Fr.at0 frc35 (Ni.c ⟨(show NE (B + 7) (r) by unfold NE; omega), (show NE (B + 7) (r + 1) by unfold NE; omega)⟩ (Ni.n _)) fk33_1
        have fk36_2 : hc34.2 (B + 1) = some (oB 1 [.int (gI ((p : Int)))]) := Fr.at0 frc35 (Ni.c ⟨(show NE (B + 1) (r) by unfold NE; omega), (show NE (B + 1) (r + 1) by unfold NE; omega)⟩ (Ni.n _)) fk33_2
        have rk36_1 : PW p B hc34 := (rk33_3).fr2 frc35 (ok_c (by omega) (fun _ h => absurd h (List.not_mem_nil)))
        have rk5036_0 : RP hp 84 hc34 (f + 19) (gP hp (tpl hp (letI := pR hp; rm hp fv fr + cz hp (zi hp s))) fr) := (rk5033_2).fr frc35 (Ai.c (ar19).s (Ai.n _))
        have rk5036_2 : RP hp 84 hc34 (o) (qt hp (fr) (gP hp (tpl hp (letI := pR hp; rm hp fv fr + cz hp (zi hp s))) fr)) := (rn32_1).fr frc35 (Ai.c (aro).s (Ai.n _))
        have fr36 : Fr ((f + 19) :: r :: o :: pl B) h hc34 := (fr33).tr ((frc35).mo (sub_c (List.Mem.tail _ (List.Mem.head _)) sub_n))
        refine Go.nf (h' := hc34) (st' := []) rfl rfl (Nat.le_refl _) (Nat.le_refl _) ?_
        refine g_iconst dX6_parts_177 ?_
        exact g_zret dX6_parts_178 rfl (by omega) ⟨fr36, rk36_1, (rk5036_0).ra, Or.inr ⟨rfl, _, _, hpt, rn35_0, rk5036_2⟩⟩
      · skip
        refine g_iconst dX6_parts_154 ?_
        exact g_zret dX6_parts_155 rfl (by omega) ⟨fr28, rn27_1, (rn27_0).ra, Or.inl ⟨rfl, cut_no hp hsq (dgi_dg hp hr.po (by omega)) hk hd htp htv hgg (by omega), rk5028_0, rk5028_1⟩⟩
