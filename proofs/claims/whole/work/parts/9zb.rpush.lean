section
/-- all registers but these stay -/
def NR (B : Nat) (L : List Int) (h h1 : GH) : Prop := ∀ (p : Nat) (hp : prm p) (r : Int) (f : Px p), p ≤ 65536 → (∀ x ∈ L, r ≠ x) → MG hp B h r f → MG hp B h1 r f
theorem NR.rf (B : Nat) (L : List Int) (h : GH) : NR B L h h := fun _ _ _ _ _ _ w => w
theorem NR.tr {B : Nat} {L : List Int} {h h1 h2 : GH} (a : NR B L h h1) (b : NR B L h1 h2) : NR B L h h2 := fun p hp r f e n w => b p hp r f e n (a p hp r f e n w)
theorem NR.mo {B : Nat} {L L2 : List Int} {h h1 : GH} (a : NR B L h h1) (s : ∀ x, x ∈ L → x ∈ L2) : NR B L2 h h1 := fun p hp r f e n w => a p hp r f e (fun x hx => n x (s x hx)) w
theorem MF.nr {B : Nat} {A : List Nat} {L : List Int} {h h1 : GH} (m : MF B A L h h1) : NR B L h h1 := m.2.2
theorem NR.h5 {B : Nat} {L : List Int} {h h1 h2 : GH} (a : NR B L h h1) (e5 : h2.2 (B + 5) = h1.2 (B + 5)) (e6 : h2.2 (B + 6) = h1.2 (B + 6)) : NR B L h h2 := fun p hp r f e n w => (a p hp r f e n w).of5 e5 e6
end
set_option maxHeartbeats 4000000 in
set_option maxRecDepth 100000 in
theorem sM_push (N : GN) (h : GH) (B p : Nat) (hp : prm p) (hp2 : p ≤ 65536) (h0 : GH) (hf le fc pn rn hn qn : Int) (g9 g10 g11 g12 g13 g14 g15 g16 g17 g18 g19 g20 : Int → Int) (r : Int) (hr : 0 ≤ r ∧ r < 40) (f : Px p) (hd : dgi hp f ≤ 40) (hhn : 1 ≤ dgi hp f → 0 ≤ hn ∧ hn < 100) (hRD : RD B h0 h p hf le fc pn rn hn qn g9 g10 g11 g12 g13 g14 g15 g16 g17 g18 g19 g20) (hG : MG hp B h r f) : Sp N yX10_push mX10_push 0 0 [.ref (B), .int (gI (r))] h (fun v h1 => v = none ∧ NR B [] h h1 ∧ ((dgi hp f < 1 ∧ h1 = h) ∨ (1 ≤ dgi hp f ∧ RD B h0 h1 p hf le fc pn rn (hn + 1) qn g9 g10 g11 g12 g13 g14 g15 (gup g16 hn (dgi hp f)) (wT g17 hn f 41) g18 g19 g20))) := by
  refine Sp.of (by decide) rfl rfl (Nat.le_of_ble_eq_true rfl) ?_
  show Go N mX10_push _ 0 0 h 0 [(0, .ref (B)), (1, .int (gI (r)))] []
  have hp1 := hp.1
  have neA : NE B (B + 5) := by unfold NE; omega
  have neB : NE B (B + 6) := by unfold NE; omega
  have neC : NE (B + 5) (B + 6) := by unfold NE; omega
  have hlt := hG.lt
  refine g_aload_n 0 dX10_push_0 rfl ?_
  refine g_getf 6 dX10_push_1 kX10 (by decide) fX10_26 (RD.o hRD) rfl ?_
  refine g_iload_n 1 dX10_push_4 rfl ?_
  obtain ⟨dz1, ez1, fz1⟩ := MG.get hG
  refine g_iaload dX10_push_5 ez1 (by omega) (by omega) (by omega) ?_
  rw [fz1]
  refine g_if_le (tgt := 74) dX10_push_6 rfl (by first | assumption | (unfold gW; omega) | (unfold gW; split <;> omega)) (fun c2 => ?_) (fun c2 => ?_)
  · skip
    exact g_vret dX10_push_74 rfl ⟨rfl, (NR.rf B [] h), Or.inl ⟨by omega, rfl⟩⟩
  · skip
    have hh9 := hhn (by omega)
    refine g_aload_n 0 dX10_push_9 rfl ?_
    refine g_getf 22 dX10_push_10 kX10 (by decide) fX10_57 (RD.o hRD) rfl ?_
    refine g_aload_n 0 dX10_push_13 rfl ?_
    refine g_getf 21 dX10_push_14 kX10 (by decide) fX10_205 (RD.o hRD) rfl ?_
    refine g_aload_n 0 dX10_push_17 rfl ?_
    refine g_getf 6 dX10_push_18 kX10 (by decide) fX10_26 (RD.o hRD) rfl ?_
    refine g_iload_n 1 dX10_push_21 rfl ?_
    obtain ⟨dz3, ez3, fz3⟩ := MG.get hG
    refine g_iaload dX10_push_22 ez3 (by omega) (by omega) (by omega) ?_
    rw [fz3]
    refine g_iastore dX10_push_23 (RD.t16 hRD) (by omega) (by omega) (by omega) ?_
    obtain ⟨hh4, eh4⟩ : ∃ z : GH, z = hset h (B + 16) (aI 100 (gup (g16) (hn) (dgi hp (f)))) := ⟨_, rfl⟩
    refine Go.hp eh4.symm ?_
    have rd4 : RD B h0 hh4 p hf le fc pn rn hn qn g9 g10 g11 g12 g13 g14 g15 (gup (g16) (hn) (dgi hp (f))) g17 g18 g19 g20 := RD.cell hRD (by rw [eh4]; rfl) (fun x hx => by rw [eh4, hset_n _ _ (by omega)]) (hs_n eh4 (show NE (B) (B + 16) by unfold NE; omega) (RD.o hRD)) (hs_n eh4 (show NE (B + 9) (B + 16) by unfold NE; omega) (RD.t9 hRD)) (hs_n eh4 (show NE (B + 10) (B + 16) by unfold NE; omega) (RD.t10 hRD)) (hs_n eh4 (show NE (B + 11) (B + 16) by unfold NE; omega) (RD.t11 hRD)) (hs_n eh4 (show NE (B + 12) (B + 16) by unfold NE; omega) (RD.t12 hRD)) (hs_n eh4 (show NE (B + 13) (B + 16) by unfold NE; omega) (RD.t13 hRD)) (hs_n eh4 (show NE (B + 14) (B + 16) by unfold NE; omega) (RD.t14 hRD)) (hs_n eh4 (show NE (B + 15) (B + 16) by unfold NE; omega) (RD.t15 hRD)) (hs_s eh4) (hs_n eh4 (show NE (B + 17) (B + 16) by unfold NE; omega) (RD.t17 hRD)) (hs_n eh4 (show NE (B + 18) (B + 16) by unfold NE; omega) (RD.t18 hRD)) (hs_n eh4 (show NE (B + 19) (B + 16) by unfold NE; omega) (RD.t19 hRD)) (hs_n eh4 (show NE (B + 20) (B + 16) by unfold NE; omega) (RD.t20 hRD))
    have e5_4 : hh4.2 (B + 5) = h.2 (B + 5) := by rw [eh4, hset_n _ _ (by omega)]
    have e6_4 : hh4.2 (B + 6) = h.2 (B + 6) := by rw [eh4, hset_n _ _ (by omega)]
    have rg4_1 : NR B [] h hh4 := NR.h5 (NR.rf B [] h) e5_4 e6_4
    have rg4_2 : MG hp B hh4 (r) (f) := (hG).of5 e5_4 e6_4
    refine g_iconst dX10_push_24 ?_
    refine g_istore_n (ls2 := [(2, .int (gI (0))), (0, .ref (B)), (1, .int (gI (r)))]) dX10_push_25 rfl (by decide) rfl ?_
    have lo : ∀ (kk : Nat) (c : Int) (hlo : GH), kk = (41 - c).toNat → True → RD B h0 hlo p hf le fc pn rn hn qn g9 g10 g11 g12 g13 g14 g15 (gup (g16) (hn) (dgi hp (f))) (wT g17 hn f c) g18 g19 g20 → NR B [] h hlo → MG hp B hlo (r) (f) → (0 ≤ c ∧ c ≤ 41) → Go N mX10_push (fun v h1 => v = none ∧ NR B [] h h1 ∧ ((dgi hp f < 1 ∧ h1 = h) ∨ (1 ≤ dgi hp f ∧ RD B h0 h1 p hf le fc pn rn (hn + 1) qn g9 g10 g11 g12 g13 g14 g15 (gup g16 hn (dgi hp f)) (wT g17 hn f 41) g18 g19 g20))) 0 0 hlo 26 [(2, .int (gI (c))), (0, .ref (B)), (1, .int (gI (r)))] [] := by
      refine Go.ind (fun kk ih_lo => ?_)
      intro c hlo hkk_lo fr_lo cr_lo_0 cr_lo_1 cr_lo_2 hc
      refine g_iload_n 0 dX10_push_26 rfl ?_
      refine g_bipush dX10_push_27 (by decide) ?_
      refine g_icmp_gt (tgt := 64) dX10_push_29 rfl (by first | assumption | (unfold gW; omega) | (unfold gW; split <;> omega)) (by first | assumption | (unfold gW; omega) | (unfold gW; split <;> omega)) (fun c105 => ?_) (fun c105 => ?_)
      · skip
        have hc9 : c = 41 := by omega
        subst hc9
        refine g_aload_n 1 dX10_push_64 rfl ?_
        refine g_dup dX10_push_65 rfl ?_
        refine g_getf 21 dX10_push_66 kX10 (by decide) fX10_205 (RD.o cr_lo_0) rfl ?_
        refine g_iconst dX10_push_69 ?_
        refine g_iadd dX10_push_70 ?_
        refine g_putf 21 dX10_push_71 kX10 (by decide) fX10_205 rfl (RD.o cr_lo_0) (Nat.le_of_ble_eq_true rfl) rfl rfl ?_
        obtain ⟨hh106, eh106⟩ : ∃ z : GH, z = hset hlo (B) (mO B ((p : Int)) (hf) (le) (fc) (pn) (rn) ((hn) + (1)) (qn)) := ⟨_, rfl⟩
        refine Go.hp eh106.symm ?_
        have rd106 : RD B h0 hh106 p hf le fc pn rn ((hn) + (1)) qn g9 g10 g11 g12 g13 g14 g15 (gup (g16) (hn) (dgi hp (f))) (wT g17 hn f 41) g18 g19 g20 := RD.cell cr_lo_0 (by rw [eh106]; rfl) (fun x hx => by rw [eh106, hset_n _ _ (by omega)]) (hs_s eh106) (hs_n eh106 (show NE (B + 9) (B) by unfold NE; omega) (RD.t9 cr_lo_0)) (hs_n eh106 (show NE (B + 10) (B) by unfold NE; omega) (RD.t10 cr_lo_0)) (hs_n eh106 (show NE (B + 11) (B) by unfold NE; omega) (RD.t11 cr_lo_0)) (hs_n eh106 (show NE (B + 12) (B) by unfold NE; omega) (RD.t12 cr_lo_0)) (hs_n eh106 (show NE (B + 13) (B) by unfold NE; omega) (RD.t13 cr_lo_0)) (hs_n eh106 (show NE (B + 14) (B) by unfold NE; omega) (RD.t14 cr_lo_0)) (hs_n eh106 (show NE (B + 15) (B) by unfold NE; omega) (RD.t15 cr_lo_0)) (hs_n eh106 (show NE (B + 16) (B) by unfold NE; omega) (RD.t16 cr_lo_0)) (hs_n eh106 (show NE (B + 17) (B) by unfold NE; omega) (RD.t17 cr_lo_0)) (hs_n eh106 (show NE (B + 18) (B) by unfold NE; omega) (RD.t18 cr_lo_0)) (hs_n eh106 (show NE (B + 19) (B) by unfold NE; omega) (RD.t19 cr_lo_0)) (hs_n eh106 (show NE (B + 20) (B) by unfold NE; omega) (RD.t20 cr_lo_0))
        have e5_106 : hh106.2 (B + 5) = hlo.2 (B + 5) := by rw [eh106, hset_n _ _ (by omega)]
        have e6_106 : hh106.2 (B + 6) = hlo.2 (B + 6) := by rw [eh106, hset_n _ _ (by omega)]
        have rg106_1 : NR B [] h hh106 := NR.h5 cr_lo_1 e5_106 e6_106
        have rg106_2 : MG hp B hh106 (r) (f) := (cr_lo_2).of5 e5_106 e6_106
        exact g_vret dX10_push_74 rfl ⟨rfl, rg106_1, Or.inr ⟨by omega, rd106⟩⟩
      · skip
        refine g_aload_n 1 dX10_push_32 rfl ?_
        refine g_getf 23 dX10_push_33 kX10 (by decide) fX10_60 (RD.o cr_lo_0) rfl ?_
        refine g_bipush dX10_push_36 (by decide) ?_
        refine g_aload_n 1 dX10_push_38 rfl ?_
        refine g_getf 21 dX10_push_39 kX10 (by decide) fX10_205 (RD.o cr_lo_0) rfl ?_
        refine g_imul dX10_push_42 ?_
        refine g_iload_n 0 dX10_push_43 rfl ?_
        refine g_iadd dX10_push_44 ?_
        refine g_aload_n 1 dX10_push_45 rfl ?_
        refine g_getf 5 dX10_push_46 kX10 (by decide) fX10_23 (RD.o cr_lo_0) rfl ?_
        refine g_sipush dX10_push_49 (by decide) ?_
        refine g_iload_n 2 dX10_push_52 rfl ?_
        refine g_imul dX10_push_53 ?_
        refine g_iload_n 0 dX10_push_54 rfl ?_
        refine g_iadd dX10_push_55 ?_
        obtain ⟨R107, er107, fr107⟩ := MG.num cr_lo_2
        refine g_iaload dX10_push_56 er107 (by omega) (by omega) (by omega) ?_
        rw [ar_r R107 (show 0 ≤ c by omega) (show c < 200 by omega), fr107 (c) (by omega) (by omega)]
        refine g_iastore dX10_push_57 (RD.t17 cr_lo_0) (by omega) (by omega) (by omega) ?_
        obtain ⟨hh108, eh108⟩ : ∃ z : GH, z = hset hlo (B + 17) (aI 4100 (gup (wT g17 hn f c) (((41) * (hn)) + (c)) (cf (f) (c)))) := ⟨_, rfl⟩
        refine Go.hp eh108.symm ?_
        have rd108 : RD B h0 hh108 p hf le fc pn rn hn qn g9 g10 g11 g12 g13 g14 g15 (gup (g16) (hn) (dgi hp (f))) (gup (wT g17 hn f c) (((41) * (hn)) + (c)) (cf (f) (c))) g18 g19 g20 := RD.cell cr_lo_0 (by rw [eh108]; rfl) (fun x hx => by rw [eh108, hset_n _ _ (by omega)]) (hs_n eh108 (show NE (B) (B + 17) by unfold NE; omega) (RD.o cr_lo_0)) (hs_n eh108 (show NE (B + 9) (B + 17) by unfold NE; omega) (RD.t9 cr_lo_0)) (hs_n eh108 (show NE (B + 10) (B + 17) by unfold NE; omega) (RD.t10 cr_lo_0)) (hs_n eh108 (show NE (B + 11) (B + 17) by unfold NE; omega) (RD.t11 cr_lo_0)) (hs_n eh108 (show NE (B + 12) (B + 17) by unfold NE; omega) (RD.t12 cr_lo_0)) (hs_n eh108 (show NE (B + 13) (B + 17) by unfold NE; omega) (RD.t13 cr_lo_0)) (hs_n eh108 (show NE (B + 14) (B + 17) by unfold NE; omega) (RD.t14 cr_lo_0)) (hs_n eh108 (show NE (B + 15) (B + 17) by unfold NE; omega) (RD.t15 cr_lo_0)) (hs_n eh108 (show NE (B + 16) (B + 17) by unfold NE; omega) (RD.t16 cr_lo_0)) (hs_s eh108) (hs_n eh108 (show NE (B + 18) (B + 17) by unfold NE; omega) (RD.t18 cr_lo_0)) (hs_n eh108 (show NE (B + 19) (B + 17) by unfold NE; omega) (RD.t19 cr_lo_0)) (hs_n eh108 (show NE (B + 20) (B + 17) by unfold NE; omega) (RD.t20 cr_lo_0))
        have e5_108 : hh108.2 (B + 5) = hlo.2 (B + 5) := by rw [eh108, hset_n _ _ (by omega)]
        have e6_108 : hh108.2 (B + 6) = hlo.2 (B + 6) := by rw [eh108, hset_n _ _ (by omega)]
        have rg108_1 : NR B [] h hh108 := NR.h5 cr_lo_1 e5_108 e6_108
        have rg108_2 : MG hp B hh108 (r) (f) := (cr_lo_2).of5 e5_108 e6_108
        refine g_iinc 0 (ls2 := [(2, .int (gI (c + 1))), (0, .ref (B)), (1, .int (gI (r)))]) dX10_push_58 rfl (by decide) rfl ?_
        refine g_goto (tgt := 26) dX10_push_61 rfl ?_
        exact ih_lo _ (by omega) (c + 1) hh108 rfl fr_lo (by rw [← wT_s g17 hn f hc.1]; exact rd108) rg108_1 rg108_2 (by omega)
    exact lo _ (0) hh4 rfl trivial (by rw [wT_0]; exact rd4) rg4_1 rg4_2 (by omega)
set_option maxHeartbeats 4000000 in
set_option maxRecDepth 100000 in
theorem sM_pop (N : GN) (h : GH) (B p : Nat) (hp : prm p) (hp2 : p ≤ 65536) (h0 : GH) (hf le fc pn rn hn qn : Int) (g9 g10 g11 g12 g13 g14 g15 g16 g17 g18 g19 g20 : Int → Int) (r : Int) (hr : 0 ≤ r ∧ r < 40) (hhn : 1 ≤ hn ∧ hn ≤ 100) (G : Px p) (hGp : po (fR hp) G) (hGd : dgi hp G ≤ 40) (hGk : ∀ k : Int, 0 ≤ k → k ≤ 40 → g17 (41 * (hn - 1) + k) = cf G k) (hRD : RD B h0 h p hf le fc pn rn hn qn g9 g10 g11 g12 g13 g14 g15 g16 g17 g18 g19 g20)  : Sp N yX10_pop mX10_pop 0 0 [.ref (B), .int (gI (r))] h (fun v h1 => v = none ∧ NR B [r] h h1 ∧ RD B h0 h1 p hf le fc pn rn (hn - 1) qn g9 g10 g11 g12 g13 g14 g15 g16 g17 g18 g19 g20 ∧ MG hp B h1 (r) G) := by
  refine Sp.of (by decide) rfl rfl (Nat.le_of_ble_eq_true rfl) ?_
  show Go N mX10_pop _ 0 0 h 0 [(0, .ref (B)), (1, .int (gI (r)))] []
  have hp1 := hp.1
  have neA : NE B (B + 5) := by unfold NE; omega
  have neB : NE B (B + 6) := by unfold NE; omega
  have neC : NE (B + 5) (B + 6) := by unfold NE; omega
  have hgc := dgi_ge hp hGp
  refine g_aload_n 0 dX10_pop_0 rfl ?_
  refine g_dup dX10_pop_1 rfl ?_
  refine g_getf 21 dX10_pop_2 kX10 (by decide) fX10_205 (RD.o hRD) rfl ?_
  refine g_iconst dX10_pop_5 ?_
  refine g_isub dX10_pop_6 ?_
  refine g_putf 21 dX10_pop_7 kX10 (by decide) fX10_205 rfl (RD.o hRD) (Nat.le_of_ble_eq_true rfl) rfl rfl ?_
  obtain ⟨hh1, eh1⟩ : ∃ z : GH, z = hset h (B) (mO B ((p : Int)) (hf) (le) (fc) (pn) (rn) ((hn) - (1)) (qn)) := ⟨_, rfl⟩
  refine Go.hp eh1.symm ?_
  have rd1 : RD B h0 hh1 p hf le fc pn rn ((hn) - (1)) qn g9 g10 g11 g12 g13 g14 g15 g16 g17 g18 g19 g20 := RD.cell hRD (by rw [eh1]; rfl) (fun x hx => by rw [eh1, hset_n _ _ (by omega)]) (hs_s eh1) (hs_n eh1 (show NE (B + 9) (B) by unfold NE; omega) (RD.t9 hRD)) (hs_n eh1 (show NE (B + 10) (B) by unfold NE; omega) (RD.t10 hRD)) (hs_n eh1 (show NE (B + 11) (B) by unfold NE; omega) (RD.t11 hRD)) (hs_n eh1 (show NE (B + 12) (B) by unfold NE; omega) (RD.t12 hRD)) (hs_n eh1 (show NE (B + 13) (B) by unfold NE; omega) (RD.t13 hRD)) (hs_n eh1 (show NE (B + 14) (B) by unfold NE; omega) (RD.t14 hRD)) (hs_n eh1 (show NE (B + 15) (B) by unfold NE; omega) (RD.t15 hRD)) (hs_n eh1 (show NE (B + 16) (B) by unfold NE; omega) (RD.t16 hRD)) (hs_n eh1 (show NE (B + 17) (B) by unfold NE; omega) (RD.t17 hRD)) (hs_n eh1 (show NE (B + 18) (B) by unfold NE; omega) (RD.t18 hRD)) (hs_n eh1 (show NE (B + 19) (B) by unfold NE; omega) (RD.t19 hRD)) (hs_n eh1 (show NE (B + 20) (B) by unfold NE; omega) (RD.t20 hRD))
  have e5_1 : hh1.2 (B + 5) = h.2 (B + 5) := by rw [eh1, hset_n _ _ (by omega)]
  have e6_1 : hh1.2 (B + 6) = h.2 (B + 6) := by rw [eh1, hset_n _ _ (by omega)]
  have rg1_1 : NR B [r] h hh1 := NR.h5 (NR.rf B [r] h) e5_1 e6_1
  refine g_aload_n 0 dX10_pop_10 rfl ?_
  refine g_iload_n 1 dX10_pop_11 rfl ?_
  refine g_iconst dX10_pop_12 ?_
  refine g_callV (nc2 := 0) (ns2 := 0) (ci := 10) (As := [.int (gI (r)), .int (gI (0))]) (st := []) rfl dX10_pop_13 okX10_be lX10_170 itX10_be seX10_be rfl (RD.o rd1) (by decide) (by decide) rfl (Nat.le_of_ble_eq_true rfl) (sM_be N _ B p hp hp2 _ _ _ _ _ _ _ (r) (0) (by omega) (by omega) (by omega) (RD.o rd1) (RD.ma rd1)) (by omega) (by omega) (fun v2 hc2 q2 => ?_)
  obtain ⟨rfl, mfc3, rn3_0⟩ := q2
  have rk4_0 : RD B h0 hc2 p hf le fc pn rn ((hn) - (1)) qn g9 g10 g11 g12 g13 g14 g15 g16 g17 g18 g19 g20 := RD.mf rd1 mfc3
  have rk4_1 : NR B [r] h hc2 := NR.tr rg1_1 ((MF.nr mfc3).mo (sbI_c (List.Mem.head _) sbI_n))
  refine Go.nf (h' := hc2) (st' := []) rfl rfl (Nat.le_refl _) (Nat.le_refl _) ?_
  have hz9 := rn3_0
  obtain ⟨R, d, hu, hv, hR, hD⟩ := (RD.ma rk4_0)
  have hat5 := (rn3_0).at hu hv hR hD
  refine g_iconst dX10_pop_16 ?_
  refine g_istore_n (ls2 := [(2, .int (gI (0))), (0, .ref (B)), (1, .int (gI (r)))]) dX10_pop_17 rfl (by decide) rfl ?_
  have lo : ∀ (kk : Nat) (c : Int) (hlo : GH), kk = (41 - c).toNat → Fr [B + 5] hc2 hlo → hlo.2 (B + 5) = some (aI 8000 (ar (gup R r (gF (R r) (cf G) c)))) → hlo.2 (B + 6) = some (aI 40 (d)) → (0 ≤ c ∧ c ≤ 41) → Go N mX10_pop (fun v h1 => v = none ∧ NR B [r] h h1 ∧ RD B h0 h1 p hf le fc pn rn (hn - 1) qn g9 g10 g11 g12 g13 g14 g15 g16 g17 g18 g19 g20 ∧ MG hp B h1 (r) G) 0 0 hlo 18 [(2, .int (gI (c))), (0, .ref (B)), (1, .int (gI (r)))] [] := by
    refine Go.ind (fun kk ih_lo => ?_)
    intro c hlo hkk_lo fr_lo cf_lo_0 cf_lo_1 hc
    have cg_lo_0 : hlo.2 (B) = some (mO B ((p : Int)) (hf) (le) (fc) (pn) (rn) ((hn) - (1)) (qn)) := Fr.at0 fr_lo (Ni.c ⟨neA, neB⟩ (Ni.n _)) (RD.o rk4_0)
    have cg_lo_1 : hlo.2 (B + 9) = some (aI 41 (g9)) := Fr.at0 fr_lo (Ni.c ⟨(show NE (B + 9) (B + 5) by unfold NE; omega), (show NE (B + 9) (B + 6) by unfold NE; omega)⟩ (Ni.n _)) (RD.t9 rk4_0)
    have cg_lo_2 : hlo.2 (B + 10) = some (aI 41 (g10)) := Fr.at0 fr_lo (Ni.c ⟨(show NE (B + 10) (B + 5) by unfold NE; omega), (show NE (B + 10) (B + 6) by unfold NE; omega)⟩ (Ni.n _)) (RD.t10 rk4_0)
    have cg_lo_3 : hlo.2 (B + 11) = some (aI 1681 (g11)) := Fr.at0 fr_lo (Ni.c ⟨(show NE (B + 11) (B + 5) by unfold NE; omega), (show NE (B + 11) (B + 6) by unfold NE; omega)⟩ (Ni.n _)) (RD.t11 rk4_0)
    have cg_lo_4 : hlo.2 (B + 12) = some (aI 41 (g12)) := Fr.at0 fr_lo (Ni.c ⟨(show NE (B + 12) (B + 5) by unfold NE; omega), (show NE (B + 12) (B + 6) by unfold NE; omega)⟩ (Ni.n _)) (RD.t12 rk4_0)
    have cg_lo_5 : hlo.2 (B + 13) = some (aI 41 (g13)) := Fr.at0 fr_lo (Ni.c ⟨(show NE (B + 13) (B + 5) by unfold NE; omega), (show NE (B + 13) (B + 6) by unfold NE; omega)⟩ (Ni.n _)) (RD.t13 rk4_0)
    have cg_lo_6 : hlo.2 (B + 14) = some (aI 1681 (g14)) := Fr.at0 fr_lo (Ni.c ⟨(show NE (B + 14) (B + 5) by unfold NE; omega), (show NE (B + 14) (B + 6) by unfold NE; omega)⟩ (Ni.n _)) (RD.t14 rk4_0)
    have cg_lo_7 : hlo.2 (B + 15) = some (aI 41 (g15)) := Fr.at0 fr_lo (Ni.c ⟨(show NE (B + 15) (B + 5) by unfold NE; omega), (show NE (B + 15) (B + 6) by unfold NE; omega)⟩ (Ni.n _)) (RD.t15 rk4_0)
    have cg_lo_8 : hlo.2 (B + 16) = some (aI 100 (g16)) := Fr.at0 fr_lo (Ni.c ⟨(show NE (B + 16) (B + 5) by unfold NE; omega), (show NE (B + 16) (B + 6) by unfold NE; omega)⟩ (Ni.n _)) (RD.t16 rk4_0)
    have cg_lo_9 : hlo.2 (B + 17) = some (aI 4100 (g17)) := Fr.at0 fr_lo (Ni.c ⟨(show NE (B + 17) (B + 5) by unfold NE; omega), (show NE (B + 17) (B + 6) by unfold NE; omega)⟩ (Ni.n _)) (RD.t17 rk4_0)
    have cg_lo_10 : hlo.2 (B + 18) = some (aI 1681 (g18)) := Fr.at0 fr_lo (Ni.c ⟨(show NE (B + 18) (B + 5) by unfold NE; omega), (show NE (B + 18) (B + 6) by unfold NE; omega)⟩ (Ni.n _)) (RD.t18 rk4_0)
    have cg_lo_11 : hlo.2 (B + 19) = some (aI 41 (g19)) := Fr.at0 fr_lo (Ni.c ⟨(show NE (B + 19) (B + 5) by unfold NE; omega), (show NE (B + 19) (B + 6) by unfold NE; omega)⟩ (Ni.n _)) (RD.t19 rk4_0)
    have cg_lo_12 : hlo.2 (B + 20) = some (aI 1681 (g20)) := Fr.at0 fr_lo (Ni.c ⟨(show NE (B + 20) (B + 5) by unfold NE; omega), (show NE (B + 20) (B + 6) by unfold NE; omega)⟩ (Ni.n _)) (RD.t20 rk4_0)
    refine g_iload_n 0 dX10_pop_18 rfl ?_
    refine g_bipush dX10_pop_19 (by decide) ?_
    refine g_icmp_gt (tgt := 56) dX10_pop_21 rfl (by first | assumption | (unfold gW; omega) | (unfold gW; split <;> omega)) (by first | assumption | (unfold gW; omega) | (unfold gW; split <;> omega)) (fun c156 => ?_) (fun c156 => ?_)
    · skip
      have hc9 : c = 41 := by omega
      refine g_aload_n 1 dX10_pop_56 rfl ?_
      refine g_iload_n 2 dX10_pop_57 rfl ?_
      refine g_callV (nc2 := 0) (ns2 := 0) (ci := 10) (As := [.int (gI (r))]) (st := []) rfl dX10_pop_58 okX10_measure lX10_164 itX10_measure seX10_measure rfl cg_lo_0 (by decide) (by decide) rfl (Nat.le_of_ble_eq_true rfl) (sM_measure N _ B p hp hp2 _ _ _ _ _ _ _ (r) (by omega) cg_lo_0 ((gup R r (gF (R r) (cf G) c))) (d) (G) cf_lo_0 cf_lo_1 (fun j j0 j1 => by
                                                                      rw [gup_s]; unfold gF
                                                                      split
                                                                      · exact cf_in _ hp _
                                                                      · rw [(hz9.at hu hv hR hD).2 j j0 j1]; exact cf_in _ hp _) (by
                                                                      rw [gup_s]
                                                                      refine (ph_cf hp hGp (d := 199) (by omega)).symm.trans (ph_cg hp (fun j j0 j1 => ?_))
                                                                      unfold gF
                                                                      by_cases z : 0 ≤ j ∧ j < c
                                                                      · rw [if_pos z]
                                                                      · rw [if_neg z, (hz9.at hu hv hR hD).2 j j0 (by omega), cf_hi hp hGp (by omega), cf_hi hp (cz_po hp _) (by
                                                                          have : dgi hp (cz hp (zi hp 0)) = -1 := by rw [cz_z0]; exact dgi_0 hp
                                                                          omega)])) (by omega) (by omega) (fun v157 hc157 q157 => ?_)
      obtain ⟨rfl, mfc158, rn158⟩ := q157
      have mfd158 : MF B [] [r] hc2 hc157 := (MF.one (r := r) fr_lo hu hv hR hD cf_lo_0 cf_lo_1 (fun s hs => gup_n _ _ hs) (fun _ _ => rfl)).tr mfc158
      have fk159_0 : hc157.2 (B) = some (mO B ((p : Int)) (hf) (le) (fc) (pn) (rn) ((hn) - (1)) (qn)) := Fr.at0 mfc158.1 (Ni.c ⟨neA, neB⟩ (Ni.n _)) cg_lo_0
      have fk159_1 : hc157.2 (B + 9) = some (aI 41 (g9)) := Fr.at0 mfc158.1 (Ni.c ⟨(show NE (B + 9) (B + 5) by unfold NE; omega), (show NE (B + 9) (B + 6) by unfold NE; omega)⟩ (Ni.n _)) cg_lo_1
      have fk159_2 : hc157.2 (B + 10) = some (aI 41 (g10)) := Fr.at0 mfc158.1 (Ni.c ⟨(show NE (B + 10) (B + 5) by unfold NE; omega), (show NE (B + 10) (B + 6) by unfold NE; omega)⟩ (Ni.n _)) cg_lo_2
      have fk159_3 : hc157.2 (B + 11) = some (aI 1681 (g11)) := Fr.at0 mfc158.1 (Ni.c ⟨(show NE (B + 11) (B + 5) by unfold NE; omega), (show NE (B + 11) (B + 6) by unfold NE; omega)⟩ (Ni.n _)) cg_lo_3
      have fk159_4 : hc157.2 (B + 12) = some (aI 41 (g12)) := Fr.at0 mfc158.1 (Ni.c ⟨(show NE (B + 12) (B + 5) by unfold NE; omega), (show NE (B + 12) (B + 6) by unfold NE; omega)⟩ (Ni.n _)) cg_lo_4
      have fk159_5 : hc157.2 (B + 13) = some (aI 41 (g13)) := Fr.at0 mfc158.1 (Ni.c ⟨(show NE (B + 13) (B + 5) by unfold NE; omega), (show NE (B + 13) (B + 6) by unfold NE; omega)⟩ (Ni.n _)) cg_lo_5
      have fk159_6 : hc157.2 (B + 14) = some (aI 1681 (g14)) := Fr.at0 mfc158.1 (Ni.c ⟨(show NE (B + 14) (B + 5) by unfold NE; omega), (show NE (B + 14) (B + 6) by unfold NE; omega)⟩ (Ni.n _)) cg_lo_6
      have fk159_7 : hc157.2 (B + 15) = some (aI 41 (g15)) := Fr.at0 mfc158.1 (Ni.c ⟨(show NE (B + 15) (B + 5) by unfold NE; omega), (show NE (B + 15) (B + 6) by unfold NE; omega)⟩ (Ni.n _)) cg_lo_7
      have fk159_8 : hc157.2 (B + 16) = some (aI 100 (g16)) := Fr.at0 mfc158.1 (Ni.c ⟨(show NE (B + 16) (B + 5) by unfold NE; omega), (show NE (B + 16) (B + 6) by unfold NE; omega)⟩ (Ni.n _)) cg_lo_8
      have fk159_9 : hc157.2 (B + 17) = some (aI 4100 (g17)) := Fr.at0 mfc158.1 (Ni.c ⟨(show NE (B + 17) (B + 5) by unfold NE; omega), (show NE (B + 17) (B + 6) by unfold NE; omega)⟩ (Ni.n _)) cg_lo_9
      have fk159_10 : hc157.2 (B + 18) = some (aI 1681 (g18)) := Fr.at0 mfc158.1 (Ni.c ⟨(show NE (B + 18) (B + 5) by unfold NE; omega), (show NE (B + 18) (B + 6) by unfold NE; omega)⟩ (Ni.n _)) cg_lo_10
      have fk159_11 : hc157.2 (B + 19) = some (aI 41 (g19)) := Fr.at0 mfc158.1 (Ni.c ⟨(show NE (B + 19) (B + 5) by unfold NE; omega), (show NE (B + 19) (B + 6) by unfold NE; omega)⟩ (Ni.n _)) cg_lo_11
      have fk159_12 : hc157.2 (B + 20) = some (aI 1681 (g20)) := Fr.at0 mfc158.1 (Ni.c ⟨(show NE (B + 20) (B + 5) by unfold NE; omega), (show NE (B + 20) (B + 6) by unfold NE; omega)⟩ (Ni.n _)) cg_lo_12
      have fr159 : Fr [B + 5] hc2 hc157 := (fr_lo).tr ((mfc158.1).mo (sub_c (List.Mem.head _) sub_n))
      refine Go.nf (h' := hc157) (st' := []) rfl rfl (Nat.le_refl _) (Nat.le_refl _) ?_
      have rk210_0 : RD B h0 hc157 p hf le fc pn rn ((hn) - (1)) qn g9 g10 g11 g12 g13 g14 g15 g16 g17 g18 g19 g20 := RD.mf rk4_0 mfd158
      have rk210_1 : NR B [r] h hc157 := NR.tr rk4_1 ((MF.nr mfd158).mo (sbI_c (List.Mem.head _) sbI_n))
      exact g_vret dX10_pop_61 rfl ⟨rfl, rk210_1, rk210_0, rn158⟩
    · skip
      refine g_aload_n 1 dX10_pop_24 rfl ?_
      refine g_getf 5 dX10_pop_25 kX10 (by decide) fX10_23 cg_lo_0 rfl ?_
      refine g_sipush dX10_pop_28 (by decide) ?_
      refine g_iload_n 2 dX10_pop_31 rfl ?_
      refine g_imul dX10_pop_32 ?_
      refine g_iload_n 0 dX10_pop_33 rfl ?_
      refine g_iadd dX10_pop_34 ?_
      refine g_aload_n 1 dX10_pop_35 rfl ?_
      refine g_getf 23 dX10_pop_36 kX10 (by decide) fX10_60 cg_lo_0 rfl ?_
      refine g_bipush dX10_pop_39 (by decide) ?_
      refine g_aload_n 1 dX10_pop_41 rfl ?_
      refine g_getf 21 dX10_pop_42 kX10 (by decide) fX10_205 cg_lo_0 rfl ?_
      refine g_imul dX10_pop_45 ?_
      refine g_iload_n 0 dX10_pop_46 rfl ?_
      refine g_iadd dX10_pop_47 ?_
      refine g_iaload dX10_pop_48 cg_lo_9 (by omega) (by omega) (by omega) ?_
      have hq_ : (g17) (((41) * ((hn) - (1))) + (c)) = cf G c := hGk c hc.1 (by omega)
      rw [hq_]
      refine g_iastore dX10_pop_49 cf_lo_0 (by omega) (by omega) (by omega) ?_
      obtain ⟨hh211, eh211⟩ : ∃ z : GH, z = hset hlo (B + 5) (aI 8000 (gup (ar (gup R r (gF (R r) (cf G) c))) (((200) * (r)) + (c)) (cf G c))) := ⟨_, rfl⟩
      refine Go.hp eh211.symm ?_
      have fh211_0 : hh211.2 (B) = some (mO B ((p : Int)) (hf) (le) (fc) (pn) (rn) ((hn) - (1)) (qn)) := hs_n eh211 neA cg_lo_0
      have fh211_1 : hh211.2 (B + 9) = some (aI 41 (g9)) := hs_n eh211 (show NE (B + 9) (B + 5) by unfold NE; omega) cg_lo_1
      have fh211_2 : hh211.2 (B + 10) = some (aI 41 (g10)) := hs_n eh211 (show NE (B + 10) (B + 5) by unfold NE; omega) cg_lo_2
      have fh211_3 : hh211.2 (B + 11) = some (aI 1681 (g11)) := hs_n eh211 (show NE (B + 11) (B + 5) by unfold NE; omega) cg_lo_3
      have fh211_4 : hh211.2 (B + 12) = some (aI 41 (g12)) := hs_n eh211 (show NE (B + 12) (B + 5) by unfold NE; omega) cg_lo_4
      have fh211_5 : hh211.2 (B + 13) = some (aI 41 (g13)) := hs_n eh211 (show NE (B + 13) (B + 5) by unfold NE; omega) cg_lo_5
      have fh211_6 : hh211.2 (B + 14) = some (aI 1681 (g14)) := hs_n eh211 (show NE (B + 14) (B + 5) by unfold NE; omega) cg_lo_6
      have fh211_7 : hh211.2 (B + 15) = some (aI 41 (g15)) := hs_n eh211 (show NE (B + 15) (B + 5) by unfold NE; omega) cg_lo_7
      have fh211_8 : hh211.2 (B + 16) = some (aI 100 (g16)) := hs_n eh211 (show NE (B + 16) (B + 5) by unfold NE; omega) cg_lo_8
      have fh211_9 : hh211.2 (B + 17) = some (aI 4100 (g17)) := hs_n eh211 (show NE (B + 17) (B + 5) by unfold NE; omega) cg_lo_9
      have fh211_10 : hh211.2 (B + 18) = some (aI 1681 (g18)) := hs_n eh211 (show NE (B + 18) (B + 5) by unfold NE; omega) cg_lo_10
      have fh211_11 : hh211.2 (B + 19) = some (aI 41 (g19)) := hs_n eh211 (show NE (B + 19) (B + 5) by unfold NE; omega) cg_lo_11
      have fh211_12 : hh211.2 (B + 20) = some (aI 1681 (g20)) := hs_n eh211 (show NE (B + 20) (B + 5) by unfold NE; omega) cg_lo_12
      have fh211_13 : hh211.2 (B + 5) = some (aI 8000 (gup (ar (gup R r (gF (R r) (cf G) c))) (((200) * (r)) + (c)) (cf G c))) := hs_s eh211
      have fh211_14 : hh211.2 (B + 6) = some (aI 40 (d)) := hs_n eh211 (neC).s cf_lo_1
      have fr211 : Fr [B + 5] hc2 hh211 := Fr.w0 fr_lo (List.Mem.head _) eh211
      refine g_iinc 0 (ls2 := [(2, .int (gI (c + 1))), (0, .ref (B)), (1, .int (gI (r)))]) dX10_pop_50 rfl (by decide) rfl ?_
      refine g_goto (tgt := 18) dX10_pop_53 rfl ?_
      exact ih_lo _ (by omega) (c + 1) hh211 rfl fr211 (by rw [← gF_s (R r) (cf G) hc.1, ← ar_wg R _ hc.1 (by omega)]; exact fh211_13) fh211_14 (by omega)
  exact lo _ (0) hc2 rfl (Fr.rf [B + 5] hc2) (by rw [gF_0, gup_id]; exact hR) hD (by omega)
