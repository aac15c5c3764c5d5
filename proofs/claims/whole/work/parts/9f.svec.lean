theorem rv_f {p : Nat} (h : prm p) {gg gv gr : Int → Int} {sz fc q : Int} {pv : Nat → Option Nat} (f0 : 0 ≤ fc ∧ fc < sz) (hpv : ∀ k : Int, 0 ≤ k → k < sz → gv k = pvI pv k.toNat) : bpv h sz.toNat pv (gM h gg sz) fc.toNat = ph h (gup (gF gr (fun t : Int => if gv t < 0 then 0 else gMod (-(gg (gv t * sz + fc))) p) sz) fc 1) (sz - 1) := funext fun k => by
  letI := fR h
  have hp := h.1
  show (if k < sz.toNat then bas (fR h) pv (gM h gg sz) fc.toNat k else 0) = (if (k : Int) ≤ sz - 1 then zi h ((gup (gF gr (fun t : Int => if gv t < 0 then 0 else gMod (-(gg (gv t * sz + fc))) p) sz) fc 1) k) else 0)
  by_cases z : k < sz.toNat
  · rw [if_pos z, if_pos (by omega)]
    show (if k = fc.toNat then 1 else match pv k with
      | none => 0
      | some r => - gM h gg sz r fc.toNat) = _
    unfold gup
    by_cases y : k = fc.toNat
    · rw [if_pos y, if_pos (show (k : Int) = fc by omega)]; exact (zi_1 h).symm
    · rw [if_neg y, if_neg (show ¬ (k : Int) = fc by omega)]
      unfold gF
      rw [if_pos (show 0 ≤ (k : Int) ∧ (k : Int) < sz by omega)]
      have e := hpv k (by omega) (by omega)
      rw [show ((k : Int)).toNat = k by omega] at e
      unfold pvI at e
      cases hv : pv k with
      | none =>
        rw [hv] at e
        have e1 : gv k = -1 := e
        dsimp only
        rw [e1, if_pos (by omega)]; exact (zi_0 h).symm
      | some r =>
        rw [hv] at e
        have e1 : gv k = (r : Int) := e
        dsimp only
        rw [e1, if_neg (by omega), gMod_em (by omega), zi_mod, zi_neg]
        show - zi h (gg ((r : Int) * sz + (fc.toNat : Int))) = _
        rw [show ((fc.toNat : Nat) : Int) = fc by omega]
  · rw [if_neg z, if_neg (by omega)]
set_option maxHeartbeats 4000000 in
set_option maxRecDepth 100000 in
theorem sF_readVector (N : GN) (h : GH) (B f p : Nat) (hp : prm p) (hp2 : p ≤ 65536) (hBf : B + 58 ≤ f) (sz fc : Int) (hsz : 1 ≤ sz ∧ sz ≤ 40) (hfc : 0 ≤ fc ∧ fc < sz) (gg gv : Int → Int) (pv : Nat → Option Nat) (hgb : gBd p gg sz) (hpv : ∀ k : Int, 0 ≤ k → k < sz → gv k = pvI pv k.toNat) (hvr : ∀ k : Int, 0 ≤ k → k < sz → -1 ≤ gv k ∧ gv k < sz) (hsp : h.2 (f + 12) = some (spO B f sz)) (hg : h.2 (f + 13) = some (aJ 1600 gg)) (hv : h.2 (f + 14) = some (aI 40 gv)) (hfl : h.2 (B + 1) = some (oB 1 [.int (gI ((p : Int)))])) (h17 : RA 84 h (f + 17)) : Sp N yX6_readVector mX6_readVector 0 0 [.ref (f + 12), .int (gI (fc))] h (fun v h1 => v = none ∧ Fr [f + 17] h h1 ∧ RP hp 84 h1 (f + 17) (bpv hp sz.toNat pv (gM hp gg sz) fc.toNat)) := by
  refine Sp.of (by decide) rfl rfl (Nat.le_of_ble_eq_true rfl) ?_
  show Go N mX6_readVector _ 0 0 h 0 [(0, .ref (f + 12)), (1, .int (gI (fc)))] []
  have hp1 := hp.1
  refine g_iconst dX6_readVector_0 ?_
  refine g_istore_n (ls2 := [(2, .int (gI (0))), (0, .ref (f + 12)), (1, .int (gI (fc)))]) dX6_readVector_1 rfl (by decide) rfl ?_
  obtain ⟨dr, gr, y1, y2, y3, y4, y5, y6, y7⟩ := h17
  have lc : ∀ (kk : Nat) (c : Int) (hlc : GH), kk = (40 - c).toNat → Fr [f + 17] h hlc → hlc.2 (f + 12) = some (oB 6 [.ref (B + 1), .ref (B + 7), .ref (f + 13), .ref (f + 14), .ref (f + 15), .ref (f + 17), .ref (f + 19), .int (gI (sz))]) → hlc.2 (f + 13) = some (aJ 1600 (gg)) → hlc.2 (f + 14) = some (aI 40 (gv)) → hlc.2 (B + 1) = some (oB 1 [.int (gI ((p : Int)))]) → hlc.2 (f + 17) = some (oB 5 [.ref (f + 18), .int (gI (dr))]) → hlc.2 (f + 18) = some (aJ 84 (gF gr (fun t : Int => if gv t < 0 then 0 else gMod (-(gg (gv t * sz + fc))) p) c)) → (0 ≤ c ∧ c ≤ sz) → Go N mX6_readVector (fun v h1 => v = none ∧ Fr [f + 17] h h1 ∧ RP hp 84 h1 (f + 17) (bpv hp sz.toNat pv (gM hp gg sz) fc.toNat)) 0 0 hlc 2 [(2, .int (gI (c))), (0, .ref (f + 12)), (1, .int (gI (fc)))] [] := by
    refine Go.ind (fun kk ih_lc => ?_)
    intro c hlc hkk_lc fr_lc cf_lc_0 cf_lc_1 cf_lc_2 cf_lc_3 cf_lc_4 cf_lc_5 hc
    refine g_iload_n 0 dX6_readVector_2 rfl ?_
    refine g_aload_n 1 dX6_readVector_3 rfl ?_
    refine g_getf 7 dX6_readVector_4 kX6 (by decide) fX6_57 cf_lc_0 rfl ?_
    refine g_icmp_ge (tgt := 61) dX6_readVector_7 rfl (by first | assumption | (unfold gW; omega) | (unfold gW; split <;> omega)) (by first | assumption | (unfold gW; omega) | (unfold gW; split <;> omega)) (fun c101 => ?_) (fun c101 => ?_)
    · skip
      have hcz : c = sz := by omega
      refine g_aload_n 1 dX6_readVector_61 rfl ?_
      refine g_getf 5 dX6_readVector_62 kX6 (by decide) fX6_28 cf_lc_0 rfl ?_
      refine g_getf 0 dX6_readVector_65 kX5 (by decide) fX6_90 cf_lc_4 rfl ?_
      refine g_iload_n 2 dX6_readVector_68 rfl ?_
      refine g_lconst1 dX6_readVector_69 ?_
      refine g_lastore dX6_readVector_70 cf_lc_5 (by omega) (by omega) (by omega) ?_
      obtain ⟨hh102, eh102⟩ : ∃ z : GH, z = hset hlc (f + 18) (aJ 84 (gup (gF gr (fun t : Int => if gv t < 0 then 0 else gMod (-(gg (gv t * sz + fc))) p) c) (fc) (1))) := ⟨_, rfl⟩
      refine Go.hp eh102.symm ?_
      have fh102_0 : hh102.2 (f + 12) = some (oB 6 [.ref (B + 1), .ref (B + 7), .ref (f + 13), .ref (f + 14), .ref (f + 15), .ref (f + 17), .ref (f + 19), .int (gI (sz))]) := hs_n eh102 (show NE (f + 12) (f + 18) by unfold NE; omega) cf_lc_0
      have fh102_1 : hh102.2 (f + 13) = some (aJ 1600 (gg)) := hs_n eh102 (show NE (f + 13) (f + 18) by unfold NE; omega) cf_lc_1
      have fh102_2 : hh102.2 (f + 14) = some (aI 40 (gv)) := hs_n eh102 (show NE (f + 14) (f + 18) by unfold NE; omega) cf_lc_2
      have fh102_3 : hh102.2 (B + 1) = some (oB 1 [.int (gI ((p : Int)))]) := hs_n eh102 (show NE (B + 1) (f + 18) by unfold NE; omega) cf_lc_3
      have fh102_4 : hh102.2 (f + 17) = some (oB 5 [.ref (f + 18), .int (gI (dr))]) := hs_n eh102 (show NE (f + 17) (f + 18) by unfold NE; omega) cf_lc_4
      have fh102_5 : hh102.2 (f + 18) = some (aJ 84 (gup (gF gr (fun t : Int => if gv t < 0 then 0 else gMod (-(gg (gv t * sz + fc))) p) c) (fc) (1))) := hs_s eh102
      have fr102 : Fr [f + 17] h hh102 := Fr.w1 fr_lc (List.Mem.head _) eh102
      refine g_aload_n 1 dX6_readVector_71 rfl ?_
      refine g_getf 5 dX6_readVector_72 kX6 (by decide) fX6_28 fh102_0 rfl ?_
      refine g_aload_n 1 dX6_readVector_75 rfl ?_
      refine g_getf 7 dX6_readVector_76 kX6 (by decide) fX6_57 fh102_0 rfl ?_
      refine g_iconst dX6_readVector_79 ?_
      refine g_isub dX6_readVector_80 ?_
      have e8 := fh102_5
      rw [hcz] at e8
      have hb9 : ∀ k, 0 ≤ k → k ≤ sz - 1 → 0 ≤ (gup (gF gr (fun t : Int => if gv t < 0 then 0 else gMod (-(gg (gv t * sz + fc))) p) sz) fc 1) k ∧ (gup (gF gr (fun t : Int => if gv t < 0 then 0 else gMod (-(gg (gv t * sz + fc))) p) sz) fc 1) k < p := fun k k0 k1 => by
                                                                      unfold gup gF
                                                                      split
                                                                      · omega
                                                                      · rw [if_pos (by omega)]
                                                                        dsimp only
                                                                        split
                                                                        · omega
                                                                        · exact gMod_in (by omega)
      refine g_callV (nc2 := 0) (ns2 := 0) (ci := 5) (As := [.int (gI ((sz) - (1)))]) (st := []) rfl dX6_readVector_81 okX5_settle lX6_121 itX5_settle seX5_settle rfl fh102_4 (by decide) (by decide) rfl (Nat.le_of_ble_eq_true rfl) (sP_settle N _ (f + 17) 84 p hp hp2 dr (sz - 1) (gup (gF gr (fun t : Int => if gv t < 0 then 0 else gMod (-(gg (gv t * sz + fc))) p) sz) fc 1) (bpv hp sz.toNat pv (gM hp gg sz) fc.toNat) (by omega) (by omega) (by omega) (by omega) hb9 (rv_f (q := 0) hp hfc hpv) fh102_4 e8) (by omega) (by omega) (fun v103 hc103 q103 => ?_)
      obtain ⟨rfl, frc104, rn104_0⟩ := q103
      have fk105_0 : hc103.2 (f + 12) = some (oB 6 [.ref (B + 1), .ref (B + 7), .ref (f + 13), .ref (f + 14), .ref (f + 15), .ref (f + 17), .ref (f + 19), .int (gI (sz))]) := Fr.at0 frc104 (Ni.c ⟨show NE (f + 12) (f + 17) by unfold NE; omega, show NE (f + 12) (f + 17 + 1) by unfold NE; omega⟩ (Ni.n _)) fh102_0
      have fk105_1 : hc103.2 (f + 13) = some (aJ 1600 (gg)) := Fr.at0 frc104 (Ni.c ⟨show NE (f + 13) (f + 17) by unfold NE; omega, show NE (f + 13) (f + 17 + 1) by unfold NE; omega⟩ (Ni.n _)) fh102_1
      have fk105_2 : hc103.2 (f + 14) = some (aI 40 (gv)) := Fr.at0 frc104 (Ni.c ⟨show NE (f + 14) (f + 17) by unfold NE; omega, show NE (f + 14) (f + 17 + 1) by unfold NE; omega⟩ (Ni.n _)) fh102_2
      have fk105_3 : hc103.2 (B + 1) = some (oB 1 [.int (gI ((p : Int)))]) := Fr.at0 frc104 (Ni.c ⟨show NE (B + 1) (f + 17) by unfold NE; omega, show NE (B + 1) (f + 17 + 1) by unfold NE; omega⟩ (Ni.n _)) fh102_3
      have fr105 : Fr [f + 17] h hc103 := (fr102).tr ((frc104).mo (sub_c (List.Mem.head _) sub_n))
      refine Go.nf (h' := hc103) (st' := []) rfl rfl (Nat.le_refl _) (Nat.le_refl _) ?_
      exact g_vret dX6_readVector_84 rfl ⟨rfl, fr105, rn104_0⟩
    · skip
      have hgv := hvr c hc.1 (by omega)
      refine g_aload_n 1 dX6_readVector_10 rfl ?_
      refine g_getf 3 dX6_readVector_11 kX6 (by decide) fX6_15 cf_lc_0 rfl ?_
      refine g_iload_n 0 dX6_readVector_14 rfl ?_
      refine g_iaload dX6_readVector_15 cf_lc_2 (by omega) (by omega) (by omega) ?_
      refine g_istore_n (ls2 := [(3, .int (gI ((gv) (c)))), (2, .int (gI (c))), (0, .ref (f + 12)), (1, .int (gI (fc)))]) dX6_readVector_16 rfl (by decide) rfl ?_
      refine g_aload_n 2 dX6_readVector_17 rfl ?_
      refine g_getf 5 dX6_readVector_18 kX6 (by decide) fX6_28 cf_lc_0 rfl ?_
      refine g_getf 0 dX6_readVector_21 kX5 (by decide) fX6_90 cf_lc_4 rfl ?_
      refine g_iload_n 1 dX6_readVector_24 rfl ?_
      refine g_iload_n 0 dX6_readVector_25 rfl ?_
      refine g_if_ge (tgt := 33) dX6_readVector_26 rfl (by first | assumption | (unfold gW; omega) | (unfold gW; split <;> omega)) (fun c106 => ?_) (fun c106 => ?_)
      · skip
        have hbx := ix_bd40 (sz := sz) (show 0 ≤ gv c by omega) (show gv c < sz by omega) hfc.1 hfc.2 hsz.2
        refine g_aload_n 2 dX6_readVector_33 rfl ?_
        refine g_getf 0 dX6_readVector_34 kX6 (by decide) fX6_34 cf_lc_0 rfl ?_
        refine g_aload_n 2 dX6_readVector_37 rfl ?_
        refine g_getf 2 dX6_readVector_38 kX6 (by decide) fX6_9 cf_lc_0 rfl ?_
        refine g_iload_n 0 dX6_readVector_41 rfl ?_
        refine g_aload_n 2 dX6_readVector_42 rfl ?_
        refine g_getf 7 dX6_readVector_43 kX6 (by decide) fX6_57 cf_lc_0 rfl ?_
        refine g_imul dX6_readVector_46 ?_
        refine g_iload_n 3 dX6_readVector_47 rfl ?_
        refine g_iadd dX6_readVector_48 ?_
        refine g_laload dX6_readVector_49 cf_lc_1 (by omega) (by omega) (by omega) ?_
        refine g_lneg dX6_readVector_50 ?_
        have hgg := hgb (gv c) fc (by omega) (by omega) hfc.1 hfc.2
        have hgx9 : gX (-(gg (gv c * sz + fc))) := by unfold gX; omega
        refine g_callV (nc2 := 0) (ns2 := 0) (ci := 1) (As := [.long (gJ (-((gg) ((((gv) (c)) * (sz)) + (fc)))))]) (st := [.int (gI (c)), .ref (f + 18)]) rfl dX6_readVector_51 okX1_mod lX6_103 itX1_mod seX1_mod rfl cf_lc_3 (by decide) (by decide) rfl (Nat.le_of_ble_eq_true rfl) (sX1_mod N _ (B + 1) p (-((gg) ((((gv) (c)) * (sz)) + (fc)))) hgx9 (by omega) (by omega) cf_lc_3) (by omega) (by omega) (fun v107 hc107 q107 => ?_)
        obtain ⟨hq108, rfl⟩ := q107
        refine Go.nf (h' := hlc) (st' := [.long (gJ (gMod (-((gg) ((((gv) (c)) * (sz)) + (fc)))) p)), .int (gI (c)), .ref (f + 18)]) hq108 rfl (Nat.le_refl _) (Nat.le_refl _) ?_
        refine g_lastore dX6_readVector_54 cf_lc_5 (by omega) (by omega) (by omega) ?_
        obtain ⟨hh109, eh109⟩ : ∃ z : GH, z = hset hlc (f + 18) (aJ 84 (gup (gF gr (fun t : Int => if gv t < 0 then 0 else gMod (-(gg (gv t * sz + fc))) p) c) (c) (gMod (-((gg) ((((gv) (c)) * (sz)) + (fc)))) p))) := ⟨_, rfl⟩
        refine Go.hp eh109.symm ?_
        have fh109_0 : hh109.2 (f + 12) = some (oB 6 [.ref (B + 1), .ref (B + 7), .ref (f + 13), .ref (f + 14), .ref (f + 15), .ref (f + 17), .ref (f + 19), .int (gI (sz))]) := hs_n eh109 (show NE (f + 12) (f + 18) by unfold NE; omega) cf_lc_0
        have fh109_1 : hh109.2 (f + 13) = some (aJ 1600 (gg)) := hs_n eh109 (show NE (f + 13) (f + 18) by unfold NE; omega) cf_lc_1
        have fh109_2 : hh109.2 (f + 14) = some (aI 40 (gv)) := hs_n eh109 (show NE (f + 14) (f + 18) by unfold NE; omega) cf_lc_2
        have fh109_3 : hh109.2 (B + 1) = some (oB 1 [.int (gI ((p : Int)))]) := hs_n eh109 (show NE (B + 1) (f + 18) by unfold NE; omega) cf_lc_3
        have fh109_4 : hh109.2 (f + 17) = some (oB 5 [.ref (f + 18), .int (gI (dr))]) := hs_n eh109 (show NE (f + 17) (f + 18) by unfold NE; omega) cf_lc_4
        have fh109_5 : hh109.2 (f + 18) = some (aJ 84 (gup (gF gr (fun t : Int => if gv t < 0 then 0 else gMod (-(gg (gv t * sz + fc))) p) c) (c) (gMod (-((gg) ((((gv) (c)) * (sz)) + (fc)))) p))) := hs_s eh109
        have fr109 : Fr [f + 17] h hh109 := Fr.w1 fr_lc (List.Mem.head _) eh109
        refine g_iinc 1 (ls2 := [(2, .int (gI (c + 1))), (3, .int (gI ((gv) (c)))), (0, .ref (f + 12)), (1, .int (gI (fc)))]) dX6_readVector_55 rfl (by decide) rfl ?_
        refine g_goto (tgt := 2) dX6_readVector_58 rfl ?_
        refine Go.sub [0, 2, 3] rfl ?_
        exact ih_lc _ (by omega) (c + 1) hh109 rfl fr109 fh109_0 fh109_1 fh109_2 fh109_3 fh109_4 (by
                                                                      have e9 : (if gv c < 0 then 0 else gMod (-(gg (gv c * sz + fc))) p) = gMod (-(gg (gv c * sz + fc))) p := by
                                                                        rw [if_neg (by omega)]
                                                                      rw [← gF_s gr (fun t : Int => if gv t < 0 then 0 else gMod (-(gg (gv t * sz + fc))) p) hc.1, e9]; exact fh109_5) (by omega)
      · skip
        refine g_lconst0 dX6_readVector_29 ?_
        refine g_goto (tgt := 54) dX6_readVector_30 rfl ?_
        refine g_lastore dX6_readVector_54 cf_lc_5 (by omega) (by omega) (by omega) ?_
        obtain ⟨hh110, eh110⟩ : ∃ z : GH, z = hset hlc (f + 18) (aJ 84 (gup (gF gr (fun t : Int => if gv t < 0 then 0 else gMod (-(gg (gv t * sz + fc))) p) c) (c) (0))) := ⟨_, rfl⟩
        refine Go.hp eh110.symm ?_
        have fh110_0 : hh110.2 (f + 12) = some (oB 6 [.ref (B + 1), .ref (B + 7), .ref (f + 13), .ref (f + 14), .ref (f + 15), .ref (f + 17), .ref (f + 19), .int (gI (sz))]) := hs_n eh110 (show NE (f + 12) (f + 18) by unfold NE; omega) cf_lc_0
        have fh110_1 : hh110.2 (f + 13) = some (aJ 1600 (gg)) := hs_n eh110 (show NE (f + 13) (f + 18) by unfold NE; omega) cf_lc_1
        have fh110_2 : hh110.2 (f + 14) = some (aI 40 (gv)) := hs_n eh110 (show NE (f + 14) (f + 18) by unfold NE; omega) cf_lc_2
        have fh110_3 : hh110.2 (B + 1) = some (oB 1 [.int (gI ((p : Int)))]) := hs_n eh110 (show NE (B + 1) (f + 18) by unfold NE; omega) cf_lc_3
        have fh110_4 : hh110.2 (f + 17) = some (oB 5 [.ref (f + 18), .int (gI (dr))]) := hs_n eh110 (show NE (f + 17) (f + 18) by unfold NE; omega) cf_lc_4
        have fh110_5 : hh110.2 (f + 18) = some (aJ 84 (gup (gF gr (fun t : Int => if gv t < 0 then 0 else gMod (-(gg (gv t * sz + fc))) p) c) (c) (0))) := hs_s eh110
        have fr110 : Fr [f + 17] h hh110 := Fr.w1 fr_lc (List.Mem.head _) eh110
        refine g_iinc 1 (ls2 := [(2, .int (gI (c + 1))), (3, .int (gI ((gv) (c)))), (0, .ref (f + 12)), (1, .int (gI (fc)))]) dX6_readVector_55 rfl (by decide) rfl ?_
        refine g_goto (tgt := 2) dX6_readVector_58 rfl ?_
        refine Go.sub [0, 2, 3] rfl ?_
        exact ih_lc _ (by omega) (c + 1) hh110 rfl fr110 fh110_0 fh110_1 fh110_2 fh110_3 fh110_4 (by
                                                                      have e9 : (if gv c < 0 then 0 else gMod (-(gg (gv c * sz + fc))) p) = 0 := by
                                                                        rw [if_pos (by omega)]
                                                                      rw [← gF_s gr (fun t : Int => if gv t < 0 then 0 else gMod (-(gg (gv t * sz + fc))) p) hc.1, e9]; exact fh110_5) (by omega)
  exact lc _ (0) h rfl (Fr.rf [f + 17] h) hsp hg hv hfl y1 (by rw [gF_0]; exact y2) (by omega)
