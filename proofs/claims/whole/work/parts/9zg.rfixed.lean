section
variable {p : Nat}
theorem em_neg {p : Nat} {x : Int} (h0 : -(p : Int) ≤ x) (h1 : x < 0) : x % (p : Int) = x + p := by
  rw [← Int.add_emod_right, Int.emod_eq_of_lt (by omega) (by omega)]
/-- a vector and a shift, as numbers -/
theorem vs_ph (h : prm p) {v : Px p} {n s : Int} {L R : Int → Int} (hn : 1 ≤ n ∧ n ≤ 40) (hv : dl (fR h) v n.toNat) (hR : ∀ k : Int, n ≤ k → k < 200 → R k = 0) (hL : L = gup (gF R (cf v) n) 0 ((cf v 0 + s) % p)) : (letI := pR h; v + cz h (zi h s)) = ph h L 199 := funext fun k => by
  letI := fR h
  letI := pR h
  show v k + (if k = 0 then zi h s else 0) = (if (k : Int) ≤ 199 then zi h (L k) else 0)
  rw [hL]
  unfold gup gF
  by_cases z : k = 0
  · subst z
    rw [if_pos rfl, if_pos (by omega), if_pos (by omega), zi_mod, zi_add]
    have e := cf_zi h v 0
    rw [← e]; rfl
  · rw [if_neg z, if_neg (show ¬ (k : Int) = 0 by omega)]
    by_cases y : (k : Int) < n
    · rw [if_pos (by omega), if_pos (by omega), cf_zi h v k]; grind
    · rw [hv k (by omega)]
      split
      · rw [if_neg (by omega), hR k (by omega) (by omega), zi_0]; grind
      · grind
theorem TB.two {h : prm p} {D G : Int → Int} {e b : Int} {H : Int → Px p} {d k : Px p} (w : TB h D G e H) (hb : 0 ≤ b ∧ b < e) (hd : po (fR h) d) (hk : po (fR h) k) (dd : dgi h d ≤ 40) (dk : dgi h k ≤ 40) : TB h (gup (gup D b (dgi h d)) e (dgi h k)) (wT (wT G b d 41) e k 41) (e + 1) (upI H b d e k) :=
  TB.put (TB.put w hb.1 (by omega) hd dd (m := e) (Or.inl rfl) hb.2) (by omega) (Int.le_refl _) hk dk (m := e + 1) (Or.inr ⟨rfl, rfl⟩) (by omega)
theorem TB.mo {h : prm p} {D G : Int → Int} {e e2 : Int} {H H2 : Int → Px p} (w : TB h D G e H) (he : e2 ≤ e) (hh : ∀ i : Int, 0 ≤ i → i < e2 → H2 i = H i) : TB h D G e2 H2 := fun i i0 i1 => by
  rw [hh i i0 i1]; exact w i i0 (by omega)
theorem prt_le (h : prm p) {fv fr d k : Px p} {s : Fp p} (w : prt h fv fr s d k) : dgi h d ≤ dgi h fr ∧ dgi h k ≤ dgi h fr := by
  obtain ⟨a, b, c, _, _, d1, k1, _⟩ := w
  have hd := dgi_dg h a (by omega)
  have hk := dgi_dg h b (by omega)
  have hm := mul_dg (fld_p h) hd hk
  rw [← c] at hm
  rw [dgi_of h hm]
  omega
end
set_option maxHeartbeats 4000000 in
set_option maxRecDepth 100000 in
theorem sM_byFixed (N : GN) (h : GH) (B p : Nat) (hp : prm p) (hp2 : p ≤ 65536) (h0 : GH) (hf le fc pn rn hn qn : Int) (g9 g10 g11 g12 g13 g14 g15 g16 g17 g18 g19 g20 : Int → Int) (n : Int) (F F0 : Px p) (hnd : dgi hp F = n) (hn40 : 2 ≤ n ∧ n ≤ 40) (hmn : mnc hp F) (hsq : sqf hp F) (hF0 : po (fR hp) F0) (hF040 : 0 ≤ dgi hp F0 ∧ dgi hp F0 ≤ 40) (hdF : dv (fR hp) F F0) (H Q : Int → Px p) (hhn : 0 ≤ hn ∧ hn + n ≤ 99) (hTH : TB hp g16 g17 hn H) (hT : TB hp g9 g11 fc Q) (hLI : LI hp F0 fc Q) (hRD : RD B h0 h p hf le fc pn rn hn qn g9 g10 g11 g12 g13 g14 g15 g16 g17 g18 g19 g20) (h11 : MG hp B h 11 F) : Sp N yX10_byFixed mX10_byFixed 0 0 [.ref (B), .int (gI (11))] h (fun v h1 => v = none ∧ NR B [15, 16, 17, 18, 19, 21, 22, 23, 24, 25, 26, 30, 31, 32, 33, 34, 35, 36, 37] h h1 ∧ ∃ fc1 Q1 d9 d11 k16 k17 k18 k19 k20, RD B h0 h1 p hf le fc1 pn rn hn qn d9 g10 d11 g12 g13 g14 g15 k16 k17 k18 k19 k20 ∧ TB hp d9 d11 fc1 Q1 ∧ TB hp k16 k17 hn H ∧ LI hp F0 fc1 Q1 ∧ ∀ x : Px p, inL fc1 Q1 x ↔ (inL fc Q x ∨ isFc hp F x)) := by
  refine Sp.of (by decide) rfl rfl (Nat.le_of_ble_eq_true rfl) ?_
  show Go N mX10_byFixed _ 0 0 h 0 [(0, .ref (B)), (1, .int (gI (11)))] []
  have hp1 := hp.1
  have neA : NE B (B + 5) := by unfold NE; omega
  have neB : NE B (B + 6) := by unfold NE; omega
  have neC : NE (B + 5) (B + 6) := by unfold NE; omega
  have hFp := h11.po
  have hcn0 := cnt_le hp hF0 (by omega) hLI.2.1 hLI.2.2
  have hcn1 := hLI.1
  have hdw : dg (fR hp) F n.toNat := by rw [← hnd]; exact dgi_dg hp hFp (by omega)
  refine g_aload_n 0 dX10_byFixed_0 rfl ?_
  refine g_getf 6 dX10_byFixed_1 kX10 (by decide) fX10_26 (RD.o hRD) rfl ?_
  refine g_iload_n 1 dX10_byFixed_4 rfl ?_
  obtain ⟨dz1, ez1, fz1⟩ := MG.get h11
  refine g_iaload dX10_byFixed_5 ez1 (by omega) (by omega) (by omega) ?_
  rw [fz1]
  rw [hnd]
  refine g_istore_n (ls2 := [(2, .int (gI (n))), (0, .ref (B)), (1, .int (gI (11)))]) dX10_byFixed_6 rfl (by decide) rfl ?_
  refine g_aload_n 1 dX10_byFixed_7 rfl ?_
  refine g_bipush dX10_byFixed_8 (by decide) ?_
  refine g_iconst dX10_byFixed_10 ?_
  refine g_callV (nc2 := 0) (ns2 := 0) (ci := 10) (As := [.int (gI (16)), .int (gI (0))]) (st := []) rfl dX10_byFixed_11 okX10_be lX10_170 itX10_be seX10_be rfl (RD.o hRD) (by decide) (by decide) rfl (Nat.le_of_ble_eq_true rfl) (sM_be N _ B p hp hp2 _ _ _ _ _ _ _ (16) (0) (by omega) (by omega) (by omega) (RD.o hRD) (RD.ma hRD)) (by omega) (by omega) (fun v2 hc2 q2 => ?_)
  obtain ⟨rfl, mfc3, rn3_0⟩ := q2
  have rk4_0 : RD B h0 hc2 p hf le fc pn rn hn qn g9 g10 g11 g12 g13 g14 g15 g16 g17 g18 g19 g20 := RD.mf hRD mfc3
  have rk4_1 : NR B [15, 16, 17, 18, 19, 21, 22, 23, 24, 25, 26, 30, 31, 32, 33, 34, 35, 36, 37] h hc2 := NR.tr (NR.rf B [15, 16, 17, 18, 19, 21, 22, 23, 24, 25, 26, 30, 31, 32, 33, 34, 35, 36, 37] h) ((MF.nr mfc3).mo (sbI_c (List.Mem.tail _ (List.Mem.head _)) sbI_n))
  have rk4_2 : MG hp B hc2 (11) (F) := (h11).fr hp2 mfc3 (Nr.c (by omega) Nr.n)
  refine Go.nf (h' := hc2) (st' := []) rfl rfl (Nat.le_refl _) (Nat.le_refl _) ?_
  have hzX := rn3_0
  obtain ⟨RX, dX, huX, hvX, hRX, hDX⟩ := (RD.ma rk4_0)
  have hat5 := (rk4_2).at huX hvX hRX hDX
  have hat6 := (rn3_0).at huX hvX hRX hDX
  refine g_aload_n 1 dX10_byFixed_14 rfl ?_
  refine g_getf 5 dX10_byFixed_15 kX10 (by decide) fX10_23 (RD.o rk4_0) rfl ?_
  refine g_sipush dX10_byFixed_18 (by decide) ?_
  refine g_iconst dX10_byFixed_21 ?_
  refine g_iastore dX10_byFixed_22 hRX (by omega) (by omega) (by omega) ?_
  obtain ⟨hh57, eh57⟩ : ∃ z : GH, z = hset hc2 (B + 5) (aI 8000 (gup (ar RX) (3201) (1))) := ⟨_, rfl⟩
  refine Go.hp eh57.symm ?_
  have fh57_0 : hh57.2 (B) = some (mO B ((p : Int)) (hf) (le) (fc) (pn) (rn) (hn) (qn)) := hs_n eh57 neA (RD.o rk4_0)
  have fh57_1 : hh57.2 (B + 9) = some (aI 41 (g9)) := hs_n eh57 (show NE (B + 9) (B + 5) by unfold NE; omega) (RD.t9 rk4_0)
  have fh57_2 : hh57.2 (B + 10) = some (aI 41 (g10)) := hs_n eh57 (show NE (B + 10) (B + 5) by unfold NE; omega) (RD.t10 rk4_0)
  have fh57_3 : hh57.2 (B + 11) = some (aI 1681 (g11)) := hs_n eh57 (show NE (B + 11) (B + 5) by unfold NE; omega) (RD.t11 rk4_0)
  have fh57_4 : hh57.2 (B + 12) = some (aI 41 (g12)) := hs_n eh57 (show NE (B + 12) (B + 5) by unfold NE; omega) (RD.t12 rk4_0)
  have fh57_5 : hh57.2 (B + 13) = some (aI 41 (g13)) := hs_n eh57 (show NE (B + 13) (B + 5) by unfold NE; omega) (RD.t13 rk4_0)
  have fh57_6 : hh57.2 (B + 14) = some (aI 1681 (g14)) := hs_n eh57 (show NE (B + 14) (B + 5) by unfold NE; omega) (RD.t14 rk4_0)
  have fh57_7 : hh57.2 (B + 15) = some (aI 41 (g15)) := hs_n eh57 (show NE (B + 15) (B + 5) by unfold NE; omega) (RD.t15 rk4_0)
  have fh57_8 : hh57.2 (B + 16) = some (aI 100 (g16)) := hs_n eh57 (show NE (B + 16) (B + 5) by unfold NE; omega) (RD.t16 rk4_0)
  have fh57_9 : hh57.2 (B + 17) = some (aI 4100 (g17)) := hs_n eh57 (show NE (B + 17) (B + 5) by unfold NE; omega) (RD.t17 rk4_0)
  have fh57_10 : hh57.2 (B + 18) = some (aI 1681 (g18)) := hs_n eh57 (show NE (B + 18) (B + 5) by unfold NE; omega) (RD.t18 rk4_0)
  have fh57_11 : hh57.2 (B + 19) = some (aI 41 (g19)) := hs_n eh57 (show NE (B + 19) (B + 5) by unfold NE; omega) (RD.t19 rk4_0)
  have fh57_12 : hh57.2 (B + 20) = some (aI 1681 (g20)) := hs_n eh57 (show NE (B + 20) (B + 5) by unfold NE; omega) (RD.t20 rk4_0)
  have fh57_13 : hh57.2 (B + 5) = some (aI 8000 (gup (ar RX) (3201) (1))) := hs_s eh57
  have fh57_14 : hh57.2 (B + 6) = some (aI 40 (dX)) := hs_n eh57 (neC).s hDX
  have fr57 : Fr [B + 5] hc2 hh57 := Fr.w0 (Fr.rf [B + 5] hc2) (List.Mem.head _) eh57
  have f5X : hh57.2 (B + 5) = some (aI 8000 (ar (gup RX 16 (gup (RX 16) 1 1)))) := by
                                                                      have e9 := fh57_13
                                                                      rw [show gup (ar RX) 3201 1 = ar (gup RX 16 (gup (RX 16) 1 1)) from ar_w RX (r := 16) (i := 1) (by omega) (by omega) 1] at e9; exact e9
  refine g_aload_n 1 dX10_byFixed_23 rfl ?_
  refine g_bipush dX10_byFixed_24 (by decide) ?_
  refine g_callV (nc2 := 0) (ns2 := 0) (ci := 10) (As := [.int (gI (16))]) (st := []) rfl dX10_byFixed_26 okX10_measure lX10_164 itX10_measure seX10_measure rfl fh57_0 (by decide) (by decide) rfl (Nat.le_of_ble_eq_true rfl) (sM_measure N _ B p hp hp2 _ _ _ _ _ _ _ (16) (by omega) fh57_0 ((gup RX 16 (gup (RX 16) 1 1))) (dX) (xm (fR hp) (letI := fR hp; 1) 1) f5X fh57_14 (fun j j0 j1 => by
                                                                      rw [gup_s]; unfold gup
                                                                      split
                                                                      · omega
                                                                      · rw [(hzX.at huX hvX hRX hDX).2 j j0 j1]; exact cf_in _ hp _) (by
                                                                      rw [gup_s]
                                                                      exact xm_ph hp (gup_s _ _ _) (fun j j0 j1 j2 => by rw [gup_n _ _ j2, (hzX.at huX hvX hRX hDX).2 j j0 j1]; exact cf_hi hp (cz_po hp _) (by
                                                                          have : dgi hp (cz hp (zi hp 0)) = -1 := by rw [cz_z0]; exact dgi_0 hp
                                                                          omega)))) (by omega) (by omega) (fun v58 hc58 q58 => ?_)
  obtain ⟨rfl, mfc59, rn59⟩ := q58
  have mfd59 : MF B [] [16] hc2 hc58 := (MF.one (r := 16) fr57 huX hvX hRX hDX f5X fh57_14 (fun s hs => gup_n _ _ hs) (fun _ _ => rfl)).tr mfc59
  have fk60_0 : hc58.2 (B) = some (mO B ((p : Int)) (hf) (le) (fc) (pn) (rn) (hn) (qn)) := Fr.at0 mfc59.1 (Ni.c ⟨neA, neB⟩ (Ni.n _)) fh57_0
  have fk60_1 : hc58.2 (B + 9) = some (aI 41 (g9)) := Fr.at0 mfc59.1 (Ni.c ⟨(show NE (B + 9) (B + 5) by unfold NE; omega), (show NE (B + 9) (B + 6) by unfold NE; omega)⟩ (Ni.n _)) fh57_1
  have fk60_2 : hc58.2 (B + 10) = some (aI 41 (g10)) := Fr.at0 mfc59.1 (Ni.c ⟨(show NE (B + 10) (B + 5) by unfold NE; omega), (show NE (B + 10) (B + 6) by unfold NE; omega)⟩ (Ni.n _)) fh57_2
  have fk60_3 : hc58.2 (B + 11) = some (aI 1681 (g11)) := Fr.at0 mfc59.1 (Ni.c ⟨(show NE (B + 11) (B + 5) by unfold NE; omega), (show NE (B + 11) (B + 6) by unfold NE; omega)⟩ (Ni.n _)) fh57_3
  have fk60_4 : hc58.2 (B + 12) = some (aI 41 (g12)) := Fr.at0 mfc59.1 (Ni.c ⟨(show NE (B + 12) (B + 5) by unfold NE; omega), (show NE (B + 12) (B + 6) by unfold NE; omega)⟩ (Ni.n _)) fh57_4
  have fk60_5 : hc58.2 (B + 13) = some (aI 41 (g13)) := Fr.at0 mfc59.1 (Ni.c ⟨(show NE (B + 13) (B + 5) by unfold NE; omega), (show NE (B + 13) (B + 6) by unfold NE; omega)⟩ (Ni.n _)) fh57_5
  have fk60_6 : hc58.2 (B + 14) = some (aI 1681 (g14)) := Fr.at0 mfc59.1 (Ni.c ⟨(show NE (B + 14) (B + 5) by unfold NE; omega), (show NE (B + 14) (B + 6) by unfold NE; omega)⟩ (Ni.n _)) fh57_6
  have fk60_7 : hc58.2 (B + 15) = some (aI 41 (g15)) := Fr.at0 mfc59.1 (Ni.c ⟨(show NE (B + 15) (B + 5) by unfold NE; omega), (show NE (B + 15) (B + 6) by unfold NE; omega)⟩ (Ni.n _)) fh57_7
  have fk60_8 : hc58.2 (B + 16) = some (aI 100 (g16)) := Fr.at0 mfc59.1 (Ni.c ⟨(show NE (B + 16) (B + 5) by unfold NE; omega), (show NE (B + 16) (B + 6) by unfold NE; omega)⟩ (Ni.n _)) fh57_8
  have fk60_9 : hc58.2 (B + 17) = some (aI 4100 (g17)) := Fr.at0 mfc59.1 (Ni.c ⟨(show NE (B + 17) (B + 5) by unfold NE; omega), (show NE (B + 17) (B + 6) by unfold NE; omega)⟩ (Ni.n _)) fh57_9
  have fk60_10 : hc58.2 (B + 18) = some (aI 1681 (g18)) := Fr.at0 mfc59.1 (Ni.c ⟨(show NE (B + 18) (B + 5) by unfold NE; omega), (show NE (B + 18) (B + 6) by unfold NE; omega)⟩ (Ni.n _)) fh57_10
  have fk60_11 : hc58.2 (B + 19) = some (aI 41 (g19)) := Fr.at0 mfc59.1 (Ni.c ⟨(show NE (B + 19) (B + 5) by unfold NE; omega), (show NE (B + 19) (B + 6) by unfold NE; omega)⟩ (Ni.n _)) fh57_11
  have fk60_12 : hc58.2 (B + 20) = some (aI 1681 (g20)) := Fr.at0 mfc59.1 (Ni.c ⟨(show NE (B + 20) (B + 5) by unfold NE; omega), (show NE (B + 20) (B + 6) by unfold NE; omega)⟩ (Ni.n _)) fh57_12
  have fr60 : Fr [B + 5] hc2 hc58 := (fr57).tr ((mfc59.1).mo (sub_c (List.Mem.head _) sub_n))
  refine Go.nf (h' := hc58) (st' := []) rfl rfl (Nat.le_refl _) (Nat.le_refl _) ?_
  have rk111_0 : RD B h0 hc58 p hf le fc pn rn hn qn g9 g10 g11 g12 g13 g14 g15 g16 g17 g18 g19 g20 := RD.mf rk4_0 mfd59
  have rk111_1 : NR B [15, 16, 17, 18, 19, 21, 22, 23, 24, 25, 26, 30, 31, 32, 33, 34, 35, 36, 37] h hc58 := NR.tr rk4_1 ((MF.nr mfd59).mo (sbI_c (List.Mem.tail _ (List.Mem.head _)) sbI_n))
  have rk111_2 : MG hp B hc58 (11) (F) := (rk4_2).fr hp2 mfd59 (Nr.c (by omega) Nr.n)
  refine g_aload_n 1 dX10_byFixed_29 rfl ?_
  refine g_bipush dX10_byFixed_30 (by decide) ?_
  refine g_aload_n 1 dX10_byFixed_32 rfl ?_
  refine g_getf 0 dX10_byFixed_33 kX10 (by decide) fX10_78 (RD.o rk111_0) rfl ?_
  refine g_i2l dX10_byFixed_36 (by first | assumption | (unfold gW; omega) | (unfold gW; split <;> omega)) ?_
  refine g_iload_n 2 dX10_byFixed_37 rfl ?_
  refine g_bipush dX10_byFixed_38 (by decide) ?_
  refine g_callV (nc2 := 0) (ns2 := 0) (ci := 10) (As := [.int (gI (16)), .long (gJ ((p : Int))), .int (gI (11)), .int (gI (17))]) (st := []) rfl dX10_byFixed_40 okX10_raise lX10_195 itX10_raise seX10_raise rfl (RD.o rk111_0) (by decide) (by decide) rfl (Nat.le_of_ble_eq_true rfl) (sM_raise N _ B p hp hp2 _ _ _ _ _ _ _ (16) (11) (17) ((p : Int)) (by omega) (by omega) (by omega) (by omega) (by omega) (by omega) (xm (fR hp) (letI := fR hp; 1) 1) (F) (RD.o rk111_0) (RD.ma rk111_0) rn59 rk111_2 (by omega)) (by omega) (by omega) (fun v112 hc112 q112 => ?_)
  obtain ⟨rfl, mfc113, rn113_0⟩ := q112
  have rk114_0 : RD B h0 hc112 p hf le fc pn rn hn qn g9 g10 g11 g12 g13 g14 g15 g16 g17 g18 g19 g20 := RD.mf rk111_0 mfc113
  have rk114_1 : NR B [15, 16, 17, 18, 19, 21, 22, 23, 24, 25, 26, 30, 31, 32, 33, 34, 35, 36, 37] h hc112 := NR.tr rk111_1 ((MF.nr mfc113).mo (sbI_c (List.Mem.tail _ (List.Mem.tail _ (List.Mem.tail _ (List.Mem.tail _ (List.Mem.tail _ (List.Mem.tail _ (List.Mem.tail _ (List.Mem.tail _ (List.Mem.tail _ (List.Mem.tail _ (List.Mem.tail _ (List.Mem.tail _ (List.Mem.tail _ (List.Mem.tail _ (List.Mem.tail _ (List.Mem.head _)))))))))))))))) (sbI_c (List.Mem.tail _ (List.Mem.tail _ (List.Mem.tail _ (List.Mem.tail _ (List.Mem.tail _ (List.Mem.tail _ (List.Mem.tail _ (List.Mem.tail _ (List.Mem.tail _ (List.Mem.tail _ (List.Mem.tail _ (List.Mem.tail _ (List.Mem.tail _ (List.Mem.tail _ (List.Mem.tail _ (List.Mem.tail _ (List.Mem.head _))))))))))))))))) (sbI_c (List.Mem.tail _ (List.Mem.tail _ (List.Mem.tail _ (List.Mem.tail _ (List.Mem.tail _ (List.Mem.tail _ (List.Mem.tail _ (List.Mem.tail _ (List.Mem.tail _ (List.Mem.tail _ (List.Mem.tail _ (List.Mem.tail _ (List.Mem.tail _ (List.Mem.tail _ (List.Mem.tail _ (List.Mem.tail _ (List.Mem.tail _ (List.Mem.head _)))))))))))))))))) (sbI_c (List.Mem.tail _ (List.Mem.tail _ (List.Mem.tail _ (List.Mem.tail _ (List.Mem.tail _ (List.Mem.tail _ (List.Mem.tail _ (List.Mem.tail _ (List.Mem.tail _ (List.Mem.tail _ (List.Mem.tail _ (List.Mem.tail _ (List.Mem.tail _ (List.Mem.tail _ (List.Mem.tail _ (List.Mem.tail _ (List.Mem.tail _ (List.Mem.tail _ (List.Mem.head _))))))))))))))))))) (sbI_c (List.Mem.tail _ (List.Mem.tail _ (List.Mem.head _))) sbI_n))))))
  have rk114_2 : MG hp B hc112 (11) (F) := (rk111_2).fr hp2 mfc113 (Nr.c (by omega) (Nr.c (by omega) (Nr.c (by omega) (Nr.c (by omega) (Nr.c (by omega) Nr.n)))))
  have rk114_3 : MG hp B hc112 (16) (xm (fR hp) (letI := fR hp; 1) 1) := (rn59).fr hp2 mfc113 (Nr.c (by omega) (Nr.c (by omega) (Nr.c (by omega) (Nr.c (by omega) (Nr.c (by omega) Nr.n)))))
  refine Go.nf (h' := hc112) (st' := []) rfl rfl (Nat.le_refl _) (Nat.le_refl _) ?_
  have r17 : MG hp B hc112 17 (rm hp (pwp hp (xm (fR hp) (letI := fR hp; 1) 1) p) F) := rn113_0
  refine g_aload_n 1 dX10_byFixed_43 rfl ?_
  refine g_bipush dX10_byFixed_44 (by decide) ?_
  refine g_iconst dX10_byFixed_46 ?_
  refine g_callV (nc2 := 0) (ns2 := 0) (ci := 10) (As := [.int (gI (18)), .int (gI (1))]) (st := []) rfl dX10_byFixed_47 okX10_be lX10_170 itX10_be seX10_be rfl (RD.o rk114_0) (by decide) (by decide) rfl (Nat.le_of_ble_eq_true rfl) (sM_be N _ B p hp hp2 _ _ _ _ _ _ _ (18) (1) (by omega) (by omega) (by omega) (RD.o rk114_0) (RD.ma rk114_0)) (by omega) (by omega) (fun v115 hc115 q115 => ?_)
  obtain ⟨rfl, mfc116, rn116_0⟩ := q115
  have rk117_0 : RD B h0 hc115 p hf le fc pn rn hn qn g9 g10 g11 g12 g13 g14 g15 g16 g17 g18 g19 g20 := RD.mf rk114_0 mfc116
  have rk117_1 : NR B [15, 16, 17, 18, 19, 21, 22, 23, 24, 25, 26, 30, 31, 32, 33, 34, 35, 36, 37] h hc115 := NR.tr rk114_1 ((MF.nr mfc116).mo (sbI_c (List.Mem.tail _ (List.Mem.tail _ (List.Mem.tail _ (List.Mem.head _)))) sbI_n))
  have rk117_2 : MG hp B hc115 (11) (F) := (rk114_2).fr hp2 mfc116 (Nr.c (by omega) Nr.n)
  have rk117_3 : MG hp B hc115 (16) (xm (fR hp) (letI := fR hp; 1) 1) := (rk114_3).fr hp2 mfc116 (Nr.c (by omega) Nr.n)
  have rk117_4 : MG hp B hc115 (17) (rm hp (pwp hp (xm (fR hp) (letI := fR hp; 1) 1) p) F) := (r17).fr hp2 mfc116 (Nr.c (by omega) Nr.n)
  refine Go.nf (h' := hc115) (st' := []) rfl rfl (Nat.le_refl _) (Nat.le_refl _) ?_
  refine g_iconst dX10_byFixed_50 ?_
  refine g_istore_n (ls2 := [(3, .int (gI (0))), (2, .int (gI (n))), (0, .ref (B)), (1, .int (gI (11)))]) dX10_byFixed_51 rfl (by decide) rfl ?_
  have li : ∀ (kk : Nat) (i : Int) (hli : GH), kk = (50 - i).toNat → True → RD B h0 hli p hf le fc pn rn hn qn g9 g10 g11 g12 g13 g14 g15 g16 g17 (kfl (bgF hp F (rm hp (pwp hp (xm (fR hp) (letI := fR hp; 1) 1) p) F)) g18 n i 0) g19 g20 → NR B [15, 16, 17, 18, 19, 21, 22, 23, 24, 25, 26, 30, 31, 32, 33, 34, 35, 36, 37] h hli → MG hp B hli (11) (F) → MG hp B hli (17) (rm hp (pwp hp (xm (fR hp) (letI := fR hp; 1) 1) p) F) → MG hp B hli (18) (bcl hp F (rm hp (pwp hp (xm (fR hp) (letI := fR hp; 1) 1) p) F) i.toNat) → (0 ≤ i ∧ i ≤ n) → Go N mX10_byFixed (fun v h1 => v = none ∧ NR B [15, 16, 17, 18, 19, 21, 22, 23, 24, 25, 26, 30, 31, 32, 33, 34, 35, 36, 37] h h1 ∧ ∃ fc1 Q1 d9 d11 k16 k17 k18 k19 k20, RD B h0 h1 p hf le fc1 pn rn hn qn d9 g10 d11 g12 g13 g14 g15 k16 k17 k18 k19 k20 ∧ TB hp d9 d11 fc1 Q1 ∧ TB hp k16 k17 hn H ∧ LI hp F0 fc1 Q1 ∧ ∀ x : Px p, inL fc1 Q1 x ↔ (inL fc Q x ∨ isFc hp F x)) 0 0 hli 52 [(3, .int (gI (i))), (2, .int (gI (n))), (0, .ref (B)), (1, .int (gI (11)))] [] := by
    refine Go.ind (fun kk ih_li => ?_)
    intro i hli hkk_li fr_li cr_li_0 cr_li_1 cr_li_2 cr_li_3 cr_li_4 hi_
    refine g_iload_n 0 dX10_byFixed_52 rfl ?_
    refine g_iload_n 1 dX10_byFixed_53 rfl ?_
    refine g_icmp_ge (tgt := 153) dX10_byFixed_54 rfl (by first | assumption | (unfold gW; omega) | (unfold gW; split <;> omega)) (by first | assumption | (unfold gW; omega) | (unfold gW; split <;> omega)) (fun c218 => ?_) (fun c218 => ?_)
    · skip
      have rdk : RD B h0 hli p hf le fc pn rn hn qn g9 g10 g11 g12 g13 g14 g15 g16 g17 (kfl (bgF hp F (rm hp (pwp hp (xm (fR hp) (letI := fR hp; 1) 1) p) F)) g18 n n 0) g19 g20 := by
                                                                      have e9 : i = n := by omega
                                                                      have e8 := cr_li_0
                                                                      rw [e9] at e8; exact e8
      refine g_aload_n 2 dX10_byFixed_153 rfl ?_
      refine g_iload_n 1 dX10_byFixed_154 rfl ?_
      refine g_callV (nc2 := 0) (ns2 := 0) (ci := 10) (As := [.int (gI (n))]) (st := []) rfl dX10_byFixed_155 okX10_kernel lX10_229 itX10_kernel seX10_kernel rfl (RD.o rdk) (by decide) (by decide) rfl (Nat.le_of_ble_eq_true rfl) (sM_kernel N _ B p hp hp2 h0 hf le fc pn rn hn qn g9 g10 g11 g12 g13 g14 g15 g16 g17 (kfl (bgF hp F (rm hp (pwp hp (xm (fR hp) (letI := fR hp; 1) 1) p) F)) g18 n n 0) g19 g20 n (by omega) (kfl_bd hp F _ g18 (by omega)) rdk) (by omega) (by omega) (fun v219 hc219 q219 => ?_)
      obtain ⟨nr220, q, gg, gv, pv, gb, m, rd220, rfl, hbd, hRR, hKr, hbs⟩ := q219
      have rk221_1 : NR B [15, 16, 17, 18, 19, 21, 22, 23, 24, 25, 26, 30, 31, 32, 33, 34, 35, 36, 37] h hc219 := NR.tr cr_li_1 (NR.mo nr220 sbI_n)
      have rk221_2 : MG hp B hc219 (11) (F) := nr220 p hp (11) _ hp2 Nr.n cr_li_2
      have hK : ∀ v, dl (fR hp) v n.toNat → (ker hp F v ↔ krn (fR hp) n.toNat (kM hp gg) v) := fun v hv => (kfl_ker hp hdw (by omega) g18 (show n = ((n.toNat : Nat) : Int) by omega) (by omega) v hv).trans (hKr v).symm
      have hmF : m = nFr pv n.toNat := hbs.2.2
      have hS0 : ∀ H1 : Int → Px p, H1 hn = F → (∀ i : Int, 0 ≤ i → i < hn → H1 i = H i) → spS hp F hn (hn + 1) H1 H := fun H1 e1 e2 => spS_1 hp hdw (by omega) hmn e1 e2
      have hm1 : 1 ≤ m := by
                                                                      have := spS_le hp hdw hsq (hS0 (fun t => if t = hn then F else H t) (if_pos rfl) (fun i i0 i1 => if_neg (by omega))) hRR hK (by omega)
                                                                      omega
      have hmn2 : m ≤ n := by have := hRR.2.2.2.2.2; omega
      refine Go.nf (h' := hc219) (st' := [.int (gI (m))]) rfl rfl (Nat.le_refl _) (Nat.le_refl _) ?_
      refine g_istore_n (ls2 := [(3, .int (gI (m))), (2, .int (gI (n))), (0, .ref (B)), (1, .int (gI (11)))]) dX10_byFixed_158 rfl (by decide) rfl ?_
      refine g_iload_n 0 dX10_byFixed_159 rfl ?_
      refine g_iconst dX10_byFixed_160 ?_
      refine g_icmp_ne (tgt := 170) dX10_byFixed_161 rfl (by first | assumption | (unfold gW; omega) | (unfold gW; split <;> omega)) (by first | assumption | (unfold gW; omega) | (unfold gW; split <;> omega)) (fun c222 => ?_) (fun c222 => ?_)
      · skip
        obtain ⟨φ, hφ⟩ : ∃ φ : Int → Nat, ∀ j : Int, 0 ≤ j → j < m → ((φ j : Nat) : Int) < n ∧ pv (φ j) = none ∧ bsR hp n pv (kM hp gg) gb j (φ j) := by
                                                                      have key : ∀ j : Int, ∃ f : Nat, 0 ≤ j → j < m → (f : Int) < n ∧ pv f = none ∧ bsR hp n pv (kM hp gg) gb j f := fun j => by
                                                                        by_cases z : 0 ≤ j ∧ j < m
                                                                        · obtain ⟨f, a⟩ := hbs.1 j z.1 z.2
                                                                          exact ⟨f, fun _ _ => a⟩
                                                                        · exact ⟨0, fun a b => absurd ⟨a, b⟩ z⟩
                                                                      exact ⟨fun j => Classical.choose (key j), fun j => Classical.choose_spec (key j)⟩
        obtain ⟨V, hVd⟩ : ∃ V : Int → Px p, V = fun j => bpv hp n.toNat pv (kM hp gg) (φ j) := ⟨_, rfl⟩
        have hVl : ∀ j, dl (fR hp) (V j) n.toNat := fun j => by rw [hVd]; exact bpv_dl hp _ _ _ _
        have hVk : ∀ j : Int, 0 ≤ j → j < m → ker hp F (V j) := fun j j0 j1 => by
                                                                      rw [hVd]
                                                                      exact (hK _ (bpv_dl hp _ _ _ _)).mpr (bpv_ker hp hRR (by have := (hφ j j0 j1).1; omega) (hφ j j0 j1).2.1)
        have hVc : ∀ j : Int, 0 ≤ j → j < m → ∀ k : Int, 0 ≤ k → k < n → gb (41 * j + k) = cf (V j) k := fun j j0 j1 k k0 k1 => by
                                                                      rw [hVd]; exact (hφ j j0 j1).2.2 k k0 k1
        have hVf : ∀ f : Nat, f < n.toNat → pv f = none → ∃ j : Int, 0 ≤ j ∧ j < m ∧ V j = bpv hp n.toNat pv (kM hp gg) f := fun f f1 f2 => by
                                                                      obtain ⟨j, j0, j1, hb⟩ := hbs.2.1 f (by omega) f2
                                                                      refine ⟨j, j0, j1, funext fun k => ?_⟩
                                                                      rw [← cf_zi hp (V j) k, ← cf_zi hp (bpv hp n.toNat pv (kM hp gg) f) k]
                                                                      rcases Int.lt_or_le (k : Int) n with z | z
                                                                      · rw [← hVc j j0 j1 k (by omega) z, ← hb k (by omega) z]
                                                                      · have e1 : V j k = (letI := fR hp; 0) := hVl j k (by omega)
                                                                        have e2 : bpv hp n.toNat pv (kM hp gg) f k = (letI := fR hp; 0) := bpv_dl hp _ _ _ _ k (by omega)
                                                                        rw [cf_zi, cf_zi, e1, e2]
        have hpm : 0 ≤ (p : Int) * m ∧ (p : Int) * m ≤ 65536 * 40 := ⟨Int.mul_nonneg (by omega) (by omega), Int.mul_le_mul (by omega) (by omega) (by omega) (by omega)⟩
        refine g_aload_n 2 dX10_byFixed_170 rfl ?_
        refine g_getf 21 dX10_byFixed_171 kX10 (by decide) fX10_205 (RD.o rd220) rfl ?_
        refine g_istore (ls2 := [(4, .int (gI (hn))), (3, .int (gI (m))), (2, .int (gI (n))), (0, .ref (B)), (1, .int (gI (11)))]) dX10_byFixed_174 (by decide) rfl ?_
        refine g_aload_n 3 dX10_byFixed_176 rfl ?_
        refine g_iload_n 4 dX10_byFixed_177 rfl ?_
        refine g_callV (nc2 := 0) (ns2 := 0) (ci := 10) (As := [.int (gI (11))]) (st := []) rfl dX10_byFixed_178 okX10_push lX10_211 itX10_push seX10_push rfl (RD.o rd220) (by decide) (by decide) rfl (Nat.le_of_ble_eq_true rfl) (sM_push N _ B p hp hp2 h0 hf le fc pn rn hn qn g9 g10 g11 g12 g13 g14 g15 g16 g17 gg gv gb 11 (by omega) F (by omega) (fun _ => ⟨by omega, by omega⟩) rd220 rk221_2) (by omega) (by omega) (fun v223 hc223 q223 => ?_)
        obtain ⟨rfl, nr224, hcs224⟩ := q223
        rcases hcs224 with ⟨hx, _⟩ | ⟨_, rd224⟩
        · exfalso; omega
        have rk225_1 : NR B [15, 16, 17, 18, 19, 21, 22, 23, 24, 25, 26, 30, 31, 32, 33, 34, 35, 36, 37] h hc223 := NR.tr rk221_1 (NR.mo nr224 sbI_n)
        have rk225_2 : MG hp B hc223 (11) (F) := nr224 p hp (11) _ hp2 Nr.n rk221_2
        refine Go.nf (h' := hc223) (st' := []) rfl rfl (Nat.le_refl _) (Nat.le_refl _) ?_
        refine g_iconst dX10_byFixed_181 ?_
        refine g_istore (ls2 := [(5, .int (gI (0))), (4, .int (gI (hn))), (3, .int (gI (m))), (2, .int (gI (n))), (0, .ref (B)), (1, .int (gI (11)))]) dX10_byFixed_182 (by decide) rfl ?_
        have lw : ∀ (kk : Nat) (turn : Int) (e : Int) (H1 : Int → Px p) (k16 : Int → Int) (k17 : Int → Int) (hlw : GH), kk = (3000000 - turn).toNat → True → RD B h0 hlw p hf le fc pn rn e qn g9 g10 g11 g12 g13 g14 g15 k16 k17 gg gv gb → NR B [15, 16, 17, 18, 19, 21, 22, 23, 24, 25, 26, 30, 31, 32, 33, 34, 35, 36, 37] h hlw → (0 ≤ turn ∧ turn ≤ (p : Int) * m) → (hn + 1 ≤ e ∧ e ≤ hn + m) → (TB hp k16 k17 e H1) → (spS hp F hn e H1 H) → (alS hp V m turn hn e H1) → Go N mX10_byFixed (fun v h1 => v = none ∧ NR B [15, 16, 17, 18, 19, 21, 22, 23, 24, 25, 26, 30, 31, 32, 33, 34, 35, 36, 37] h h1 ∧ ∃ fc1 Q1 d9 d11 k16 k17 k18 k19 k20, RD B h0 h1 p hf le fc1 pn rn hn qn d9 g10 d11 g12 g13 g14 g15 k16 k17 k18 k19 k20 ∧ TB hp d9 d11 fc1 Q1 ∧ TB hp k16 k17 hn H ∧ LI hp F0 fc1 Q1 ∧ ∀ x : Px p, inL fc1 Q1 x ↔ (inL fc Q x ∨ isFc hp F x)) 0 0 hlw 184 [(5, .int (gI (turn))), (4, .int (gI (hn))), (3, .int (gI (m))), (2, .int (gI (n))), (0, .ref (B)), (1, .int (gI (11)))] [] := by
          refine Go.ind (fun kk ih_lw => ?_)
          intro turn e H1 k16 k17 hlw hkk_lw fr_lw cr_lw_0 cr_lw_1 htu he hT1 hS1 hA
          refine g_aload_n 4 dX10_byFixed_184 rfl ?_
          refine g_getf 21 dX10_byFixed_185 kX10 (by decide) fX10_205 (RD.o cr_lw_0) rfl ?_
          refine g_iload 1 dX10_byFixed_188 rfl ?_
          refine g_isub dX10_byFixed_190 ?_
          refine g_iload_n 2 dX10_byFixed_191 rfl ?_
          refine g_icmp_ge (tgt := 321) dX10_byFixed_192 rfl (by first | assumption | (unfold gW; omega) | (unfold gW; split <;> omega)) (by first | assumption | (unfold gW; omega) | (unfold gW; split <;> omega)) (fun c326 => ?_) (fun c326 => ?_)
          · skip
            have hirr := bf_irr hp hdw hsq hS1 hRR hK hmF hm1 hVf hA (by omega) (by omega)
            have lp : ∀ (kk : Nat) (e3 : Int) (fc3 : Int) (Q3 : Int → Px p) (d9 : Int → Int) (d11 : Int → Int) (hlp : GH), kk = e3.toNat → True → RD B h0 hlp p hf le fc3 pn rn e3 qn d9 g10 d11 g12 g13 g14 g15 k16 k17 gg gv gb → NR B [15, 16, 17, 18, 19, 21, 22, 23, 24, 25, 26, 30, 31, 32, 33, 34, 35, 36, 37] h hlp → (hn ≤ e3 ∧ e3 ≤ e) → (LI hp F0 fc3 Q3) → (TB hp d9 d11 fc3 Q3) → (∀ x : Px p, inL fc3 Q3 x ↔ (inL fc Q x ∨ ∃ i : Int, e3 ≤ i ∧ i < e ∧ H1 i = x)) → Go N mX10_byFixed (fun v h1 => v = none ∧ NR B [15, 16, 17, 18, 19, 21, 22, 23, 24, 25, 26, 30, 31, 32, 33, 34, 35, 36, 37] h h1 ∧ ∃ fc1 Q1 d9 d11 k16 k17 k18 k19 k20, RD B h0 h1 p hf le fc1 pn rn hn qn d9 g10 d11 g12 g13 g14 g15 k16 k17 k18 k19 k20 ∧ TB hp d9 d11 fc1 Q1 ∧ TB hp k16 k17 hn H ∧ LI hp F0 fc1 Q1 ∧ ∀ x : Px p, inL fc1 Q1 x ↔ (inL fc Q x ∨ isFc hp F x)) 0 0 hlp 321 [(5, .int (gI (turn))), (4, .int (gI (hn))), (3, .int (gI (m))), (2, .int (gI (n))), (0, .ref (B)), (1, .int (gI (11)))] [] := by
              refine Go.ind (fun kk ih_lp => ?_)
              intro e3 fc3 Q3 d9 d11 hlp hkk_lp fr_lp cr_lp_0 cr_lp_1 he3 hLI3 hT3 hL3
              refine g_aload_n 4 dX10_byFixed_321 rfl ?_
              refine g_getf 21 dX10_byFixed_322 kX10 (by decide) fX10_205 (RD.o cr_lp_0) rfl ?_
              refine g_iload 1 dX10_byFixed_325 rfl ?_
              refine g_icmp_le (tgt := 345) dX10_byFixed_327 rfl (by first | assumption | (unfold gW; omega) | (unfold gW; split <;> omega)) (by first | assumption | (unfold gW; omega) | (unfold gW; split <;> omega)) (fun c427 => ?_) (fun c427 => ?_)
              · skip
                exact g_vret dX10_byFixed_345 rfl ⟨rfl, cr_lp_1, fc3, Q3, d9, d11, k16, k17, _, _, _, (by
                                                                      have e9 : e3 = hn := by omega
                                                                      have e8 := cr_lp_0
                                                                      rw [e9] at e8; exact e8), hT3, TB.mo hT1 (by omega) (fun i i0 i1 => (hS1.2.2 i i0 i1).symm), hLI3, fun x => (hL3 x).trans ⟨fun z => by
                                                                      rcases z with z | ⟨i, i0, i1, y⟩
                                                                      · exact Or.inl z
                                                                      · exact Or.inr ((spS_fc hp hS1 hirr x).mpr ⟨i, by omega, i1, y⟩), fun z => by
                                                                      rcases z with z | z
                                                                      · exact Or.inl z
                                                                      · obtain ⟨i, i0, i1, y⟩ := (spS_fc hp hS1 hirr x).mp z
                                                                        exact Or.inr ⟨i, by omega, i1, y⟩⟩⟩
              · skip
                refine g_aload_n 4 dX10_byFixed_330 rfl ?_
                refine g_bipush dX10_byFixed_331 (by decide) ?_
                obtain ⟨y1, y2, y3, y4⟩ := hT1 (e3 - 1) (by omega) (by omega)
                refine g_callV (nc2 := 0) (ns2 := 0) (ci := 10) (As := [.int (gI (22))]) (st := []) rfl dX10_byFixed_333 okX10_pop lX10_214 itX10_pop seX10_pop rfl (RD.o cr_lp_0) (by decide) (by decide) rfl (Nat.le_of_ble_eq_true rfl) (sM_pop N _ B p hp hp2 h0 hf le fc3 pn rn e3 qn d9 g10 d11 g12 g13 g14 g15 k16 k17 gg gv gb 22 (by omega) ⟨by omega, by omega⟩ (H1 (e3 - 1)) y1 y2 y4 cr_lp_0) (by omega) (by omega) (fun v428 hc428 q428 => ?_)
                obtain ⟨rfl, nr429, rd429, mg429⟩ := q428
                have rk430_1 : NR B [15, 16, 17, 18, 19, 21, 22, 23, 24, 25, 26, 30, 31, 32, 33, 34, 35, 36, 37] h hc428 := NR.tr cr_lp_1 (NR.mo nr429 (sbI_c (List.Mem.tail _ (List.Mem.tail _ (List.Mem.tail _ (List.Mem.tail _ (List.Mem.tail _ (List.Mem.tail _ (List.Mem.head _))))))) sbI_n))
                refine Go.nf (h' := hc428) (st' := []) rfl rfl (Nat.le_refl _) (Nat.le_refl _) ?_
                have hgF : isFc hp F0 (H1 (e3 - 1)) := by
                                                                      obtain ⟨a, b, c⟩ := (spS_fc hp hS1 hirr (H1 (e3 - 1))).mpr ⟨e3 - 1, by omega, by omega, rfl⟩
                                                                      exact ⟨a, b, dv_tr c hdF⟩
                have hcn := cnt_le hp hF0 (by omega) hLI3.2.1 hLI3.2.2
                have hc0 := hLI3.1
                refine g_aload_n 4 dX10_byFixed_336 rfl ?_
                refine g_bipush dX10_byFixed_337 (by decide) ?_
                refine g_callV (nc2 := 0) (ns2 := 0) (ci := 10) (As := [.int (gI (22))]) (st := []) rfl dX10_byFixed_339 okX10_found lX10_223 itX10_found seX10_found rfl (RD.o rd429) (by decide) (by decide) rfl (Nat.le_of_ble_eq_true rfl) (sM_found N _ B p hp hp2 h0 hf le fc3 pn rn (e3 - 1) qn d9 g10 d11 g12 g13 g14 g15 k16 k17 gg gv gb 22 (by omega) ⟨by omega, by omega⟩ (H1 (e3 - 1)) Q3 (by omega) hT3 hLI3.2.1 rd429 mg429) (by omega) (by omega) (fun v431 hc431 q431 => ?_)
                obtain ⟨rfl, nr432, fcz, Qz, d9z, d11z, rd432, tbz, fnz⟩ := q431
                have rk433_1 : NR B [15, 16, 17, 18, 19, 21, 22, 23, 24, 25, 26, 30, 31, 32, 33, 34, 35, 36, 37] h hc431 := NR.tr rk430_1 (NR.mo nr432 sbI_n)
                have rk433_2 : MG hp B hc431 (22) (H1 (e3 - 1)) := nr432 p hp (22) _ hp2 Nr.n mg429
                refine Go.nf (h' := hc431) (st' := []) rfl rfl (Nat.le_refl _) (Nat.le_refl _) ?_
                refine g_goto (tgt := 321) dX10_byFixed_342 rfl ?_
                exact ih_lp _ (by omega) (e3 - 1) (fcz) (Qz) (d9z) (d11z) hc431 rfl fr_lp rd432 rk433_1 (by omega) (LI_f hp hLI3 hgF fnz) tbz (fun x => (fnz.2.2 x).trans ⟨fun z => by
                                                                      rcases z with z | z
                                                                      · rcases (hL3 x).mp z with y | ⟨i, i0, i1, y⟩
                                                                        · exact Or.inl y
                                                                        · exact Or.inr ⟨i, by omega, i1, y⟩
                                                                      · exact Or.inr ⟨e3 - 1, by omega, by omega, z.symm⟩, fun z => by
                                                                      rcases z with z | ⟨i, i0, i1, y⟩
                                                                      · exact Or.inl ((hL3 x).mpr (Or.inl z))
                                                                      · by_cases w : i = e3 - 1
                                                                        · rw [w] at y; exact Or.inr y.symm
                                                                        · exact Or.inl ((hL3 x).mpr (Or.inr ⟨i, by omega, i1, y⟩))⟩)
            exact lp _ (e) (fc) (Q) (g9) (g11) hlw rfl fr_lw cr_lw_0 cr_lw_1 (by omega) hLI hT (fun x => ⟨fun z => Or.inl z, fun z => by
                                                                      rcases z with z | ⟨i, i0, i1, _⟩
                                                                      · exact z
                                                                      · omega⟩)
          · skip
            refine g_iload 0 dX10_byFixed_195 rfl ?_
            refine g_aload_n 4 dX10_byFixed_197 rfl ?_
            refine g_getf 0 dX10_byFixed_198 kX10 (by decide) fX10_78 (RD.o cr_lw_0) rfl ?_
            refine g_iload_n 2 dX10_byFixed_201 rfl ?_
            refine g_imul dX10_byFixed_202 ?_
            refine g_icmp_ge (tgt := 321) dX10_byFixed_203 rfl (by first | assumption | (unfold gW; omega) | (unfold gW; split <;> omega)) (by first | assumption | (unfold gW; omega) | (unfold gW; split <;> omega)) (fun c534 => ?_) (fun c534 => ?_)
            · skip
              have hirr := bf_irr hp hdw hsq hS1 hRR hK hmF hm1 hVf hA (by omega) (by omega)
              have lp : ∀ (kk : Nat) (e3 : Int) (fc3 : Int) (Q3 : Int → Px p) (d9 : Int → Int) (d11 : Int → Int) (hlp : GH), kk = e3.toNat → True → RD B h0 hlp p hf le fc3 pn rn e3 qn d9 g10 d11 g12 g13 g14 g15 k16 k17 gg gv gb → NR B [15, 16, 17, 18, 19, 21, 22, 23, 24, 25, 26, 30, 31, 32, 33, 34, 35, 36, 37] h hlp → (hn ≤ e3 ∧ e3 ≤ e) → (LI hp F0 fc3 Q3) → (TB hp d9 d11 fc3 Q3) → (∀ x : Px p, inL fc3 Q3 x ↔ (inL fc Q x ∨ ∃ i : Int, e3 ≤ i ∧ i < e ∧ H1 i = x)) → Go N mX10_byFixed (fun v h1 => v = none ∧ NR B [15, 16, 17, 18, 19, 21, 22, 23, 24, 25, 26, 30, 31, 32, 33, 34, 35, 36, 37] h h1 ∧ ∃ fc1 Q1 d9 d11 k16 k17 k18 k19 k20, RD B h0 h1 p hf le fc1 pn rn hn qn d9 g10 d11 g12 g13 g14 g15 k16 k17 k18 k19 k20 ∧ TB hp d9 d11 fc1 Q1 ∧ TB hp k16 k17 hn H ∧ LI hp F0 fc1 Q1 ∧ ∀ x : Px p, inL fc1 Q1 x ↔ (inL fc Q x ∨ isFc hp F x)) 0 0 hlp 321 [(5, .int (gI (turn))), (4, .int (gI (hn))), (3, .int (gI (m))), (2, .int (gI (n))), (0, .ref (B)), (1, .int (gI (11)))] [] := by
                refine Go.ind (fun kk ih_lp => ?_)
                intro e3 fc3 Q3 d9 d11 hlp hkk_lp fr_lp cr_lp_0 cr_lp_1 he3 hLI3 hT3 hL3
                refine g_aload_n 4 dX10_byFixed_321 rfl ?_
                refine g_getf 21 dX10_byFixed_322 kX10 (by decide) fX10_205 (RD.o cr_lp_0) rfl ?_
                refine g_iload 1 dX10_byFixed_325 rfl ?_
                refine g_icmp_le (tgt := 345) dX10_byFixed_327 rfl (by first | assumption | (unfold gW; omega) | (unfold gW; split <;> omega)) (by first | assumption | (unfold gW; omega) | (unfold gW; split <;> omega)) (fun c635 => ?_) (fun c635 => ?_)
                · skip
                  exact g_vret dX10_byFixed_345 rfl ⟨rfl, cr_lp_1, fc3, Q3, d9, d11, k16, k17, _, _, _, (by
                                                                      have e9 : e3 = hn := by omega
                                                                      have e8 := cr_lp_0
                                                                      rw [e9] at e8; exact e8), hT3, TB.mo hT1 (by omega) (fun i i0 i1 => (hS1.2.2 i i0 i1).symm), hLI3, fun x => (hL3 x).trans ⟨fun z => by
                                                                      rcases z with z | ⟨i, i0, i1, y⟩
                                                                      · exact Or.inl z
                                                                      · exact Or.inr ((spS_fc hp hS1 hirr x).mpr ⟨i, by omega, i1, y⟩), fun z => by
                                                                      rcases z with z | z
                                                                      · exact Or.inl z
                                                                      · obtain ⟨i, i0, i1, y⟩ := (spS_fc hp hS1 hirr x).mp z
                                                                        exact Or.inr ⟨i, by omega, i1, y⟩⟩⟩
                · skip
                  refine g_aload_n 4 dX10_byFixed_330 rfl ?_
                  refine g_bipush dX10_byFixed_331 (by decide) ?_
                  obtain ⟨y1, y2, y3, y4⟩ := hT1 (e3 - 1) (by omega) (by omega)
                  refine g_callV (nc2 := 0) (ns2 := 0) (ci := 10) (As := [.int (gI (22))]) (st := []) rfl dX10_byFixed_333 okX10_pop lX10_214 itX10_pop seX10_pop rfl (RD.o cr_lp_0) (by decide) (by decide) rfl (Nat.le_of_ble_eq_true rfl) (sM_pop N _ B p hp hp2 h0 hf le fc3 pn rn e3 qn d9 g10 d11 g12 g13 g14 g15 k16 k17 gg gv gb 22 (by omega) ⟨by omega, by omega⟩ (H1 (e3 - 1)) y1 y2 y4 cr_lp_0) (by omega) (by omega) (fun v636 hc636 q636 => ?_)
                  obtain ⟨rfl, nr637, rd637, mg637⟩ := q636
                  have rk638_1 : NR B [15, 16, 17, 18, 19, 21, 22, 23, 24, 25, 26, 30, 31, 32, 33, 34, 35, 36, 37] h hc636 := NR.tr cr_lp_1 (NR.mo nr637 (sbI_c (List.Mem.tail _ (List.Mem.tail _ (List.Mem.tail _ (List.Mem.tail _ (List.Mem.tail _ (List.Mem.tail _ (List.Mem.head _))))))) sbI_n))
                  refine Go.nf (h' := hc636) (st' := []) rfl rfl (Nat.le_refl _) (Nat.le_refl _) ?_
                  have hgF : isFc hp F0 (H1 (e3 - 1)) := by
                                                                      obtain ⟨a, b, c⟩ := (spS_fc hp hS1 hirr (H1 (e3 - 1))).mpr ⟨e3 - 1, by omega, by omega, rfl⟩
                                                                      exact ⟨a, b, dv_tr c hdF⟩
                  have hcn := cnt_le hp hF0 (by omega) hLI3.2.1 hLI3.2.2
                  have hc0 := hLI3.1
                  refine g_aload_n 4 dX10_byFixed_336 rfl ?_
                  refine g_bipush dX10_byFixed_337 (by decide) ?_
                  refine g_callV (nc2 := 0) (ns2 := 0) (ci := 10) (As := [.int (gI (22))]) (st := []) rfl dX10_byFixed_339 okX10_found lX10_223 itX10_found seX10_found rfl (RD.o rd637) (by decide) (by decide) rfl (Nat.le_of_ble_eq_true rfl) (sM_found N _ B p hp hp2 h0 hf le fc3 pn rn (e3 - 1) qn d9 g10 d11 g12 g13 g14 g15 k16 k17 gg gv gb 22 (by omega) ⟨by omega, by omega⟩ (H1 (e3 - 1)) Q3 (by omega) hT3 hLI3.2.1 rd637 mg637) (by omega) (by omega) (fun v639 hc639 q639 => ?_)
                  obtain ⟨rfl, nr640, fcz, Qz, d9z, d11z, rd640, tbz, fnz⟩ := q639
                  have rk641_1 : NR B [15, 16, 17, 18, 19, 21, 22, 23, 24, 25, 26, 30, 31, 32, 33, 34, 35, 36, 37] h hc639 := NR.tr rk638_1 (NR.mo nr640 sbI_n)
                  have rk641_2 : MG hp B hc639 (22) (H1 (e3 - 1)) := nr640 p hp (22) _ hp2 Nr.n mg637
                  refine Go.nf (h' := hc639) (st' := []) rfl rfl (Nat.le_refl _) (Nat.le_refl _) ?_
                  refine g_goto (tgt := 321) dX10_byFixed_342 rfl ?_
                  exact ih_lp _ (by omega) (e3 - 1) (fcz) (Qz) (d9z) (d11z) hc639 rfl fr_lp rd640 rk641_1 (by omega) (LI_f hp hLI3 hgF fnz) tbz (fun x => (fnz.2.2 x).trans ⟨fun z => by
                                                                      rcases z with z | z
                                                                      · rcases (hL3 x).mp z with y | ⟨i, i0, i1, y⟩
                                                                        · exact Or.inl y
                                                                        · exact Or.inr ⟨i, by omega, i1, y⟩
                                                                      · exact Or.inr ⟨e3 - 1, by omega, by omega, z.symm⟩, fun z => by
                                                                      rcases z with z | ⟨i, i0, i1, y⟩
                                                                      · exact Or.inl ((hL3 x).mpr (Or.inl z))
                                                                      · by_cases w : i = e3 - 1
                                                                        · rw [w] at y; exact Or.inr y.symm
                                                                        · exact Or.inl ((hL3 x).mpr (Or.inr ⟨i, by omega, i1, y⟩))⟩)
              exact lp _ (e) (fc) (Q) (g9) (g11) hlw rfl fr_lw cr_lw_0 cr_lw_1 (by omega) hLI hT (fun x => ⟨fun z => Or.inl z, fun z => by
                                                                      rcases z with z | ⟨i, i0, i1, _⟩
                                                                      · exact z
                                                                      · omega⟩)
            · skip
              have hj0 := Int.emod_nonneg turn (show m ≠ 0 by omega)
              have hj1 := Int.emod_lt_of_pos turn (show 0 < m by omega)
              have hsn : 0 ≤ turn / m ∧ turn / m ≤ turn := ⟨Int.ediv_nonneg htu.1 (by omega), Int.ediv_le_self _ htu.1⟩
              have htm : turn.tmod m = turn % m := Int.tmod_eq_emod_of_nonneg htu.1
              refine g_aload_n 4 dX10_byFixed_206 rfl ?_
              refine g_bipush dX10_byFixed_207 (by decide) ?_
              refine g_iconst dX10_byFixed_209 ?_
              refine g_callV (nc2 := 0) (ns2 := 0) (ci := 10) (As := [.int (gI (21)), .int (gI (0))]) (st := []) rfl dX10_byFixed_210 okX10_be lX10_170 itX10_be seX10_be rfl (RD.o cr_lw_0) (by decide) (by decide) rfl (Nat.le_of_ble_eq_true rfl) (sM_be N _ B p hp hp2 _ _ _ _ _ _ _ (21) (0) (by omega) (by omega) (by omega) (RD.o cr_lw_0) (RD.ma cr_lw_0)) (by omega) (by omega) (fun v742 hc742 q742 => ?_)
              obtain ⟨rfl, mfc743, rn743_0⟩ := q742
              have rk744_0 : RD B h0 hc742 p hf le fc pn rn e qn g9 g10 g11 g12 g13 g14 g15 k16 k17 gg gv gb := RD.mf cr_lw_0 mfc743
              have rk744_1 : NR B [15, 16, 17, 18, 19, 21, 22, 23, 24, 25, 26, 30, 31, 32, 33, 34, 35, 36, 37] h hc742 := NR.tr cr_lw_1 ((MF.nr mfc743).mo (sbI_c (List.Mem.tail _ (List.Mem.tail _ (List.Mem.tail _ (List.Mem.tail _ (List.Mem.tail _ (List.Mem.head _)))))) sbI_n))
              refine Go.nf (h' := hc742) (st' := []) rfl rfl (Nat.le_refl _) (Nat.le_refl _) ?_
              have hzV := rn743_0
              obtain ⟨RV, dV, huV, hvV, hRV, hDV⟩ := (RD.ma rk744_0)
              have hat745 := (rn743_0).at huV hvV hRV hDV
              refine g_iconst dX10_byFixed_213 ?_
              refine g_istore (ls2 := [(6, .int (gI (0))), (5, .int (gI (turn))), (4, .int (gI (hn))), (3, .int (gI (m))), (2, .int (gI (n))), (0, .ref (B)), (1, .int (gI (11)))]) dX10_byFixed_214 (by decide) rfl ?_
              have lo : ∀ (kk : Nat) (c : Int) (hlo : GH), kk = (50 - c).toNat → Fr [B + 5] hc742 hlo → hlo.2 (B + 5) = some (aI 8000 (ar (gup RV 21 (gF (RV 21) (cf (V (turn % m))) c)))) → hlo.2 (B + 6) = some (aI 40 (dV)) → (0 ≤ c ∧ c ≤ n) → Go N mX10_byFixed (fun v h1 => v = none ∧ NR B [15, 16, 17, 18, 19, 21, 22, 23, 24, 25, 26, 30, 31, 32, 33, 34, 35, 36, 37] h h1 ∧ ∃ fc1 Q1 d9 d11 k16 k17 k18 k19 k20, RD B h0 h1 p hf le fc1 pn rn hn qn d9 g10 d11 g12 g13 g14 g15 k16 k17 k18 k19 k20 ∧ TB hp d9 d11 fc1 Q1 ∧ TB hp k16 k17 hn H ∧ LI hp F0 fc1 Q1 ∧ ∀ x : Px p, inL fc1 Q1 x ↔ (inL fc Q x ∨ isFc hp F x)) 0 0 hlo 216 [(6, .int (gI (c))), (5, .int (gI (turn))), (4, .int (gI (hn))), (3, .int (gI (m))), (2, .int (gI (n))), (0, .ref (B)), (1, .int (gI (11)))] [] := by
                refine Go.ind (fun kk ih_lo => ?_)
                intro c hlo hkk_lo fr_lo cf_lo_0 cf_lo_1 hc
                have cg_lo_0 : hlo.2 (B) = some (mO B ((p : Int)) (hf) (le) (fc) (pn) (rn) (e) (qn)) := Fr.at0 fr_lo (Ni.c ⟨neA, neB⟩ (Ni.n _)) (RD.o rk744_0)
                have cg_lo_1 : hlo.2 (B + 9) = some (aI 41 (g9)) := Fr.at0 fr_lo (Ni.c ⟨(show NE (B + 9) (B + 5) by unfold NE; omega), (show NE (B + 9) (B + 6) by unfold NE; omega)⟩ (Ni.n _)) (RD.t9 rk744_0)
                have cg_lo_2 : hlo.2 (B + 10) = some (aI 41 (g10)) := Fr.at0 fr_lo (Ni.c ⟨(show NE (B + 10) (B + 5) by unfold NE; omega), (show NE (B + 10) (B + 6) by unfold NE; omega)⟩ (Ni.n _)) (RD.t10 rk744_0)
                have cg_lo_3 : hlo.2 (B + 11) = some (aI 1681 (g11)) := Fr.at0 fr_lo (Ni.c ⟨(show NE (B + 11) (B + 5) by unfold NE; omega), (show NE (B + 11) (B + 6) by unfold NE; omega)⟩ (Ni.n _)) (RD.t11 rk744_0)
                have cg_lo_4 : hlo.2 (B + 12) = some (aI 41 (g12)) := Fr.at0 fr_lo (Ni.c ⟨(show NE (B + 12) (B + 5) by unfold NE; omega), (show NE (B + 12) (B + 6) by unfold NE; omega)⟩ (Ni.n _)) (RD.t12 rk744_0)
                have cg_lo_5 : hlo.2 (B + 13) = some (aI 41 (g13)) := Fr.at0 fr_lo (Ni.c ⟨(show NE (B + 13) (B + 5) by unfold NE; omega), (show NE (B + 13) (B + 6) by unfold NE; omega)⟩ (Ni.n _)) (RD.t13 rk744_0)
                have cg_lo_6 : hlo.2 (B + 14) = some (aI 1681 (g14)) := Fr.at0 fr_lo (Ni.c ⟨(show NE (B + 14) (B + 5) by unfold NE; omega), (show NE (B + 14) (B + 6) by unfold NE; omega)⟩ (Ni.n _)) (RD.t14 rk744_0)
                have cg_lo_7 : hlo.2 (B + 15) = some (aI 41 (g15)) := Fr.at0 fr_lo (Ni.c ⟨(show NE (B + 15) (B + 5) by unfold NE; omega), (show NE (B + 15) (B + 6) by unfold NE; omega)⟩ (Ni.n _)) (RD.t15 rk744_0)
                have cg_lo_8 : hlo.2 (B + 16) = some (aI 100 (k16)) := Fr.at0 fr_lo (Ni.c ⟨(show NE (B + 16) (B + 5) by unfold NE; omega), (show NE (B + 16) (B + 6) by unfold NE; omega)⟩ (Ni.n _)) (RD.t16 rk744_0)
                have cg_lo_9 : hlo.2 (B + 17) = some (aI 4100 (k17)) := Fr.at0 fr_lo (Ni.c ⟨(show NE (B + 17) (B + 5) by unfold NE; omega), (show NE (B + 17) (B + 6) by unfold NE; omega)⟩ (Ni.n _)) (RD.t17 rk744_0)
                have cg_lo_10 : hlo.2 (B + 18) = some (aI 1681 (gg)) := Fr.at0 fr_lo (Ni.c ⟨(show NE (B + 18) (B + 5) by unfold NE; omega), (show NE (B + 18) (B + 6) by unfold NE; omega)⟩ (Ni.n _)) (RD.t18 rk744_0)
                have cg_lo_11 : hlo.2 (B + 19) = some (aI 41 (gv)) := Fr.at0 fr_lo (Ni.c ⟨(show NE (B + 19) (B + 5) by unfold NE; omega), (show NE (B + 19) (B + 6) by unfold NE; omega)⟩ (Ni.n _)) (RD.t19 rk744_0)
                have cg_lo_12 : hlo.2 (B + 20) = some (aI 1681 (gb)) := Fr.at0 fr_lo (Ni.c ⟨(show NE (B + 20) (B + 5) by unfold NE; omega), (show NE (B + 20) (B + 6) by unfold NE; omega)⟩ (Ni.n _)) (RD.t20 rk744_0)
                refine g_iload 0 dX10_byFixed_216 rfl ?_
                refine g_iload_n 4 dX10_byFixed_218 rfl ?_
                refine g_icmp_ge (tgt := 254) dX10_byFixed_219 rfl (by first | assumption | (unfold gW; omega) | (unfold gW; split <;> omega)) (by first | assumption | (unfold gW; omega) | (unfold gW; split <;> omega)) (fun c896 => ?_) (fun c896 => ?_)
                · skip
                  have f5c : hlo.2 (B + 5) = some (aI 8000 (ar (gup RV 21 (gF (RV 21) (cf (V (turn % m))) n)))) := by
                                                                      have e9 : c = n := by omega
                                                                      have e8 := cf_lo_0
                                                                      rw [e9] at e8; exact e8
                  have hcv := cf_in (V (turn % m)) hp 0
                  refine g_aload_n 5 dX10_byFixed_254 rfl ?_
                  refine g_getf 5 dX10_byFixed_255 kX10 (by decide) fX10_23 cg_lo_0 rfl ?_
                  refine g_sipush dX10_byFixed_258 (by decide) ?_
                  refine g_aload_n 5 dX10_byFixed_261 rfl ?_
                  refine g_getf 5 dX10_byFixed_262 kX10 (by decide) fX10_23 cg_lo_0 rfl ?_
                  refine g_sipush dX10_byFixed_265 (by decide) ?_
                  refine g_iaload dX10_byFixed_268 f5c (by omega) (by omega) (by omega) ?_
                  have hq0 : (ar (gup RV 21 (gF (RV 21) (cf (V (turn % m))) n))) (4200) = cf (V (turn % m)) 0 := by
                                                                      show ar (gup RV 21 (gF (RV 21) (cf (V (turn % m))) n)) (200 * 21) = _
                                                                      rw [ar_r0, gup_s]
                                                                      unfold gF
                                                                      rw [if_pos (by omega)]
                  rw [hq0]
                  refine g_iload 1 dX10_byFixed_269 rfl ?_
                  refine g_iload_n 3 dX10_byFixed_271 rfl ?_
                  refine g_idiv dX10_byFixed_272 (by omega) (by omega) (by omega) (by omega) ?_
                  refine g_iadd dX10_byFixed_273 ?_
                  refine g_aload_n 5 dX10_byFixed_274 rfl ?_
                  refine g_getf 0 dX10_byFixed_275 kX10 (by decide) fX10_78 cg_lo_0 rfl ?_
                  refine g_irem dX10_byFixed_278 (by unfold gW; omega) (by unfold gW; omega) (by omega) ?_
                  have hq1 : ((cf (V (turn % m)) 0) + ((turn) / (m))).tmod ((p : Int)) = (cf (V (turn % m)) 0 + turn / m) % p := Int.tmod_eq_emod_of_nonneg (by omega)
                  rw [hq1]
                  refine g_iastore dX10_byFixed_279 f5c (by omega) (by omega) (by omega) ?_
                  obtain ⟨hh897, eh897⟩ : ∃ z : GH, z = hset hlo (B + 5) (aI 8000 (gup (ar (gup RV 21 (gF (RV 21) (cf (V (turn % m))) n))) (4200) ((cf (V (turn % m)) 0 + turn / m) % p))) := ⟨_, rfl⟩
                  refine Go.hp eh897.symm ?_
                  have fh897_0 : hh897.2 (B) = some (mO B ((p : Int)) (hf) (le) (fc) (pn) (rn) (e) (qn)) := hs_n eh897 neA cg_lo_0
                  have fh897_1 : hh897.2 (B + 9) = some (aI 41 (g9)) := hs_n eh897 (show NE (B + 9) (B + 5) by unfold NE; omega) cg_lo_1
                  have fh897_2 : hh897.2 (B + 10) = some (aI 41 (g10)) := hs_n eh897 (show NE (B + 10) (B + 5) by unfold NE; omega) cg_lo_2
                  have fh897_3 : hh897.2 (B + 11) = some (aI 1681 (g11)) := hs_n eh897 (show NE (B + 11) (B + 5) by unfold NE; omega) cg_lo_3
                  have fh897_4 : hh897.2 (B + 12) = some (aI 41 (g12)) := hs_n eh897 (show NE (B + 12) (B + 5) by unfold NE; omega) cg_lo_4
                  have fh897_5 : hh897.2 (B + 13) = some (aI 41 (g13)) := hs_n eh897 (show NE (B + 13) (B + 5) by unfold NE; omega) cg_lo_5
                  have fh897_6 : hh897.2 (B + 14) = some (aI 1681 (g14)) := hs_n eh897 (show NE (B + 14) (B + 5) by unfold NE; omega) cg_lo_6
                  have fh897_7 : hh897.2 (B + 15) = some (aI 41 (g15)) := hs_n eh897 (show NE (B + 15) (B + 5) by unfold NE; omega) cg_lo_7
                  have fh897_8 : hh897.2 (B + 16) = some (aI 100 (k16)) := hs_n eh897 (show NE (B + 16) (B + 5) by unfold NE; omega) cg_lo_8
                  have fh897_9 : hh897.2 (B + 17) = some (aI 4100 (k17)) := hs_n eh897 (show NE (B + 17) (B + 5) by unfold NE; omega) cg_lo_9
                  have fh897_10 : hh897.2 (B + 18) = some (aI 1681 (gg)) := hs_n eh897 (show NE (B + 18) (B + 5) by unfold NE; omega) cg_lo_10
                  have fh897_11 : hh897.2 (B + 19) = some (aI 41 (gv)) := hs_n eh897 (show NE (B + 19) (B + 5) by unfold NE; omega) cg_lo_11
                  have fh897_12 : hh897.2 (B + 20) = some (aI 1681 (gb)) := hs_n eh897 (show NE (B + 20) (B + 5) by unfold NE; omega) cg_lo_12
                  have fh897_13 : hh897.2 (B + 5) = some (aI 8000 (gup (ar (gup RV 21 (gF (RV 21) (cf (V (turn % m))) n))) (4200) ((cf (V (turn % m)) 0 + turn / m) % p))) := hs_s eh897
                  have fh897_14 : hh897.2 (B + 6) = some (aI 40 (dV)) := hs_n eh897 (neC).s cf_lo_1
                  have fr897 : Fr [B + 5] hc742 hh897 := Fr.w0 fr_lo (List.Mem.head _) eh897
                  have f5d : hh897.2 (B + 5) = some (aI 8000 (ar (gup RV 21 (gup (gF (RV 21) (cf (V (turn % m))) n) 0 ((cf (V (turn % m)) 0 + turn / m) % p))))) := by
                                                                      have e8 := fh897_13
                                                                      rw [← ar_wg0 RV]; exact e8
                  refine g_aload_n 5 dX10_byFixed_280 rfl ?_
                  refine g_bipush dX10_byFixed_281 (by decide) ?_
                  refine g_callV (nc2 := 0) (ns2 := 0) (ci := 10) (As := [.int (gI (21))]) (st := []) rfl dX10_byFixed_283 okX10_measure lX10_164 itX10_measure seX10_measure rfl fh897_0 (by decide) (by decide) rfl (Nat.le_of_ble_eq_true rfl) (sM_measure N _ B p hp hp2 _ _ _ _ _ _ _ (21) (by omega) fh897_0 ((gup RV 21 (gup (gF (RV 21) (cf (V (turn % m))) n) 0 ((cf (V (turn % m)) 0 + turn / m) % p)))) (dV) ((letI := pR hp; V (turn % m) + cz hp (zi hp (turn / m)))) f5d fh897_14 (fun j j0 j1 => by
                                                                      rw [gup_s]; unfold gup gF
                                                                      split
                                                                      · exact emod_in hp _
                                                                      · split
                                                                        · exact cf_in _ hp _
                                                                        · rw [(hzV.at huV hvV hRV hDV).2 j j0 j1]; exact cf_in _ hp _) (by
                                                                      rw [gup_s]
                                                                      exact vs_ph hp (n := n) ⟨by omega, by omega⟩ (hVl _) (fun k k0 k1 => by rw [(hzV.at huV hvV hRV hDV).2 k (by omega) k1]; exact cf_hi hp (cz_po hp _) (by
                                                                          have : dgi hp (cz hp (zi hp 0)) = -1 := by rw [cz_z0]; exact dgi_0 hp
                                                                          omega)) rfl)) (by omega) (by omega) (fun v898 hc898 q898 => ?_)
                  obtain ⟨rfl, mfc899, rn899⟩ := q898
                  have mfd899 : MF B [] [21] hc742 hc898 := (MF.one (r := 21) fr897 huV hvV hRV hDV f5d fh897_14 (fun s hs => gup_n _ _ hs) (fun _ _ => rfl)).tr mfc899
                  have fk900_0 : hc898.2 (B) = some (mO B ((p : Int)) (hf) (le) (fc) (pn) (rn) (e) (qn)) := Fr.at0 mfc899.1 (Ni.c ⟨neA, neB⟩ (Ni.n _)) fh897_0
                  have fk900_1 : hc898.2 (B + 9) = some (aI 41 (g9)) := Fr.at0 mfc899.1 (Ni.c ⟨(show NE (B + 9) (B + 5) by unfold NE; omega), (show NE (B + 9) (B + 6) by unfold NE; omega)⟩ (Ni.n _)) fh897_1
                  have fk900_2 : hc898.2 (B + 10) = some (aI 41 (g10)) := Fr.at0 mfc899.1 (Ni.c ⟨(show NE (B + 10) (B + 5) by unfold NE; omega), (show NE (B + 10) (B + 6) by unfold NE; omega)⟩ (Ni.n _)) fh897_2
                  have fk900_3 : hc898.2 (B + 11) = some (aI 1681 (g11)) := Fr.at0 mfc899.1 (Ni.c ⟨(show NE (B + 11) (B + 5) by unfold NE; omega), (show NE (B + 11) (B + 6) by unfold NE; omega)⟩ (Ni.n _)) fh897_3
                  have fk900_4 : hc898.2 (B + 12) = some (aI 41 (g12)) := Fr.at0 mfc899.1 (Ni.c ⟨(show NE (B + 12) (B + 5) by unfold NE; omega), (show NE (B + 12) (B + 6) by unfold NE; omega)⟩ (Ni.n _)) fh897_4
                  have fk900_5 : hc898.2 (B + 13) = some (aI 41 (g13)) := Fr.at0 mfc899.1 (Ni.c ⟨(show NE (B + 13) (B + 5) by unfold NE; omega), (show NE (B + 13) (B + 6) by unfold NE; omega)⟩ (Ni.n _)) fh897_5
                  have fk900_6 : hc898.2 (B + 14) = some (aI 1681 (g14)) := Fr.at0 mfc899.1 (Ni.c ⟨(show NE (B + 14) (B + 5) by unfold NE; omega), (show NE (B + 14) (B + 6) by unfold NE; omega)⟩ (Ni.n _)) fh897_6
                  have fk900_7 : hc898.2 (B + 15) = some (aI 41 (g15)) := Fr.at0 mfc899.1 (Ni.c ⟨(show NE (B + 15) (B + 5) by unfold NE; omega), (show NE (B + 15) (B + 6) by unfold NE; omega)⟩ (Ni.n _)) fh897_7
                  have fk900_8 : hc898.2 (B + 16) = some (aI 100 (k16)) := Fr.at0 mfc899.1 (Ni.c ⟨(show NE (B + 16) (B + 5) by unfold NE; omega), (show NE (B + 16) (B + 6) by unfold NE; omega)⟩ (Ni.n _)) fh897_8
                  have fk900_9 : hc898.2 (B + 17) = some (aI 4100 (k17)) := Fr.at0 mfc899.1 (Ni.c ⟨(show NE (B + 17) (B + 5) by unfold NE; omega), (show NE (B + 17) (B + 6) by unfold NE; omega)⟩ (Ni.n _)) fh897_9
                  have fk900_10 : hc898.2 (B + 18) = some (aI 1681 (gg)) := Fr.at0 mfc899.1 (Ni.c ⟨(show NE (B + 18) (B + 5) by unfold NE; omega), (show NE (B + 18) (B + 6) by unfold NE; omega)⟩ (Ni.n _)) fh897_10
                  have fk900_11 : hc898.2 (B + 19) = some (aI 41 (gv)) := Fr.at0 mfc899.1 (Ni.c ⟨(show NE (B + 19) (B + 5) by unfold NE; omega), (show NE (B + 19) (B + 6) by unfold NE; omega)⟩ (Ni.n _)) fh897_11
                  have fk900_12 : hc898.2 (B + 20) = some (aI 1681 (gb)) := Fr.at0 mfc899.1 (Ni.c ⟨(show NE (B + 20) (B + 5) by unfold NE; omega), (show NE (B + 20) (B + 6) by unfold NE; omega)⟩ (Ni.n _)) fh897_12
                  have fr900 : Fr [B + 5] hc742 hc898 := (fr897).tr ((mfc899.1).mo (sub_c (List.Mem.head _) sub_n))
                  refine Go.nf (h' := hc898) (st' := []) rfl rfl (Nat.le_refl _) (Nat.le_refl _) ?_
                  have rk951_0 : RD B h0 hc898 p hf le fc pn rn e qn g9 g10 g11 g12 g13 g14 g15 k16 k17 gg gv gb := RD.mf rk744_0 mfd899
                  have rk951_1 : NR B [15, 16, 17, 18, 19, 21, 22, 23, 24, 25, 26, 30, 31, 32, 33, 34, 35, 36, 37] h hc898 := NR.tr rk744_1 ((MF.nr mfd899).mo (sbI_c (List.Mem.tail _ (List.Mem.tail _ (List.Mem.tail _ (List.Mem.tail _ (List.Mem.tail _ (List.Mem.head _)))))) sbI_n))
                  refine g_iinc 1 (ls2 := [(5, .int (gI (turn + 1))), (6, .int (gI (c))), (4, .int (gI (hn))), (3, .int (gI (m))), (2, .int (gI (n))), (0, .ref (B)), (1, .int (gI (11)))]) dX10_byFixed_286 rfl (by decide) rfl ?_
                  refine g_aload_n 5 dX10_byFixed_289 rfl ?_
                  refine g_getf 21 dX10_byFixed_290 kX10 (by decide) fX10_205 (RD.o rk951_0) rfl ?_
                  refine g_istore (ls2 := [(6, .int (gI (e))), (5, .int (gI (turn + 1))), (4, .int (gI (hn))), (3, .int (gI (m))), (2, .int (gI (n))), (0, .ref (B)), (1, .int (gI (11)))]) dX10_byFixed_293 (by decide) rfl ?_
                  refine g_iload 2 dX10_byFixed_295 rfl ?_
                  refine g_istore (ls2 := [(7, .int (gI (hn))), (6, .int (gI (e))), (5, .int (gI (turn + 1))), (4, .int (gI (hn))), (3, .int (gI (m))), (2, .int (gI (n))), (0, .ref (B)), (1, .int (gI (11)))]) dX10_byFixed_297 (by decide) rfl ?_
                  have lh : ∀ (kk : Nat) (k7 : Int) (e2 : Int) (H2 : Int → Px p) (k16b : Int → Int) (k17b : Int → Int) (hlh : GH), kk = (500 - k7).toNat → True → RD B h0 hlh p hf le fc pn rn e2 qn g9 g10 g11 g12 g13 g14 g15 k16b k17b gg gv gb → NR B [15, 16, 17, 18, 19, 21, 22, 23, 24, 25, 26, 30, 31, 32, 33, 34, 35, 36, 37] h hlh → MG hp B hlh (21) ((letI := pR hp; V (turn % m) + cz hp (zi hp (turn / m)))) → (hn ≤ k7 ∧ k7 ≤ e) → (e ≤ e2 ∧ e2 ≤ hn + m) → (TB hp k16b k17b e2 H2) → (spS hp F hn e2 H2 H) → (alS hp V m turn hn e2 H2) → (alP hp (V (turn % m)) (zi hp (turn / m)) hn k7 e e2 H2) → Go N mX10_byFixed (fun v h1 => v = none ∧ NR B [15, 16, 17, 18, 19, 21, 22, 23, 24, 25, 26, 30, 31, 32, 33, 34, 35, 36, 37] h h1 ∧ ∃ fc1 Q1 d9 d11 k16 k17 k18 k19 k20, RD B h0 h1 p hf le fc1 pn rn hn qn d9 g10 d11 g12 g13 g14 g15 k16 k17 k18 k19 k20 ∧ TB hp d9 d11 fc1 Q1 ∧ TB hp k16 k17 hn H ∧ LI hp F0 fc1 Q1 ∧ ∀ x : Px p, inL fc1 Q1 x ↔ (inL fc Q x ∨ isFc hp F x)) 0 0 hlh 299 [(7, .int (gI (k7))), (6, .int (gI (e))), (5, .int (gI (turn + 1))), (4, .int (gI (hn))), (3, .int (gI (m))), (2, .int (gI (n))), (0, .ref (B)), (1, .int (gI (11)))] [] := by
                    refine Go.ind (fun kk ih_lh => ?_)
                    intro k7 e2 H2 k16b k17b hlh hkk_lh fr_lh cr_lh_0 cr_lh_1 cr_lh_2 hk7 he2 hT2 hS2 hA2 hP2
                    refine g_iload 0 dX10_byFixed_299 rfl ?_
                    refine g_iload 1 dX10_byFixed_301 rfl ?_
                    refine g_icmp_ge (tgt := 318) dX10_byFixed_303 rfl (by first | assumption | (unfold gW; omega) | (unfold gW; split <;> omega)) (by first | assumption | (unfold gW; omega) | (unfold gW; split <;> omega)) (fun c1052 => ?_) (fun c1052 => ?_)
                    · skip
                      refine g_goto (tgt := 184) dX10_byFixed_318 rfl ?_
                      refine Go.sub [2, 3, 4, 5, 6, 7] rfl ?_
                      exact ih_lw _ (by omega) (turn + 1) (e2) (H2) (k16b) (k17b) hlh rfl fr_lh cr_lh_0 cr_lh_1 (by omega) (by omega) hT2 hS2 (alS_s hp hA2 hP2 (by omega))
                    · skip
                      refine g_aload_n 6 dX10_byFixed_306 rfl ?_
                      refine g_iload 0 dX10_byFixed_307 rfl ?_
                      obtain ⟨x1, x2, x3⟩ := spS_po hp hS2 hk7.1 (show k7 < e2 by omega)
                      refine g_callV (nc2 := 0) (ns2 := 0) (ci := 10) (As := [.int (gI (k7))]) (st := []) rfl dX10_byFixed_309 okX10_split lX10_232 itX10_split seX10_split rfl (RD.o cr_lh_0) (by decide) (by decide) rfl (Nat.le_of_ble_eq_true rfl) (sM_split N _ B p hp hp2 h0 hf le fc pn rn e2 qn g9 g10 g11 g12 g13 g14 g15 k16b k17b gg gv gb k7 (by omega) (by omega) H2 F (V (turn % m)) (letI := pR hp; V (turn % m) + cz hp (zi hp (turn / m))) (zi hp (turn / m)) rfl hT2 x2 (hS2.2.1 k7 (by omega) (by omega)) (sqf_dv hp hsq x3) (hVk _ hj0 hj1) x3 cr_lh_0 cr_lh_2) (by omega) (by omega) (fun v1053 hc1053 q1053 => ?_)
                      obtain ⟨rfl, nr1054, hcs1054⟩ := q1053
                      rcases hcs1054 with ⟨hal, rd1054⟩ | ⟨d, kk, hpt, rd1054⟩
                      · skip
                        have rk1055_1 : NR B [15, 16, 17, 18, 19, 21, 22, 23, 24, 25, 26, 30, 31, 32, 33, 34, 35, 36, 37] h hc1053 := NR.tr cr_lh_1 (NR.mo nr1054 (sbI_c (List.Mem.head _) (sbI_c (List.Mem.tail _ (List.Mem.tail _ (List.Mem.tail _ (List.Mem.tail _ (List.Mem.tail _ (List.Mem.tail _ (List.Mem.head _))))))) (sbI_c (List.Mem.tail _ (List.Mem.tail _ (List.Mem.tail _ (List.Mem.tail _ (List.Mem.tail _ (List.Mem.tail _ (List.Mem.tail _ (List.Mem.head _)))))))) (sbI_c (List.Mem.tail _ (List.Mem.tail _ (List.Mem.tail _ (List.Mem.tail _ (List.Mem.tail _ (List.Mem.tail _ (List.Mem.tail _ (List.Mem.tail _ (List.Mem.head _))))))))) (sbI_c (List.Mem.tail _ (List.Mem.tail _ (List.Mem.tail _ (List.Mem.tail _ (List.Mem.tail _ (List.Mem.tail _ (List.Mem.tail _ (List.Mem.tail _ (List.Mem.tail _ (List.Mem.head _)))))))))) (sbI_c (List.Mem.tail _ (List.Mem.tail _ (List.Mem.tail _ (List.Mem.tail _ (List.Mem.tail _ (List.Mem.tail _ (List.Mem.tail _ (List.Mem.tail _ (List.Mem.tail _ (List.Mem.tail _ (List.Mem.head _))))))))))) (sbI_c (List.Mem.tail _ (List.Mem.tail _ (List.Mem.tail _ (List.Mem.tail _ (List.Mem.tail _ (List.Mem.tail _ (List.Mem.tail _ (List.Mem.tail _ (List.Mem.tail _ (List.Mem.tail _ (List.Mem.tail _ (List.Mem.head _)))))))))))) (sbI_c (List.Mem.tail _ (List.Mem.tail _ (List.Mem.tail _ (List.Mem.tail _ (List.Mem.tail _ (List.Mem.tail _ (List.Mem.tail _ (List.Mem.tail _ (List.Mem.tail _ (List.Mem.tail _ (List.Mem.tail _ (List.Mem.tail _ (List.Mem.head _))))))))))))) (sbI_c (List.Mem.tail _ (List.Mem.tail _ (List.Mem.tail _ (List.Mem.tail _ (List.Mem.tail _ (List.Mem.tail _ (List.Mem.tail _ (List.Mem.tail _ (List.Mem.tail _ (List.Mem.tail _ (List.Mem.tail _ (List.Mem.tail _ (List.Mem.tail _ (List.Mem.head _)))))))))))))) (sbI_c (List.Mem.tail _ (List.Mem.tail _ (List.Mem.tail _ (List.Mem.tail _ (List.Mem.tail _ (List.Mem.tail _ (List.Mem.tail _ (List.Mem.tail _ (List.Mem.tail _ (List.Mem.tail _ (List.Mem.tail _ (List.Mem.tail _ (List.Mem.tail _ (List.Mem.tail _ (List.Mem.head _))))))))))))))) (sbI_c (List.Mem.tail _ (List.Mem.tail _ (List.Mem.tail _ (List.Mem.tail _ (List.Mem.tail _ (List.Mem.tail _ (List.Mem.tail _ (List.Mem.tail _ (List.Mem.tail _ (List.Mem.tail _ (List.Mem.tail _ (List.Mem.tail _ (List.Mem.tail _ (List.Mem.tail _ (List.Mem.tail _ (List.Mem.head _)))))))))))))))) (sbI_c (List.Mem.tail _ (List.Mem.tail _ (List.Mem.tail _ (List.Mem.tail _ (List.Mem.tail _ (List.Mem.tail _ (List.Mem.tail _ (List.Mem.tail _ (List.Mem.tail _ (List.Mem.tail _ (List.Mem.tail _ (List.Mem.tail _ (List.Mem.tail _ (List.Mem.tail _ (List.Mem.tail _ (List.Mem.tail _ (List.Mem.head _))))))))))))))))) (sbI_c (List.Mem.tail _ (List.Mem.tail _ (List.Mem.tail _ (List.Mem.tail _ (List.Mem.tail _ (List.Mem.tail _ (List.Mem.tail _ (List.Mem.tail _ (List.Mem.tail _ (List.Mem.tail _ (List.Mem.tail _ (List.Mem.tail _ (List.Mem.tail _ (List.Mem.tail _ (List.Mem.tail _ (List.Mem.tail _ (List.Mem.tail _ (List.Mem.head _)))))))))))))))))) (sbI_c (List.Mem.tail _ (List.Mem.tail _ (List.Mem.tail _ (List.Mem.tail _ (List.Mem.tail _ (List.Mem.tail _ (List.Mem.tail _ (List.Mem.tail _ (List.Mem.tail _ (List.Mem.tail _ (List.Mem.tail _ (List.Mem.tail _ (List.Mem.tail _ (List.Mem.tail _ (List.Mem.tail _ (List.Mem.tail _ (List.Mem.tail _ (List.Mem.tail _ (List.Mem.head _))))))))))))))))))) sbI_n)))))))))))))))
                        have rk1055_2 : MG hp B hc1053 (21) ((letI := pR hp; V (turn % m) + cz hp (zi hp (turn / m)))) := nr1054 p hp (21) _ hp2 (Nr.c (by omega) (Nr.c (by omega) (Nr.c (by omega) (Nr.c (by omega) (Nr.c (by omega) (Nr.c (by omega) (Nr.c (by omega) (Nr.c (by omega) (Nr.c (by omega) (Nr.c (by omega) (Nr.c (by omega) (Nr.c (by omega) (Nr.c (by omega) (Nr.c (by omega) Nr.n)))))))))))))) cr_lh_2
                        refine Go.nf (h' := hc1053) (st' := []) rfl rfl (Nat.le_refl _) (Nat.le_refl _) ?_
                        refine g_iinc 0 (ls2 := [(7, .int (gI (k7 + 1))), (6, .int (gI (e))), (5, .int (gI (turn + 1))), (4, .int (gI (hn))), (3, .int (gI (m))), (2, .int (gI (n))), (0, .ref (B)), (1, .int (gI (11)))]) dX10_byFixed_312 rfl (by decide) rfl ?_
                        refine g_goto (tgt := 299) dX10_byFixed_315 rfl ?_
                        exact ih_lh _ (by omega) (k7 + 1) (e2) (H2) (k16b) (k17b) hc1053 rfl fr_lh rd1054 rk1055_1 rk1055_2 (by omega) (by omega) hT2 hS2 hA2 (alP_no hp hP2 hal)
                      · skip
                        have rk1056_1 : NR B [15, 16, 17, 18, 19, 21, 22, 23, 24, 25, 26, 30, 31, 32, 33, 34, 35, 36, 37] h hc1053 := NR.tr cr_lh_1 (NR.mo nr1054 (sbI_c (List.Mem.head _) (sbI_c (List.Mem.tail _ (List.Mem.tail _ (List.Mem.tail _ (List.Mem.tail _ (List.Mem.tail _ (List.Mem.tail _ (List.Mem.head _))))))) (sbI_c (List.Mem.tail _ (List.Mem.tail _ (List.Mem.tail _ (List.Mem.tail _ (List.Mem.tail _ (List.Mem.tail _ (List.Mem.tail _ (List.Mem.head _)))))))) (sbI_c (List.Mem.tail _ (List.Mem.tail _ (List.Mem.tail _ (List.Mem.tail _ (List.Mem.tail _ (List.Mem.tail _ (List.Mem.tail _ (List.Mem.tail _ (List.Mem.head _))))))))) (sbI_c (List.Mem.tail _ (List.Mem.tail _ (List.Mem.tail _ (List.Mem.tail _ (List.Mem.tail _ (List.Mem.tail _ (List.Mem.tail _ (List.Mem.tail _ (List.Mem.tail _ (List.Mem.head _)))))))))) (sbI_c (List.Mem.tail _ (List.Mem.tail _ (List.Mem.tail _ (List.Mem.tail _ (List.Mem.tail _ (List.Mem.tail _ (List.Mem.tail _ (List.Mem.tail _ (List.Mem.tail _ (List.Mem.tail _ (List.Mem.head _))))))))))) (sbI_c (List.Mem.tail _ (List.Mem.tail _ (List.Mem.tail _ (List.Mem.tail _ (List.Mem.tail _ (List.Mem.tail _ (List.Mem.tail _ (List.Mem.tail _ (List.Mem.tail _ (List.Mem.tail _ (List.Mem.tail _ (List.Mem.head _)))))))))))) (sbI_c (List.Mem.tail _ (List.Mem.tail _ (List.Mem.tail _ (List.Mem.tail _ (List.Mem.tail _ (List.Mem.tail _ (List.Mem.tail _ (List.Mem.tail _ (List.Mem.tail _ (List.Mem.tail _ (List.Mem.tail _ (List.Mem.tail _ (List.Mem.head _))))))))))))) (sbI_c (List.Mem.tail _ (List.Mem.tail _ (List.Mem.tail _ (List.Mem.tail _ (List.Mem.tail _ (List.Mem.tail _ (List.Mem.tail _ (List.Mem.tail _ (List.Mem.tail _ (List.Mem.tail _ (List.Mem.tail _ (List.Mem.tail _ (List.Mem.tail _ (List.Mem.head _)))))))))))))) (sbI_c (List.Mem.tail _ (List.Mem.tail _ (List.Mem.tail _ (List.Mem.tail _ (List.Mem.tail _ (List.Mem.tail _ (List.Mem.tail _ (List.Mem.tail _ (List.Mem.tail _ (List.Mem.tail _ (List.Mem.tail _ (List.Mem.tail _ (List.Mem.tail _ (List.Mem.tail _ (List.Mem.head _))))))))))))))) (sbI_c (List.Mem.tail _ (List.Mem.tail _ (List.Mem.tail _ (List.Mem.tail _ (List.Mem.tail _ (List.Mem.tail _ (List.Mem.tail _ (List.Mem.tail _ (List.Mem.tail _ (List.Mem.tail _ (List.Mem.tail _ (List.Mem.tail _ (List.Mem.tail _ (List.Mem.tail _ (List.Mem.tail _ (List.Mem.head _)))))))))))))))) (sbI_c (List.Mem.tail _ (List.Mem.tail _ (List.Mem.tail _ (List.Mem.tail _ (List.Mem.tail _ (List.Mem.tail _ (List.Mem.tail _ (List.Mem.tail _ (List.Mem.tail _ (List.Mem.tail _ (List.Mem.tail _ (List.Mem.tail _ (List.Mem.tail _ (List.Mem.tail _ (List.Mem.tail _ (List.Mem.tail _ (List.Mem.head _))))))))))))))))) (sbI_c (List.Mem.tail _ (List.Mem.tail _ (List.Mem.tail _ (List.Mem.tail _ (List.Mem.tail _ (List.Mem.tail _ (List.Mem.tail _ (List.Mem.tail _ (List.Mem.tail _ (List.Mem.tail _ (List.Mem.tail _ (List.Mem.tail _ (List.Mem.tail _ (List.Mem.tail _ (List.Mem.tail _ (List.Mem.tail _ (List.Mem.tail _ (List.Mem.head _)))))))))))))))))) (sbI_c (List.Mem.tail _ (List.Mem.tail _ (List.Mem.tail _ (List.Mem.tail _ (List.Mem.tail _ (List.Mem.tail _ (List.Mem.tail _ (List.Mem.tail _ (List.Mem.tail _ (List.Mem.tail _ (List.Mem.tail _ (List.Mem.tail _ (List.Mem.tail _ (List.Mem.tail _ (List.Mem.tail _ (List.Mem.tail _ (List.Mem.tail _ (List.Mem.tail _ (List.Mem.head _))))))))))))))))))) sbI_n)))))))))))))))
                        have rk1056_2 : MG hp B hc1053 (21) ((letI := pR hp; V (turn % m) + cz hp (zi hp (turn / m)))) := nr1054 p hp (21) _ hp2 (Nr.c (by omega) (Nr.c (by omega) (Nr.c (by omega) (Nr.c (by omega) (Nr.c (by omega) (Nr.c (by omega) (Nr.c (by omega) (Nr.c (by omega) (Nr.c (by omega) (Nr.c (by omega) (Nr.c (by omega) (Nr.c (by omega) (Nr.c (by omega) (Nr.c (by omega) Nr.n)))))))))))))) cr_lh_2
                        have hpl := prt_le hp hpt
                        have h40 := (hT2 k7 (by omega) (by omega)).2.1
                        have hT3 : TB hp (gup (gup k16b k7 (dgi hp d)) e2 (dgi hp kk)) (wT (wT k17b k7 d 41) e2 kk 41) (e2 + 1) (upI H2 k7 d e2 kk) := TB.two hT2 ⟨by omega, by omega⟩ hpt.1 hpt.2.1 (by omega) (by omega)
                        have hS3 := spS_up hp hS2 (by omega) ⟨by omega, by omega⟩ hpt
                        have hl3 := spS_le hp hdw hsq hS3 hRR hK (by omega)
                        refine Go.nf (h' := hc1053) (st' := []) rfl rfl (Nat.le_refl _) (Nat.le_refl _) ?_
                        refine g_iinc 0 (ls2 := [(7, .int (gI (k7 + 1))), (6, .int (gI (e))), (5, .int (gI (turn + 1))), (4, .int (gI (hn))), (3, .int (gI (m))), (2, .int (gI (n))), (0, .ref (B)), (1, .int (gI (11)))]) dX10_byFixed_312 rfl (by decide) rfl ?_
                        refine g_goto (tgt := 299) dX10_byFixed_315 rfl ?_
                        exact ih_lh _ (by omega) (k7 + 1) (e2 + 1) (upI H2 k7 d e2 kk) (gup (gup k16b k7 (dgi hp d)) e2 (dgi hp kk)) (wT (wT k17b k7 d 41) e2 kk 41) hc1053 rfl fr_lh rd1054 rk1056_1 rk1056_2 (by omega) (by omega) hT3 hS3 (alS_up hp hA2 ⟨by omega, by omega⟩ hpt) (alP_up hp hP2 ⟨by omega, by omega, by omega⟩ hpt)
                  exact lh _ (hn) (e) (H1) (k16) (k17) hc898 rfl fr_lw rk951_0 rk951_1 rn899 (by omega) (by omega) hT1 hS1 hA (fun i hi => by omega)
                · skip
                  refine g_aload_n 5 dX10_byFixed_222 rfl ?_
                  refine g_getf 5 dX10_byFixed_223 kX10 (by decide) fX10_23 cg_lo_0 rfl ?_
                  refine g_sipush dX10_byFixed_226 (by decide) ?_
                  refine g_iload 0 dX10_byFixed_229 rfl ?_
                  refine g_iadd dX10_byFixed_231 ?_
                  refine g_aload_n 5 dX10_byFixed_232 rfl ?_
                  refine g_getf 26 dX10_byFixed_233 kX10 (by decide) fX10_69 cg_lo_0 rfl ?_
                  refine g_bipush dX10_byFixed_236 (by decide) ?_
                  refine g_iload 1 dX10_byFixed_238 rfl ?_
                  refine g_iload_n 3 dX10_byFixed_240 rfl ?_
                  refine g_irem dX10_byFixed_241 (by unfold gW; omega) (by unfold gW; omega) (by omega) ?_
                  refine g_imul dX10_byFixed_242 ?_
                  refine g_iload 0 dX10_byFixed_243 rfl ?_
                  refine g_iadd dX10_byFixed_245 ?_
                  refine g_iaload dX10_byFixed_246 cg_lo_12 (by omega) (by omega) (by omega) ?_
                  have hq_ : (gb) (((41) * ((turn).tmod (m))) + (c)) = cf (V (turn % m)) c := by
                                                                      rw [htm]; exact hVc _ hj0 hj1 c hc.1 (by omega)
                  rw [hq_]
                  refine g_iastore dX10_byFixed_247 cf_lo_0 (by omega) (by omega) (by omega) ?_
                  obtain ⟨hh1157, eh1157⟩ : ∃ z : GH, z = hset hlo (B + 5) (aI 8000 (gup (ar (gup RV 21 (gF (RV 21) (cf (V (turn % m))) c))) ((4200) + (c)) (cf (V (turn % m)) c))) := ⟨_, rfl⟩
                  refine Go.hp eh1157.symm ?_
                  have fh1157_0 : hh1157.2 (B) = some (mO B ((p : Int)) (hf) (le) (fc) (pn) (rn) (e) (qn)) := hs_n eh1157 neA cg_lo_0
                  have fh1157_1 : hh1157.2 (B + 9) = some (aI 41 (g9)) := hs_n eh1157 (show NE (B + 9) (B + 5) by unfold NE; omega) cg_lo_1
                  have fh1157_2 : hh1157.2 (B + 10) = some (aI 41 (g10)) := hs_n eh1157 (show NE (B + 10) (B + 5) by unfold NE; omega) cg_lo_2
                  have fh1157_3 : hh1157.2 (B + 11) = some (aI 1681 (g11)) := hs_n eh1157 (show NE (B + 11) (B + 5) by unfold NE; omega) cg_lo_3
                  have fh1157_4 : hh1157.2 (B + 12) = some (aI 41 (g12)) := hs_n eh1157 (show NE (B + 12) (B + 5) by unfold NE; omega) cg_lo_4
                  have fh1157_5 : hh1157.2 (B + 13) = some (aI 41 (g13)) := hs_n eh1157 (show NE (B + 13) (B + 5) by unfold NE; omega) cg_lo_5
                  have fh1157_6 : hh1157.2 (B + 14) = some (aI 1681 (g14)) := hs_n eh1157 (show NE (B + 14) (B + 5) by unfold NE; omega) cg_lo_6
                  have fh1157_7 : hh1157.2 (B + 15) = some (aI 41 (g15)) := hs_n eh1157 (show NE (B + 15) (B + 5) by unfold NE; omega) cg_lo_7
                  have fh1157_8 : hh1157.2 (B + 16) = some (aI 100 (k16)) := hs_n eh1157 (show NE (B + 16) (B + 5) by unfold NE; omega) cg_lo_8
                  have fh1157_9 : hh1157.2 (B + 17) = some (aI 4100 (k17)) := hs_n eh1157 (show NE (B + 17) (B + 5) by unfold NE; omega) cg_lo_9
                  have fh1157_10 : hh1157.2 (B + 18) = some (aI 1681 (gg)) := hs_n eh1157 (show NE (B + 18) (B + 5) by unfold NE; omega) cg_lo_10
                  have fh1157_11 : hh1157.2 (B + 19) = some (aI 41 (gv)) := hs_n eh1157 (show NE (B + 19) (B + 5) by unfold NE; omega) cg_lo_11
                  have fh1157_12 : hh1157.2 (B + 20) = some (aI 1681 (gb)) := hs_n eh1157 (show NE (B + 20) (B + 5) by unfold NE; omega) cg_lo_12
                  have fh1157_13 : hh1157.2 (B + 5) = some (aI 8000 (gup (ar (gup RV 21 (gF (RV 21) (cf (V (turn % m))) c))) ((4200) + (c)) (cf (V (turn % m)) c))) := hs_s eh1157
                  have fh1157_14 : hh1157.2 (B + 6) = some (aI 40 (dV)) := hs_n eh1157 (neC).s cf_lo_1
                  have fr1157 : Fr [B + 5] hc742 hh1157 := Fr.w0 fr_lo (List.Mem.head _) eh1157
                  refine g_iinc 0 (ls2 := [(6, .int (gI (c + 1))), (5, .int (gI (turn))), (4, .int (gI (hn))), (3, .int (gI (m))), (2, .int (gI (n))), (0, .ref (B)), (1, .int (gI (11)))]) dX10_byFixed_248 rfl (by decide) rfl ?_
                  refine g_goto (tgt := 216) dX10_byFixed_251 rfl ?_
                  exact ih_lo _ (by omega) (c + 1) hh1157 rfl fr1157 (by rw [← gF_s (RV 21) (cf (V (turn % m))) hc.1, ← ar_wg RV _ hc.1 (by omega)]; exact fh1157_13) fh1157_14 (by omega)
              exact lo _ (0) hc742 rfl (Fr.rf [B + 5] hc742) (by rw [gF_0, gup_id]; exact hRV) hDV (by omega)
        exact lw _ (0) (hn + 1) (fun t => if t = hn then F else H t) (gup g16 hn (dgi hp F)) (wT g17 hn F 41) hc223 rfl fr_li rd224 rk225_1 (by omega) (by omega) (TB.put hTH (by omega) (Int.le_refl _) hFp (by omega) (Or.inr ⟨rfl, rfl⟩) (by omega)) (hS0 _ (if_pos rfl) (fun i i0 i1 => if_neg (by omega))) (fun i t i0 i1 t0 t1 => by omega)
      · skip
        have hirr : irr (fR hp) F := by
                                                                      have b := spl_irr hp hdw hsq (hS0 (fun t => if t = hn then F else H t) (if_pos rfl) (fun i i0 i1 => if_neg (by omega))).1 hRR hK (by omega) (i := 0) (by omega)
                                                                      have e9 : (fun t => if t = hn then F else H t) (hn + ((0 : Nat) : Int)) = F := if_pos (by omega)
                                                                      rw [e9] at b; exact b
        have hFF : isFc hp F0 F := ⟨hirr, hmn, hdF⟩
        refine g_aload_n 2 dX10_byFixed_164 rfl ?_
        refine g_iload_n 3 dX10_byFixed_165 rfl ?_
        refine g_callV (nc2 := 0) (ns2 := 0) (ci := 10) (As := [.int (gI (11))]) (st := []) rfl dX10_byFixed_166 okX10_found lX10_223 itX10_found seX10_found rfl (RD.o rd220) (by decide) (by decide) rfl (Nat.le_of_ble_eq_true rfl) (sM_found N _ B p hp hp2 h0 hf le fc pn rn hn qn g9 g10 g11 g12 g13 g14 g15 g16 g17 gg gv gb 11 (by omega) ⟨by omega, by omega⟩ (F) Q (by omega) hT hLI.2.1 rd220 rk221_2) (by omega) (by omega) (fun v1358 hc1358 q1358 => ?_)
        obtain ⟨rfl, nr1359, fcz, Qz, d9z, d11z, rd1359, tbz, fnz⟩ := q1358
        have rk1360_1 : NR B [15, 16, 17, 18, 19, 21, 22, 23, 24, 25, 26, 30, 31, 32, 33, 34, 35, 36, 37] h hc1358 := NR.tr rk221_1 (NR.mo nr1359 sbI_n)
        have rk1360_2 : MG hp B hc1358 (11) (F) := nr1359 p hp (11) _ hp2 Nr.n rk221_2
        refine Go.nf (h' := hc1358) (st' := []) rfl rfl (Nat.le_refl _) (Nat.le_refl _) ?_
        exact g_vret dX10_byFixed_169 rfl ⟨rfl, rk1360_1, fcz, Qz, d9z, d11z, g16, g17, _, _, _, rd1359, tbz, hTH, LI_f hp hLI hFF fnz, fun x => (fnz.2.2 x).trans ⟨fun z => by
                                                                      rcases z with z | z
                                                                      · exact Or.inl z
                                                                      · rw [z]; exact Or.inr ⟨hirr, hmn, dv_rf _ _⟩, fun z => by
                                                                      rcases z with z | z
                                                                      · exact Or.inl z
                                                                      · exact Or.inr (irr_eq hp z.1 hirr z.2.1 hmn z.2.2)⟩⟩
    · skip
      refine g_iconst dX10_byFixed_57 ?_
      refine g_istore (ls2 := [(4, .int (gI (0))), (3, .int (gI (i))), (2, .int (gI (n))), (0, .ref (B)), (1, .int (gI (11)))]) dX10_byFixed_58 (by decide) rfl ?_
      have lk : ∀ (kk : Nat) (k : Int) (hlk : GH), kk = (50 - k).toNat → True → RD B h0 hlk p hf le fc pn rn hn qn g9 g10 g11 g12 g13 g14 g15 g16 g17 (kfl (bgF hp F (rm hp (pwp hp (xm (fR hp) (letI := fR hp; 1) 1) p) F)) g18 n i k) g19 g20 → NR B [15, 16, 17, 18, 19, 21, 22, 23, 24, 25, 26, 30, 31, 32, 33, 34, 35, 36, 37] h hlk → MG hp B hlk (11) (F) → MG hp B hlk (17) (rm hp (pwp hp (xm (fR hp) (letI := fR hp; 1) 1) p) F) → MG hp B hlk (18) (bcl hp F (rm hp (pwp hp (xm (fR hp) (letI := fR hp; 1) 1) p) F) i.toNat) → (0 ≤ k ∧ k ≤ n) → Go N mX10_byFixed (fun v h1 => v = none ∧ NR B [15, 16, 17, 18, 19, 21, 22, 23, 24, 25, 26, 30, 31, 32, 33, 34, 35, 36, 37] h h1 ∧ ∃ fc1 Q1 d9 d11 k16 k17 k18 k19 k20, RD B h0 h1 p hf le fc1 pn rn hn qn d9 g10 d11 g12 g13 g14 g15 k16 k17 k18 k19 k20 ∧ TB hp d9 d11 fc1 Q1 ∧ TB hp k16 k17 hn H ∧ LI hp F0 fc1 Q1 ∧ ∀ x : Px p, inL fc1 Q1 x ↔ (inL fc Q x ∨ isFc hp F x)) 0 0 hlk 60 [(4, .int (gI (k))), (3, .int (gI (i))), (2, .int (gI (n))), (0, .ref (B)), (1, .int (gI (11)))] [] := by
        refine Go.ind (fun kk ih_lk => ?_)
        intro k hlk hkk_lk fr_lk cr_lk_0 cr_lk_1 cr_lk_2 cr_lk_3 cr_lk_4 hk_
        refine g_iload 0 dX10_byFixed_60 rfl ?_
        refine g_iload_n 2 dX10_byFixed_62 rfl ?_
        refine g_icmp_ge (tgt := 126) dX10_byFixed_63 rfl (by first | assumption | (unfold gW; omega) | (unfold gW; split <;> omega)) (by first | assumption | (unfold gW; omega) | (unfold gW; split <;> omega)) (fun c1461 => ?_) (fun c1461 => ?_)
        · skip
          have hl18 := (cr_lk_4).lt
          have hl17 := (cr_lk_3).lt
          have hbo : dgi hp (bcl hp F (rm hp (pwp hp (xm (fR hp) (letI := fR hp; 1) 1) p) F) i.toNat) < n.toNat := dgi_le hp (bcl_ok hp hdw (by omega) (rm_po hp (pw_po hp (xm_po (fR hp) _ 1) p) hFp (by omega)) (rm_dv hp (pw_po hp (xm_po (fR hp) _ 1) p) hFp (by omega)) i.toNat).1
          have hd17 : dgi hp (rm hp (pwp hp (xm (fR hp) (letI := fR hp; 1) 1) p) F) < dgi hp F := rm_lt hp (pw_po hp (xm_po (fR hp) _ 1) p) hFp (by omega)
          refine g_aload_n 3 dX10_byFixed_126 rfl ?_
          refine g_bipush dX10_byFixed_127 (by decide) ?_
          refine g_bipush dX10_byFixed_129 (by decide) ?_
          refine g_bipush dX10_byFixed_131 (by decide) ?_
          refine g_callV (nc2 := 0) (ns2 := 0) (ci := 10) (As := [.int (gI (18)), .int (gI (17)), .int (gI (19))]) (st := []) rfl dX10_byFixed_133 okX10_product lX10_189 itX10_product seX10_product rfl (RD.o cr_lk_0) (by decide) (by decide) rfl (Nat.le_of_ble_eq_true rfl) (sM_product N _ B p hp hp2 _ _ _ _ _ _ _ (18) (17) (19) (by omega) (by omega) (by omega) (bcl hp F (rm hp (pwp hp (xm (fR hp) (letI := fR hp; 1) 1) p) F) i.toNat) (rm hp (pwp hp (xm (fR hp) (letI := fR hp; 1) 1) p) F) (RD.o cr_lk_0) (RD.ma cr_lk_0) cr_lk_4 cr_lk_3 (by omega)) (by omega) (by omega) (fun v1462 hc1462 q1462 => ?_)
          obtain ⟨rfl, mfc1463, rn1463_0⟩ := q1462
          have rk1464_0 : RD B h0 hc1462 p hf le fc pn rn hn qn g9 g10 g11 g12 g13 g14 g15 g16 g17 (kfl (bgF hp F (rm hp (pwp hp (xm (fR hp) (letI := fR hp; 1) 1) p) F)) g18 n i k) g19 g20 := RD.mf cr_lk_0 mfc1463
          have rk1464_1 : NR B [15, 16, 17, 18, 19, 21, 22, 23, 24, 25, 26, 30, 31, 32, 33, 34, 35, 36, 37] h hc1462 := NR.tr cr_lk_1 ((MF.nr mfc1463).mo (sbI_c (List.Mem.tail _ (List.Mem.tail _ (List.Mem.tail _ (List.Mem.tail _ (List.Mem.head _))))) sbI_n))
          have rk1464_2 : MG hp B hc1462 (11) (F) := (cr_lk_2).fr hp2 mfc1463 (Nr.c (by omega) Nr.n)
          have rk1464_3 : MG hp B hc1462 (17) (rm hp (pwp hp (xm (fR hp) (letI := fR hp; 1) 1) p) F) := (cr_lk_3).fr hp2 mfc1463 (Nr.c (by omega) Nr.n)
          have rk1464_4 : MG hp B hc1462 (18) (bcl hp F (rm hp (pwp hp (xm (fR hp) (letI := fR hp; 1) 1) p) F) i.toNat) := (cr_lk_4).fr hp2 mfc1463 (Nr.c (by omega) Nr.n)
          refine Go.nf (h' := hc1462) (st' := []) rfl rfl (Nat.le_refl _) (Nat.le_refl _) ?_
          refine g_aload_n 3 dX10_byFixed_136 rfl ?_
          refine g_bipush dX10_byFixed_137 (by decide) ?_
          refine g_iload_n 4 dX10_byFixed_139 rfl ?_
          refine g_bipush dX10_byFixed_140 (by decide) ?_
          refine g_bipush dX10_byFixed_142 (by decide) ?_
          refine g_callV (nc2 := 0) (ns2 := 0) (ci := 10) (As := [.int (gI (19)), .int (gI (11)), .int (gI (15)), .int (gI (18))]) (st := []) rfl dX10_byFixed_144 okX10_divide lX10_176 itX10_divide seX10_divide rfl (RD.o rk1464_0) (by decide) (by decide) rfl (Nat.le_of_ble_eq_true rfl) (sM_divide N _ B p hp hp2 _ _ _ _ _ _ _ (19) (11) (15) (18) (by omega) (by omega) (by omega) (by omega) (by omega) (by omega) (pml hp (bcl hp F (rm hp (pwp hp (xm (fR hp) (letI := fR hp; 1) 1) p) F) i.toNat) (rm hp (pwp hp (xm (fR hp) (letI := fR hp; 1) 1) p) F)) (F) (RD.o rk1464_0) (RD.ma rk1464_0) rn1463_0 rk1464_2 (by omega)) (by omega) (by omega) (fun v1465 hc1465 q1465 => ?_)
          obtain ⟨rfl, mfc1466, rn1466_0, rn1466_1⟩ := q1465
          have rk1467_0 : RD B h0 hc1465 p hf le fc pn rn hn qn g9 g10 g11 g12 g13 g14 g15 g16 g17 (kfl (bgF hp F (rm hp (pwp hp (xm (fR hp) (letI := fR hp; 1) 1) p) F)) g18 n i k) g19 g20 := RD.mf rk1464_0 mfc1466
          have rk1467_1 : NR B [15, 16, 17, 18, 19, 21, 22, 23, 24, 25, 26, 30, 31, 32, 33, 34, 35, 36, 37] h hc1465 := NR.tr rk1464_1 ((MF.nr mfc1466).mo (sbI_c (List.Mem.tail _ (List.Mem.tail _ (List.Mem.tail _ (List.Mem.head _)))) (sbI_c (List.Mem.head _) sbI_n)))
          have rk1467_2 : MG hp B hc1465 (11) (F) := (rk1464_2).fr hp2 mfc1466 (Nr.c (by omega) (Nr.c (by omega) Nr.n))
          have rk1467_3 : MG hp B hc1465 (17) (rm hp (pwp hp (xm (fR hp) (letI := fR hp; 1) 1) p) F) := (rk1464_3).fr hp2 mfc1466 (Nr.c (by omega) (Nr.c (by omega) Nr.n))
          have rk1467_5 : MG hp B hc1465 (19) (pml hp (bcl hp F (rm hp (pwp hp (xm (fR hp) (letI := fR hp; 1) 1) p) F) i.toNat) (rm hp (pwp hp (xm (fR hp) (letI := fR hp; 1) 1) p) F)) := (rn1463_0).fr hp2 mfc1466 (Nr.c (by omega) (Nr.c (by omega) Nr.n))
          refine Go.nf (h' := hc1465) (st' := []) rfl rfl (Nat.le_refl _) (Nat.le_refl _) ?_
          refine g_iinc 1 (ls2 := [(3, .int (gI (i + 1))), (4, .int (gI (k))), (2, .int (gI (n))), (0, .ref (B)), (1, .int (gI (11)))]) dX10_byFixed_147 rfl (by decide) rfl ?_
          refine g_goto (tgt := 52) dX10_byFixed_150 rfl ?_
          refine Go.sub [0, 2, 3, 4] rfl ?_
          exact ih_li _ (by omega) (i + 1) hc1465 rfl fr_lk (by
                                                                      have e8 := rk1467_0
                                                                      rw [show k = n by omega, kfl_c] at e8; exact e8) rk1467_1 rk1467_2 rk1467_3 (by
                                                                      show MG hp B _ 18 (bcl hp F (rm hp (pwp hp (xm (fR hp) (letI := fR hp; 1) 1) p) F) (i + 1).toNat)
                                                                      rw [show (i + 1).toNat = i.toNat + 1 by omega]; exact rn1466_0) (by omega)
        · skip
          have hck := cf_in (bcl hp F (rm hp (pwp hp (xm (fR hp) (letI := fR hp; 1) 1) p) F) i.toNat) hp k
          refine g_aload_n 3 dX10_byFixed_66 rfl ?_
          refine g_getf 5 dX10_byFixed_67 kX10 (by decide) fX10_23 (RD.o cr_lk_0) rfl ?_
          refine g_sipush dX10_byFixed_70 (by decide) ?_
          refine g_iload 0 dX10_byFixed_73 rfl ?_
          refine g_iadd dX10_byFixed_75 ?_
          obtain ⟨R1468, er1468, fr1468⟩ := MG.num cr_lk_4
          refine g_iaload dX10_byFixed_76 er1468 (by omega) (by omega) (by omega) ?_
          rw [show ar R1468 (3600 + (k)) = R1468 18 (k) from ar_r R1468 (r := 18) (show 0 ≤ k by omega) (show k < 200 by omega), fr1468 (k) (by omega) (by omega)]
          refine g_iload_n 1 dX10_byFixed_77 rfl ?_
          refine g_iload 0 dX10_byFixed_78 rfl ?_
          refine g_icmp_ne (tgt := 87) dX10_byFixed_80 rfl (by first | assumption | (unfold gW; omega) | (unfold gW; split <;> omega)) (by first | assumption | (unfold gW; omega) | (unfold gW; split <;> omega)) (fun c1469 => ?_) (fun c1469 => ?_)
          · skip
            refine g_iconst dX10_byFixed_87 ?_
            refine g_isub dX10_byFixed_88 ?_
            refine g_istore (ls2 := [(5, .int (gI ((cf (bcl hp F (rm hp (pwp hp (xm (fR hp) (letI := fR hp; 1) 1) p) F) i.toNat) (k)) - (0)))), (4, .int (gI (k))), (3, .int (gI (i))), (2, .int (gI (n))), (0, .ref (B)), (1, .int (gI (11)))]) dX10_byFixed_89 (by decide) rfl ?_
            refine g_aload_n 4 dX10_byFixed_91 rfl ?_
            refine g_getf 24 dX10_byFixed_92 kX10 (by decide) fX10_63 (RD.o cr_lk_0) rfl ?_
            refine g_bipush dX10_byFixed_95 (by decide) ?_
            refine g_iload 1 dX10_byFixed_97 rfl ?_
            refine g_imul dX10_byFixed_99 ?_
            refine g_iload_n 2 dX10_byFixed_100 rfl ?_
            refine g_iadd dX10_byFixed_101 ?_
            refine g_iload 0 dX10_byFixed_102 rfl ?_
            refine g_if_ge (tgt := 117) dX10_byFixed_104 rfl (by first | assumption | (unfold gW; omega) | (unfold gW; split <;> omega)) (fun c1470 => ?_) (fun c1470 => ?_)
            · skip
              refine g_iload 0 dX10_byFixed_117 rfl ?_
              have hvv : ((cf (bcl hp F (rm hp (pwp hp (xm (fR hp) (letI := fR hp; 1) 1) p) F) i.toNat) (k)) - (0)) = bgF hp F (rm hp (pwp hp (xm (fR hp) (letI := fR hp; 1) 1) p) F) k i := by
                                                                      unfold bgF
                                                                      rw [if_neg (by omega), Int.emod_eq_of_lt (by omega) (by omega)]
              rw [hvv]
              refine g_iastore dX10_byFixed_119 (RD.t18 cr_lk_0) (by omega) (by omega) (by omega) ?_
              obtain ⟨hh1471, eh1471⟩ : ∃ z : GH, z = hset hlk (B + 18) (aI 1681 (gup (kfl (bgF hp F (rm hp (pwp hp (xm (fR hp) (letI := fR hp; 1) 1) p) F)) g18 n i k) (((41) * (k)) + (i)) (bgF hp F (rm hp (pwp hp (xm (fR hp) (letI := fR hp; 1) 1) p) F) k i))) := ⟨_, rfl⟩
              refine Go.hp eh1471.symm ?_
              have rd1471 : RD B h0 hh1471 p hf le fc pn rn hn qn g9 g10 g11 g12 g13 g14 g15 g16 g17 (gup (kfl (bgF hp F (rm hp (pwp hp (xm (fR hp) (letI := fR hp; 1) 1) p) F)) g18 n i k) (((41) * (k)) + (i)) (bgF hp F (rm hp (pwp hp (xm (fR hp) (letI := fR hp; 1) 1) p) F) k i)) g19 g20 := RD.cell cr_lk_0 (by rw [eh1471]; rfl) (fun x hx => by rw [eh1471, hset_n _ _ (by omega)]) (hs_n eh1471 (show NE (B) (B + 18) by unfold NE; omega) (RD.o cr_lk_0)) (hs_n eh1471 (show NE (B + 9) (B + 18) by unfold NE; omega) (RD.t9 cr_lk_0)) (hs_n eh1471 (show NE (B + 10) (B + 18) by unfold NE; omega) (RD.t10 cr_lk_0)) (hs_n eh1471 (show NE (B + 11) (B + 18) by unfold NE; omega) (RD.t11 cr_lk_0)) (hs_n eh1471 (show NE (B + 12) (B + 18) by unfold NE; omega) (RD.t12 cr_lk_0)) (hs_n eh1471 (show NE (B + 13) (B + 18) by unfold NE; omega) (RD.t13 cr_lk_0)) (hs_n eh1471 (show NE (B + 14) (B + 18) by unfold NE; omega) (RD.t14 cr_lk_0)) (hs_n eh1471 (show NE (B + 15) (B + 18) by unfold NE; omega) (RD.t15 cr_lk_0)) (hs_n eh1471 (show NE (B + 16) (B + 18) by unfold NE; omega) (RD.t16 cr_lk_0)) (hs_n eh1471 (show NE (B + 17) (B + 18) by unfold NE; omega) (RD.t17 cr_lk_0)) (hs_s eh1471) (hs_n eh1471 (show NE (B + 19) (B + 18) by unfold NE; omega) (RD.t19 cr_lk_0)) (hs_n eh1471 (show NE (B + 20) (B + 18) by unfold NE; omega) (RD.t20 cr_lk_0))
              have e5_1471 : hh1471.2 (B + 5) = hlk.2 (B + 5) := by rw [eh1471, hset_n _ _ (by omega)]
              have e6_1471 : hh1471.2 (B + 6) = hlk.2 (B + 6) := by rw [eh1471, hset_n _ _ (by omega)]
              have rg1471_1 : NR B [15, 16, 17, 18, 19, 21, 22, 23, 24, 25, 26, 30, 31, 32, 33, 34, 35, 36, 37] h hh1471 := NR.h5 cr_lk_1 e5_1471 e6_1471
              have rg1471_2 : MG hp B hh1471 (11) (F) := (cr_lk_2).of5 e5_1471 e6_1471
              have rg1471_3 : MG hp B hh1471 (17) (rm hp (pwp hp (xm (fR hp) (letI := fR hp; 1) 1) p) F) := (cr_lk_3).of5 e5_1471 e6_1471
              have rg1471_4 : MG hp B hh1471 (18) (bcl hp F (rm hp (pwp hp (xm (fR hp) (letI := fR hp; 1) 1) p) F) i.toNat) := (cr_lk_4).of5 e5_1471 e6_1471
              refine g_iinc 1 (ls2 := [(4, .int (gI (k + 1))), (5, .int (gI (bgF hp F (rm hp (pwp hp (xm (fR hp) (letI := fR hp; 1) 1) p) F) k i))), (3, .int (gI (i))), (2, .int (gI (n))), (0, .ref (B)), (1, .int (gI (11)))]) dX10_byFixed_120 rfl (by decide) rfl ?_
              refine g_goto (tgt := 60) dX10_byFixed_123 rfl ?_
              refine Go.sub [0, 2, 3, 4, 5] rfl ?_
              exact ih_lk _ (by omega) (k + 1) hh1471 rfl fr_lk (by rw [← kfl_s (bgF hp F (rm hp (pwp hp (xm (fR hp) (letI := fR hp; 1) 1) p) F)) g18 hi_.1 (by omega) hk_.1]; exact rd1471) rg1471_1 rg1471_2 rg1471_3 rg1471_4 (by omega)
            · skip
              refine g_iload 0 dX10_byFixed_107 rfl ?_
              refine g_aload_n 4 dX10_byFixed_109 rfl ?_
              refine g_getf 0 dX10_byFixed_110 kX10 (by decide) fX10_78 (RD.o cr_lk_0) rfl ?_
              refine g_iadd dX10_byFixed_113 ?_
              refine g_goto (tgt := 119) dX10_byFixed_114 rfl ?_
              have hvv : (((cf (bcl hp F (rm hp (pwp hp (xm (fR hp) (letI := fR hp; 1) 1) p) F) i.toNat) (k)) - (0)) + ((p : Int))) = bgF hp F (rm hp (pwp hp (xm (fR hp) (letI := fR hp; 1) 1) p) F) k i := by
                                                                      unfold bgF
                                                                      rw [if_neg (by omega), em_neg (by omega) (by omega)]
              rw [hvv]
              refine g_iastore dX10_byFixed_119 (RD.t18 cr_lk_0) (by omega) (by omega) (by omega) ?_
              obtain ⟨hh1472, eh1472⟩ : ∃ z : GH, z = hset hlk (B + 18) (aI 1681 (gup (kfl (bgF hp F (rm hp (pwp hp (xm (fR hp) (letI := fR hp; 1) 1) p) F)) g18 n i k) (((41) * (k)) + (i)) (bgF hp F (rm hp (pwp hp (xm (fR hp) (letI := fR hp; 1) 1) p) F) k i))) := ⟨_, rfl⟩
              refine Go.hp eh1472.symm ?_
              have rd1472 : RD B h0 hh1472 p hf le fc pn rn hn qn g9 g10 g11 g12 g13 g14 g15 g16 g17 (gup (kfl (bgF hp F (rm hp (pwp hp (xm (fR hp) (letI := fR hp; 1) 1) p) F)) g18 n i k) (((41) * (k)) + (i)) (bgF hp F (rm hp (pwp hp (xm (fR hp) (letI := fR hp; 1) 1) p) F) k i)) g19 g20 := RD.cell cr_lk_0 (by rw [eh1472]; rfl) (fun x hx => by rw [eh1472, hset_n _ _ (by omega)]) (hs_n eh1472 (show NE (B) (B + 18) by unfold NE; omega) (RD.o cr_lk_0)) (hs_n eh1472 (show NE (B + 9) (B + 18) by unfold NE; omega) (RD.t9 cr_lk_0)) (hs_n eh1472 (show NE (B + 10) (B + 18) by unfold NE; omega) (RD.t10 cr_lk_0)) (hs_n eh1472 (show NE (B + 11) (B + 18) by unfold NE; omega) (RD.t11 cr_lk_0)) (hs_n eh1472 (show NE (B + 12) (B + 18) by unfold NE; omega) (RD.t12 cr_lk_0)) (hs_n eh1472 (show NE (B + 13) (B + 18) by unfold NE; omega) (RD.t13 cr_lk_0)) (hs_n eh1472 (show NE (B + 14) (B + 18) by unfold NE; omega) (RD.t14 cr_lk_0)) (hs_n eh1472 (show NE (B + 15) (B + 18) by unfold NE; omega) (RD.t15 cr_lk_0)) (hs_n eh1472 (show NE (B + 16) (B + 18) by unfold NE; omega) (RD.t16 cr_lk_0)) (hs_n eh1472 (show NE (B + 17) (B + 18) by unfold NE; omega) (RD.t17 cr_lk_0)) (hs_s eh1472) (hs_n eh1472 (show NE (B + 19) (B + 18) by unfold NE; omega) (RD.t19 cr_lk_0)) (hs_n eh1472 (show NE (B + 20) (B + 18) by unfold NE; omega) (RD.t20 cr_lk_0))
              have e5_1472 : hh1472.2 (B + 5) = hlk.2 (B + 5) := by rw [eh1472, hset_n _ _ (by omega)]
              have e6_1472 : hh1472.2 (B + 6) = hlk.2 (B + 6) := by rw [eh1472, hset_n _ _ (by omega)]
              have rg1472_1 : NR B [15, 16, 17, 18, 19, 21, 22, 23, 24, 25, 26, 30, 31, 32, 33, 34, 35, 36, 37] h hh1472 := NR.h5 cr_lk_1 e5_1472 e6_1472
              have rg1472_2 : MG hp B hh1472 (11) (F) := (cr_lk_2).of5 e5_1472 e6_1472
              have rg1472_3 : MG hp B hh1472 (17) (rm hp (pwp hp (xm (fR hp) (letI := fR hp; 1) 1) p) F) := (cr_lk_3).of5 e5_1472 e6_1472
              have rg1472_4 : MG hp B hh1472 (18) (bcl hp F (rm hp (pwp hp (xm (fR hp) (letI := fR hp; 1) 1) p) F) i.toNat) := (cr_lk_4).of5 e5_1472 e6_1472
              refine g_iinc 1 (ls2 := [(4, .int (gI (k + 1))), (5, .int (gI ((cf (bcl hp F (rm hp (pwp hp (xm (fR hp) (letI := fR hp; 1) 1) p) F) i.toNat) (k)) - (0)))), (3, .int (gI (i))), (2, .int (gI (n))), (0, .ref (B)), (1, .int (gI (11)))]) dX10_byFixed_120 rfl (by decide) rfl ?_
              refine g_goto (tgt := 60) dX10_byFixed_123 rfl ?_
              refine Go.sub [0, 2, 3, 4, 5] rfl ?_
              exact ih_lk _ (by omega) (k + 1) hh1472 rfl fr_lk (by rw [← kfl_s (bgF hp F (rm hp (pwp hp (xm (fR hp) (letI := fR hp; 1) 1) p) F)) g18 hi_.1 (by omega) hk_.1]; exact rd1472) rg1472_1 rg1472_2 rg1472_3 rg1472_4 (by omega)
          · skip
            refine g_iconst dX10_byFixed_83 ?_
            refine g_goto (tgt := 88) dX10_byFixed_84 rfl ?_
            refine g_isub dX10_byFixed_88 ?_
            refine g_istore (ls2 := [(5, .int (gI ((cf (bcl hp F (rm hp (pwp hp (xm (fR hp) (letI := fR hp; 1) 1) p) F) i.toNat) (k)) - (1)))), (4, .int (gI (k))), (3, .int (gI (i))), (2, .int (gI (n))), (0, .ref (B)), (1, .int (gI (11)))]) dX10_byFixed_89 (by decide) rfl ?_
            refine g_aload_n 4 dX10_byFixed_91 rfl ?_
            refine g_getf 24 dX10_byFixed_92 kX10 (by decide) fX10_63 (RD.o cr_lk_0) rfl ?_
            refine g_bipush dX10_byFixed_95 (by decide) ?_
            refine g_iload 1 dX10_byFixed_97 rfl ?_
            refine g_imul dX10_byFixed_99 ?_
            refine g_iload_n 2 dX10_byFixed_100 rfl ?_
            refine g_iadd dX10_byFixed_101 ?_
            refine g_iload 0 dX10_byFixed_102 rfl ?_
            refine g_if_ge (tgt := 117) dX10_byFixed_104 rfl (by first | assumption | (unfold gW; omega) | (unfold gW; split <;> omega)) (fun c1473 => ?_) (fun c1473 => ?_)
            · skip
              refine g_iload 0 dX10_byFixed_117 rfl ?_
              have hvv : ((cf (bcl hp F (rm hp (pwp hp (xm (fR hp) (letI := fR hp; 1) 1) p) F) i.toNat) (k)) - (1)) = bgF hp F (rm hp (pwp hp (xm (fR hp) (letI := fR hp; 1) 1) p) F) k i := by
                                                                      unfold bgF
                                                                      rw [if_pos (by omega), Int.emod_eq_of_lt (by omega) (by omega)]
              rw [hvv]
              refine g_iastore dX10_byFixed_119 (RD.t18 cr_lk_0) (by omega) (by omega) (by omega) ?_
              obtain ⟨hh1474, eh1474⟩ : ∃ z : GH, z = hset hlk (B + 18) (aI 1681 (gup (kfl (bgF hp F (rm hp (pwp hp (xm (fR hp) (letI := fR hp; 1) 1) p) F)) g18 n i k) (((41) * (k)) + (i)) (bgF hp F (rm hp (pwp hp (xm (fR hp) (letI := fR hp; 1) 1) p) F) k i))) := ⟨_, rfl⟩
              refine Go.hp eh1474.symm ?_
              have rd1474 : RD B h0 hh1474 p hf le fc pn rn hn qn g9 g10 g11 g12 g13 g14 g15 g16 g17 (gup (kfl (bgF hp F (rm hp (pwp hp (xm (fR hp) (letI := fR hp; 1) 1) p) F)) g18 n i k) (((41) * (k)) + (i)) (bgF hp F (rm hp (pwp hp (xm (fR hp) (letI := fR hp; 1) 1) p) F) k i)) g19 g20 := RD.cell cr_lk_0 (by rw [eh1474]; rfl) (fun x hx => by rw [eh1474, hset_n _ _ (by omega)]) (hs_n eh1474 (show NE (B) (B + 18) by unfold NE; omega) (RD.o cr_lk_0)) (hs_n eh1474 (show NE (B + 9) (B + 18) by unfold NE; omega) (RD.t9 cr_lk_0)) (hs_n eh1474 (show NE (B + 10) (B + 18) by unfold NE; omega) (RD.t10 cr_lk_0)) (hs_n eh1474 (show NE (B + 11) (B + 18) by unfold NE; omega) (RD.t11 cr_lk_0)) (hs_n eh1474 (show NE (B + 12) (B + 18) by unfold NE; omega) (RD.t12 cr_lk_0)) (hs_n eh1474 (show NE (B + 13) (B + 18) by unfold NE; omega) (RD.t13 cr_lk_0)) (hs_n eh1474 (show NE (B + 14) (B + 18) by unfold NE; omega) (RD.t14 cr_lk_0)) (hs_n eh1474 (show NE (B + 15) (B + 18) by unfold NE; omega) (RD.t15 cr_lk_0)) (hs_n eh1474 (show NE (B + 16) (B + 18) by unfold NE; omega) (RD.t16 cr_lk_0)) (hs_n eh1474 (show NE (B + 17) (B + 18) by unfold NE; omega) (RD.t17 cr_lk_0)) (hs_s eh1474) (hs_n eh1474 (show NE (B + 19) (B + 18) by unfold NE; omega) (RD.t19 cr_lk_0)) (hs_n eh1474 (show NE (B + 20) (B + 18) by unfold NE; omega) (RD.t20 cr_lk_0))
              have e5_1474 : hh1474.2 (B + 5) = hlk.2 (B + 5) := by rw [eh1474, hset_n _ _ (by omega)]
              have e6_1474 : hh1474.2 (B + 6) = hlk.2 (B + 6) := by rw [eh1474, hset_n _ _ (by omega)]
              have rg1474_1 : NR B [15, 16, 17, 18, 19, 21, 22, 23, 24, 25, 26, 30, 31, 32, 33, 34, 35, 36, 37] h hh1474 := NR.h5 cr_lk_1 e5_1474 e6_1474
              have rg1474_2 : MG hp B hh1474 (11) (F) := (cr_lk_2).of5 e5_1474 e6_1474
              have rg1474_3 : MG hp B hh1474 (17) (rm hp (pwp hp (xm (fR hp) (letI := fR hp; 1) 1) p) F) := (cr_lk_3).of5 e5_1474 e6_1474
              have rg1474_4 : MG hp B hh1474 (18) (bcl hp F (rm hp (pwp hp (xm (fR hp) (letI := fR hp; 1) 1) p) F) i.toNat) := (cr_lk_4).of5 e5_1474 e6_1474
              refine g_iinc 1 (ls2 := [(4, .int (gI (k + 1))), (5, .int (gI (bgF hp F (rm hp (pwp hp (xm (fR hp) (letI := fR hp; 1) 1) p) F) k i))), (3, .int (gI (i))), (2, .int (gI (n))), (0, .ref (B)), (1, .int (gI (11)))]) dX10_byFixed_120 rfl (by decide) rfl ?_
              refine g_goto (tgt := 60) dX10_byFixed_123 rfl ?_
              refine Go.sub [0, 2, 3, 4, 5] rfl ?_
              exact ih_lk _ (by omega) (k + 1) hh1474 rfl fr_lk (by rw [← kfl_s (bgF hp F (rm hp (pwp hp (xm (fR hp) (letI := fR hp; 1) 1) p) F)) g18 hi_.1 (by omega) hk_.1]; exact rd1474) rg1474_1 rg1474_2 rg1474_3 rg1474_4 (by omega)
            · skip
              refine g_iload 0 dX10_byFixed_107 rfl ?_
              refine g_aload_n 4 dX10_byFixed_109 rfl ?_
              refine g_getf 0 dX10_byFixed_110 kX10 (by decide) fX10_78 (RD.o cr_lk_0) rfl ?_
              refine g_iadd dX10_byFixed_113 ?_
              refine g_goto (tgt := 119) dX10_byFixed_114 rfl ?_
              have hvv : (((cf (bcl hp F (rm hp (pwp hp (xm (fR hp) (letI := fR hp; 1) 1) p) F) i.toNat) (k)) - (1)) + ((p : Int))) = bgF hp F (rm hp (pwp hp (xm (fR hp) (letI := fR hp; 1) 1) p) F) k i := by
                                                                      unfold bgF
                                                                      rw [if_pos (by omega), em_neg (by omega) (by omega)]
              rw [hvv]
              refine g_iastore dX10_byFixed_119 (RD.t18 cr_lk_0) (by omega) (by omega) (by omega) ?_
              obtain ⟨hh1475, eh1475⟩ : ∃ z : GH, z = hset hlk (B + 18) (aI 1681 (gup (kfl (bgF hp F (rm hp (pwp hp (xm (fR hp) (letI := fR hp; 1) 1) p) F)) g18 n i k) (((41) * (k)) + (i)) (bgF hp F (rm hp (pwp hp (xm (fR hp) (letI := fR hp; 1) 1) p) F) k i))) := ⟨_, rfl⟩
              refine Go.hp eh1475.symm ?_
              have rd1475 : RD B h0 hh1475 p hf le fc pn rn hn qn g9 g10 g11 g12 g13 g14 g15 g16 g17 (gup (kfl (bgF hp F (rm hp (pwp hp (xm (fR hp) (letI := fR hp; 1) 1) p) F)) g18 n i k) (((41) * (k)) + (i)) (bgF hp F (rm hp (pwp hp (xm (fR hp) (letI := fR hp; 1) 1) p) F) k i)) g19 g20 := RD.cell cr_lk_0 (by rw [eh1475]; rfl) (fun x hx => by rw [eh1475, hset_n _ _ (by omega)]) (hs_n eh1475 (show NE (B) (B + 18) by unfold NE; omega) (RD.o cr_lk_0)) (hs_n eh1475 (show NE (B + 9) (B + 18) by unfold NE; omega) (RD.t9 cr_lk_0)) (hs_n eh1475 (show NE (B + 10) (B + 18) by unfold NE; omega) (RD.t10 cr_lk_0)) (hs_n eh1475 (show NE (B + 11) (B + 18) by unfold NE; omega) (RD.t11 cr_lk_0)) (hs_n eh1475 (show NE (B + 12) (B + 18) by unfold NE; omega) (RD.t12 cr_lk_0)) (hs_n eh1475 (show NE (B + 13) (B + 18) by unfold NE; omega) (RD.t13 cr_lk_0)) (hs_n eh1475 (show NE (B + 14) (B + 18) by unfold NE; omega) (RD.t14 cr_lk_0)) (hs_n eh1475 (show NE (B + 15) (B + 18) by unfold NE; omega) (RD.t15 cr_lk_0)) (hs_n eh1475 (show NE (B + 16) (B + 18) by unfold NE; omega) (RD.t16 cr_lk_0)) (hs_n eh1475 (show NE (B + 17) (B + 18) by unfold NE; omega) (RD.t17 cr_lk_0)) (hs_s eh1475) (hs_n eh1475 (show NE (B + 19) (B + 18) by unfold NE; omega) (RD.t19 cr_lk_0)) (hs_n eh1475 (show NE (B + 20) (B + 18) by unfold NE; omega) (RD.t20 cr_lk_0))
              have e5_1475 : hh1475.2 (B + 5) = hlk.2 (B + 5) := by rw [eh1475, hset_n _ _ (by omega)]
              have e6_1475 : hh1475.2 (B + 6) = hlk.2 (B + 6) := by rw [eh1475, hset_n _ _ (by omega)]
              have rg1475_1 : NR B [15, 16, 17, 18, 19, 21, 22, 23, 24, 25, 26, 30, 31, 32, 33, 34, 35, 36, 37] h hh1475 := NR.h5 cr_lk_1 e5_1475 e6_1475
              have rg1475_2 : MG hp B hh1475 (11) (F) := (cr_lk_2).of5 e5_1475 e6_1475
              have rg1475_3 : MG hp B hh1475 (17) (rm hp (pwp hp (xm (fR hp) (letI := fR hp; 1) 1) p) F) := (cr_lk_3).of5 e5_1475 e6_1475
              have rg1475_4 : MG hp B hh1475 (18) (bcl hp F (rm hp (pwp hp (xm (fR hp) (letI := fR hp; 1) 1) p) F) i.toNat) := (cr_lk_4).of5 e5_1475 e6_1475
              refine g_iinc 1 (ls2 := [(4, .int (gI (k + 1))), (5, .int (gI ((cf (bcl hp F (rm hp (pwp hp (xm (fR hp) (letI := fR hp; 1) 1) p) F) i.toNat) (k)) - (1)))), (3, .int (gI (i))), (2, .int (gI (n))), (0, .ref (B)), (1, .int (gI (11)))]) dX10_byFixed_120 rfl (by decide) rfl ?_
              refine g_goto (tgt := 60) dX10_byFixed_123 rfl ?_
              refine Go.sub [0, 2, 3, 4, 5] rfl ?_
              exact ih_lk _ (by omega) (k + 1) hh1475 rfl fr_lk (by rw [← kfl_s (bgF hp F (rm hp (pwp hp (xm (fR hp) (letI := fR hp; 1) 1) p) F)) g18 hi_.1 (by omega) hk_.1]; exact rd1475) rg1475_1 rg1475_2 rg1475_3 rg1475_4 (by omega)
      exact lk _ (0) hli rfl fr_li cr_li_0 cr_li_1 cr_li_2 cr_li_3 cr_li_4 (by omega)
  exact li _ (0) hc115 rfl trivial (by rw [kfl_0]; exact rk117_0) rk117_1 rk117_2 rk117_4 rn116_0 (by omega)
