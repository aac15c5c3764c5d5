section
variable {p : Nat}
theorem RR_cg {K : Type} (R : Lean.Grind.CommRing K) {n c q : Nat} {pv : Nat → Option Nat} {M M2 : Nat → Nat → K} (hc : c ≤ n) (e : ∀ i k, i < n → k < n → M2 i k = M i k) (w : RR R n c q pv M) : RR R n c q pv M2 := by
  obtain ⟨w1, w2, w3, w4, w5, w6⟩ := w
  exact ⟨fun k r hk hp => ⟨(w1 k r hk hp).1, fun i hi => by rw [e i k hi (by omega)]; exact (w1 k r hk hp).2 i hi⟩, fun k hk hp i i0 i1 => by rw [e i k i1 (by omega)]; exact w2 k hk hp i i0 i1, w3, w4, w5, w6⟩
theorem krn_cM {K : Type} (R : Lean.Grind.CommRing K) {n : Nat} {M M2 : Nat → Nat → K} (e : ∀ i k, i < n → k < n → M2 i k = M i k) (v : Nat → K) : krn R n M2 v ↔ krn R n M v := by
  have key : ∀ i, i < n → sm R n (letI := R; fun k => M2 i k * v k) = sm R n (letI := R; fun k => M i k * v k) := fun i hi => sm_congr R (fun k hk => by rw [e i k hi hk])
  exact ⟨fun w i hi => (key i hi).symm.trans (w i hi), fun w i hi => (key i hi).trans (w i hi)⟩
def pvI (pv : Nat → Option Nat) (k : Nat) : Int := match pv k with
  | none => -1
  | some r => r
theorem clR_q {K : Type} (R : Lean.Grind.CommRing K) (M : Nat → Nat → K) (q c k : Nat) : clR R M q c q k = M q k := if_pos rfl
theorem clR_n {K : Type} (R : Lean.Grind.CommRing K) (M : Nat → Nat → K) {q c i k : Nat} (h : i ≠ q) : clR R M q c i k = letI := R; M i k - M i c * M q k := if_neg h
theorem rsR_q {K : Type} (R : Lean.Grind.CommRing K) (M : Nat → Nat → K) (a q k : Nat) (d : K) : rsR R M a q d q k = letI := R; M a k * d := if_pos rfl
end
set_option maxHeartbeats 4000000 in
set_option maxRecDepth 100000 in
theorem sF_clearColumns (N : GN) (h : GH) (B f p : Nat) (hp : prm p) (hp2 : p ≤ 65536) (hBf : B + 58 ≤ f) (sz : Int) (hsz : 1 ≤ sz ∧ sz ≤ 40) (gg0 gv0 : Int → Int) (hgb : gBd p gg0 sz) (hsp : h.2 (f + 12) = some (spO B f sz)) (hg : h.2 (f + 13) = some (aJ 1600 gg0)) (hv : h.2 (f + 14) = some (aI 40 gv0)) (hfl : h.2 (B + 1) = some (oB 1 [.int (gI ((p : Int)))])) : Sp N yX6_clearColumns mX6_clearColumns 0 0 [.ref (f + 12)] h (fun v h1 => Fr [f + 13] h h1 ∧ ∃ q gg gv pv, h1.2 (f + 13) = some (aJ 1600 gg) ∧ h1.2 (f + 14) = some (aI 40 gv) ∧ v = some (.int (gI q)) ∧ (0 ≤ q ∧ q ≤ sz) ∧ gBd p gg sz ∧ RR (fR hp) sz.toNat sz.toNat q.toNat pv (gM hp gg sz) ∧ (∀ v, krn (fR hp) sz.toNat (gM hp gg sz) v ↔ krn (fR hp) sz.toNat (gM hp gg0 sz) v) ∧ ∀ k : Int, 0 ≤ k → k < sz → gv k = pvI pv k.toNat) := by
  refine Sp.of (by decide) rfl rfl (Nat.le_of_ble_eq_true rfl) ?_
  show Go N mX6_clearColumns _ 0 0 h 0 [(0, .ref (f + 12))] []
  have hp1 := hp.1
  refine g_iconst dX6_clearColumns_0 ?_
  refine g_istore_n (ls2 := [(1, .int (gI (0))), (0, .ref (f + 12))]) dX6_clearColumns_1 rfl (by decide) rfl ?_
  refine g_iconst dX6_clearColumns_2 ?_
  refine g_istore_n (ls2 := [(2, .int (gI (0))), (1, .int (gI (0))), (0, .ref (f + 12))]) dX6_clearColumns_3 rfl (by decide) rfl ?_
  have lc : ∀ (kk : Nat) (c : Int) (q : Int) (gg : Int → Int) (gv : Int → Int) (pv : Nat → Option Nat) (hlc : GH), kk = (40 - c).toNat → Fr [f + 13] h hlc → hlc.2 (f + 12) = some (oB 6 [.ref (B + 1), .ref (B + 7), .ref (f + 13), .ref (f + 14), .ref (f + 15), .ref (f + 17), .ref (f + 19), .int (gI (sz))]) → hlc.2 (f + 13) = some (aJ 1600 (gg)) → hlc.2 (f + 14) = some (aI 40 (gv)) → hlc.2 (B + 1) = some (oB 1 [.int (gI ((p : Int)))]) → (0 ≤ c ∧ c ≤ sz) → (0 ≤ q ∧ q ≤ c) → (gBd p gg sz) → (RR (fR hp) sz.toNat c.toNat q.toNat pv (gM hp gg sz)) → (∀ v, krn (fR hp) sz.toNat (gM hp gg sz) v ↔ krn (fR hp) sz.toNat (gM hp gg0 sz) v) → (∀ k : Int, 0 ≤ k → k < c → gv k = pvI pv k.toNat) → Go N mX6_clearColumns (fun v h1 => Fr [f + 13] h h1 ∧ ∃ q gg gv pv, h1.2 (f + 13) = some (aJ 1600 gg) ∧ h1.2 (f + 14) = some (aI 40 gv) ∧ v = some (.int (gI q)) ∧ (0 ≤ q ∧ q ≤ sz) ∧ gBd p gg sz ∧ RR (fR hp) sz.toNat sz.toNat q.toNat pv (gM hp gg sz) ∧ (∀ v, krn (fR hp) sz.toNat (gM hp gg sz) v ↔ krn (fR hp) sz.toNat (gM hp gg0 sz) v) ∧ ∀ k : Int, 0 ≤ k → k < sz → gv k = pvI pv k.toNat) 0 0 hlc 4 [(2, .int (gI (c))), (1, .int (gI (q))), (0, .ref (f + 12))] [] := by
    refine Go.ind (fun kk ih_lc => ?_)
    intro c q gg gv pv hlc hkk_lc fr_lc cf_lc_0 cf_lc_1 cf_lc_2 cf_lc_3 hc hq hbd hRR hKr hpv
    refine g_iload_n 0 dX6_clearColumns_4 rfl ?_
    refine g_aload_n 2 dX6_clearColumns_5 rfl ?_
    refine g_getf 7 dX6_clearColumns_6 kX6 (by decide) fX6_57 cf_lc_0 rfl ?_
    refine g_icmp_ge (tgt := 116) dX6_clearColumns_9 rfl (by first | assumption | (unfold gW; omega) | (unfold gW; split <;> omega)) (by first | assumption | (unfold gW; omega) | (unfold gW; split <;> omega)) (fun c101 => ?_) (fun c101 => ?_)
    · skip
      refine g_iload_n 1 dX6_clearColumns_116 rfl ?_
      exact g_iret dX6_clearColumns_117 rfl ⟨fr_lc, q, gg, gv, pv, cf_lc_1, cf_lc_2, rfl, by omega, hbd, by
                                                                      have hc9 : c = sz := by omega
                                                                      rw [hc9] at hRR; exact hRR, hKr, fun k k0 k1 => hpv k k0 (by omega)⟩
    · skip
      refine g_iload_n 1 dX6_clearColumns_12 rfl ?_
      refine g_istore_n (ls2 := [(3, .int (gI (q))), (2, .int (gI (c))), (1, .int (gI (q))), (0, .ref (f + 12))]) dX6_clearColumns_13 rfl (by decide) rfl ?_
      have lr : ∀ (kk : Nat) (row : Int) (hlr : GH), kk = (40 - row).toNat → Fr [f + 13] h hlr → hlr.2 (f + 12) = some (oB 6 [.ref (B + 1), .ref (B + 7), .ref (f + 13), .ref (f + 14), .ref (f + 15), .ref (f + 17), .ref (f + 19), .int (gI (sz))]) → hlr.2 (f + 13) = some (aJ 1600 (gg)) → hlr.2 (f + 14) = some (aI 40 (gv)) → hlr.2 (B + 1) = some (oB 1 [.int (gI ((p : Int)))]) → (q ≤ row ∧ row ≤ sz) → (∀ t, q ≤ t → t < row → gg (t * sz + c) = 0) → Go N mX6_clearColumns (fun v h1 => Fr [f + 13] h h1 ∧ ∃ q gg gv pv, h1.2 (f + 13) = some (aJ 1600 gg) ∧ h1.2 (f + 14) = some (aI 40 gv) ∧ v = some (.int (gI q)) ∧ (0 ≤ q ∧ q ≤ sz) ∧ gBd p gg sz ∧ RR (fR hp) sz.toNat sz.toNat q.toNat pv (gM hp gg sz) ∧ (∀ v, krn (fR hp) sz.toNat (gM hp gg sz) v ↔ krn (fR hp) sz.toNat (gM hp gg0 sz) v) ∧ ∀ k : Int, 0 ≤ k → k < sz → gv k = pvI pv k.toNat) 0 0 hlr 14 [(3, .int (gI (row))), (2, .int (gI (c))), (1, .int (gI (q))), (0, .ref (f + 12))] [] := by
        refine Go.ind (fun kk ih_lr => ?_)
        intro row hlr hkk_lr fr_lr cf_lr_0 cf_lr_1 cf_lr_2 cf_lr_3 hrow hZ
        refine g_iload_n 0 dX6_clearColumns_14 rfl ?_
        refine g_aload_n 3 dX6_clearColumns_15 rfl ?_
        refine g_getf 7 dX6_clearColumns_16 kX6 (by decide) fX6_57 cf_lr_0 rfl ?_
        refine g_icmp_ge (tgt := 46) dX6_clearColumns_19 rfl (by first | assumption | (unfold gW; omega) | (unfold gW; split <;> omega)) (by first | assumption | (unfold gW; omega) | (unfold gW; split <;> omega)) (fun c202 => ?_) (fun c202 => ?_)
        · skip
          refine g_aload_n 3 dX6_clearColumns_46 rfl ?_
          refine g_getf 3 dX6_clearColumns_47 kX6 (by decide) fX6_15 cf_lr_0 rfl ?_
          refine g_iload_n 1 dX6_clearColumns_50 rfl ?_
          refine g_iconst dX6_clearColumns_51 ?_
          refine g_iastore dX6_clearColumns_52 cf_lr_2 (by omega) (by omega) (by omega) ?_
          obtain ⟨hh203, eh203⟩ : ∃ z : GH, z = hset hlr (f + 14) (aI 40 (gup (gv) (c) (-1))) := ⟨_, rfl⟩
          refine Go.hp eh203.symm ?_
          have fh203_0 : hh203.2 (f + 12) = some (oB 6 [.ref (B + 1), .ref (B + 7), .ref (f + 13), .ref (f + 14), .ref (f + 15), .ref (f + 17), .ref (f + 19), .int (gI (sz))]) := hs_n eh203 (show NE (f + 12) (f + 14) by unfold NE; omega) cf_lr_0
          have fh203_1 : hh203.2 (f + 13) = some (aJ 1600 (gg)) := hs_n eh203 (show NE (f + 13) (f + 14) by unfold NE; omega) cf_lr_1
          have fh203_2 : hh203.2 (f + 14) = some (aI 40 (gup (gv) (c) (-1))) := hs_s eh203
          have fh203_3 : hh203.2 (B + 1) = some (oB 1 [.int (gI ((p : Int)))]) := hs_n eh203 (show NE (B + 1) (f + 14) by unfold NE; omega) cf_lr_3
          have fr203 : Fr [f + 13] h hh203 := Fr.w1 fr_lr (List.Mem.head _) eh203
          refine g_iload_n 0 dX6_clearColumns_53 rfl ?_
          refine g_aload_n 3 dX6_clearColumns_54 rfl ?_
          refine g_getf 7 dX6_clearColumns_55 kX6 (by decide) fX6_57 fh203_0 rfl ?_
          refine g_icmp_ge (tgt := 110) dX6_clearColumns_58 rfl (by first | assumption | (unfold gW; omega) | (unfold gW; split <;> omega)) (by first | assumption | (unfold gW; omega) | (unfold gW; split <;> omega)) (fun c204 => ?_) (fun c204 => ?_)
          · skip
            refine g_iinc 1 (ls2 := [(2, .int (gI (c + 1))), (3, .int (gI (row))), (1, .int (gI (q))), (0, .ref (f + 12))]) dX6_clearColumns_110 rfl (by decide) rfl ?_
            refine g_goto (tgt := 4) dX6_clearColumns_113 rfl ?_
            refine Go.sub [0, 2, 3] rfl ?_
            exact ih_lc _ (by omega) (c + 1) (q) (gg) (gup (gv) (c) (-1)) (pvp pv c.toNat none) hh203 rfl fr203 fh203_0 fh203_1 fh203_2 fh203_3 (by omega) (by omega) hbd (by
                                                                      rw [show (c + 1).toNat = c.toNat + 1 by omega]
                                                                      exact RR_free (fR hp) hRR (fun i i0 i1 => by
                                                                        letI := fR hp
                                                                        show zi hp (gg ((i : Int) * sz + (c.toNat : Int))) = 0
                                                                        rw [show ((c.toNat : Nat) : Int) = c by omega, hZ i (by omega) (by omega)]; exact zi_0 hp)) hKr (fun k k0 k1 => by
                                                                      unfold gup pvI pvp
                                                                      by_cases z : k = c
                                                                      · rw [if_pos z, if_pos (by omega)]
                                                                      · rw [if_neg z, if_neg (show ¬ k.toNat = c.toNat by omega)]; exact hpv k k0 (by omega))
          · skip
            exfalso; omega
        · skip
          have hbr := ix_bd40 (sz := sz) (show 0 ≤ row by omega) (show row < sz by omega) hc.1 (show c < sz by omega) hsz.2
          have hgr := hbd row c (by omega) (by omega) (by omega) (by omega)
          have hgxr : gX (gg (row * sz + c)) := by unfold gX; omega
          refine g_aload_n 3 dX6_clearColumns_22 rfl ?_
          refine g_getf 2 dX6_clearColumns_23 kX6 (by decide) fX6_9 cf_lr_0 rfl ?_
          refine g_iload_n 0 dX6_clearColumns_26 rfl ?_
          refine g_aload_n 3 dX6_clearColumns_27 rfl ?_
          refine g_getf 7 dX6_clearColumns_28 kX6 (by decide) fX6_57 cf_lr_0 rfl ?_
          refine g_imul dX6_clearColumns_31 ?_
          refine g_iload_n 1 dX6_clearColumns_32 rfl ?_
          refine g_iadd dX6_clearColumns_33 ?_
          refine g_laload dX6_clearColumns_34 cf_lr_1 (by omega) (by omega) (by omega) ?_
          refine g_lconst0 dX6_clearColumns_35 ?_
          refine g_lcmp dX6_clearColumns_36 (by first | assumption | (unfold gX; omega)) (by unfold gX; omega) ?_
          refine g_if_ne (tgt := 46) dX6_clearColumns_37 rfl (gW_cmp _ _) (fun c205 => ?_) (fun c205 => ?_)
          · skip
            have hnz : ¬ gg (row * sz + c) = 0 := fun z => c205 (gcmp_eq.mpr z)
            refine g_aload_n 3 dX6_clearColumns_46 rfl ?_
            refine g_getf 3 dX6_clearColumns_47 kX6 (by decide) fX6_15 cf_lr_0 rfl ?_
            refine g_iload_n 1 dX6_clearColumns_50 rfl ?_
            refine g_iconst dX6_clearColumns_51 ?_
            refine g_iastore dX6_clearColumns_52 cf_lr_2 (by omega) (by omega) (by omega) ?_
            obtain ⟨hh206, eh206⟩ : ∃ z : GH, z = hset hlr (f + 14) (aI 40 (gup (gv) (c) (-1))) := ⟨_, rfl⟩
            refine Go.hp eh206.symm ?_
            have fh206_0 : hh206.2 (f + 12) = some (oB 6 [.ref (B + 1), .ref (B + 7), .ref (f + 13), .ref (f + 14), .ref (f + 15), .ref (f + 17), .ref (f + 19), .int (gI (sz))]) := hs_n eh206 (show NE (f + 12) (f + 14) by unfold NE; omega) cf_lr_0
            have fh206_1 : hh206.2 (f + 13) = some (aJ 1600 (gg)) := hs_n eh206 (show NE (f + 13) (f + 14) by unfold NE; omega) cf_lr_1
            have fh206_2 : hh206.2 (f + 14) = some (aI 40 (gup (gv) (c) (-1))) := hs_s eh206
            have fh206_3 : hh206.2 (B + 1) = some (oB 1 [.int (gI ((p : Int)))]) := hs_n eh206 (show NE (B + 1) (f + 14) by unfold NE; omega) cf_lr_3
            have fr206 : Fr [f + 13] h hh206 := Fr.w1 fr_lr (List.Mem.head _) eh206
            refine g_iload_n 0 dX6_clearColumns_53 rfl ?_
            refine g_aload_n 3 dX6_clearColumns_54 rfl ?_
            refine g_getf 7 dX6_clearColumns_55 kX6 (by decide) fX6_57 fh206_0 rfl ?_
            refine g_icmp_ge (tgt := 110) dX6_clearColumns_58 rfl (by first | assumption | (unfold gW; omega) | (unfold gW; split <;> omega)) (by first | assumption | (unfold gW; omega) | (unfold gW; split <;> omega)) (fun c207 => ?_) (fun c207 => ?_)
            · skip
              exfalso; omega
            · skip
              refine g_aload_n 3 dX6_clearColumns_61 rfl ?_
              refine g_iload_n 0 dX6_clearColumns_62 rfl ?_
              refine g_iload_n 2 dX6_clearColumns_63 rfl ?_
              refine g_iload_n 1 dX6_clearColumns_64 rfl ?_
              refine g_callV (nc2 := 0) (ns2 := 0) (ci := 6) (As := [.int (gI (row)), .int (gI (q)), .int (gI (c))]) (st := []) rfl dX6_clearColumns_65 okX6_raiseRow lX6_111 itX6_raiseRow seX6_raiseRow rfl fh206_0 (by decide) (by decide) rfl (Nat.le_of_ble_eq_true rfl) (sF_raiseRow N _ B f p hp hp2 hBf sz hsz gg _ (fun i k i0 i1 k0 k1 => hbd i k i0 i1 k0 k1) row q c (by omega) (by omega) (by omega) fh206_0 fh206_1 fh206_2 fh206_3) (by omega) (by omega) (fun v208 hc208 q208 => ?_)
              obtain ⟨rfl, frc209, n13_209, n14_209⟩ := q208
              have fk210_0 : hc208.2 (f + 12) = some (oB 6 [.ref (B + 1), .ref (B + 7), .ref (f + 13), .ref (f + 14), .ref (f + 15), .ref (f + 17), .ref (f + 19), .int (gI (sz))]) := Fr.at0 frc209 (Ni.c ⟨show NE (f + 12) (f + 13) by unfold NE; omega, show NE (f + 12) (f + 13 + 1) by unfold NE; omega⟩ (Ni.n _)) fh206_0
              have fk210_3 : hc208.2 (B + 1) = some (oB 1 [.int (gI ((p : Int)))]) := Fr.at0 frc209 (Ni.c ⟨show NE (B + 1) (f + 13) by unfold NE; omega, show NE (B + 1) (f + 13 + 1) by unfold NE; omega⟩ (Ni.n _)) fh206_3
              have fr210 : Fr [f + 13] h hc208 := (fr206).tr ((frc209).mo (sub_c (List.Mem.head _) sub_n))
              refine Go.nf (h' := hc208) (st' := []) rfl rfl (Nat.le_refl _) (Nat.le_refl _) ?_
              refine g_iconst dX6_clearColumns_68 ?_
              refine g_istore (ls2 := [(4, .int (gI (0))), (3, .int (gI (row))), (2, .int (gI (c))), (1, .int (gI (q))), (0, .ref (f + 12))]) dX6_clearColumns_69 (by decide) rfl ?_
              have lo : ∀ (kk : Nat) (o : Int) (gz : Int → Int) (hlo : GH), kk = (40 - o).toNat → Fr [f + 13] h hlo → hlo.2 (f + 12) = some (oB 6 [.ref (B + 1), .ref (B + 7), .ref (f + 13), .ref (f + 14), .ref (f + 15), .ref (f + 17), .ref (f + 19), .int (gI (sz))]) → hlo.2 (B + 1) = some (oB 1 [.int (gI ((p : Int)))]) → hlo.2 (f + 13) = some (aJ 1600 (gz)) → hlo.2 (f + 14) = some (aI 40 (gup (gv) (c) (-1))) → (0 ≤ o ∧ o ≤ sz) → (gBd p gz sz) → (∀ i k : Nat, (i : Int) < sz → (k : Int) < sz → gM hp gz sz i k = if (i : Int) < o then clR (fR hp) (rsR (fR hp) (gM hp gg sz) row.toNat q.toNat (zi hp (ivr p (gg (row * sz + c))))) q.toNat c.toNat i k else (rsR (fR hp) (gM hp gg sz) row.toNat q.toNat (zi hp (ivr p (gg (row * sz + c))))) i k) → Go N mX6_clearColumns (fun v h1 => Fr [f + 13] h h1 ∧ ∃ q gg gv pv, h1.2 (f + 13) = some (aJ 1600 gg) ∧ h1.2 (f + 14) = some (aI 40 gv) ∧ v = some (.int (gI q)) ∧ (0 ≤ q ∧ q ≤ sz) ∧ gBd p gg sz ∧ RR (fR hp) sz.toNat sz.toNat q.toNat pv (gM hp gg sz) ∧ (∀ v, krn (fR hp) sz.toNat (gM hp gg sz) v ↔ krn (fR hp) sz.toNat (gM hp gg0 sz) v) ∧ ∀ k : Int, 0 ≤ k → k < sz → gv k = pvI pv k.toNat) 0 0 hlo 71 [(4, .int (gI (o))), (3, .int (gI (row))), (2, .int (gI (c))), (1, .int (gI (q))), (0, .ref (f + 12))] [] := by
                refine Go.ind (fun kk ih_lo => ?_)
                intro o gz hlo hkk_lo fr_lo cf_lo_0 cf_lo_1 cf_lo_2 cf_lo_3 ho hbz hM
                refine g_iload 0 dX6_clearColumns_71 rfl ?_
                refine g_aload_n 4 dX6_clearColumns_73 rfl ?_
                refine g_getf 7 dX6_clearColumns_74 kX6 (by decide) fX6_57 cf_lo_0 rfl ?_
                refine g_icmp_ge (tgt := 100) dX6_clearColumns_77 rfl (by first | assumption | (unfold gW; omega) | (unfold gW; split <;> omega)) (by first | assumption | (unfold gW; omega) | (unfold gW; split <;> omega)) (fun c311 => ?_) (fun c311 => ?_)
                · skip
                  refine g_aload_n 4 dX6_clearColumns_100 rfl ?_
                  refine g_getf 3 dX6_clearColumns_101 kX6 (by decide) fX6_15 cf_lo_0 rfl ?_
                  refine g_iload_n 2 dX6_clearColumns_104 rfl ?_
                  refine g_iload_n 3 dX6_clearColumns_105 rfl ?_
                  refine g_iastore dX6_clearColumns_106 cf_lo_3 (by omega) (by omega) (by omega) ?_
                  obtain ⟨hh312, eh312⟩ : ∃ z : GH, z = hset hlo (f + 14) (aI 40 (gup (gup (gv) (c) (-1)) (c) (q))) := ⟨_, rfl⟩
                  refine Go.hp eh312.symm ?_
                  have fh312_0 : hh312.2 (f + 12) = some (oB 6 [.ref (B + 1), .ref (B + 7), .ref (f + 13), .ref (f + 14), .ref (f + 15), .ref (f + 17), .ref (f + 19), .int (gI (sz))]) := hs_n eh312 (show NE (f + 12) (f + 14) by unfold NE; omega) cf_lo_0
                  have fh312_1 : hh312.2 (B + 1) = some (oB 1 [.int (gI ((p : Int)))]) := hs_n eh312 (show NE (B + 1) (f + 14) by unfold NE; omega) cf_lo_1
                  have fh312_2 : hh312.2 (f + 13) = some (aJ 1600 (gz)) := hs_n eh312 (show NE (f + 13) (f + 14) by unfold NE; omega) cf_lo_2
                  have fh312_3 : hh312.2 (f + 14) = some (aI 40 (gup (gup (gv) (c) (-1)) (c) (q))) := hs_s eh312
                  have fr312 : Fr [f + 13] h hh312 := Fr.w1 fr_lo (List.Mem.head _) eh312
                  refine g_iinc 3 (ls2 := [(1, .int (gI (q + 1))), (4, .int (gI (o))), (3, .int (gI (row))), (2, .int (gI (c))), (0, .ref (f + 12))]) dX6_clearColumns_107 rfl (by decide) rfl ?_
                  refine g_iinc 3 (ls2 := [(2, .int (gI (c + 1))), (1, .int (gI (q + 1))), (4, .int (gI (o))), (3, .int (gI (row))), (0, .ref (f + 12))]) dX6_clearColumns_110 rfl (by decide) rfl ?_
                  refine g_goto (tgt := 4) dX6_clearColumns_113 rfl ?_
                  refine Go.sub [0, 1, 4] rfl ?_
                  exact ih_lc _ (by omega) (c + 1) (q + 1) (gz) (gup (gup (gv) (c) (-1)) (c) (q)) (pvp pv c.toNat (some q.toNat)) hh312 rfl fr312 fh312_0 fh312_2 fh312_3 fh312_1 (by omega) (by omega) hbz (by
                                                                      rw [show (c + 1).toNat = c.toNat + 1 by omega, show (q + 1).toNat = q.toNat + 1 by omega]
                                                                      refine RR_cg (fR hp) (by omega) (fun i k i1 k1 => ?_) (RR_step (fR hp) hRR (a := row.toNat) (d := zi hp (ivr p (gg (row * sz + c)))) (by omega) (by omega) ?_)
                                                                      · rw [hM i k (by omega) (by omega), if_pos (by omega)]
                                                                      · letI := fR hp
                                                                        have e9 := ivr_zi hp (a := gg (row * sz + c)) (by omega) (by omega)
                                                                        show zi hp (gg ((row.toNat : Int) * sz + (c.toNat : Int))) * _ = 1
                                                                        rw [show ((row.toNat : Nat) : Int) = row by omega, show ((c.toNat : Nat) : Int) = c by omega, ← e9]
                                                                        grind) (fun v => by
                                                                      rw [← hKr v, krn_cM (fR hp) (fun i k i1 k1 => (hM i k (by omega) (by omega)).trans (if_pos (by omega))) v, krn_cl (fR hp) (by omega)]
                                                                      refine krn_rs (fR hp) (d := zi hp (gg (row * sz + c))) (by omega) (by omega) ?_
                                                                      exact ivr_zi hp (by omega) (by omega)) (fun k k0 k1 => by
                                                                      unfold gup pvI pvp
                                                                      by_cases z : k = c
                                                                      · rw [if_pos z, if_pos (show k.toNat = c.toNat by omega)]
                                                                        show q = ((q.toNat : Nat) : Int)
                                                                        omega
                                                                      · rw [if_neg z, if_neg z, if_neg (show ¬ k.toNat = c.toNat by omega)]; exact hpv k k0 (by omega))
                · skip
                  refine g_iload 0 dX6_clearColumns_80 rfl ?_
                  refine g_iload_n 3 dX6_clearColumns_82 rfl ?_
                  refine g_icmp_eq (tgt := 94) dX6_clearColumns_83 rfl (by first | assumption | (unfold gW; omega) | (unfold gW; split <;> omega)) (by first | assumption | (unfold gW; omega) | (unfold gW; split <;> omega)) (fun c313 => ?_) (fun c313 => ?_)
                  · skip
                    refine g_iinc 0 (ls2 := [(4, .int (gI (o + 1))), (3, .int (gI (row))), (2, .int (gI (c))), (1, .int (gI (q))), (0, .ref (f + 12))]) dX6_clearColumns_94 rfl (by decide) rfl ?_
                    refine g_goto (tgt := 71) dX6_clearColumns_97 rfl ?_
                    exact ih_lo _ (by omega) (o + 1) (gz) hlo rfl fr_lo cf_lo_0 cf_lo_1 cf_lo_2 cf_lo_3 (by omega) hbz (fun i k i1 k1 => by
                                                                      rw [hM i k i1 k1]
                                                                      by_cases z : (i : Int) < o
                                                                      · rw [if_pos z, if_pos (by omega)]
                                                                      · rw [if_neg z]
                                                                        by_cases y : (i : Int) < o + 1
                                                                        · rw [if_pos y, show i = q.toNat by omega, clR_q]
                                                                        · rw [if_neg y])
                  · skip
                    refine g_aload_n 4 dX6_clearColumns_86 rfl ?_
                    refine g_iload 0 dX6_clearColumns_87 rfl ?_
                    refine g_iload_n 3 dX6_clearColumns_89 rfl ?_
                    refine g_iload_n 2 dX6_clearColumns_90 rfl ?_
                    refine g_callV (nc2 := 0) (ns2 := 0) (ci := 6) (As := [.int (gI (o)), .int (gI (q)), .int (gI (c))]) (st := []) rfl dX6_clearColumns_91 okX6_clearRow lX6_115 itX6_clearRow seX6_clearRow rfl cf_lo_0 (by decide) (by decide) rfl (Nat.le_of_ble_eq_true rfl) (sF_clearRow N _ B f p hp hp2 hBf sz hsz gz _ (fun i k i0 i1 k0 k1 => hbz i k i0 i1 k0 k1) o q c (by omega) (by omega) (by omega) cf_lo_0 cf_lo_2 cf_lo_3 cf_lo_1) (by omega) (by omega) (fun v314 hc314 q314 => ?_)
                    obtain ⟨rfl, frc315, n13_315, n14_315⟩ := q314
                    have fk316_0 : hc314.2 (f + 12) = some (oB 6 [.ref (B + 1), .ref (B + 7), .ref (f + 13), .ref (f + 14), .ref (f + 15), .ref (f + 17), .ref (f + 19), .int (gI (sz))]) := Fr.at0 frc315 (Ni.c ⟨show NE (f + 12) (f + 13) by unfold NE; omega, show NE (f + 12) (f + 13 + 1) by unfold NE; omega⟩ (Ni.n _)) cf_lo_0
                    have fk316_1 : hc314.2 (B + 1) = some (oB 1 [.int (gI ((p : Int)))]) := Fr.at0 frc315 (Ni.c ⟨show NE (B + 1) (f + 13) by unfold NE; omega, show NE (B + 1) (f + 13 + 1) by unfold NE; omega⟩ (Ni.n _)) cf_lo_1
                    have fr316 : Fr [f + 13] h hc314 := (fr_lo).tr ((frc315).mo (sub_c (List.Mem.head _) sub_n))
                    refine Go.nf (h' := hc314) (st' := []) rfl rfl (Nat.le_refl _) (Nat.le_refl _) ?_
                    refine g_iinc 0 (ls2 := [(4, .int (gI (o + 1))), (3, .int (gI (row))), (2, .int (gI (c))), (1, .int (gI (q))), (0, .ref (f + 12))]) dX6_clearColumns_94 rfl (by decide) rfl ?_
                    refine g_goto (tgt := 71) dX6_clearColumns_97 rfl ?_
                    exact ih_lo _ (by omega) (o + 1) (if gz (o * sz + c) = 0 then gz else clG p gz sz o q (gz (o * sz + c)) c sz) hc314 rfl fr316 fk316_0 fk316_1 n13_315 n14_315 (by omega) (clr_bd hp hbz) (fun i k i1 k1 => by
                                                                      obtain ⟨on, rfl⟩ : ∃ n : Nat, o = n := ⟨o.toNat, by omega⟩
                                                                      have hq1 : ∀ k : Nat, (k : Int) < sz → gM hp gz sz q.toNat k = (rsR (fR hp) (gM hp gg sz) row.toNat q.toNat (zi hp (ivr p (gg (row * sz + c))))) q.toNat k := fun k hk => by
                                                                        rw [hM q.toNat k (by omega) hk]
                                                                        split
                                                                        · exact clR_q _ _ _ _ _
                                                                        · rfl
                                                                      rw [clr_M hp (i := on) (by omega) hc.1 k1 (fun k hk => by
                                                                        letI := fR hp
                                                                        rw [hq1 k (by omega), rsR_q, RR_low (fR hp) hRR (show q.toNat ≤ row.toNat by omega) (by omega) (show k < c.toNat by omega)]
                                                                        grind), hq1 k k1]
                                                                      by_cases y : i = on
                                                                      · rw [if_pos y, if_pos (by omega), clR_n _ _ (show i ≠ q.toNat by omega), hM i k i1 k1, if_neg (by omega), hM i c.toNat i1 (by omega), if_neg (by omega)]
                                                                      · rw [if_neg y, hM i k i1 k1]
                                                                        by_cases z : (i : Int) < on
                                                                        · rw [if_pos z, if_pos (by omega)]
                                                                        · rw [if_neg z, if_neg (by omega)])
              exact lo _ (0) (rsG p gg sz row q (ivr p (gg (row * sz + c))) sz) hc208 rfl fr210 fk210_0 fk210_3 n13_209 n14_209 (by omega) (rsG_bd hp hbd (by omega) (by omega)) (fun i k i1 k1 => by rw [if_neg (by omega)]; exact rsG_M hp (by omega) (by omega) k1)
          · skip
            have hz0 := gcmp_eq.mp c205
            refine g_iinc 0 (ls2 := [(3, .int (gI (row + 1))), (2, .int (gI (c))), (1, .int (gI (q))), (0, .ref (f + 12))]) dX6_clearColumns_40 rfl (by decide) rfl ?_
            refine g_goto (tgt := 14) dX6_clearColumns_43 rfl ?_
            exact ih_lr _ (by omega) (row + 1) hlr rfl fr_lr cf_lr_0 cf_lr_1 cf_lr_2 cf_lr_3 (by omega) (fun t t0 t1 => by
                                                                      rcases Int.lt_or_le t row with z | z
                                                                      · exact hZ t t0 z
                                                                      · rw [show t = row by omega]; exact hz0)
      exact lr _ (q) hlc rfl fr_lc cf_lc_0 cf_lc_1 cf_lc_2 cf_lc_3 (by omega) (fun t t0 t1 => by omega)
  exact lc _ (0) (0) (gg0) (gv0) (fun _ => none) h rfl (Fr.rf [f + 13] h) hsp hg hv hfl (by omega) (by omega) hgb (RR_0 (fR hp) _ _ _) (fun _ => Iff.rfl) (fun k k0 k1 => by omega)
