section
/-- rows of the list that are still to be made -/
def nn (g : Int → Option Nat) : Int → Nat → Nat
  | _, 0 => 0
  | i, k + 1 => (if g i = none then 1 else 0) + nn g (i + 1) k
theorem nn_le (g : Int → Option Nat) : ∀ (k : Nat) (i : Int), nn g i k ≤ k
  | 0, _ => Nat.le_refl _
  | k + 1, i => by
    show (if g i = none then 1 else 0) + nn g (i + 1) k ≤ k + 1
    have := nn_le g k (i + 1)
    split <;> omega
theorem nn_cg {g g2 : Int → Option Nat} : ∀ (k : Nat) (i : Int), (∀ j, i ≤ j → g2 j = g j) → nn g2 i k = nn g i k
  | 0, _, _ => rfl
  | k + 1, i, h => by
    show (if g2 i = none then 1 else 0) + nn g2 (i + 1) k = (if g i = none then 1 else 0) + nn g (i + 1) k
    rw [h i (by omega), nn_cg k (i + 1) (fun j hj => h j (by omega))]
theorem nn_pos {g : Int → Option Nat} {i : Int} (hi : i < 40) (h : g i = none) : 1 ≤ nn g i (40 - i).toNat := by
  rw [show (40 - i).toNat = (40 - (i + 1)).toNat + 1 by omega]
  show 1 ≤ (if g i = none then 1 else 0) + nn g (i + 1) _
  rw [if_pos h]; omega
theorem nn_some {g : Int → Option Nat} {i : Int} {r : Nat} (hi : i < 40) (h : g i = some r) : nn g i (40 - i).toNat = nn g (i + 1) (40 - (i + 1)).toNat := by
  rw [show (40 - i).toNat = (40 - (i + 1)).toNat + 1 by omega]
  show (if g i = none then 1 else 0) + nn g (i + 1) _ = _
  rw [if_neg (by rw [h]; simp)]; omega
theorem nn_none {g g2 : Int → Option Nat} {i : Int} {r : Nat} (hi : i < 40) (h : g i = none) (h1 : g2 i = some r) (h2 : ∀ j, j ≠ i → g2 j = g j) : nn g2 i (40 - i).toNat + 1 = nn g i (40 - i).toNat := by
  rw [nn_some hi h1, nn_cg _ (i + 1) (fun j hj => h2 j (by omega)), show (40 - i).toNat = (40 - (i + 1)).toNat + 1 by omega]
  show _ = (if g i = none then 1 else 0) + nn g (i + 1) _
  rw [if_pos h]; omega
end
set_option maxHeartbeats 4000000 in
set_option maxRecDepth 100000 in
theorem sF_split (N : GN) (h : GH) (B f p : Nat) (hp : prm p) (hp2 : p ≤ 65536) (hBf : B + 58 ≤ f) (h0 : GH) (gr0 gp0 gr gp : Int → Option Nat) (gt gq gR : Int → Int) (n pn rn tg le sz0 st : Int) (Q0 : Int → Px p) (fw : Px p) (hst : 0 ≤ st ∧ st + dgi hp fw ≤ 40) (hfw : 1 ≤ dgi hp fw) (hmn : mnc hp fw) (hsq : sqf hp fw) (hF : FW hp B f h0 gr0 gp0 h gr gp gt gq gR n pn rn tg le sz0 st Q0) (hw : PW p B h) (h10 : RP hp 84 h (f + 10) fw) : Sp N yX6_split mX6_split (2 * (40 - st).toNat) (86 * (40 - st).toNat) [.ref (f + 12), .ref (f + 10), .ref (f + 1), .int (gI (st))] h (fun v h1 => PW p B h1 ∧ KP f h h1 ∧ ∃ e1 gr1 Q1, v = some (.int (gI e1)) ∧ st + 1 ≤ e1 ∧ e1 ≤ st + dgi hp fw ∧ spS hp fw st e1 Q1 Q0 ∧ (∀ i : Int, st ≤ i → i < e1 → irr (fR hp) (Q1 i)) ∧ ∃ sz1, FW hp B f h0 gr0 gp0 h1 gr1 gp gt gq gR n pn rn tg le sz1 e1 Q1) := by
  refine Sp.of (by decide) rfl rfl (Nat.le_of_ble_eq_true rfl) ?_
  show Go N mX6_split _ (2 * (40 - st).toNat) (86 * (40 - st).toNat) h 0 [(0, .ref (f + 12)), (1, .ref (f + 10)), (2, .ref (f + 1)), (3, .int (gI (st)))] []
  have hp1 := hp.1
  refine g_aload_n 2 dX6_split_0 rfl ?_
  refine g_iload_n 3 dX6_split_1 rfl ?_
  refine Go.wf (fun wf2 => ?_)
  refine g_callS (nc2 := 2) (ns2 := 86) (As := [.ref (f + 1), .int (gI (st))]) (st := []) rfl dX6_split_2 okX5_in lX6_42 stX5_in (by decide) (by decide) rfl (Nat.le_of_ble_eq_true rfl) (sW_in N _ hp B f h0 gr0 gp0 (gr) gp gt gq gR n pn rn tg le sz0 st (Q0) (st) (by omega) wf2 hF) (by omega) (by omega) (fun v1 hc1 q1 => ?_)
  obtain ⟨r2, g2, rfl, ga2, gb2, gc2, gd2, ge2, gf2⟩ := q1
  have ri2_1 : PW p B hc1 := PW.fk1 hw hBf ge2
  have ri2_2 : KP f h hc1 := KP.fk (KP.rf f h) ge2
  have ri2_3 : RP hp 84 hc1 (f + 10) (fw) := (h10).of1 (fun x e hx he => ge2.2 x e he (show _ ≠ _ by omega))
  refine Go.nf (h' := hc1) (st' := [.ref (r2)]) rfl rfl (Nat.le_refl _) (Nat.le_refl _) ?_
  refine g_aload_n 1 dX6_split_5 rfl ?_
  have hdc := (ri2_3).lt
  refine g_callV (nc2 := 0) (ns2 := 0) (ci := 5) (As := [.ref (f + 10)]) (st := []) rfl dX6_split_6 okX5_copy lX6_46 itX5_copy seX5_copy rfl (Classical.choose_spec (RA.o gc2)) (by decide) (by decide) rfl (Nat.le_of_ble_eq_true rfl) (sP_copy N _ (r2) (f + 10) 84 84 p hp hp2 fw gc2 ri2_3 (by omega) (show AP (r2) (f + 10) by unfold AP; omega)) (by omega) (by omega) (fun v3 hc3 q3 => ?_)
  obtain ⟨rfl, frc4, rn4_0⟩ := q3
  have rk5_0 : PW p B hc3 := (ri2_1).fr2 frc4 (ok_c (by omega) (fun _ h => absurd h (List.not_mem_nil)))
  have rk5005_0 : RP hp 84 hc3 (f + 10) (fw) := (ri2_3).fr frc4 (Ai.c (show AP (f + 10) (r2) by unfold AP; omega) (Ai.n _))
  have kp5 : KP f h hc3 := KP.fr ri2_2 frc4 (kp_c (by omega) kp_n)
  refine Go.nf (h' := hc3) (st' := []) rfl rfl (Nat.le_refl _) (Nat.le_refl _) ?_
  have fw6 : FW hp B f h0 gr0 gp0 hc3 g2 gp gt gq gR n pn rn tg le sz0 (st + 1) (fun t => if t = st then fw else Q0 t) := FW.put gf2 ga2 (by omega) frc4 rn4_0
  refine g_iload_n 3 dX6_split_9 rfl ?_
  refine g_iconst dX6_split_10 ?_
  refine g_iadd dX6_split_11 ?_
  refine g_istore (ls2 := [(4, .int (gI ((st) + (1)))), (0, .ref (f + 12)), (1, .ref (f + 10)), (2, .ref (f + 1)), (3, .int (gI (st)))]) dX6_split_12 (by decide) rfl ?_
  refine g_aload_n 2 dX6_split_14 rfl ?_
  refine g_getf 1 dX6_split_15 kX5 (by decide) fX6_50 (rk5005_0).o rfl ?_
  refine g_iconst dX6_split_18 ?_
  refine g_icmp_ge (tgt := 25) dX6_split_19 rfl (by first | assumption | (unfold gW; omega) | (unfold gW; split <;> omega)) (by first | assumption | (unfold gW; omega) | (unfold gW; split <;> omega)) (fun c7 => ?_) (fun c7 => ?_)
  · skip
    refine g_aload_n 1 dX6_split_25 rfl ?_
    refine g_aload_n 2 dX6_split_26 rfl ?_
    obtain ⟨gg0, hgg0⟩ := (fw6).1.2.2.2.2.2.2.2.2.2.2.1
    refine g_callV (nc2 := 0) (ns2 := 0) (ci := 6) (As := [.ref (f + 10)]) (st := []) rfl dX6_split_27 okX6_fillGrid lX6_54 itX6_fillGrid seX6_fillGrid rfl (FW.sp fw6) (by decide) (by decide) rfl (Nat.le_of_ble_eq_true rfl) (sF_fillGrid N _ B f (f + 10) p hp hp2 hBf (by omega) (sz0) (dgi hp fw) fw rfl (by omega) gg0 (show AP (f + 10) (f + 12) by unfold AP; omega) (show AP (f + 10) (f + 15) by unfold AP; omega) (show AP (f + 10) (f + 17) by unfold AP; omega) (show AP (f + 10) (f + 19) by unfold AP; omega) rk5_0 (FW.sp fw6) hgg0 (FW.ra fw6 15 (by omega)) (FW.ra fw6 17 (by omega)) (FW.ra fw6 19 (by omega)) rk5005_0) (by omega) (by omega) (fun v8 hc8 q8 => ?_)
    obtain ⟨rfl, frc9, pw9, c13_9, c12_9, r15_9, r17_9, r19_9⟩ := q8
    have rk5010_0 : RP hp 84 hc8 (f + 10) (fw) := (rk5005_0).fr frc9 (Ai.c (show AP (f + 10) (f + 12) by unfold AP; omega) (Ai.c (show AP (f + 10) (f + 15) by unfold AP; omega) (Ai.c (show AP (f + 10) (f + 17) by unfold AP; omega) (Ai.c (show AP (f + 10) (f + 19) by unfold AP; omega) (Ai_pl (by omega))))))
    have kp10 : KP f h hc8 := KP.fr kp5 frc9 (kp_c (by omega) (kp_c (by omega) (kp_c (by omega) (kp_c (by omega) (kp_pl hBf)))))
    have fw11 : FW hp B f h0 gr0 gp0 hc8 g2 gp gt gq gR n pn rn tg le (dgi hp fw) (st + 1) (fun t => if t = st then fw else Q0 t) := FW.pr fw6 frc9 (fw_c (by omega) (fw_c (by omega) (fw_c (by omega) (fw_c (by omega) fw_pl)))) (six (Or.inl (Ai.c (show AP (f + 6) (f + 12) by unfold AP; omega) (Ai.c (show AP (f + 6) (f + 15) by unfold AP; omega) (Ai.c (show AP (f + 6) (f + 17) by unfold AP; omega) (Ai.c (show AP (f + 6) (f + 19) by unfold AP; omega) (Ai_pl (by omega))))))) (Or.inl (Ai.c (show AP (f + 8) (f + 12) by unfold AP; omega) (Ai.c (show AP (f + 8) (f + 15) by unfold AP; omega) (Ai.c (show AP (f + 8) (f + 17) by unfold AP; omega) (Ai.c (show AP (f + 8) (f + 19) by unfold AP; omega) (Ai_pl (by omega))))))) (Or.inl (Ai.c (show AP (f + 10) (f + 12) by unfold AP; omega) (Ai.c (show AP (f + 10) (f + 15) by unfold AP; omega) (Ai.c (show AP (f + 10) (f + 17) by unfold AP; omega) (Ai.c (show AP (f + 10) (f + 19) by unfold AP; omega) (Ai_pl (by omega))))))) (Or.inr r15_9) (Or.inr r17_9) (Or.inr r19_9)) (Or.inr c12_9) (Or.inr ⟨_, c13_9⟩) (Or.inl (Ni.c ⟨(show NE (f + 14) (f + 12) by unfold NE; omega), (show NE (f + 14) (f + 13) by unfold NE; omega)⟩ (Ni.c ⟨(show NE (f + 14) (f + 15) by unfold NE; omega), (show NE (f + 14) (f + 16) by unfold NE; omega)⟩ (Ni.c ⟨(show NE (f + 14) (f + 17) by unfold NE; omega), (show NE (f + 14) (f + 18) by unfold NE; omega)⟩ (Ni.c ⟨(show NE (f + 14) (f + 19) by unfold NE; omega), (show NE (f + 14) (f + 20) by unfold NE; omega)⟩ (Ni_pl (by omega)))))))
    obtain ⟨sz, hszd⟩ : ∃ sz : Int, sz = dgi hp fw := ⟨_, rfl⟩
    have fw12 : FW hp B f h0 gr0 gp0 hc8 g2 gp gt gq gR n pn rn tg le sz (st + 1) (fun t => if t = st then fw else Q0 t) := by rw [hszd]; exact fw11
    have c13z : hc8.2 (f + 13) = some (aJ 1600 (gfl (bgF hp fw (rm hp (pwp hp (xm (fR hp) (letI := fR hp; 1) 1) p) fw)) gg0 sz sz 0)) := by rw [hszd]; exact c13_9
    refine Go.nf (h' := hc8) (st' := []) rfl rfl (Nat.le_refl _) (Nat.le_refl _) ?_
    refine g_iload_n 4 dX6_split_30 rfl ?_
    refine g_aload_n 1 dX6_split_31 rfl ?_
    refine g_getf 7 dX6_split_32 kX6 (by decide) fX6_57 (FW.sp fw12) rfl ?_
    refine g_iadd dX6_split_35 ?_
    refine g_aload_n 1 dX6_split_36 rfl ?_
    obtain ⟨gv0, hgv0⟩ := (fw12).1.2.2.2.2.2.2.2.2.2.2.2.1
    refine g_callV (nc2 := 0) (ns2 := 0) (ci := 6) (As := []) (st := [.int (gI ((st) + (sz)))]) rfl dX6_split_37 okX6_clearColumns lX6_60 itX6_clearColumns seX6_clearColumns rfl (FW.sp fw12) (by decide) (by decide) rfl (Nat.le_of_ble_eq_true rfl) (sF_clearColumns N _ B f p hp hp2 hBf sz (by omega) _ gv0 (bgF_bd hp fw _ gg0 sz) (FW.sp fw12) c13z hgv0 (pw9).2.1) (by omega) (by omega) (fun v13 hc13 q13 => ?_)
    obtain ⟨frc14, rk, gg, gv, pv, c13y, c14y, rfl, hrk, hgb, hRR, hKr, hpv⟩ := q13
    have rk15_1 : PW p B hc13 := (pw9).fr2 frc14 (ok_c (by omega) (fun _ h => absurd h (List.not_mem_nil)))
    have rk5015_0 : RP hp 84 hc13 (f + 10) (fw) := (rk5010_0).fr frc14 (Ai.c (show AP (f + 10) (f + 13) by unfold AP; omega) (Ai.n _))
    have kp15 : KP f h hc13 := KP.fr kp10 frc14 (kp_c (by omega) kp_n)
    have fw16 : FW hp B f h0 gr0 gp0 hc13 g2 gp gt gq gR n pn rn tg le sz (st + 1) (fun t => if t = st then fw else Q0 t) := FW.pr fw12 frc14 (fw_c (by omega) fw_n) (six (Or.inl (Ai.c (show AP (f + 6) (f + 13) by unfold AP; omega) (Ai.n _))) (Or.inl (Ai.c (show AP (f + 8) (f + 13) by unfold AP; omega) (Ai.n _))) (Or.inl (Ai.c (show AP (f + 10) (f + 13) by unfold AP; omega) (Ai.n _))) (Or.inl (Ai.c (show AP (f + 15) (f + 13) by unfold AP; omega) (Ai.n _))) (Or.inl (Ai.c (show AP (f + 17) (f + 13) by unfold AP; omega) (Ai.n _))) (Or.inl (Ai.c (show AP (f + 19) (f + 13) by unfold AP; omega) (Ai.n _)))) (Or.inl ⟨(Ni.c ⟨(show NE (f + 12) (f + 13) by unfold NE; omega), (show NE (f + 12) (f + 14) by unfold NE; omega)⟩ (Ni.n _)), rfl⟩) (Or.inr ⟨_, c13y⟩) (Or.inr ⟨_, c14y⟩)
    have hdw : dg (fR hp) fw sz.toNat := by
                                                                      rw [hszd]; exact dgi_dg hp h10.po (by omega)
    have hK : ∀ v, dl (fR hp) v sz.toNat → (ker hp fw v ↔ krn (fR hp) sz.toNat (gM hp gg sz) v) := fun v hv => (bgF_ker hp hdw (by omega) gg0 (show sz = ((sz.toNat : Nat) : Int) by omega) v hv).trans (hKr v).symm
    have hnf := hRR.2.2.2.2.2
    have hvr : ∀ k : Int, 0 ≤ k → k < sz → -1 ≤ gv k ∧ gv k < sz := fun k k0 k1 => by
                                                                      rw [hpv k k0 k1]
                                                                      unfold pvI
                                                                      cases hc9 : pv k.toNat with
                                                                      | none => dsimp only; omega
                                                                      | some r => have := (hRR.1 k.toNat r (by omega) hc9).1; dsimp only; omega
    refine Go.nf (h' := hc13) (st' := [.int (gI (rk)), .int (gI ((st) + (sz)))]) rfl rfl (Nat.le_refl _) (Nat.le_refl _) ?_
    refine g_isub dX6_split_40 ?_
    refine g_aload_n 3 dX6_split_41 rfl ?_
    refine g_alen (n := 40) dX6_split_42 (by decide) (FW.ls fw16) ?_
    refine g_min dX6_split_43 lX6_64 (by first | assumption | (unfold gW; omega) | (unfold gW; split <;> omega)) (by first | assumption | (unfold gW; omega) | (unfold gW; split <;> omega)) (by decide) (Nat.le_of_ble_eq_true rfl) ?_
    obtain ⟨due, hduE⟩ : ∃ d : Int, d = (if ((40 : Nat) : Int) < ((st) + (sz)) - (rk) then ((40 : Nat) : Int) else ((st) + (sz)) - (rk)) := ⟨_, rfl⟩
    rw [← hduE]
    have hdue : due = st + nFr pv sz.toNat := by
                                                                      rw [hduE]
                                                                      split <;> omega
    refine g_istore (ls2 := [(5, .int (gI (due))), (4, .int (gI ((st) + (1)))), (0, .ref (f + 12)), (1, .ref (f + 10)), (2, .ref (f + 1)), (3, .int (gI (st)))]) dX6_split_46 (by decide) rfl ?_
    refine g_iconst dX6_split_48 ?_
    refine g_istore (ls2 := [(6, .int (gI (1))), (5, .int (gI (due))), (4, .int (gI ((st) + (1)))), (0, .ref (f + 12)), (1, .ref (f + 10)), (2, .ref (f + 1)), (3, .int (gI (st)))]) dX6_split_49 (by decide) rfl ?_
    have hS00 : spS hp fw st (st + 1) (fun t => if t = st then fw else Q0 t) Q0 := (spS_1 hp (dgi_dg hp h10.po (by omega)) (by omega) hmn (if_pos rfl) (fun i i0 i1 => if_neg (by omega)))
    have hnn0 := nn_le g2 (40 - (st + 1)).toNat (st + 1)
    have lc : ∀ (kk : Nat) (col : Int) (e : Int) (gr : Int → Option Nat) (Q : Int → Px p) (hlc : GH), kk = (40 - col).toNat → True → hlc.2 (f + 13) = some (aJ 1600 (gg)) → hlc.2 (f + 14) = some (aI 40 (gv)) → PW p B hlc → KP f h hlc → FW hp B f h0 gr0 gp0 hlc gr gp gt gq gR n pn rn tg le sz e (Q) → (1 ≤ col ∧ col ≤ sz) → (st + 1 ≤ e ∧ e ≤ due) → (spS hp fw st e Q Q0) → (e = due ∨ colS hp sz.toNat pv (gM hp gg sz) st e Q col.toNat) → Go N mX6_split (fun v h1 => PW p B h1 ∧ KP f h h1 ∧ ∃ e1 gr1 Q1, v = some (.int (gI e1)) ∧ st + 1 ≤ e1 ∧ e1 ≤ st + dgi hp fw ∧ spS hp fw st e1 Q1 Q0 ∧ (∀ i : Int, st ≤ i → i < e1 → irr (fR hp) (Q1 i)) ∧ ∃ sz1, FW hp B f h0 gr0 gp0 h1 gr1 gp gt gq gR n pn rn tg le sz1 e1 Q1) (2 * nn gr e (40 - e).toNat) (86 * nn gr e (40 - e).toNat) hlc 51 [(6, .int (gI (col))), (5, .int (gI (due))), (4, .int (gI (e))), (0, .ref (f + 12)), (1, .ref (f + 10)), (2, .ref (f + 1)), (3, .int (gI (st)))] [] := by
      refine Go.ind (fun kk ih_lc => ?_)
      intro col e gr Q hlc hkk_lc fr_lc cf_lc_0 cf_lc_1 cr_lc_0 cr_lc_1 cr_lc_2 hcol he hS hC
      refine g_iload 0 dX6_split_51 rfl ?_
      refine g_aload_n 3 dX6_split_53 rfl ?_
      refine g_getf 7 dX6_split_54 kX6 (by decide) fX6_57 (FW.sp cr_lc_2) rfl ?_
      refine g_icmp_ge (tgt := 212) dX6_split_57 rfl (by first | assumption | (unfold gW; omega) | (unfold gW; split <;> omega)) (by first | assumption | (unfold gW; omega) | (unfold gW; split <;> omega)) (fun c117 => ?_) (fun c117 => ?_)
      · skip
        refine g_iload 2 dX6_split_212 rfl ?_
        exact g_iret dX6_split_214 rfl ⟨cr_lc_0, cr_lc_1, _, _, _, rfl, by omega, by omega, hS, split_fin hp hdw hsq hS hRR hK hdue (by omega) hC (by omega) (by omega), ⟨_, cr_lc_2⟩⟩
      · skip
        refine g_iload 2 dX6_split_60 rfl ?_
        refine g_iload 1 dX6_split_62 rfl ?_
        refine g_icmp_ge (tgt := 212) dX6_split_64 rfl (by first | assumption | (unfold gW; omega) | (unfold gW; split <;> omega)) (by first | assumption | (unfold gW; omega) | (unfold gW; split <;> omega)) (fun c118 => ?_) (fun c118 => ?_)
        · skip
          refine g_iload 2 dX6_split_212 rfl ?_
          exact g_iret dX6_split_214 rfl ⟨cr_lc_0, cr_lc_1, _, _, _, rfl, by omega, by omega, hS, split_fin hp hdw hsq hS hRR hK hdue (by omega) hC (by omega) (by omega), ⟨_, cr_lc_2⟩⟩
        · skip
          have hgvc := hvr col (by omega) (by omega)
          refine g_aload_n 3 dX6_split_67 rfl ?_
          refine g_getf 3 dX6_split_68 kX6 (by decide) fX6_15 (FW.sp cr_lc_2) rfl ?_
          refine g_iload 0 dX6_split_71 rfl ?_
          refine g_iaload dX6_split_73 cf_lc_1 (by omega) (by omega) (by omega) ?_
          refine g_iconst dX6_split_74 ?_
          refine g_icmp_ne (tgt := 82) dX6_split_75 rfl (by first | assumption | (unfold gW; omega) | (unfold gW; split <;> omega)) (by first | assumption | (unfold gW; omega) | (unfold gW; split <;> omega)) (fun c119 => ?_) (fun c119 => ?_)
          · skip
            have hnn : pv col.toNat ≠ none := fun hc9 => by
                                                                      have e9 := hpv col (by omega) (by omega)
                                                                      unfold pvI at e9
                                                                      rw [hc9] at e9
                                                                      dsimp only at e9
                                                                      omega
            refine g_iconst dX6_split_82 ?_
            refine g_istore (ls2 := [(7, .int (gI (0))), (6, .int (gI (col))), (5, .int (gI (due))), (4, .int (gI (e))), (0, .ref (f + 12)), (1, .ref (f + 10)), (2, .ref (f + 1)), (3, .int (gI (st)))]) dX6_split_83 (by decide) rfl ?_
            refine g_iload 0 dX6_split_85 rfl ?_
            refine g_if_eq (tgt := 96) dX6_split_87 rfl (by first | assumption | (unfold gW; omega) | (unfold gW; split <;> omega)) (fun c120 => ?_) (fun c120 => absurd c120 (by omega))
            refine g_iconst dX6_split_96 ?_
            refine g_istore (ls2 := [(8, .int (gI (0))), (7, .int (gI (0))), (6, .int (gI (col))), (5, .int (gI (due))), (4, .int (gI (e))), (0, .ref (f + 12)), (1, .ref (f + 10)), (2, .ref (f + 1)), (3, .int (gI (st)))]) dX6_split_97 (by decide) rfl ?_
            refine g_iload 0 dX6_split_99 rfl ?_
            refine g_aload_n 5 dX6_split_101 rfl ?_
            refine g_getf 0 dX6_split_102 kX6 (by decide) fX6_34 (FW.sp cr_lc_2) rfl ?_
            refine g_getf 0 dX6_split_105 kX1 (by decide) fX6_73 (cr_lc_0).2.1 rfl ?_
            refine g_icmp_ge (tgt := 206) dX6_split_108 rfl (by first | assumption | (unfold gW; omega) | (unfold gW; split <;> omega)) (by first | assumption | (unfold gW; omega) | (unfold gW; split <;> omega)) (fun c121 => ?_) (fun c121 => ?_)
            · skip
              refine g_iinc 2 (ls2 := [(6, .int (gI (col + 1))), (8, .int (gI (0))), (7, .int (gI (0))), (5, .int (gI (due))), (4, .int (gI (e))), (0, .ref (f + 12)), (1, .ref (f + 10)), (2, .ref (f + 1)), (3, .int (gI (st)))]) dX6_split_206 rfl (by decide) rfl ?_
              refine g_goto (tgt := 51) dX6_split_209 rfl ?_
              refine Go.sub [0, 3, 4, 5, 6, 7, 8] rfl ?_
              exact Go.imp (by omega) (by omega) (ih_lc _ (by omega) (col + 1) (e) (gr) (Q) hlc rfl fr_lc cf_lc_0 cf_lc_1 cr_lc_0 cr_lc_1 cr_lc_2 (by omega) (by omega) hS (by
                                                                      rw [show (col + 1).toNat = col.toNat + 1 by omega]
                                                                      exact col_n hp hnn hC))
            · skip
              refine g_iload 1 dX6_split_111 rfl ?_
              refine g_if_eq (tgt := 206) dX6_split_113 rfl (by first | assumption | (unfold gW; omega) | (unfold gW; split <;> omega)) (fun c122 => ?_) (fun c122 => absurd c122 (by omega))
              refine g_iinc 2 (ls2 := [(6, .int (gI (col + 1))), (8, .int (gI (0))), (7, .int (gI (0))), (5, .int (gI (due))), (4, .int (gI (e))), (0, .ref (f + 12)), (1, .ref (f + 10)), (2, .ref (f + 1)), (3, .int (gI (st)))]) dX6_split_206 rfl (by decide) rfl ?_
              refine g_goto (tgt := 51) dX6_split_209 rfl ?_
              refine Go.sub [0, 3, 4, 5, 6, 7, 8] rfl ?_
              exact Go.imp (by omega) (by omega) (ih_lc _ (by omega) (col + 1) (e) (gr) (Q) hlc rfl fr_lc cf_lc_0 cf_lc_1 cr_lc_0 cr_lc_1 cr_lc_2 (by omega) (by omega) hS (by
                                                                      rw [show (col + 1).toNat = col.toNat + 1 by omega]
                                                                      exact col_n hp hnn hC))
          · skip
            have hpn : pv col.toNat = none := by
                                                                      have e9 := hpv col (by omega) (by omega)
                                                                      unfold pvI at e9
                                                                      cases hc9 : pv col.toNat with
                                                                      | none => rfl
                                                                      | some r => rw [hc9] at e9; dsimp only at e9; omega
            have hker : ker hp fw (bpv hp sz.toNat pv (gM hp gg sz) col.toNat) := (hK _ (bpv_dl hp _ _ _ _)).mpr (bpv_ker hp hRR (by omega) hpn)
            refine g_iconst dX6_split_78 ?_
            refine g_goto (tgt := 83) dX6_split_79 rfl ?_
            refine g_istore (ls2 := [(7, .int (gI (1))), (6, .int (gI (col))), (5, .int (gI (due))), (4, .int (gI (e))), (0, .ref (f + 12)), (1, .ref (f + 10)), (2, .ref (f + 1)), (3, .int (gI (st)))]) dX6_split_83 (by decide) rfl ?_
            refine g_iload 0 dX6_split_85 rfl ?_
            refine g_if_eq (tgt := 96) dX6_split_87 rfl (by first | assumption | (unfold gW; omega) | (unfold gW; split <;> omega)) (fun c123 => absurd c123 (by omega)) (fun c123 => ?_)
            refine g_aload_n 4 dX6_split_90 rfl ?_
            refine g_iload 1 dX6_split_91 rfl ?_
            refine g_callV (nc2 := 0) (ns2 := 0) (ci := 6) (As := [.int (gI (col))]) (st := []) rfl dX6_split_93 okX6_readVector lX6_70 itX6_readVector seX6_readVector rfl (FW.sp cr_lc_2) (by decide) (by decide) rfl (Nat.le_of_ble_eq_true rfl) (sF_readVector N _ B f p hp hp2 hBf sz col (by omega) (by omega) gg gv pv hgb hpv hvr (FW.sp cr_lc_2) cf_lc_0 cf_lc_1 (cr_lc_0).2.1 (FW.ra cr_lc_2 17 (by omega))) (by omega) (by omega) (fun v124 hc124 q124 => ?_)
            obtain ⟨rfl, frc125, rn125_0⟩ := q124
            have fk126_0 : hc124.2 (f + 13) = some (aJ 1600 (gg)) := Fr.at0 frc125 (Ni.c ⟨(show NE (f + 13) (f + 17) by unfold NE; omega), (show NE (f + 13) (f + 18) by unfold NE; omega)⟩ (Ni.n _)) cf_lc_0
            have fk126_1 : hc124.2 (f + 14) = some (aI 40 (gv)) := Fr.at0 frc125 (Ni.c ⟨(show NE (f + 14) (f + 17) by unfold NE; omega), (show NE (f + 14) (f + 18) by unfold NE; omega)⟩ (Ni.n _)) cf_lc_1
            have rk126_0 : PW p B hc124 := (cr_lc_0).fr2 frc125 (ok_c (by omega) (fun _ h => absurd h (List.not_mem_nil)))
            have kp126 : KP f h hc124 := KP.fr cr_lc_1 frc125 (kp_c (by omega) kp_n)
            refine Go.nf (h' := hc124) (st' := []) rfl rfl (Nat.le_refl _) (Nat.le_refl _) ?_
            have fw127 : FW hp B f h0 gr0 gp0 hc124 gr gp gt gq gR n pn rn tg le sz e (Q) := FW.pr cr_lc_2 frc125 (fw_c (by omega) fw_n) (six (Or.inl (Ai.c (show AP (f + 6) (f + 17) by unfold AP; omega) (Ai.n _))) (Or.inl (Ai.c (show AP (f + 8) (f + 17) by unfold AP; omega) (Ai.n _))) (Or.inl (Ai.c (show AP (f + 10) (f + 17) by unfold AP; omega) (Ai.n _))) (Or.inl (Ai.c (show AP (f + 15) (f + 17) by unfold AP; omega) (Ai.n _))) (Or.inr (rn125_0).ra) (Or.inl (Ai.c (show AP (f + 19) (f + 17) by unfold AP; omega) (Ai.n _)))) (Or.inl ⟨(Ni.c ⟨(show NE (f + 12) (f + 17) by unfold NE; omega), (show NE (f + 12) (f + 18) by unfold NE; omega)⟩ (Ni.n _)), rfl⟩) (Or.inl (Ni.c ⟨(show NE (f + 13) (f + 17) by unfold NE; omega), (show NE (f + 13) (f + 18) by unfold NE; omega)⟩ (Ni.n _))) (Or.inl (Ni.c ⟨(show NE (f + 14) (f + 17) by unfold NE; omega), (show NE (f + 14) (f + 18) by unfold NE; omega)⟩ (Ni.n _)))
            refine g_iconst dX6_split_96 ?_
            refine g_istore (ls2 := [(8, .int (gI (0))), (7, .int (gI (1))), (6, .int (gI (col))), (5, .int (gI (due))), (4, .int (gI (e))), (0, .ref (f + 12)), (1, .ref (f + 10)), (2, .ref (f + 1)), (3, .int (gI (st)))]) dX6_split_97 (by decide) rfl ?_
            have ls : ∀ (kk : Nat) (s : Int) (op : Int) (e1 : Int) (gr1 : Int → Option Nat) (Q1 : Int → Px p) (hls : GH), kk = (65536 - s).toNat → True → hls.2 (f + 13) = some (aJ 1600 (gg)) → hls.2 (f + 14) = some (aI 40 (gv)) → PW p B hls → KP f h hls → RP hp 84 hls (f + 17) (bpv hp sz.toNat pv (gM hp gg sz) col.toNat) → FW hp B f h0 gr0 gp0 hls gr1 gp gt gq gR n pn rn tg le sz e1 (Q1) → (0 ≤ s ∧ s ≤ p) → (op = 0 ∨ op = 1) → (st + 1 ≤ e1 ∧ e1 ≤ due) → (spS hp fw st e1 Q1 Q0) → (e1 = due ∨ (colS hp sz.toNat pv (gM hp gg sz) st e1 Q1 col.toNat ∧ ((op = 1 ∧ shS hp (bpv hp sz.toNat pv (gM hp gg sz) col.toNat) st e1 Q1 s) ∨ (op = 0 ∧ ∀ i : Int, st ≤ i → i < e1 → cst hp (bpv hp sz.toNat pv (gM hp gg sz) col.toNat) (Q1 i))))) → Go N mX6_split (fun v h1 => PW p B h1 ∧ KP f h h1 ∧ ∃ e1 gr1 Q1, v = some (.int (gI e1)) ∧ st + 1 ≤ e1 ∧ e1 ≤ st + dgi hp fw ∧ spS hp fw st e1 Q1 Q0 ∧ (∀ i : Int, st ≤ i → i < e1 → irr (fR hp) (Q1 i)) ∧ ∃ sz1, FW hp B f h0 gr0 gp0 h1 gr1 gp gt gq gR n pn rn tg le sz1 e1 Q1) (2 * nn gr1 e1 (40 - e1).toNat) (86 * nn gr1 e1 (40 - e1).toNat) hls 99 [(8, .int (gI (s))), (7, .int (gI (op))), (6, .int (gI (col))), (5, .int (gI (due))), (4, .int (gI (e1))), (0, .ref (f + 12)), (1, .ref (f + 10)), (2, .ref (f + 1)), (3, .int (gI (st)))] [] := by
              refine Go.ind (fun kk ih_ls => ?_)
              intro s op e1 gr1 Q1 hls hkk_ls fr_ls cf_ls_0 cf_ls_1 cr_ls_0 cr_ls_1 cr_ls_2 cr_ls_3 hs hop he1 hS1 hA
              refine g_iload 0 dX6_split_99 rfl ?_
              refine g_aload_n 5 dX6_split_101 rfl ?_
              refine g_getf 0 dX6_split_102 kX6 (by decide) fX6_34 (FW.sp cr_ls_3) rfl ?_
              refine g_getf 0 dX6_split_105 kX1 (by decide) fX6_73 (cr_ls_0).2.1 rfl ?_
              refine g_icmp_ge (tgt := 206) dX6_split_108 rfl (by first | assumption | (unfold gW; omega) | (unfold gW; split <;> omega)) (by first | assumption | (unfold gW; omega) | (unfold gW; split <;> omega)) (fun c228 => ?_) (fun c228 => ?_)
              · skip
                refine g_iinc 2 (ls2 := [(6, .int (gI (col + 1))), (8, .int (gI (s))), (7, .int (gI (op))), (5, .int (gI (due))), (4, .int (gI (e1))), (0, .ref (f + 12)), (1, .ref (f + 10)), (2, .ref (f + 1)), (3, .int (gI (st)))]) dX6_split_206 rfl (by decide) rfl ?_
                refine g_goto (tgt := 51) dX6_split_209 rfl ?_
                refine Go.sub [0, 3, 4, 5, 6, 7, 8] rfl ?_
                exact Go.imp (by omega) (by omega) (ih_lc _ (by omega) (col + 1) (e1) (gr1) (Q1) hls rfl fr_ls cf_ls_0 cf_ls_1 cr_ls_0 cr_ls_1 cr_ls_3 (by omega) (by omega) hS1 (by
                                                                      rw [show (col + 1).toNat = col.toNat + 1 by omega]
                                                                      exact col_e hp hsq hS1 hker hA (by omega) (by omega)))
              · skip
                refine g_iload 1 dX6_split_111 rfl ?_
                refine g_if_eq (tgt := 206) dX6_split_113 rfl (by first | assumption | (unfold gW; omega) | (unfold gW; split <;> omega)) (fun c229 => ?_) (fun c229 => ?_)
                · skip
                  refine g_iinc 2 (ls2 := [(6, .int (gI (col + 1))), (8, .int (gI (s))), (7, .int (gI (op))), (5, .int (gI (due))), (4, .int (gI (e1))), (0, .ref (f + 12)), (1, .ref (f + 10)), (2, .ref (f + 1)), (3, .int (gI (st)))]) dX6_split_206 rfl (by decide) rfl ?_
                  refine g_goto (tgt := 51) dX6_split_209 rfl ?_
                  refine Go.sub [0, 3, 4, 5, 6, 7, 8] rfl ?_
                  exact Go.imp (by omega) (by omega) (ih_lc _ (by omega) (col + 1) (e1) (gr1) (Q1) hls rfl fr_ls cf_ls_0 cf_ls_1 cr_ls_0 cr_ls_1 cr_ls_3 (by omega) (by omega) hS1 (by
                                                                      rw [show (col + 1).toNat = col.toNat + 1 by omega]
                                                                      exact col_e hp hsq hS1 hker hA (by omega) (by omega)))
                · skip
                  refine g_iload 4 dX6_split_116 rfl ?_
                  refine g_iload 3 dX6_split_118 rfl ?_
                  refine g_icmp_ge (tgt := 206) dX6_split_120 rfl (by first | assumption | (unfold gW; omega) | (unfold gW; split <;> omega)) (by first | assumption | (unfold gW; omega) | (unfold gW; split <;> omega)) (fun c230 => ?_) (fun c230 => ?_)
                  · skip
                    refine g_iinc 2 (ls2 := [(6, .int (gI (col + 1))), (8, .int (gI (s))), (7, .int (gI (op))), (5, .int (gI (due))), (4, .int (gI (e1))), (0, .ref (f + 12)), (1, .ref (f + 10)), (2, .ref (f + 1)), (3, .int (gI (st)))]) dX6_split_206 rfl (by decide) rfl ?_
                    refine g_goto (tgt := 51) dX6_split_209 rfl ?_
                    refine Go.sub [0, 3, 4, 5, 6, 7, 8] rfl ?_
                    exact Go.imp (by omega) (by omega) (ih_lc _ (by omega) (col + 1) (e1) (gr1) (Q1) hls rfl fr_ls cf_ls_0 cf_ls_1 cr_ls_0 cr_ls_1 cr_ls_3 (by omega) (by omega) hS1 (by
                                                                      rw [show (col + 1).toNat = col.toNat + 1 by omega]
                                                                      exact col_e hp hsq hS1 hker hA (by omega) (by omega)))
                  · skip
                    refine g_iconst dX6_split_123 ?_
                    refine g_istore (ls2 := [(7, .int (gI (0))), (8, .int (gI (s))), (6, .int (gI (col))), (5, .int (gI (due))), (4, .int (gI (e1))), (0, .ref (f + 12)), (1, .ref (f + 10)), (2, .ref (f + 1)), (3, .int (gI (st)))]) dX6_split_124 (by decide) rfl ?_
                    refine g_iload 4 dX6_split_126 rfl ?_
                    refine g_istore (ls2 := [(9, .int (gI (e1))), (7, .int (gI (0))), (8, .int (gI (s))), (6, .int (gI (col))), (5, .int (gI (due))), (4, .int (gI (e1))), (0, .ref (f + 12)), (1, .ref (f + 10)), (2, .ref (f + 1)), (3, .int (gI (st)))]) dX6_split_128 (by decide) rfl ?_
                    refine g_iload_n 9 dX6_split_130 rfl ?_
                    refine g_istore (ls2 := [(10, .int (gI (st))), (9, .int (gI (e1))), (7, .int (gI (0))), (8, .int (gI (s))), (6, .int (gI (col))), (5, .int (gI (due))), (4, .int (gI (e1))), (0, .ref (f + 12)), (1, .ref (f + 10)), (2, .ref (f + 1)), (3, .int (gI (st)))]) dX6_split_131 (by decide) rfl ?_
                    have lk : ∀ (kk : Nat) (k : Int) (op2 : Int) (e2 : Int) (gr2 : Int → Option Nat) (Q2 : Int → Px p) (hlk : GH), kk = (100 - k).toNat → True → hlk.2 (f + 13) = some (aJ 1600 (gg)) → hlk.2 (f + 14) = some (aI 40 (gv)) → PW p B hlk → KP f h hlk → RP hp 84 hlk (f + 17) (bpv hp sz.toNat pv (gM hp gg sz) col.toNat) → FW hp B f h0 gr0 gp0 hlk gr2 gp gt gq gR n pn rn tg le sz e2 (Q2) → (st ≤ k ∧ k ≤ e1) → (op2 = 0 ∨ op2 = 1) → (e1 ≤ e2 ∧ e2 ≤ due) → (spS hp fw st e2 Q2 Q0) → (e2 = due ∨ (colS hp sz.toNat pv (gM hp gg sz) st e2 Q2 col.toNat ∧ shS hp (bpv hp sz.toNat pv (gM hp gg sz) col.toNat) st e2 Q2 s ∧ paS hp (bpv hp sz.toNat pv (gM hp gg sz) col.toNat) st k e1 e2 Q2 s op2)) → Go N mX6_split (fun v h1 => PW p B h1 ∧ KP f h h1 ∧ ∃ e1 gr1 Q1, v = some (.int (gI e1)) ∧ st + 1 ≤ e1 ∧ e1 ≤ st + dgi hp fw ∧ spS hp fw st e1 Q1 Q0 ∧ (∀ i : Int, st ≤ i → i < e1 → irr (fR hp) (Q1 i)) ∧ ∃ sz1, FW hp B f h0 gr0 gp0 h1 gr1 gp gt gq gR n pn rn tg le sz1 e1 Q1) (2 * nn gr2 e2 (40 - e2).toNat) (86 * nn gr2 e2 (40 - e2).toNat) hlk 133 [(10, .int (gI (k))), (9, .int (gI (e1))), (7, .int (gI (op2))), (8, .int (gI (s))), (6, .int (gI (col))), (5, .int (gI (due))), (4, .int (gI (e2))), (0, .ref (f + 12)), (1, .ref (f + 10)), (2, .ref (f + 1)), (3, .int (gI (st)))] [] := by
                      refine Go.ind (fun kk ih_lk => ?_)
                      intro k op2 e2 gr2 Q2 hlk hkk_lk fr_lk cf_lk_0 cf_lk_1 cr_lk_0 cr_lk_1 cr_lk_2 cr_lk_3 hk hop2 he2 hS2 hB
                      refine g_iload 0 dX6_split_133 rfl ?_
                      refine g_iload 1 dX6_split_135 rfl ?_
                      refine g_icmp_ge (tgt := 200) dX6_split_137 rfl (by first | assumption | (unfold gW; omega) | (unfold gW; split <;> omega)) (by first | assumption | (unfold gW; omega) | (unfold gW; split <;> omega)) (fun c331 => ?_) (fun c331 => ?_)
                      · skip
                        refine g_iinc 3 (ls2 := [(8, .int (gI (s + 1))), (10, .int (gI (k))), (9, .int (gI (e1))), (7, .int (gI (op2))), (6, .int (gI (col))), (5, .int (gI (due))), (4, .int (gI (e2))), (0, .ref (f + 12)), (1, .ref (f + 10)), (2, .ref (f + 1)), (3, .int (gI (st)))]) dX6_split_200 rfl (by decide) rfl ?_
                        refine g_goto (tgt := 99) dX6_split_203 rfl ?_
                        refine Go.sub [0, 3, 4, 5, 6, 7, 8, 9, 10] rfl ?_
                        exact Go.imp (by omega) (by omega) (ih_ls _ (by omega) (s + 1) (op2) (e2) (gr2) (Q2) hlk rfl fr_lk cf_lk_0 cf_lk_1 cr_lk_0 cr_lk_1 cr_lk_2 cr_lk_3 (by omega) (by omega) (by omega) hS2 (pass_e hp hB (by omega) (by omega)))
                      · skip
                        refine g_iload 6 dX6_split_140 rfl ?_
                        refine g_iload 5 dX6_split_142 rfl ?_
                        refine g_icmp_ge (tgt := 200) dX6_split_144 rfl (by first | assumption | (unfold gW; omega) | (unfold gW; split <;> omega)) (by first | assumption | (unfold gW; omega) | (unfold gW; split <;> omega)) (fun c332 => ?_) (fun c332 => ?_)
                        · skip
                          refine g_iinc 3 (ls2 := [(8, .int (gI (s + 1))), (10, .int (gI (k))), (9, .int (gI (e1))), (7, .int (gI (op2))), (6, .int (gI (col))), (5, .int (gI (due))), (4, .int (gI (e2))), (0, .ref (f + 12)), (1, .ref (f + 10)), (2, .ref (f + 1)), (3, .int (gI (st)))]) dX6_split_200 rfl (by decide) rfl ?_
                          refine g_goto (tgt := 99) dX6_split_203 rfl ?_
                          refine Go.sub [0, 3, 4, 5, 6, 7, 8, 9, 10] rfl ?_
                          exact Go.imp (by omega) (by omega) (ih_ls _ (by omega) (s + 1) (op2) (e2) (gr2) (Q2) hlk rfl fr_lk cf_lk_0 cf_lk_1 cr_lk_0 cr_lk_1 cr_lk_2 cr_lk_3 (by omega) (by omega) (by omega) hS2 (pass_e hp hB (by omega) (by omega)))
                        · skip
                          refine g_aload_n 9 dX6_split_147 rfl ?_
                          refine g_iload 0 dX6_split_148 rfl ?_
                          obtain ⟨r334, ga334, gh334⟩ := (cr_lk_3).2.2.1 (k) (by omega) (by omega)
                          have gb334 := FW.lr cr_lk_3 ga334
                          refine g_callS (nc2 := 0) (ns2 := 0) (As := [.ref (f + 1), .int (gI (k))]) (st := []) rfl dX6_split_150 okX5_in lX6_42 stX5_in (by decide) (by decide) rfl (Nat.le_of_ble_eq_true rfl) (sL_in0 N _ (f + 1) 40 r334 (gr2) (k) ⟨by omega, by omega⟩ (by omega) (FW.ls cr_lk_3) ga334) (by omega) (by omega) (fun v333 hc333 q333 => ?_)
                          obtain ⟨hq334, rfl⟩ := q333
                          refine Go.nf (h' := hlk) (st' := [.ref (r334)]) hq334 rfl (Nat.le_refl _) (Nat.le_refl _) ?_
                          refine g_astore (ls2 := [(11, .ref (r334)), (10, .int (gI (k))), (9, .int (gI (e1))), (7, .int (gI (op2))), (8, .int (gI (s))), (6, .int (gI (col))), (5, .int (gI (due))), (4, .int (gI (e2))), (0, .ref (f + 12)), (1, .ref (f + 10)), (2, .ref (f + 1)), (3, .int (gI (st)))]) dX6_split_153 (by decide) rfl ?_
                          refine g_aload_n 8 dX6_split_155 rfl ?_
                          refine g_aload 0 dX6_split_156 rfl ?_
                          obtain ⟨hq1, hq2, hq3⟩ := spS_po hp hS2 (show st ≤ k by omega) (show k < e2 by omega)
                          have hq4 : dgi hp (Q2 k) ≤ 40 := by
                                                                      have e9 := dv_deg (fld_p hp) (dgi_dg hp hq1 (by omega)) hdw hq3
                                                                      omega
                          refine g_callV (nc2 := 0) (ns2 := 0) (ci := 6) (As := [.ref (r334)]) (st := []) rfl dX6_split_158 okX6_isOpen lX6_78 itX6_isOpen seX6_isOpen rfl (FW.sp cr_lk_3) (by decide) (by decide) rfl (Nat.le_of_ble_eq_true rfl) (sF_isOpen N _ B f r334 p hp hp2 hBf (by omega) sz (bpv hp sz.toNat pv (gM hp gg sz) col.toNat) (Q2 k) (show AP r334 (f + 19) by unfold AP; omega) (FW.sp cr_lk_3) (cr_lk_0).1 (cr_lk_0).2.1 cr_lk_2 (FW.ra cr_lk_3 19 (by omega)) gh334 (cr_lk_0).r10) (by omega) (by omega) (fun v335 hc335 q335 => ?_)
                          rcases q335 with ⟨ho1, rfl, hoh⟩ | ⟨ho1, frc336, ho3, ho4, hov⟩
                          · skip
                            refine Go.nf (h' := hlk) (st' := [.int (gI (0))]) hoh rfl (Nat.le_refl _) (Nat.le_refl _) ?_
                            have hcs : cst hp (bpv hp sz.toNat pv (gM hp gg sz) col.toNat) (Q2 k) := cst_rm hp hker.1 hq1 (by omega) (by have := rm_lt hp hker.1 hq1 (by omega); omega)
                            refine g_if_eq (tgt := 194) dX6_split_161 rfl (by first | assumption | (unfold gW; omega) | (unfold gW; split <;> omega)) (fun c337 => ?_) (fun c337 => absurd c337 (by omega))
                            refine g_iinc 1 (ls2 := [(10, .int (gI (k + 1))), (11, .ref (r334)), (9, .int (gI (e1))), (7, .int (gI (op2))), (8, .int (gI (s))), (6, .int (gI (col))), (5, .int (gI (due))), (4, .int (gI (e2))), (0, .ref (f + 12)), (1, .ref (f + 10)), (2, .ref (f + 1)), (3, .int (gI (st)))]) dX6_split_194 rfl (by decide) rfl ?_
                            refine g_goto (tgt := 133) dX6_split_197 rfl ?_
                            refine Go.sub [0, 2, 3, 4, 5, 6, 7, 8, 9, 10, 11] rfl ?_
                            exact Go.imp (by omega) (by omega) (ih_lk _ (by omega) (k + 1) (op2) (e2) (gr2) (Q2) hlk rfl fr_lk cf_lk_0 cf_lk_1 cr_lk_0 cr_lk_1 cr_lk_2 cr_lk_3 (by omega) (by omega) (by omega) hS2 (by
                                                                      rcases hB with z | ⟨z1, z2, z3⟩
                                                                      · exact Or.inl z
                                                                      · exact Or.inr ⟨z1, z2, paS_c hp z3 ⟨by omega, by omega, by omega⟩ hcs⟩))
                          · skip
                            have fk338_0 : hc335.2 (f + 13) = some (aJ 1600 (gg)) := Fr.at0 frc336 (Ni.c ⟨(show NE (f + 13) (f + 19) by unfold NE; omega), (show NE (f + 13) (f + 20) by unfold NE; omega)⟩ (Ni.c ⟨(show NE (f + 13) (B + 10) by unfold NE; omega), (show NE (f + 13) (B + 11) by unfold NE; omega)⟩ (Ni.n _))) cf_lk_0
                            have fk338_1 : hc335.2 (f + 14) = some (aI 40 (gv)) := Fr.at0 frc336 (Ni.c ⟨(show NE (f + 14) (f + 19) by unfold NE; omega), (show NE (f + 14) (f + 20) by unfold NE; omega)⟩ (Ni.c ⟨(show NE (f + 14) (B + 10) by unfold NE; omega), (show NE (f + 14) (B + 11) by unfold NE; omega)⟩ (Ni.n _))) cf_lk_1
                            have rk5338_0 : RP hp 84 hc335 (f + 17) (bpv hp sz.toNat pv (gM hp gg sz) col.toNat) := (cr_lk_2).fr frc336 (Ai.c (show AP (f + 17) (f + 19) by unfold AP; omega) (Ai.c (show AP (f + 17) (B + 10) by unfold AP; omega) (Ai.n _)))
                            have rk5338_1 : RP hp 84 hc335 (r334) ((Q2) (k)) := (gh334).fr frc336 (Ai.c (show AP (r334) (f + 19) by unfold AP; omega) (Ai.c (show AP (r334) (B + 10) by unfold AP; omega) (Ai.n _)))
                            have kp338 : KP f h hc335 := KP.fr cr_lk_1 frc336 (kp_c (by omega) (kp_c (by omega) kp_n))
                            have pw336 : PW p B hc335 := PW.upd cr_lk_0 frc336 (out8_c (by omega) (out8_c (by omega) out8_n)) (pl_all (Or.inl (Ai.c (by unfold AP; omega) (Ai.c (by unfold AP; omega) (Ai.n _)))) (Or.inr ho4) (Or.inl (Ai.c (by unfold AP; omega) (Ai.c (by unfold AP; omega) (Ai.n _)))) (Or.inl (Ai.c (by unfold AP; omega) (Ai.c (by unfold AP; omega) (Ai.n _)))) (Or.inl (Ai.c (by unfold AP; omega) (Ai.c (by unfold AP; omega) (Ai.n _)))) (Or.inl (Ai.c (by unfold AP; omega) (Ai.c (by unfold AP; omega) (Ai.n _)))) (Or.inl (Ai.c (by unfold AP; omega) (Ai.c (by unfold AP; omega) (Ai.n _)))) (Or.inl (Ai.c (by unfold AP; omega) (Ai.c (by unfold AP; omega) (Ai.n _)))))
                            have fw339 : FW hp B f h0 gr0 gp0 hc335 gr2 gp gt gq gR n pn rn tg le sz e2 (Q2) := FW.pr cr_lk_3 frc336 (fw_c (by omega) (fw_c (by omega) fw_n)) (six (Or.inl (Ai.c (show AP (f + 6) (f + 19) by unfold AP; omega) (Ai.c (show AP (f + 6) (B + 10) by unfold AP; omega) (Ai.n _)))) (Or.inl (Ai.c (show AP (f + 8) (f + 19) by unfold AP; omega) (Ai.c (show AP (f + 8) (B + 10) by unfold AP; omega) (Ai.n _)))) (Or.inl (Ai.c (show AP (f + 10) (f + 19) by unfold AP; omega) (Ai.c (show AP (f + 10) (B + 10) by unfold AP; omega) (Ai.n _)))) (Or.inl (Ai.c (show AP (f + 15) (f + 19) by unfold AP; omega) (Ai.c (show AP (f + 15) (B + 10) by unfold AP; omega) (Ai.n _)))) (Or.inl (Ai.c (show AP (f + 17) (f + 19) by unfold AP; omega) (Ai.c (show AP (f + 17) (B + 10) by unfold AP; omega) (Ai.n _)))) (Or.inr (ho3).ra)) (Or.inl ⟨(Ni.c ⟨(show NE (f + 12) (f + 19) by unfold NE; omega), (show NE (f + 12) (f + 20) by unfold NE; omega)⟩ (Ni.c ⟨(show NE (f + 12) (B + 10) by unfold NE; omega), (show NE (f + 12) (B + 11) by unfold NE; omega)⟩ (Ni.n _))), rfl⟩) (Or.inl (Ni.c ⟨(show NE (f + 13) (f + 19) by unfold NE; omega), (show NE (f + 13) (f + 20) by unfold NE; omega)⟩ (Ni.c ⟨(show NE (f + 13) (B + 10) by unfold NE; omega), (show NE (f + 13) (B + 11) by unfold NE; omega)⟩ (Ni.n _)))) (Or.inl (Ni.c ⟨(show NE (f + 14) (f + 19) by unfold NE; omega), (show NE (f + 14) (f + 20) by unfold NE; omega)⟩ (Ni.c ⟨(show NE (f + 14) (B + 10) by unfold NE; omega), (show NE (f + 14) (B + 11) by unfold NE; omega)⟩ (Ni.n _))))
                            rcases Int.lt_or_le 0 (dgi hp (rm hp (bpv hp sz.toNat pv (gM hp gg sz) col.toNat) (Q2 k))) with hz | hz
                            · skip
                              rw [if_pos hz] at hov
                              subst hov
                              refine Go.nf (h' := hc335) (st' := [.int (gI (1))]) rfl rfl (Nat.le_refl _) (Nat.le_refl _) ?_
                              refine g_if_eq (tgt := 194) dX6_split_161 rfl (by first | assumption | (unfold gW; omega) | (unfold gW; split <;> omega)) (fun c340 => absurd c340 (by omega)) (fun c340 => ?_)
                              refine g_iconst dX6_split_164 ?_
                              refine g_istore (ls2 := [(7, .int (gI (1))), (11, .ref (r334)), (10, .int (gI (k))), (9, .int (gI (e1))), (8, .int (gI (s))), (6, .int (gI (col))), (5, .int (gI (due))), (4, .int (gI (e2))), (0, .ref (f + 12)), (1, .ref (f + 10)), (2, .ref (f + 1)), (3, .int (gI (st)))]) dX6_split_165 (by decide) rfl ?_
                              refine g_iload 7 dX6_split_167 rfl ?_
                              refine g_aload_n 8 dX6_split_169 rfl ?_
                              refine g_aload 1 dX6_split_170 rfl ?_
                              refine g_iload 4 dX6_split_172 rfl ?_
                              refine g_aload_n 10 dX6_split_174 rfl ?_
                              refine g_iload 7 dX6_split_175 rfl ?_
                              rcases hgi : gr2 e2 with _ | r9
                              · skip
                                have hnp := nn_pos (show e2 < 40 by omega) hgi
                                refine Go.wf (fun wf342 => ?_)
                                refine g_callS (nc2 := 2) (ns2 := 86) (As := [.ref (f + 1), .int (gI (e2))]) (st := [.int (gI (s)), .ref (r334), .ref (f + 12), .int (gI (e2))]) rfl dX6_split_177 okX5_in lX6_42 stX5_in (by decide) (by decide) rfl (Nat.le_of_ble_eq_true rfl) (sW_in N _ hp B f h0 gr0 gp0 (gr2) gp gt gq gR n pn rn tg le sz e2 (Q2) (e2) (by omega) wf342 fw339) (by omega) (by omega) (fun v341 hc341 q341 => ?_)
                                obtain ⟨r342, g342, rfl, ga342, gb342, gc342, gd342, ge342, gf342⟩ := q341
                                have fi342_0 : hc341.2 (f + 13) = some (aJ 1600 (gg)) := ge342.2 _ _ fk338_0 (show _ ≠ _ by omega)
                                have fi342_1 : hc341.2 (f + 14) = some (aI 40 (gv)) := ge342.2 _ _ fk338_1 (show _ ≠ _ by omega)
                                have ri342_0 : RP hp 84 hc341 (f + 17) (bpv hp sz.toNat pv (gM hp gg sz) col.toNat) := (rk5338_0).of1 (fun x e hx he => ge342.2 x e he (show _ ≠ _ by omega))
                                have ri342_1 : RP hp 84 hc341 (r334) ((Q2) (k)) := (rk5338_1).of1 (fun x e hx he => ge342.2 x e he (show _ ≠ _ by omega))
                                have ri342_2 : KP f h hc341 := KP.fk kp338 ge342
                                have ri342_3 : RP hp 84 hc341 (f + 19) (rm hp (bpv hp sz.toNat pv (gM hp gg sz) col.toNat) (Q2 k)) := (ho3).of1 (fun x e hx he => ge342.2 x e he (show _ ≠ _ by omega))
                                have ri342_4 : PW p B hc341 := PW.fk1 pw336 hBf ge342
                                refine Go.nf (h' := hc341) (st' := [.ref (r342), .int (gI (s)), .ref (r334), .ref (f + 12), .int (gI (e2))]) rfl rfl (Nat.le_refl _) (Nat.le_refl _) ?_
                                have hnn1 := nn_none (show e2 < 40 by omega) hgi ga342 gd342
                                have hns := nn_some (show e2 < 40 by omega) ga342
                                have gkk : g342 k = some r334 := (gd342 k (show k ≠ e2 by omega)).trans ga334
                                have aro : AP r334 r342 := (gf342).1.2.2.2.1.2.2 k e2 r334 r342 (by omega) gkk ga342
                                refine g_callV (nc2 := 0) (ns2 := 0) (ci := 6) (As := [.ref (r334), .int (gI (s)), .ref (r342)]) (st := [.int (gI (e2))]) rfl dX6_split_180 okX6_parts lX6_82 itX6_parts seX6_parts rfl (FW.sp gf342) (by decide) (by decide) rfl (Nat.le_of_ble_eq_true rfl) (sF_parts N _ B f r334 r342 p hp hp2 hBf gb334 gb342 sz s (by omega) fw (bpv hp sz.toNat pv (gM hp gg sz) col.toNat) (Q2 k) (by omega) (by omega) (hS2.2.1 k (by omega) (by omega)) (sqf_dv hp hsq hq3) hker hq3 aro ri342_4 (FW.sp gf342) ri342_3 ri342_1 gc342) (by omega) (by omega) (fun v343 hc343 q343 => ?_)
                                obtain ⟨frc344, pw344, r19_344, hcase⟩ := q343
                                have fk345_0 : hc343.2 (f + 13) = some (aJ 1600 (gg)) := Fr.at0 frc344 (Ni.c ⟨(show NE (f + 13) (f + 19) by unfold NE; omega), (show NE (f + 13) (f + 20) by unfold NE; omega)⟩ (Ni.c ⟨(show NE (f + 13) (r334) by unfold NE; omega), (show NE (f + 13) (r334 + 1) by unfold NE; omega)⟩ (Ni.c ⟨(show NE (f + 13) (r342) by unfold NE; omega), (show NE (f + 13) (r342 + 1) by unfold NE; omega)⟩ (Ni_pl (by omega))))) fi342_0
                                have fk345_1 : hc343.2 (f + 14) = some (aI 40 (gv)) := Fr.at0 frc344 (Ni.c ⟨(show NE (f + 14) (f + 19) by unfold NE; omega), (show NE (f + 14) (f + 20) by unfold NE; omega)⟩ (Ni.c ⟨(show NE (f + 14) (r334) by unfold NE; omega), (show NE (f + 14) (r334 + 1) by unfold NE; omega)⟩ (Ni.c ⟨(show NE (f + 14) (r342) by unfold NE; omega), (show NE (f + 14) (r342 + 1) by unfold NE; omega)⟩ (Ni_pl (by omega))))) fi342_1
                                have rk5345_0 : RP hp 84 hc343 (f + 17) (bpv hp sz.toNat pv (gM hp gg sz) col.toNat) := (ri342_0).fr frc344 (Ai.c (show AP (f + 17) (f + 19) by unfold AP; omega) (Ai.c (show AP (f + 17) (r334) by unfold AP; omega) (Ai.c (show AP (f + 17) (r342) by unfold AP; omega) (Ai_pl (by omega)))))
                                have kp345 : KP f h hc343 := KP.fr ri342_2 frc344 (kp_c (by omega) (kp_c (by omega) (kp_c (by omega) (kp_pl hBf))))
                                rcases hcase with ⟨rfl, hal, hr1, ho1⟩ | ⟨rfl, d, kk, hpt, hr1, ho1⟩
                                · skip
                                  have fwz : FW hp B f h0 gr0 gp0 hc343 g342 gp gt gq gR n pn rn tg le sz e2 (Q2) := FW.r2 (L := []) gf342 gkk ga342 frc344 r19_344 hr1.ra ho1 (gf342).2.1 (fun i i0 i1 => by
                                                                      by_cases y : i = k
                                                                      · exact Or.inr ⟨r334, by rw [y]; exact gkk, by rw [y]; exact hr1⟩
                                                                      · exact Or.inl ⟨y, by omega, i1, rfl⟩)
                                  refine Go.nf (h' := hc343) (st' := [.int (gI (0)), .int (gI (e2))]) rfl rfl (Nat.le_refl _) (Nat.le_refl _) ?_
                                  refine g_if_eq (tgt := 190) dX6_split_183 rfl (by first | assumption | (unfold gW; omega) | (unfold gW; split <;> omega)) (fun c346 => ?_) (fun c346 => absurd c346 (by omega))
                                  refine g_iconst dX6_split_190 ?_
                                  refine g_iadd dX6_split_191 ?_
                                  rw [show (e2) + (0) = e2 by omega]
                                  refine g_istore (ls2 := [(4, .int (gI (e2))), (7, .int (gI (1))), (11, .ref (r334)), (10, .int (gI (k))), (9, .int (gI (e1))), (8, .int (gI (s))), (6, .int (gI (col))), (5, .int (gI (due))), (0, .ref (f + 12)), (1, .ref (f + 10)), (2, .ref (f + 1)), (3, .int (gI (st)))]) dX6_split_192 (by decide) rfl ?_
                                  refine g_iinc 3 (ls2 := [(10, .int (gI (k + 1))), (4, .int (gI (e2))), (7, .int (gI (1))), (11, .ref (r334)), (9, .int (gI (e1))), (8, .int (gI (s))), (6, .int (gI (col))), (5, .int (gI (due))), (0, .ref (f + 12)), (1, .ref (f + 10)), (2, .ref (f + 1)), (3, .int (gI (st)))]) dX6_split_194 rfl (by decide) rfl ?_
                                  refine g_goto (tgt := 133) dX6_split_197 rfl ?_
                                  refine Go.sub [0, 4, 2, 5, 6, 7, 1, 8, 9, 10, 11] rfl ?_
                                  exact Go.imp (by omega) (by omega) (ih_lk _ (by omega) (k + 1) (1) (e2) (g342) (Q2) hc343 rfl fr_lk fk345_0 fk345_1 pw344 kp345 rk5345_0 fwz (by omega) (by omega) (by omega) hS2 (by
                                                                      rcases hB with z | ⟨z1, z2, z3⟩
                                                                      · exact Or.inl z
                                                                      · exact Or.inr ⟨z1, z2, paS_no hp z3 ⟨by omega, by omega, by omega⟩ hal⟩))
                                · skip
                                  have fwz : FW hp B f h0 gr0 gp0 hc343 g342 gp gt gq gR n pn rn tg le sz (e2 + 1) (upI Q2 k d e2 kk) := FW.r2 (L := []) gf342 gkk ga342 frc344 r19_344 hr1.ra ho1.ra (by omega) (fun i i0 i1 => by
                                                                      unfold upI
                                                                      by_cases x : i = e2
                                                                      · rw [if_pos x]; exact Or.inr ⟨r342, by rw [x]; exact ga342, ho1⟩
                                                                      · rw [if_neg x]
                                                                        by_cases y : i = k
                                                                        · rw [if_pos y]; exact Or.inr ⟨r334, by rw [y]; exact gkk, hr1⟩
                                                                        · rw [if_neg y]; exact Or.inl ⟨y, x, by omega, rfl⟩)
                                  refine Go.nf (h' := hc343) (st' := [.int (gI (1)), .int (gI (e2))]) rfl rfl (Nat.le_refl _) (Nat.le_refl _) ?_
                                  refine g_if_eq (tgt := 190) dX6_split_183 rfl (by first | assumption | (unfold gW; omega) | (unfold gW; split <;> omega)) (fun c347 => absurd c347 (by omega)) (fun c347 => ?_)
                                  refine g_iconst dX6_split_186 ?_
                                  refine g_goto (tgt := 191) dX6_split_187 rfl ?_
                                  refine g_iadd dX6_split_191 ?_
                                  refine g_istore (ls2 := [(4, .int (gI ((e2) + (1)))), (7, .int (gI (1))), (11, .ref (r334)), (10, .int (gI (k))), (9, .int (gI (e1))), (8, .int (gI (s))), (6, .int (gI (col))), (5, .int (gI (due))), (0, .ref (f + 12)), (1, .ref (f + 10)), (2, .ref (f + 1)), (3, .int (gI (st)))]) dX6_split_192 (by decide) rfl ?_
                                  refine g_iinc 3 (ls2 := [(10, .int (gI (k + 1))), (4, .int (gI ((e2) + (1)))), (7, .int (gI (1))), (11, .ref (r334)), (9, .int (gI (e1))), (8, .int (gI (s))), (6, .int (gI (col))), (5, .int (gI (due))), (0, .ref (f + 12)), (1, .ref (f + 10)), (2, .ref (f + 1)), (3, .int (gI (st)))]) dX6_split_194 rfl (by decide) rfl ?_
                                  refine g_goto (tgt := 133) dX6_split_197 rfl ?_
                                  refine Go.sub [0, 4, 2, 5, 6, 7, 1, 8, 9, 10, 11] rfl ?_
                                  exact Go.imp (by omega) (by omega) (ih_lk _ (by omega) (k + 1) (1) (e2 + 1) (g342) (upI Q2 k d e2 kk) hc343 rfl fr_lk fk345_0 fk345_1 pw344 kp345 rk5345_0 fwz (by omega) (by omega) (by omega) (spS_up hp hS2 (by omega) ⟨by omega, by omega⟩ hpt) (by
                                                                      rcases hB with z | ⟨z1, z2, z3⟩
                                                                      · exfalso; omega
                                                                      · exact Or.inr ⟨colS_up hp z1 ⟨by omega, by omega⟩ hpt, shS_up hp z2 ⟨by omega, by omega⟩ hpt, paS_up hp z3 ⟨by omega, by omega, by omega⟩ hpt⟩))
                              · skip
                                have ga349 : gr2 e2 = some r9 := hgi
                                have gb349 := FW.lr fw339 ga349
                                have gd349 : ∀ j, j ≠ e2 → gr2 j = gr2 j := fun _ _ => rfl
                                have gc349 := ((fw339).1.2.2.2.1.2.1 e2 r9 ga349).2
                                have hns := nn_some (show e2 < 40 by omega) hgi
                                refine g_callS (nc2 := 0) (ns2 := 0) (As := [.ref (f + 1), .int (gI (e2))]) (st := [.int (gI (s)), .ref (r334), .ref (f + 12), .int (gI (e2))]) rfl dX6_split_177 okX5_in lX6_42 stX5_in (by decide) (by decide) rfl (Nat.le_of_ble_eq_true rfl) (sL_in0 N _ (f + 1) 40 r9 (gr2) (e2) ⟨by omega, by omega⟩ (by omega) (FW.ls fw339) ga349) (by omega) (by omega) (fun v348 hc348 q348 => ?_)
                                obtain ⟨hq349, rfl⟩ := q348
                                refine Go.nf (h' := hc335) (st' := [.ref (r9), .int (gI (s)), .ref (r334), .ref (f + 12), .int (gI (e2))]) hq349 rfl (Nat.le_refl _) (Nat.le_refl _) ?_
                                have gkk : gr2 k = some r334 := (gd349 k (show k ≠ e2 by omega)).trans ga334
                                have aro : AP r334 r9 := (fw339).1.2.2.2.1.2.2 k e2 r334 r9 (by omega) gkk ga349
                                refine g_callV (nc2 := 0) (ns2 := 0) (ci := 6) (As := [.ref (r334), .int (gI (s)), .ref (r9)]) (st := [.int (gI (e2))]) rfl dX6_split_180 okX6_parts lX6_82 itX6_parts seX6_parts rfl (FW.sp fw339) (by decide) (by decide) rfl (Nat.le_of_ble_eq_true rfl) (sF_parts N _ B f r334 r9 p hp hp2 hBf gb334 gb349 sz s (by omega) fw (bpv hp sz.toNat pv (gM hp gg sz) col.toNat) (Q2 k) (by omega) (by omega) (hS2.2.1 k (by omega) (by omega)) (sqf_dv hp hsq hq3) hker hq3 aro pw336 (FW.sp fw339) ho3 rk5338_1 gc349) (by omega) (by omega) (fun v350 hc350 q350 => ?_)
                                obtain ⟨frc351, pw351, r19_351, hcase⟩ := q350
                                have fk352_0 : hc350.2 (f + 13) = some (aJ 1600 (gg)) := Fr.at0 frc351 (Ni.c ⟨(show NE (f + 13) (f + 19) by unfold NE; omega), (show NE (f + 13) (f + 20) by unfold NE; omega)⟩ (Ni.c ⟨(show NE (f + 13) (r334) by unfold NE; omega), (show NE (f + 13) (r334 + 1) by unfold NE; omega)⟩ (Ni.c ⟨(show NE (f + 13) (r9) by unfold NE; omega), (show NE (f + 13) (r9 + 1) by unfold NE; omega)⟩ (Ni_pl (by omega))))) fk338_0
                                have fk352_1 : hc350.2 (f + 14) = some (aI 40 (gv)) := Fr.at0 frc351 (Ni.c ⟨(show NE (f + 14) (f + 19) by unfold NE; omega), (show NE (f + 14) (f + 20) by unfold NE; omega)⟩ (Ni.c ⟨(show NE (f + 14) (r334) by unfold NE; omega), (show NE (f + 14) (r334 + 1) by unfold NE; omega)⟩ (Ni.c ⟨(show NE (f + 14) (r9) by unfold NE; omega), (show NE (f + 14) (r9 + 1) by unfold NE; omega)⟩ (Ni_pl (by omega))))) fk338_1
                                have rk5352_0 : RP hp 84 hc350 (f + 17) (bpv hp sz.toNat pv (gM hp gg sz) col.toNat) := (rk5338_0).fr frc351 (Ai.c (show AP (f + 17) (f + 19) by unfold AP; omega) (Ai.c (show AP (f + 17) (r334) by unfold AP; omega) (Ai.c (show AP (f + 17) (r9) by unfold AP; omega) (Ai_pl (by omega)))))
                                have kp352 : KP f h hc350 := KP.fr kp338 frc351 (kp_c (by omega) (kp_c (by omega) (kp_c (by omega) (kp_pl hBf))))
                                rcases hcase with ⟨rfl, hal, hr1, ho1⟩ | ⟨rfl, d, kk, hpt, hr1, ho1⟩
                                · skip
                                  have fwz : FW hp B f h0 gr0 gp0 hc350 gr2 gp gt gq gR n pn rn tg le sz e2 (Q2) := FW.r2 (L := []) fw339 gkk ga349 frc351 r19_351 hr1.ra ho1 (fw339).2.1 (fun i i0 i1 => by
                                                                      by_cases y : i = k
                                                                      · exact Or.inr ⟨r334, by rw [y]; exact gkk, by rw [y]; exact hr1⟩
                                                                      · exact Or.inl ⟨y, by omega, i1, rfl⟩)
                                  refine Go.nf (h' := hc350) (st' := [.int (gI (0)), .int (gI (e2))]) rfl rfl (Nat.le_refl _) (Nat.le_refl _) ?_
                                  refine g_if_eq (tgt := 190) dX6_split_183 rfl (by first | assumption | (unfold gW; omega) | (unfold gW; split <;> omega)) (fun c353 => ?_) (fun c353 => absurd c353 (by omega))
                                  refine g_iconst dX6_split_190 ?_
                                  refine g_iadd dX6_split_191 ?_
                                  rw [show (e2) + (0) = e2 by omega]
                                  refine g_istore (ls2 := [(4, .int (gI (e2))), (7, .int (gI (1))), (11, .ref (r334)), (10, .int (gI (k))), (9, .int (gI (e1))), (8, .int (gI (s))), (6, .int (gI (col))), (5, .int (gI (due))), (0, .ref (f + 12)), (1, .ref (f + 10)), (2, .ref (f + 1)), (3, .int (gI (st)))]) dX6_split_192 (by decide) rfl ?_
                                  refine g_iinc 3 (ls2 := [(10, .int (gI (k + 1))), (4, .int (gI (e2))), (7, .int (gI (1))), (11, .ref (r334)), (9, .int (gI (e1))), (8, .int (gI (s))), (6, .int (gI (col))), (5, .int (gI (due))), (0, .ref (f + 12)), (1, .ref (f + 10)), (2, .ref (f + 1)), (3, .int (gI (st)))]) dX6_split_194 rfl (by decide) rfl ?_
                                  refine g_goto (tgt := 133) dX6_split_197 rfl ?_
                                  refine Go.sub [0, 4, 2, 5, 6, 7, 1, 8, 9, 10, 11] rfl ?_
                                  exact Go.imp (by omega) (by omega) (ih_lk _ (by omega) (k + 1) (1) (e2) (gr2) (Q2) hc350 rfl fr_lk fk352_0 fk352_1 pw351 kp352 rk5352_0 fwz (by omega) (by omega) (by omega) hS2 (by
                                                                      rcases hB with z | ⟨z1, z2, z3⟩
                                                                      · exact Or.inl z
                                                                      · exact Or.inr ⟨z1, z2, paS_no hp z3 ⟨by omega, by omega, by omega⟩ hal⟩))
                                · skip
                                  have fwz : FW hp B f h0 gr0 gp0 hc350 gr2 gp gt gq gR n pn rn tg le sz (e2 + 1) (upI Q2 k d e2 kk) := FW.r2 (L := []) fw339 gkk ga349 frc351 r19_351 hr1.ra ho1.ra (by omega) (fun i i0 i1 => by
                                                                      unfold upI
                                                                      by_cases x : i = e2
                                                                      · rw [if_pos x]; exact Or.inr ⟨r9, by rw [x]; exact ga349, ho1⟩
                                                                      · rw [if_neg x]
                                                                        by_cases y : i = k
                                                                        · rw [if_pos y]; exact Or.inr ⟨r334, by rw [y]; exact gkk, hr1⟩
                                                                        · rw [if_neg y]; exact Or.inl ⟨y, x, by omega, rfl⟩)
                                  refine Go.nf (h' := hc350) (st' := [.int (gI (1)), .int (gI (e2))]) rfl rfl (Nat.le_refl _) (Nat.le_refl _) ?_
                                  refine g_if_eq (tgt := 190) dX6_split_183 rfl (by first | assumption | (unfold gW; omega) | (unfold gW; split <;> omega)) (fun c354 => absurd c354 (by omega)) (fun c354 => ?_)
                                  refine g_iconst dX6_split_186 ?_
                                  refine g_goto (tgt := 191) dX6_split_187 rfl ?_
                                  refine g_iadd dX6_split_191 ?_
                                  refine g_istore (ls2 := [(4, .int (gI ((e2) + (1)))), (7, .int (gI (1))), (11, .ref (r334)), (10, .int (gI (k))), (9, .int (gI (e1))), (8, .int (gI (s))), (6, .int (gI (col))), (5, .int (gI (due))), (0, .ref (f + 12)), (1, .ref (f + 10)), (2, .ref (f + 1)), (3, .int (gI (st)))]) dX6_split_192 (by decide) rfl ?_
                                  refine g_iinc 3 (ls2 := [(10, .int (gI (k + 1))), (4, .int (gI ((e2) + (1)))), (7, .int (gI (1))), (11, .ref (r334)), (9, .int (gI (e1))), (8, .int (gI (s))), (6, .int (gI (col))), (5, .int (gI (due))), (0, .ref (f + 12)), (1, .ref (f + 10)), (2, .ref (f + 1)), (3, .int (gI (st)))]) dX6_split_194 rfl (by decide) rfl ?_
                                  refine g_goto (tgt := 133) dX6_split_197 rfl ?_
                                  refine Go.sub [0, 4, 2, 5, 6, 7, 1, 8, 9, 10, 11] rfl ?_
                                  exact Go.imp (by omega) (by omega) (ih_lk _ (by omega) (k + 1) (1) (e2 + 1) (gr2) (upI Q2 k d e2 kk) hc350 rfl fr_lk fk352_0 fk352_1 pw351 kp352 rk5352_0 fwz (by omega) (by omega) (by omega) (spS_up hp hS2 (by omega) ⟨by omega, by omega⟩ hpt) (by
                                                                      rcases hB with z | ⟨z1, z2, z3⟩
                                                                      · exfalso; omega
                                                                      · exact Or.inr ⟨colS_up hp z1 ⟨by omega, by omega⟩ hpt, shS_up hp z2 ⟨by omega, by omega⟩ hpt, paS_up hp z3 ⟨by omega, by omega, by omega⟩ hpt⟩))
                            · skip
                              rw [if_neg (by omega)] at hov
                              subst hov
                              refine Go.nf (h' := hc335) (st' := [.int (gI (0))]) rfl rfl (Nat.le_refl _) (Nat.le_refl _) ?_
                              have hcs : cst hp (bpv hp sz.toNat pv (gM hp gg sz) col.toNat) (Q2 k) := cst_rm hp hker.1 hq1 (by omega) (by omega)
                              refine g_if_eq (tgt := 194) dX6_split_161 rfl (by first | assumption | (unfold gW; omega) | (unfold gW; split <;> omega)) (fun c355 => ?_) (fun c355 => absurd c355 (by omega))
                              refine g_iinc 1 (ls2 := [(10, .int (gI (k + 1))), (11, .ref (r334)), (9, .int (gI (e1))), (7, .int (gI (op2))), (8, .int (gI (s))), (6, .int (gI (col))), (5, .int (gI (due))), (4, .int (gI (e2))), (0, .ref (f + 12)), (1, .ref (f + 10)), (2, .ref (f + 1)), (3, .int (gI (st)))]) dX6_split_194 rfl (by decide) rfl ?_
                              refine g_goto (tgt := 133) dX6_split_197 rfl ?_
                              refine Go.sub [0, 2, 3, 4, 5, 6, 7, 8, 9, 10, 11] rfl ?_
                              exact Go.imp (by omega) (by omega) (ih_lk _ (by omega) (k + 1) (op2) (e2) (gr2) (Q2) hc335 rfl fr_lk fk338_0 fk338_1 pw336 kp338 rk5338_0 fw339 (by omega) (by omega) (by omega) hS2 (by
                                                                      rcases hB with z | ⟨z1, z2, z3⟩
                                                                      · exact Or.inl z
                                                                      · exact Or.inr ⟨z1, z2, paS_c hp z3 ⟨by omega, by omega, by omega⟩ hcs⟩))
                    exact Go.imp (by omega) (by omega) (lk _ (st) (0) (e1) (gr1) (Q1) hls rfl fr_ls cf_ls_0 cf_ls_1 cr_ls_0 cr_ls_1 cr_ls_2 cr_ls_3 (by omega) (by omega) (by omega) hS1 (by
                                                                      rcases hA with z | ⟨z1, z2⟩
                                                                      · exact Or.inl z
                                                                      · rcases z2 with ⟨z2, z3⟩ | z2
                                                                        · exact Or.inr ⟨z1, z3, paS_0 hp _ _ _ _ _⟩
                                                                        · exfalso; omega))
            exact Go.imp (by omega) (by omega) (ls _ (0) (1) (e) (gr) (Q) hc124 rfl fr_lc fk126_0 fk126_1 rk126_0 kp126 rn125_0 fw127 (by omega) (by omega) (by omega) hS (by
                                                                      rcases hC with z | z
                                                                      · exact Or.inl z
                                                                      · exact Or.inr ⟨z, Or.inl ⟨rfl, fun i t i0 i1 t0 t1 => by omega⟩⟩))
    exact Go.imp (by omega) (by omega) (lc _ (1) (st + 1) (g2) (fun t => if t = st then fw else Q0 t) hc13 rfl trivial c13y c14y rk15_1 kp15 fw16 (by omega) (⟨by omega, by have := spS_le hp hdw hsq hS00 hRR hK (by omega); omega⟩) hS00 (Or.inr (col_1 hp (by omega) hRR hK _ _ _)))
  · skip
    refine g_iload 0 dX6_split_22 rfl ?_
    exact g_iret dX6_split_24 rfl ⟨rk5_0, kp5, _, _, _, rfl, by omega, by omega, (spS_1 hp (dgi_dg hp h10.po (by omega)) (by omega) hmn (if_pos rfl) (fun i i0 i1 => if_neg (by omega))), (fun i i0 i1 => by
                                                                      have hd1 : dgi hp fw = 1 := by omega
                                                                      have hdg := dgi_dg hp h10.po (by omega)
                                                                      rw [hd1] at hdg
                                                                      show irr (fR hp) (if i = st then fw else Q0 i)
                                                                      rw [if_pos (by omega)]; exact irr_d1 hp hdg), ⟨_, fw6⟩⟩
