set_option maxHeartbeats 4000000 in
set_option maxRecDepth 100000 in
theorem sF_gatherParts (N : GN) (h : GH) (B f p : Nat) (hp : prm p) (hp2 : p ≤ 65536) (hBf : B + 58 ≤ f) (h0 : GH) (gr0 gp0 gr gp : Int → Option Nat) (gt gq gR : Int → Int) (n rn tg le sz : Int) (Q : Int → Px p) (F : Px p) (hn : 0 ≤ n ∧ n ≤ 40) (hFp : po (fR hp) F) (hFd : 0 ≤ dgi hp F ∧ dgi hp F ≤ 40) (hf : fcl hp F n Q gt) (hsum : sI gt n.toNat ≤ 40) (hF : FW hp B f h0 gr0 gp0 h gr gp gt gq gR n 0 rn tg le sz n Q) (hw : PW p B h) : Sp N yX0_gatherParts mX0_gatherParts 16 688 [.ref (f)] h (fun v h1 => v = none ∧ ∃ c gp1 gq1 o, PW p B h1 ∧ FW hp B f h0 gr0 gp0 h1 gr gp1 gt gq1 gR n c rn tg le sz n Q ∧ GPc hp h1 gp1 c (fun i => pQ hp Q gt (gq1 i) n.toNat) ∧ ptI gt n o c gq1 ∧ (∀ j : Int, 0 ≤ j → j < n → gt j < o) ∧ c ≤ 8) := by
  refine Sp.of (by decide) rfl rfl (Nat.le_of_ble_eq_true rfl) ?_
  show Go N mX0_gatherParts _ 16 688 h 0 [(0, .ref (f))] []
  have ht1 : ∀ i : Int, 0 ≤ i → i < n → 1 ≤ gt i := fun i i0 i1 => (hf.1 i i0 i1).2.2
  have ht2 : ∀ i : Int, 0 ≤ i → i < n → gt i ≤ 40 := fun i i0 i1 => by have := (fcl_le hp hFp (by omega) hf i0 i1).2.2.2; omega
  have hdF := dgi_dg hp hFp hFd.1
  have hG0 : GPc hp h gp 0 (fun i => pQ hp Q gt (gq i) n.toNat) := fun i i0 i1 => by omega
  have hp1 := hp.1
  refine g_iconst dX0_gatherParts_0 ?_
  refine g_istore_n (ls2 := [(1, .int (gI (1))), (0, .ref (f))]) dX0_gatherParts_1 rfl (by decide) rfl ?_
  have lo : ∀ (kk : Nat) (o : Int) (c : Int) (gp1 : Int → Option Nat) (gq1 : Int → Int) (hlo : GH), kk = (50 - o).toNat → True → FW hp B f h0 gr0 gp0 hlo gr gp1 gt gq1 gR n c rn tg le sz n (Q) → PW p B hlo → GPc hp hlo gp1 (c) (fun i => pQ hp Q gt (gq1 i) n.toNat) → (1 ≤ o ∧ o ≤ 41) → (0 ≤ c ∧ c ≤ 8) → (ptI gt n o c gq1) → Go N mX0_gatherParts (fun v h1 => v = none ∧ ∃ c gp1 gq1 o, PW p B h1 ∧ FW hp B f h0 gr0 gp0 h1 gr gp1 gt gq1 gR n c rn tg le sz n Q ∧ GPc hp h1 gp1 c (fun i => pQ hp Q gt (gq1 i) n.toNat) ∧ ptI gt n o c gq1 ∧ (∀ j : Int, 0 ≤ j → j < n → gt j < o) ∧ c ≤ 8) (2 * (8 - c).toNat) (86 * (8 - c).toNat) hlo 2 [(1, .int (gI (o))), (0, .ref (f))] [] := by
    refine Go.ind (fun kk ih_lo => ?_)
    intro o c gp1 gq1 hlo hkk_lo fr_lo cr_lo_0 cr_lo_1 cr_lo_2 ho hc hpt
    refine g_iload_n 0 dX0_gatherParts_2 rfl ?_
    refine g_bipush dX0_gatherParts_3 (by decide) ?_
    refine g_icmp_gt (tgt := 128) dX0_gatherParts_5 rfl (by first | assumption | (unfold gW; omega) | (unfold gW; split <;> omega)) (by first | assumption | (unfold gW; omega) | (unfold gW; split <;> omega)) (fun c101 => ?_) (fun c101 => ?_)
    · skip
      exact g_vret dX0_gatherParts_128 rfl ⟨rfl, c, gp1, gq1, o, cr_lo_1, cr_lo_0, cr_lo_2, hpt, ptI_e (tg := tg) ht1 ht2 hsum hpt (by omega)⟩
    · skip
      refine g_aload_n 1 dX0_gatherParts_8 rfl ?_
      refine g_getf 12 dX0_gatherParts_9 kX0 (by decide) fX0_65 (FW.ob cr_lo_0) rfl ?_
      refine g_bipush dX0_gatherParts_12 (by decide) ?_
      refine g_icmp_ge (tgt := 128) dX0_gatherParts_14 rfl (by first | assumption | (unfold gW; omega) | (unfold gW; split <;> omega)) (by first | assumption | (unfold gW; omega) | (unfold gW; split <;> omega)) (fun c102 => ?_) (fun c102 => ?_)
      · skip
        exact g_vret dX0_gatherParts_128 rfl ⟨rfl, c, gp1, gq1, o, cr_lo_1, cr_lo_0, cr_lo_2, hpt, ptI_e (tg := tg) ht1 ht2 hsum hpt (by omega)⟩
      · skip
        refine g_aload_n 1 dX0_gatherParts_17 rfl ?_
        refine g_getf 9 dX0_gatherParts_18 kX0 (by decide) fX0_38 (FW.ob cr_lo_0) rfl ?_
        refine g_lconst1 dX0_gatherParts_21 ?_
        refine g_callV (nc2 := 0) (ns2 := 0) (ci := 5) (As := [.long (gJ (1))]) (st := []) rfl dX0_gatherParts_22 okX5_become lX0_149 itX5_become seX5_become rfl (Classical.choose_spec (RA.o (FW.ra cr_lo_0 8 (by omega)))) (by decide) (by decide) rfl (Nat.le_of_ble_eq_true rfl) (sP_become N _ (f + 8) 84 p hp hp2 (1) (by omega) (by omega) (FW.ra cr_lo_0 8 (by omega))) (by omega) (by omega) (fun v103 hc103 q103 => ?_)
        obtain ⟨rfl, frc104, rn104_0⟩ := q103
        have rk105_0 : PW p B hc103 := (cr_lo_1).fr2 frc104 (ok_c (by omega) (fun _ h => absurd h (List.not_mem_nil)))
        have gp105 : GPc hp hc103 gp1 (c) (fun i => pQ hp Q gt (gq1 i) n.toNat) := FW.gp cr_lo_0 cr_lo_2 (fun x e hx he => Fr.at0 frc104 (Ni.c ⟨(show NE (x) (f + 8) by unfold NE; omega), (show NE (x) (f + 9) by unfold NE; omega)⟩ (Ni.n _)) he)
        refine Go.nf (h' := hc103) (st' := []) rfl rfl (Nat.le_refl _) (Nat.le_refl _) ?_
        have fw106 : FW hp B f h0 gr0 gp0 hc103 gr gp1 gt gq1 gR n c rn tg le sz n (Q) := FW.pr cr_lo_0 frc104 (fw_c (by omega) fw_n) (six (Or.inl (Ai.c (show AP (f + 6) (f + 8) by unfold AP; omega) (Ai.n _))) (Or.inr (rn104_0).ra) (Or.inl (Ai.c (show AP (f + 10) (f + 8) by unfold AP; omega) (Ai.n _))) (Or.inl (Ai.c (show AP (f + 15) (f + 8) by unfold AP; omega) (Ai.n _))) (Or.inl (Ai.c (show AP (f + 17) (f + 8) by unfold AP; omega) (Ai.n _))) (Or.inl (Ai.c (show AP (f + 19) (f + 8) by unfold AP; omega) (Ai.n _)))) (Or.inl ⟨(Ni.c ⟨(show NE (f + 12) (f + 8) by unfold NE; omega), (show NE (f + 12) (f + 9) by unfold NE; omega)⟩ (Ni.n _)), rfl⟩) (Or.inl (Ni.c ⟨(show NE (f + 13) (f + 8) by unfold NE; omega), (show NE (f + 13) (f + 9) by unfold NE; omega)⟩ (Ni.n _))) (Or.inl (Ni.c ⟨(show NE (f + 14) (f + 8) by unfold NE; omega), (show NE (f + 14) (f + 9) by unfold NE; omega)⟩ (Ni.n _)))
        refine g_iconst dX0_gatherParts_25 ?_
        refine g_istore_n (ls2 := [(2, .int (gI (0))), (1, .int (gI (o))), (0, .ref (f))]) dX0_gatherParts_26 rfl (by decide) rfl ?_
        have li : ∀ (kk : Nat) (k : Int) (hli : GH), kk = (50 - k).toNat → True → PW p B hli → GPc hp hli gp1 (c) (fun i => pQ hp Q gt (gq1 i) n.toNat) → RP hp 84 hli (f + 8) (pQ hp Q gt o k.toNat) → FW hp B f h0 gr0 gp0 hli gr gp1 gt gq1 gR n c rn tg le sz n (Q) → (0 ≤ k ∧ k ≤ n) → Go N mX0_gatherParts (fun v h1 => v = none ∧ ∃ c gp1 gq1 o, PW p B h1 ∧ FW hp B f h0 gr0 gp0 h1 gr gp1 gt gq1 gR n c rn tg le sz n Q ∧ GPc hp h1 gp1 c (fun i => pQ hp Q gt (gq1 i) n.toNat) ∧ ptI gt n o c gq1 ∧ (∀ j : Int, 0 ≤ j → j < n → gt j < o) ∧ c ≤ 8) (2 * (8 - c).toNat) (86 * (8 - c).toNat) hli 27 [(2, .int (gI (k))), (1, .int (gI (o))), (0, .ref (f))] [] := by
          refine Go.ind (fun kk ih_li => ?_)
          intro k hli hkk_li fr_li cr_li_0 cr_li_1 cr_li_2 cr_li_3 hk
          refine g_iload_n 0 dX0_gatherParts_27 rfl ?_
          refine g_aload_n 2 dX0_gatherParts_28 rfl ?_
          refine g_getf 11 dX0_gatherParts_29 kX0 (by decide) fX0_61 (FW.ob cr_li_3) rfl ?_
          refine g_icmp_ge (tgt := 74) dX0_gatherParts_32 rfl (by first | assumption | (unfold gW; omega) | (unfold gW; split <;> omega)) (by first | assumption | (unfold gW; omega) | (unfold gW; split <;> omega)) (fun c207 => ?_) (fun c207 => ?_)
          · skip
            have hkn : k.toNat = n.toNat := by omega
            have h8n : RP hp 84 hli (f + 8) (pQ hp Q gt o n.toNat) := by
                                                                      have e9 := cr_li_2
                                                                      rw [hkn] at e9; exact e9
            have hdl9 := pQ_le hp hFp (by omega) hf o n.toNat (by omega)
            have hdl8 := h8n.lt
            refine g_aload_n 2 dX0_gatherParts_74 rfl ?_
            refine g_getf 9 dX0_gatherParts_75 kX0 (by decide) fX0_38 (FW.ob cr_li_3) rfl ?_
            refine g_getf 1 dX0_gatherParts_78 kX5 (by decide) fX0_93 (h8n).o rfl ?_
            refine g_if_le (tgt := 122) dX0_gatherParts_81 rfl (by first | assumption | (unfold gW; omega) | (unfold gW; split <;> omega)) (fun c208 => ?_) (fun c208 => ?_)
            · skip
              refine g_iinc 1 (ls2 := [(1, .int (gI (o + 1))), (2, .int (gI (k))), (0, .ref (f))]) dX0_gatherParts_122 rfl (by decide) rfl ?_
              refine g_goto (tgt := 2) dX0_gatherParts_125 rfl ?_
              refine Go.sub [0, 2] rfl ?_
              exact Go.imp (by omega) (by omega) (ih_lo _ (by omega) (o + 1) (c) (gp1) (gq1) hli rfl fr_li cr_li_3 cr_li_0 cr_li_1 (by omega) (by omega) (ptI_n ht1 hpt (fun ⟨i, a, b, e⟩ => by
                                                                      have := (pQ_ok hp hdF hf o n.toNat (by omega)).2.2.2.2.mpr ⟨i, a, by omega, e⟩
                                                                      omega)))
            · skip
              refine g_aload_n 2 dX0_gatherParts_84 rfl ?_
              refine g_getf 5 dX0_gatherParts_85 kX0 (by decide) fX0_21 (FW.ob cr_li_3) rfl ?_
              refine g_aload_n 2 dX0_gatherParts_88 rfl ?_
              refine g_getf 12 dX0_gatherParts_89 kX0 (by decide) fX0_65 (FW.ob cr_li_3) rfl ?_
              refine Go.wf (fun wf210 => ?_)
              refine g_callS (nc2 := 2) (ns2 := 86) (As := [.ref (f + 3), .int (gI (c))]) (st := []) rfl dX0_gatherParts_92 okX5_in lX0_122 stX5_in (by decide) (by decide) rfl (Nat.le_of_ble_eq_true rfl) (sW_inP N _ hp B f h0 gr0 gp0 (gr) gp1 gt gq1 gR n c rn tg le sz n (Q) (c) (by omega) wf210 cr_li_3) (by omega) (by omega) (fun v209 hc209 q209 => ?_)
              obtain ⟨r210, g210, rfl, ga210, gb210, gc210, gd210, ge210, gf210⟩ := q209
              have ri210_0 : PW p B hc209 := PW.fk1 (f := f + 2) cr_li_0 (by omega) ge210
              have ri210_1 : GPc hp hc209 g210 (c) (fun i => pQ hp Q gt (gq1 i) n.toNat) := fun i i0 i1 => by
                                                                      obtain ⟨r, hr, hR⟩ := cr_li_1 i i0 i1
                                                                      have h9 := FW.lp cr_li_3 hr
                                                                      exact ⟨r, by rw [gd210 i (by omega)]; exact hr, hR.of1 (fun x e hx he => ge210.2 x e he (show _ ≠ _ by omega))⟩
              have ri210_2 : RP hp 84 hc209 (f + 8) (pQ hp Q gt o n.toNat) := (h8n).of1 (fun x e hx he => ge210.2 x e he (show _ ≠ _ by omega))
              refine Go.nf (h' := hc209) (st' := [.ref (r210)]) rfl rfl (Nat.le_refl _) (Nat.le_refl _) ?_
              refine g_aload_n 2 dX0_gatherParts_95 rfl ?_
              refine g_getf 9 dX0_gatherParts_96 kX0 (by decide) fX0_38 (FW.ob gf210) rfl ?_
              refine g_callV (nc2 := 0) (ns2 := 0) (ci := 5) (As := [.ref (f + 8)]) (st := []) rfl dX0_gatherParts_99 okX5_copy lX0_84 itX5_copy seX5_copy rfl (Classical.choose_spec (RA.o gc210)) (by decide) (by decide) rfl (Nat.le_of_ble_eq_true rfl) (sP_copy N _ (r210) (f + 8) 84 84 p hp hp2 (pQ hp Q gt o n.toNat) gc210 ri210_2 (by omega) (show AP (r210) (f + 8) by unfold AP; omega)) (by omega) (by omega) (fun v211 hc211 q211 => ?_)
              obtain ⟨rfl, frc212, rn212_0⟩ := q211
              have rk213_0 : PW p B hc211 := (ri210_0).fr2 frc212 (ok_c (by omega) (fun _ h => absurd h (List.not_mem_nil)))
              have rk5213_0 : RP hp 84 hc211 (f + 8) (pQ hp Q gt o n.toNat) := (ri210_2).fr frc212 (Ai.c (show AP (f + 8) (r210) by unfold AP; omega) (Ai.n _))
              refine Go.nf (h' := hc211) (st' := []) rfl rfl (Nat.le_refl _) (Nat.le_refl _) ?_
              obtain ⟨fw214, gq214⟩ : FW hp B f h0 gr0 gp0 hc211 gr g210 gt gq1 gR n c rn tg le sz n (Q) ∧ GPc hp hc211 g210 (c + 1) (fun t => if t = c then pQ hp Q gt o n.toNat else (fun i => pQ hp Q gt (gq1 i) n.toNat) t) := FW.putP gf210 ri210_1 ga210 frc212 rn212_0
              refine g_aload_n 2 dX0_gatherParts_102 rfl ?_
              refine g_getf 6 dX0_gatherParts_103 kX0 (by decide) fX0_24 (FW.ob fw214) rfl ?_
              refine g_aload_n 2 dX0_gatherParts_106 rfl ?_
              refine g_getf 12 dX0_gatherParts_107 kX0 (by decide) fX0_65 (FW.ob fw214) rfl ?_
              refine g_iload_n 1 dX0_gatherParts_110 rfl ?_
              refine g_iastore dX0_gatherParts_111 (FW.t4 fw214) (by omega) (by omega) (by omega) ?_
              obtain ⟨hh215, eh215⟩ : ∃ z : GH, z = hset hc211 (f + 4) (aI 8 (gup (gq1) (c) (o))) := ⟨_, rfl⟩
              refine Go.hp eh215.symm ?_
              have rh215_0 : RP hp 84 hh215 (f + 8) (pQ hp Q gt o n.toNat) := (rk5213_0).of (fun x hx => by rw [eh215, hset_n _ _ (by omega)])
              have rh215_1 : PW p B hh215 := PW.hs rk213_0 (by omega) eh215
              have rh215_2 : FW hp B f h0 gr0 gp0 hh215 gr g210 gt (gup (gq1) (c) (o)) gR n c rn tg le sz n (Q) := FW.cell fw214 (by rw [eh215]; rfl) (fun x x1 x2 x3 x4 => by rw [eh215, hset_n _ _ x3]) (hs_n eh215 (show NE (f) (f + 4) by unfold NE; omega) (FW.ob fw214)) (hs_n eh215 (show NE (f + 2) (f + 4) by unfold NE; omega) (FW.t2 fw214)) (hs_s eh215) (hs_n eh215 (show NE (f + 5) (f + 4) by unfold NE; omega) (FW.t5 fw214))
              have rh215_3 : GPc hp hh215 g210 (c + 1) (fun t => if t = c then pQ hp Q gt o n.toNat else (fun i => pQ hp Q gt (gq1 i) n.toNat) t) := FW.gp fw214 gq214 (fun x e hx he => by rw [eh215, hset_n _ _ (by omega)]; exact he)
              refine g_aload_n 2 dX0_gatherParts_112 rfl ?_
              refine g_dup dX0_gatherParts_113 rfl ?_
              refine g_getf 12 dX0_gatherParts_114 kX0 (by decide) fX0_65 (FW.ob rh215_2) rfl ?_
              refine g_iconst dX0_gatherParts_117 ?_
              refine g_iadd dX0_gatherParts_118 ?_
              refine g_putf 12 dX0_gatherParts_119 kX0 (by decide) fX0_65 rfl (FW.ob rh215_2) (Nat.le_of_ble_eq_true rfl) rfl rfl ?_
              obtain ⟨hh216, eh216⟩ : ∃ z : GH, z = hset hh215 (f) (oB 0 [.ref (B + 1), .ref (B + 7), .ref (f + 12), .ref (f + 1), .ref (f + 2), .ref (f + 3), .ref (f + 4), .ref (f + 5), .ref (f + 6), .ref (f + 8), .ref (f + 10), .int (gI (n)), .int (gI ((c) + (1))), .int (gI (rn)), .int (gI (tg)), .long (gJ (le))]) := ⟨_, rfl⟩
              refine Go.hp eh216.symm ?_
              have rh216_0 : RP hp 84 hh216 (f + 8) (pQ hp Q gt o n.toNat) := (rh215_0).of (fun x hx => by rw [eh216, hset_n _ _ (by omega)])
              have rh216_1 : PW p B hh216 := PW.hs rh215_1 (by omega) eh216
              have rh216_2 : FW hp B f h0 gr0 gp0 hh216 gr g210 gt (gup (gq1) (c) (o)) gR n ((c) + (1)) rn tg le sz n (Q) := FW.cell rh215_2 (by rw [eh216]; rfl) (fun x x1 x2 x3 x4 => by rw [eh216, hset_n _ _ x1]) (hs_s eh216) (hs_n eh216 (show NE (f + 2) (f) by unfold NE; omega) (FW.t2 rh215_2)) (hs_n eh216 (show NE (f + 4) (f) by unfold NE; omega) (FW.t4 rh215_2)) (hs_n eh216 (show NE (f + 5) (f) by unfold NE; omega) (FW.t5 rh215_2))
              have rh216_3 : GPc hp hh216 g210 (c + 1) (fun t => if t = c then pQ hp Q gt o n.toNat else (fun i => pQ hp Q gt (gq1 i) n.toNat) t) := FW.gp rh215_2 rh215_3 (fun x e hx he => by rw [eh216, hset_n _ _ (by omega)]; exact he)
              refine g_iinc 1 (ls2 := [(1, .int (gI (o + 1))), (2, .int (gI (k))), (0, .ref (f))]) dX0_gatherParts_122 rfl (by decide) rfl ?_
              refine g_goto (tgt := 2) dX0_gatherParts_125 rfl ?_
              refine Go.sub [0, 2] rfl ?_
              exact Go.imp (by omega) (by omega) (ih_lo _ (by omega) (o + 1) ((c) + (1)) (g210) (gup (gq1) (c) (o)) hh216 rfl fr_li rh216_2 rh216_1 (fun i i0 i1 => by
                                                                      have e9 := rh216_3 i i0 i1
                                                                      dsimp only at e9 ⊢
                                                                      unfold gup
                                                                      by_cases z : i = c
                                                                      · rw [if_pos z] at e9 ⊢; exact e9
                                                                      · rw [if_neg z] at e9 ⊢; exact e9) (by omega) (by omega) (ptI_s ht1 (by omega) hpt ((pQ_ok hp hdF hf o n.toNat (by omega)).2.2.2.2.mp (by omega) |> fun ⟨i, a, b, e⟩ => ⟨i, a, by omega, e⟩)))
          · skip
            have hbk := fcl_le hp hFp (by omega) hf (show 0 ≤ k by omega) (show k < n by omega)
            have hbt := ht1 k (by omega) (by omega)
            refine g_aload_n 2 dX0_gatherParts_35 rfl ?_
            refine g_getf 4 dX0_gatherParts_36 kX0 (by decide) fX0_17 (FW.ob cr_li_3) rfl ?_
            refine g_iload_n 0 dX0_gatherParts_39 rfl ?_
            refine g_iaload dX0_gatherParts_40 (FW.t2 cr_li_3) (by omega) (by omega) (by omega) ?_
            refine g_iload_n 1 dX0_gatherParts_41 rfl ?_
            refine g_icmp_ne (tgt := 68) dX0_gatherParts_42 rfl (by first | assumption | (unfold gW; omega) | (unfold gW; split <;> omega)) (by first | assumption | (unfold gW; omega) | (unfold gW; split <;> omega)) (fun c217 => ?_) (fun c217 => ?_)
            · skip
              refine g_iinc 0 (ls2 := [(2, .int (gI (k + 1))), (1, .int (gI (o))), (0, .ref (f))]) dX0_gatherParts_68 rfl (by decide) rfl ?_
              refine g_goto (tgt := 27) dX0_gatherParts_71 rfl ?_
              exact Go.imp (by omega) (by omega) (ih_li _ (by omega) (k + 1) hli rfl fr_li cr_li_0 cr_li_1 (by
                                                                      have e9 : pQ hp Q gt o (k + 1).toNat = pQ hp Q gt o k.toNat := by
                                                                        rw [show (k + 1).toNat = k.toNat + 1 by omega]
                                                                        show (if gt (k.toNat : Int) = o then _ else _) = _
                                                                        rw [show ((k.toNat : Nat) : Int) = k by omega, if_neg (by omega)]
                                                                      rw [e9]; exact cr_li_2) cr_li_3 (by omega))
            · skip
              refine g_aload_n 2 dX0_gatherParts_45 rfl ?_
              refine g_getf 1 dX0_gatherParts_46 kX0 (by decide) fX0_48 (FW.ob cr_li_3) rfl ?_
              refine g_aload_n 2 dX0_gatherParts_49 rfl ?_
              refine g_getf 9 dX0_gatherParts_50 kX0 (by decide) fX0_38 (FW.ob cr_li_3) rfl ?_
              refine g_aload_n 2 dX0_gatherParts_53 rfl ?_
              refine g_getf 3 dX0_gatherParts_54 kX0 (by decide) fX0_11 (FW.ob cr_li_3) rfl ?_
              refine g_iload_n 0 dX0_gatherParts_57 rfl ?_
              obtain ⟨r219, ga219, gh219⟩ := (cr_li_3).2.2.1 (k) (by omega) (by omega)
              have gb219 := FW.lr cr_li_3 ga219
              refine g_callS (nc2 := 0) (ns2 := 0) (As := [.ref (f + 1), .int (gI (k))]) (st := [.ref (f + 8), .ref (B + 7)]) rfl dX0_gatherParts_58 okX5_in lX0_122 stX5_in (by decide) (by decide) rfl (Nat.le_of_ble_eq_true rfl) (sL_in0 N _ (f + 1) 40 r219 (gr) (k) ⟨by omega, by omega⟩ (by omega) (FW.ls cr_li_3) ga219) (by omega) (by omega) (fun v218 hc218 q218 => ?_)
              obtain ⟨hq219, rfl⟩ := q218
              refine Go.nf (h' := hli) (st' := [.ref (r219), .ref (f + 8), .ref (B + 7)]) hq219 rfl (Nat.le_refl _) (Nat.le_refl _) ?_
              refine g_aload_n 2 dX0_gatherParts_61 rfl ?_
              refine g_getf 9 dX0_gatherParts_62 kX0 (by decide) fX0_38 (FW.ob cr_li_3) rfl ?_
              have hdl := pQ_le hp hFp (by omega) hf o k.toNat (by omega)
              refine g_callV (nc2 := 0) (ns2 := 0) (ci := 2) (As := [.ref (f + 8), .ref (r219), .ref (f + 8)]) (st := []) rfl dX0_gatherParts_65 okX2_multiply lX0_153 itX2_multiply seX2_multiply rfl (cr_li_0).1 (by decide) (by decide) rfl (Nat.le_of_ble_eq_true rfl) (sP_multiply N _ B (f + 8) (r219) (f + 8) p hp hp2 (pQ hp Q gt o k.toNat) (Q k) cr_li_0 cr_li_2 gh219 (cr_li_2).ra (by omega) (by omega) (by omega) (by omega)) (by omega) (by omega) (fun v220 hc220 q220 => ?_)
              obtain ⟨rfl, frc221, rn221_0, rn221_1⟩ := q220
              have gp222 : GPc hp hc220 gp1 (c) (fun i => pQ hp Q gt (gq1 i) n.toNat) := FW.gp cr_li_3 cr_li_1 (fun x e hx he => Fr.at0 frc221 (Ni.c ⟨(show NE (x) (f + 8) by unfold NE; omega), (show NE (x) (f + 9) by unfold NE; omega)⟩ (Ni_pl (by omega))) he)
              refine Go.nf (h' := hc220) (st' := []) rfl rfl (Nat.le_refl _) (Nat.le_refl _) ?_
              have fw223 : FW hp B f h0 gr0 gp0 hc220 gr gp1 gt gq1 gR n c rn tg le sz n (Q) := FW.pr cr_li_3 frc221 (fw_c (by omega) fw_pl) (six (Or.inl (Ai.c (show AP (f + 6) (f + 8) by unfold AP; omega) (Ai_pl (by omega)))) (Or.inr (rn221_0).ra) (Or.inl (Ai.c (show AP (f + 10) (f + 8) by unfold AP; omega) (Ai_pl (by omega)))) (Or.inl (Ai.c (show AP (f + 15) (f + 8) by unfold AP; omega) (Ai_pl (by omega)))) (Or.inl (Ai.c (show AP (f + 17) (f + 8) by unfold AP; omega) (Ai_pl (by omega)))) (Or.inl (Ai.c (show AP (f + 19) (f + 8) by unfold AP; omega) (Ai_pl (by omega))))) (Or.inl ⟨(Ni.c ⟨(show NE (f + 12) (f + 8) by unfold NE; omega), (show NE (f + 12) (f + 9) by unfold NE; omega)⟩ (Ni_pl (by omega))), rfl⟩) (Or.inl (Ni.c ⟨(show NE (f + 13) (f + 8) by unfold NE; omega), (show NE (f + 13) (f + 9) by unfold NE; omega)⟩ (Ni_pl (by omega)))) (Or.inl (Ni.c ⟨(show NE (f + 14) (f + 8) by unfold NE; omega), (show NE (f + 14) (f + 9) by unfold NE; omega)⟩ (Ni_pl (by omega))))
              refine g_iinc 0 (ls2 := [(2, .int (gI (k + 1))), (1, .int (gI (o))), (0, .ref (f))]) dX0_gatherParts_68 rfl (by decide) rfl ?_
              refine g_goto (tgt := 27) dX0_gatherParts_71 rfl ?_
              exact Go.imp (by omega) (by omega) (ih_li _ (by omega) (k + 1) hc220 rfl fr_li rn221_1 gp222 (by
                                                                      have e9 : pQ hp Q gt o (k + 1).toNat = pml hp (pQ hp Q gt o k.toNat) (Q k) := by
                                                                        rw [show (k + 1).toNat = k.toNat + 1 by omega]
                                                                        show (if gt (k.toNat : Int) = o then _ else _) = _
                                                                        rw [show ((k.toNat : Nat) : Int) = k by omega, if_pos (by omega)]
                                                                      rw [e9]; exact rn221_0) fw223 (by omega))
        exact Go.imp (by omega) (by omega) (li _ (0) hc103 rfl fr_lo rk105_0 gp105 rn104_0 fw106 (by omega))
  exact Go.imp (by omega) (by omega) (lo _ (1) (0) (gp) (gq) h rfl trivial hF hw (fun i i0 i1 => by omega) (by omega) (by omega) (ptI_0 gt n gq ht1))
