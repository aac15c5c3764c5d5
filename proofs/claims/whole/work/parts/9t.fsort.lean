set_option maxHeartbeats 4000000 in
set_option maxRecDepth 100000 in
theorem sF_sort (N : GN) (h : GH) (B f p : Nat) (hp : prm p) (hp2 : p ≤ 65536) (hBf : B + 58 ≤ f) (h0 : GH) (gr0 gp0 gr gp : Int → Option Nat) (gt gq gR : Int → Int) (n pn rn tg le sz : Int) (Q : Int → Px p) (F : Px p) (hn : 0 ≤ n ∧ n ≤ 40) (hf : fcl hp F n Q gt) (hF : FW hp B f h0 gr0 gp0 h gr gp gt gq gR n pn rn tg le sz n Q) (hw : PW p B h) : Sp N yX0_sort mX0_sort 0 0 [.ref (f)] h (fun v h1 => v = none ∧ ∃ gr1 gt1 Q1, PW p B h1 ∧ FW hp B f h0 gr0 gp0 h1 gr1 gp gt1 gq gR n pn rn tg le sz n Q1 ∧ fcl hp F n Q1 gt1 ∧ (∀ i : Int, 0 ≤ i → i + 1 < n → ltP hp (Q1 i) (Q1 (i + 1))) ∧ sI gt1 n.toNat = sI gt n.toNat) := by
  refine Sp.of (by decide) rfl rfl (Nat.le_of_ble_eq_true rfl) ?_
  show Go N mX0_sort _ 0 0 h 0 [(0, .ref (f))] []
  have hp1 := hp.1
  refine g_iconst dX0_sort_0 ?_
  refine g_istore_n (ls2 := [(1, .int (gI (1))), (0, .ref (f))]) dX0_sort_1 rfl (by decide) rfl ?_
  have lo : ∀ (kk : Nat) (k : Int) (gr1 : Int → Option Nat) (gt1 : Int → Int) (Q1 : Int → Px p) (hlo : GH), kk = (50 - k).toNat → True → FW hp B f h0 gr0 gp0 hlo gr1 gp gt1 gq gR n pn rn tg le sz n (Q1) → PW p B hlo → (1 ≤ k ∧ (k ≤ n ∨ k ≤ 1)) → (fcl hp F n Q1 gt1) → (∀ i : Int, 0 ≤ i → i + 1 < k → ltP hp (Q1 i) (Q1 (i + 1))) → (sI gt1 n.toNat = sI gt n.toNat) → Go N mX0_sort (fun v h1 => v = none ∧ ∃ gr1 gt1 Q1, PW p B h1 ∧ FW hp B f h0 gr0 gp0 h1 gr1 gp gt1 gq gR n pn rn tg le sz n Q1 ∧ fcl hp F n Q1 gt1 ∧ (∀ i : Int, 0 ≤ i → i + 1 < n → ltP hp (Q1 i) (Q1 (i + 1))) ∧ sI gt1 n.toNat = sI gt n.toNat) 0 0 hlo 2 [(1, .int (gI (k))), (0, .ref (f))] [] := by
    refine Go.ind (fun kk ih_lo => ?_)
    intro k gr1 gt1 Q1 hlo hkk_lo fr_lo cr_lo_0 cr_lo_1 hk hf1 hs1 ht1
    refine g_iload_n 0 dX0_sort_2 rfl ?_
    refine g_aload_n 1 dX0_sort_3 rfl ?_
    refine g_getf 11 dX0_sort_4 kX0 (by decide) fX0_61 (FW.ob cr_lo_0) rfl ?_
    refine g_icmp_ge (tgt := 114) dX0_sort_7 rfl (by first | assumption | (unfold gW; omega) | (unfold gW; split <;> omega)) (by first | assumption | (unfold gW; omega) | (unfold gW; split <;> omega)) (fun c101 => ?_) (fun c101 => ?_)
    · skip
      exact g_vret dX0_sort_114 rfl ⟨rfl, gr1, gt1, Q1, cr_lo_1, cr_lo_0, hf1, (fun i i0 i1 => hs1 i i0 (by omega)), ht1⟩
    · skip
      refine g_iload_n 0 dX0_sort_10 rfl ?_
      refine g_istore_n (ls2 := [(2, .int (gI (k))), (1, .int (gI (k))), (0, .ref (f))]) dX0_sort_11 rfl (by decide) rfl ?_
      have li : ∀ (kk : Nat) (l : Int) (gr2 : Int → Option Nat) (gt2 : Int → Int) (Q2 : Int → Px p) (hli : GH), kk = l.toNat → True → FW hp B f h0 gr0 gp0 hli gr2 gp gt2 gq gR n pn rn tg le sz n (Q2) → PW p B hli → (0 ≤ l ∧ l ≤ k) → (fcl hp F n Q2 gt2) → (so1 hp Q2 k l) → (sI gt2 n.toNat = sI gt n.toNat) → Go N mX0_sort (fun v h1 => v = none ∧ ∃ gr1 gt1 Q1, PW p B h1 ∧ FW hp B f h0 gr0 gp0 h1 gr1 gp gt1 gq gR n pn rn tg le sz n Q1 ∧ fcl hp F n Q1 gt1 ∧ (∀ i : Int, 0 ≤ i → i + 1 < n → ltP hp (Q1 i) (Q1 (i + 1))) ∧ sI gt1 n.toNat = sI gt n.toNat) 0 0 hli 12 [(2, .int (gI (l))), (1, .int (gI (k))), (0, .ref (f))] [] := by
        refine Go.ind (fun kk ih_li => ?_)
        intro l gr2 gt2 Q2 hli hkk_li fr_li cr_li_0 cr_li_1 hl hf2 hs2 ht2
        refine g_iload_n 0 dX0_sort_12 rfl ?_
        refine g_if_le (tgt := 108) dX0_sort_13 rfl (by first | assumption | (unfold gW; omega) | (unfold gW; split <;> omega)) (fun c202 => ?_) (fun c202 => ?_)
        · skip
          refine g_iinc 1 (ls2 := [(1, .int (gI (k + 1))), (2, .int (gI (l))), (0, .ref (f))]) dX0_sort_108 rfl (by decide) rfl ?_
          refine g_goto (tgt := 2) dX0_sort_111 rfl ?_
          refine Go.sub [0, 2] rfl ?_
          exact ih_lo _ (by omega) (k + 1) (gr2) (gt2) (Q2) hli rfl fr_li cr_li_0 cr_li_1 (by omega) hf2 (fun i i0 i1 => so1_e hp hs2 (Or.inl (by omega)) i i0 (by omega)) ht2
        · skip
          refine g_aload_n 2 dX0_sort_16 rfl ?_
          refine g_getf 3 dX0_sort_17 kX0 (by decide) fX0_11 (FW.ob cr_li_0) rfl ?_
          refine g_iload_n 0 dX0_sort_20 rfl ?_
          obtain ⟨r204, ga204, gh204⟩ := (cr_li_0).2.2.1 (l) (by omega) (by omega)
          have gb204 := FW.lr cr_li_0 ga204
          refine g_callS (nc2 := 0) (ns2 := 0) (As := [.ref (f + 1), .int (gI (l))]) (st := []) rfl dX0_sort_21 okX5_in lX0_122 stX5_in (by decide) (by decide) rfl (Nat.le_of_ble_eq_true rfl) (sL_in0 N _ (f + 1) 40 r204 (gr2) (l) ⟨by omega, by omega⟩ (by omega) (FW.ls cr_li_0) ga204) (by omega) (by omega) (fun v203 hc203 q203 => ?_)
          obtain ⟨hq204, rfl⟩ := q203
          refine Go.nf (h' := hli) (st' := [.ref (r204)]) hq204 rfl (Nat.le_refl _) (Nat.le_refl _) ?_
          refine g_aload_n 2 dX0_sort_24 rfl ?_
          refine g_getf 3 dX0_sort_25 kX0 (by decide) fX0_11 (FW.ob cr_li_0) rfl ?_
          refine g_iload_n 0 dX0_sort_28 rfl ?_
          refine g_iconst dX0_sort_29 ?_
          refine g_isub dX0_sort_30 ?_
          obtain ⟨r206, ga206, gh206⟩ := (cr_li_0).2.2.1 ((l) - (1)) (by omega) (by omega)
          have gb206 := FW.lr cr_li_0 ga206
          refine g_callS (nc2 := 0) (ns2 := 0) (As := [.ref (f + 1), .int (gI ((l) - (1)))]) (st := [.ref (r204)]) rfl dX0_sort_31 okX5_in lX0_122 stX5_in (by decide) (by decide) rfl (Nat.le_of_ble_eq_true rfl) (sL_in0 N _ (f + 1) 40 r206 (gr2) ((l) - (1)) ⟨by omega, by omega⟩ (by omega) (FW.ls cr_li_0) ga206) (by omega) (by omega) (fun v205 hc205 q205 => ?_)
          obtain ⟨hq206, rfl⟩ := q205
          refine Go.nf (h' := hli) (st' := [.ref (r206), .ref (r204)]) hq206 rfl (Nat.le_refl _) (Nat.le_refl _) ?_
          refine g_callS (nc2 := 0) (ns2 := 0) (As := [.ref (r204), .ref (r206)]) (st := []) rfl dX0_sort_34 okX0_isBefore lX0_145 stX0_isBefore (by decide) (by decide) rfl (Nat.le_of_ble_eq_true rfl) (sF_isBefore N _ r204 r206 p hp hp2 (Q2 l) (Q2 (l - 1)) gh204 gh206) (by omega) (by omega) (fun v207 hc207 q207 => ?_)
          obtain ⟨hq208, hr208⟩ := q207
          rcases hr208 with ⟨hlt, rfl⟩ | ⟨hlt, rfl⟩
          · skip
            refine Go.nf (h' := hli) (st' := [.int (gI (1))]) hq208 rfl (Nat.le_refl _) (Nat.le_refl _) ?_
            refine g_if_eq (tgt := 108) dX0_sort_37 rfl (by first | assumption | (unfold gW; omega) | (unfold gW; split <;> omega)) (fun c209 => absurd c209 (by omega)) (fun c209 => ?_)
            refine g_aload_n 2 dX0_sort_40 rfl ?_
            refine g_getf 3 dX0_sort_41 kX0 (by decide) fX0_11 (FW.ob cr_li_0) rfl ?_
            refine g_iload_n 0 dX0_sort_44 rfl ?_
            refine g_aaload dX0_sort_45 (by decide) (FW.ls cr_li_0) (by omega) (by omega) (by first | decide | omega) ?_
            rw [ga204]
            refine g_astore_n (ls2 := [(3, .ref (r204)), (2, .int (gI (l))), (1, .int (gI (k))), (0, .ref (f))]) dX0_sort_46 rfl (by decide) rfl ?_
            refine g_aload_n 3 dX0_sort_47 rfl ?_
            refine g_getf 3 dX0_sort_48 kX0 (by decide) fX0_11 (FW.ob cr_li_0) rfl ?_
            refine g_iload_n 1 dX0_sort_51 rfl ?_
            refine g_aload_n 3 dX0_sort_52 rfl ?_
            refine g_getf 3 dX0_sort_53 kX0 (by decide) fX0_11 (FW.ob cr_li_0) rfl ?_
            refine g_iload_n 1 dX0_sort_56 rfl ?_
            refine g_iconst dX0_sort_57 ?_
            refine g_isub dX0_sort_58 ?_
            refine g_aaload dX0_sort_59 (by decide) (FW.ls cr_li_0) (by omega) (by omega) (by first | decide | omega) ?_
            rw [ga206]
            refine g_aastore dX0_sort_60 (by decide) kX5 (FW.ls cr_li_0) gh206.o (by omega) (by omega) (by first | decide | omega) ?_
            obtain ⟨hh210, eh210⟩ : ∃ z : GH, z = hset hli (f + 1) (aR "PolyWork$Row" 40 (gup (gr2) (l) (some (r206)))) := ⟨_, rfl⟩
            refine Go.hp eh210.symm ?_
            have fh210_0 : hh210.2 (f) = some (oB 0 [.ref (B + 1), .ref (B + 7), .ref (f + 12), .ref (f + 1), .ref (f + 2), .ref (f + 3), .ref (f + 4), .ref (f + 5), .ref (f + 6), .ref (f + 8), .ref (f + 10), .int (gI (n)), .int (gI (pn)), .int (gI (rn)), .int (gI (tg)), .long (gJ (le))]) := hs_n eh210 (show NE (f) (f + 1) by unfold NE; omega) (FW.ob cr_li_0)
            have fh210_1 : hh210.2 (f + 1) = some (aR "PolyWork$Row" 40 (gup (gr2) (l) (some (r206)))) := hs_s eh210
            have fh210_2 : hh210.2 (f + 2) = some (aI 40 (gt2)) := hs_n eh210 (show NE (f + 2) (f + 1) by unfold NE; omega) (FW.t2 cr_li_0)
            have fh210_3 : hh210.2 (r204) = some (oB 5 [.ref (r204 + 1), .int (gI (dgi hp (Q2 (l))))]) := hs_n eh210 (show NE (r204) (f + 1) by unfold NE; omega) gh204.o
            have fh210_4 : hh210.2 (r206) = some (oB 5 [.ref (r206 + 1), .int (gI (dgi hp (Q2 (l - 1))))]) := hs_n eh210 (show NE (r206) (f + 1) by unfold NE; omega) gh206.o
            have rh210_0 : PW p B hh210 := PW.hs cr_li_1 (by omega) eh210
            refine g_aload_n 3 dX0_sort_61 rfl ?_
            refine g_getf 3 dX0_sort_62 kX0 (by decide) fX0_11 fh210_0 rfl ?_
            refine g_iload_n 1 dX0_sort_65 rfl ?_
            refine g_iconst dX0_sort_66 ?_
            refine g_isub dX0_sort_67 ?_
            refine g_aload_n 0 dX0_sort_68 rfl ?_
            refine g_aastore dX0_sort_69 (by decide) kX5 fh210_1 fh210_3 (by omega) (by omega) (by first | decide | omega) ?_
            obtain ⟨hh211, eh211⟩ : ∃ z : GH, z = hset hh210 (f + 1) (aR "PolyWork$Row" 40 (gup (gup (gr2) (l) (some (r206))) ((l) - (1)) (some (r204)))) := ⟨_, rfl⟩
            refine Go.hp eh211.symm ?_
            have fh211_0 : hh211.2 (f) = some (oB 0 [.ref (B + 1), .ref (B + 7), .ref (f + 12), .ref (f + 1), .ref (f + 2), .ref (f + 3), .ref (f + 4), .ref (f + 5), .ref (f + 6), .ref (f + 8), .ref (f + 10), .int (gI (n)), .int (gI (pn)), .int (gI (rn)), .int (gI (tg)), .long (gJ (le))]) := hs_n eh211 (show NE (f) (f + 1) by unfold NE; omega) fh210_0
            have fh211_1 : hh211.2 (f + 1) = some (aR "PolyWork$Row" 40 (gup (gup (gr2) (l) (some (r206))) ((l) - (1)) (some (r204)))) := hs_s eh211
            have fh211_2 : hh211.2 (f + 2) = some (aI 40 (gt2)) := hs_n eh211 (show NE (f + 2) (f + 1) by unfold NE; omega) fh210_2
            have fh211_3 : hh211.2 (r204) = some (oB 5 [.ref (r204 + 1), .int (gI (dgi hp (Q2 (l))))]) := hs_n eh211 (show NE (r204) (f + 1) by unfold NE; omega) fh210_3
            have fh211_4 : hh211.2 (r206) = some (oB 5 [.ref (r206 + 1), .int (gI (dgi hp (Q2 (l - 1))))]) := hs_n eh211 (show NE (r206) (f + 1) by unfold NE; omega) fh210_4
            have rh211_0 : PW p B hh211 := PW.hs rh210_0 (by omega) eh211
            refine g_aload_n 3 dX0_sort_70 rfl ?_
            refine g_getf 4 dX0_sort_71 kX0 (by decide) fX0_17 fh211_0 rfl ?_
            refine g_iload_n 1 dX0_sort_74 rfl ?_
            refine g_iaload dX0_sort_75 fh211_2 (by omega) (by omega) (by omega) ?_
            refine g_istore (ls2 := [(4, .int (gI ((gt2) (l)))), (3, .ref (r204)), (2, .int (gI (l))), (1, .int (gI (k))), (0, .ref (f))]) dX0_sort_76 (by decide) rfl ?_
            refine g_aload_n 4 dX0_sort_78 rfl ?_
            refine g_getf 4 dX0_sort_79 kX0 (by decide) fX0_17 fh211_0 rfl ?_
            refine g_iload_n 2 dX0_sort_82 rfl ?_
            refine g_aload_n 4 dX0_sort_83 rfl ?_
            refine g_getf 4 dX0_sort_84 kX0 (by decide) fX0_17 fh211_0 rfl ?_
            refine g_iload_n 2 dX0_sort_87 rfl ?_
            refine g_iconst dX0_sort_88 ?_
            refine g_isub dX0_sort_89 ?_
            refine g_iaload dX0_sort_90 fh211_2 (by omega) (by omega) (by omega) ?_
            refine g_iastore dX0_sort_91 fh211_2 (by omega) (by omega) (by omega) ?_
            obtain ⟨hh212, eh212⟩ : ∃ z : GH, z = hset hh211 (f + 2) (aI 40 (gup (gt2) (l) ((gt2) ((l) - (1))))) := ⟨_, rfl⟩
            refine Go.hp eh212.symm ?_
            have fh212_0 : hh212.2 (f) = some (oB 0 [.ref (B + 1), .ref (B + 7), .ref (f + 12), .ref (f + 1), .ref (f + 2), .ref (f + 3), .ref (f + 4), .ref (f + 5), .ref (f + 6), .ref (f + 8), .ref (f + 10), .int (gI (n)), .int (gI (pn)), .int (gI (rn)), .int (gI (tg)), .long (gJ (le))]) := hs_n eh212 (show NE (f) (f + 2) by unfold NE; omega) fh211_0
            have fh212_1 : hh212.2 (f + 1) = some (aR "PolyWork$Row" 40 (gup (gup (gr2) (l) (some (r206))) ((l) - (1)) (some (r204)))) := hs_n eh212 (show NE (f + 1) (f + 2) by unfold NE; omega) fh211_1
            have fh212_2 : hh212.2 (f + 2) = some (aI 40 (gup (gt2) (l) ((gt2) ((l) - (1))))) := hs_s eh212
            have fh212_3 : hh212.2 (r204) = some (oB 5 [.ref (r204 + 1), .int (gI (dgi hp (Q2 (l))))]) := hs_n eh212 (show NE (r204) (f + 2) by unfold NE; omega) fh211_3
            have fh212_4 : hh212.2 (r206) = some (oB 5 [.ref (r206 + 1), .int (gI (dgi hp (Q2 (l - 1))))]) := hs_n eh212 (show NE (r206) (f + 2) by unfold NE; omega) fh211_4
            have rh212_0 : PW p B hh212 := PW.hs rh211_0 (by omega) eh212
            refine g_aload_n 4 dX0_sort_92 rfl ?_
            refine g_getf 4 dX0_sort_93 kX0 (by decide) fX0_17 fh212_0 rfl ?_
            refine g_iload_n 2 dX0_sort_96 rfl ?_
            refine g_iconst dX0_sort_97 ?_
            refine g_isub dX0_sort_98 ?_
            refine g_iload 0 dX0_sort_99 rfl ?_
            refine g_iastore dX0_sort_101 fh212_2 (by omega) (by omega) (by omega) ?_
            obtain ⟨hh213, eh213⟩ : ∃ z : GH, z = hset hh212 (f + 2) (aI 40 (gup (gup (gt2) (l) ((gt2) ((l) - (1)))) ((l) - (1)) ((gt2) (l)))) := ⟨_, rfl⟩
            refine Go.hp eh213.symm ?_
            have fh213_0 : hh213.2 (f) = some (oB 0 [.ref (B + 1), .ref (B + 7), .ref (f + 12), .ref (f + 1), .ref (f + 2), .ref (f + 3), .ref (f + 4), .ref (f + 5), .ref (f + 6), .ref (f + 8), .ref (f + 10), .int (gI (n)), .int (gI (pn)), .int (gI (rn)), .int (gI (tg)), .long (gJ (le))]) := hs_n eh213 (show NE (f) (f + 2) by unfold NE; omega) fh212_0
            have fh213_1 : hh213.2 (f + 1) = some (aR "PolyWork$Row" 40 (gup (gup (gr2) (l) (some (r206))) ((l) - (1)) (some (r204)))) := hs_n eh213 (show NE (f + 1) (f + 2) by unfold NE; omega) fh212_1
            have fh213_2 : hh213.2 (f + 2) = some (aI 40 (gup (gup (gt2) (l) ((gt2) ((l) - (1)))) ((l) - (1)) ((gt2) (l)))) := hs_s eh213
            have fh213_3 : hh213.2 (r204) = some (oB 5 [.ref (r204 + 1), .int (gI (dgi hp (Q2 (l))))]) := hs_n eh213 (show NE (r204) (f + 2) by unfold NE; omega) fh212_3
            have fh213_4 : hh213.2 (r206) = some (oB 5 [.ref (r206 + 1), .int (gI (dgi hp (Q2 (l - 1))))]) := hs_n eh213 (show NE (r206) (f + 2) by unfold NE; omega) fh212_4
            have rh213_0 : PW p B hh213 := PW.hs rh212_0 (by omega) eh213
            have fwz : FW hp B f h0 gr0 gp0 hh213 (swI gr2 l) gp (swI gt2 l) gq gR n pn rn tg le sz n (swI Q2 l) := FW.swap cr_li_0 ⟨by omega, by omega⟩ (by rw [eh213, eh212, eh211, eh210]; rfl) (fun x x1 x2 => by rw [eh213, hset_n _ _ x2, eh212, hset_n _ _ x2, eh211, hset_n _ _ x1, eh210, hset_n _ _ x1]) (by
                                                                      have e9 := fh213_1
                                                                      rw [swI_g ga204 ga206] at e9; exact e9) (by
                                                                      have e9 := fh213_2
                                                                      rw [swI_g rfl rfl] at e9; exact e9)
            refine g_iinc 2 (ls2 := [(2, .int (gI (l + (-1)))), (4, .int (gI ((gt2) (l)))), (3, .ref (r204)), (1, .int (gI (k))), (0, .ref (f))]) dX0_sort_102 rfl (by decide) rfl ?_
            refine g_goto (tgt := 12) dX0_sort_105 rfl ?_
            refine Go.sub [0, 3, 4] rfl ?_
            exact ih_li _ (by omega) (l + (-1)) (swI gr2 l) (swI gt2 l) (swI Q2 l) hh213 rfl fr_li fwz rh213_0 (by omega) (fcl_sw hp ⟨by omega, by omega⟩ hf2) (by rw [show l + (-1) = l - 1 by omega]; exact so1_sw hp hs2 ⟨by omega, by omega⟩ hlt) (by
                                                                      rw [← ht2]
                                                                      have e9 := sI_sw (t := gt2) (l := (l - 1).toNat) n.toNat (by omega)
                                                                      rw [show (((l - 1).toNat : Nat) : Int) + 1 = l by omega] at e9
                                                                      exact e9)
          · skip
            refine Go.nf (h' := hli) (st' := [.int (gI (0))]) hq208 rfl (Nat.le_refl _) (Nat.le_refl _) ?_
            have hlt9 : ltP hp (Q2 (l - 1)) (Q2 l) := by
                                                                      rcases ltP_tri hp (hf2.1 (l - 1) (by omega) (by omega)).1.1.1 (hf2.1 l (by omega) (by omega)).1.1.1 (hf2.2.1 (l - 1) l (by omega) (by omega) (by omega)) with z | z
                                                                      · exact z
                                                                      · exact absurd z hlt
            refine g_if_eq (tgt := 108) dX0_sort_37 rfl (by first | assumption | (unfold gW; omega) | (unfold gW; split <;> omega)) (fun c214 => ?_) (fun c214 => absurd c214 (by omega))
            refine g_iinc 1 (ls2 := [(1, .int (gI (k + 1))), (2, .int (gI (l))), (0, .ref (f))]) dX0_sort_108 rfl (by decide) rfl ?_
            refine g_goto (tgt := 2) dX0_sort_111 rfl ?_
            refine Go.sub [0, 2] rfl ?_
            exact ih_lo _ (by omega) (k + 1) (gr2) (gt2) (Q2) hli rfl fr_li cr_li_0 cr_li_1 (by omega) hf2 (fun i i0 i1 => so1_e hp hs2 (Or.inr hlt9) i i0 (by omega)) ht2
      exact li _ (k) (gr1) (gt1) (Q1) hlo rfl fr_lo cr_lo_0 cr_lo_1 (by omega) hf1 (⟨fun i i0 i1 i2 => hs1 i i0 (by omega), fun a b => by omega⟩) ht1
  exact lo _ (1) (gr) (gt) (Q) h rfl trivial hF hw (by omega) hf (fun i i0 i1 => by omega) rfl
