section
variable {p : Nat}
theorem dvI_0 (h : prm p) {fa fb : Px p} {i : Int} {lr lq : Int → Int} (ha : po (fR h) fa) (hd : dgi h fa < 200) (hi : i = dgi h fa - dgi h fb) (h1 : ∀ k, 0 ≤ k → k < 200 → lr k = cf fa k) (h2 : ∀ k, 0 ≤ k → k < 200 → lq k = 0) (hi2 : i < 200) : dvI h fa fb i lr lq := by
  have hp := h.1
  refine ⟨fun k k0 k1 => by rw [h1 k k0 k1]; exact cf_in fa h k, fun k k0 k1 => by rw [h2 k k0 k1]; omega, fun k k0 k1 => ?_, fun k k0 k1 => h2 k k0 (by omega), ?_⟩
  · have := dgi_ge h ha
    rw [h1 k (by omega) k1, cf_hi h ha (by omega)]
  · letI := pR h
    have e1 : ph h lr 199 = fa := (ph_cg h (fun k k0 k1 => by rw [h1 k k0 (by omega)])).trans (ph_cf h ha (d := 199) (by omega))
    have e2 : ph h lq 199 = 0 := funext fun k => by
      rw [zero_k]
      letI := fR h
      show (if (k : Int) ≤ 199 then zi h (lq k) else 0) = 0
      by_cases z : (k : Int) ≤ 199
      · rw [if_pos z, h2 k (by omega) (by omega), zi_0 h]
      · rw [if_neg z]
    rw [e1, e2]
    grind
end
set_option maxHeartbeats 4000000 in
set_option maxRecDepth 100000 in
theorem sM_divide (N : GN) (h : GH) (B p : Nat) (hp : prm p) (hp2 : p ≤ 65536) (hf le fc pn rn hn qn : Int) (a b q r : Int) (hq : 0 ≤ q ∧ q < 40) (hr : 0 ≤ r ∧ r < 40) (har : a ≠ r) (hbq : b ≠ q) (hbr : b ≠ r) (hqr : q ≠ r) (fa fb : Px p) (hm : h.2 B = some (mO B p hf le fc pn rn hn qn)) (ma : MA B h) (hGa : MG hp B h a fa) (hGb : MG hp B h b fb) (hdb : 0 ≤ dgi hp fb) : Sp N yX10_divide mX10_divide 0 0 [.ref (B), .int (gI (a)), .int (gI (b)), .int (gI (q)), .int (gI (r))] h (fun v h1 => v = none ∧ MF B [] [r, q] h h1 ∧ MG hp B h1 r (rm hp fa fb) ∧ MG hp B h1 q (qt hp fa fb)) := by
  refine Sp.of (by decide) rfl rfl (Nat.le_of_ble_eq_true rfl) ?_
  show Go N mX10_divide _ 0 0 h 0 [(0, .ref (B)), (1, .int (gI (a))), (2, .int (gI (b))), (3, .int (gI (q))), (4, .int (gI (r)))] []
  have hp1 := hp.1
  have neA : NE B (B + 5) := by unfold NE; omega
  have neB : NE B (B + 6) := by unfold NE; omega
  have neC : NE (B + 5) (B + 6) := by unfold NE; omega
  have hra := hGa.in
  have hrb := hGb.in
  have hla := hGa.lt
  have hlb := hGb.lt
  have hpa := hGa.po
  have hpb := hGb.po
  refine g_aload_n 0 dX10_divide_0 rfl ?_
  refine g_iload_n 1 dX10_divide_1 rfl ?_
  refine g_iload 4 dX10_divide_2 rfl ?_
  refine g_callV (nc2 := 0) (ns2 := 0) (ci := 10) (As := [.int (gI (a)), .int (gI (r))]) (st := []) rfl dX10_divide_4 okX10_copy lX10_167 itX10_copy seX10_copy rfl hm (by decide) (by decide) rfl (Nat.le_of_ble_eq_true rfl) (sM_copy N _ B p hp hp2 hf le fc pn rn hn qn (a) (r) (by omega) (by omega) (fa) hm ((MF.rf [] [r, q] ma)).2.1 hGa) (by omega) (by omega) (fun v1 hc1 q1 => ?_)
  obtain ⟨rfl, mfc2, rn2_0⟩ := q1
  have fk3_0 : hc1.2 (B) = some (mO B ((p : Int)) (hf) (le) (fc) (pn) (rn) (hn) (qn)) := Fr.at0 (mfc2).1 (Ni.c ⟨neA, neB⟩ (Ni.n _)) hm
  have rk3_0 : MG hp B hc1 (a) (fa) := (hGa).fr hp2 mfc2 (Nr.c (by omega) Nr.n)
  have rk3_1 : MG hp B hc1 (b) (fb) := (hGb).fr hp2 mfc2 (Nr.c (by omega) Nr.n)
  have fr3 : MF B [] [r, q] h hc1 := ((MF.rf [] [r, q] ma)).tr ((mfc2).mo sub_n (sbI_c (List.Mem.head _) sbI_n))
  refine Go.nf (h' := hc1) (st' := []) rfl rfl (Nat.le_refl _) (Nat.le_refl _) ?_
  refine g_aload_n 0 dX10_divide_7 rfl ?_
  refine g_iload_n 3 dX10_divide_8 rfl ?_
  refine g_iconst dX10_divide_9 ?_
  refine g_callV (nc2 := 0) (ns2 := 0) (ci := 10) (As := [.int (gI (q)), .int (gI (0))]) (st := []) rfl dX10_divide_10 okX10_be lX10_170 itX10_be seX10_be rfl fk3_0 (by decide) (by decide) rfl (Nat.le_of_ble_eq_true rfl) (sM_be N _ B p hp hp2 hf le fc pn rn hn qn (q) (0) (by omega) (by omega) (by omega) fk3_0 (fr3).2.1) (by omega) (by omega) (fun v4 hc4 q4 => ?_)
  obtain ⟨rfl, mfc5, rn5_0⟩ := q4
  have fk6_0 : hc4.2 (B) = some (mO B ((p : Int)) (hf) (le) (fc) (pn) (rn) (hn) (qn)) := Fr.at0 (mfc5).1 (Ni.c ⟨neA, neB⟩ (Ni.n _)) fk3_0
  have rk6_0 : MG hp B hc4 (b) (fb) := (rk3_1).fr hp2 mfc5 (Nr.c (by omega) Nr.n)
  have rk6_1 : MG hp B hc4 (r) (fa) := (rn2_0).fr hp2 mfc5 (Nr.c (by omega) Nr.n)
  have fr6 : MF B [] [r, q] h hc4 := (fr3).tr ((mfc5).mo sub_n (sbI_c (List.Mem.tail _ (List.Mem.head _)) sbI_n))
  refine Go.nf (h' := hc4) (st' := []) rfl rfl (Nat.le_refl _) (Nat.le_refl _) ?_
  obtain ⟨hA, hAe⟩ : ∃ z : GH, z = hc4 := ⟨_, rfl⟩
  obtain ⟨R, d, hu, hv, hR, hD⟩ := MG.ma rk6_1
  have hFr := (rk6_1).at hu hv hR hD
  have hFq := (rn5_0).at hu hv hR hD
  have hFb := (rk6_0).at hu hv hR hD
  have hFr1 := hFr.1
  have hFb1 := hFb.1
  refine g_aload_n 0 dX10_divide_13 rfl ?_
  refine g_aload_n 0 dX10_divide_14 rfl ?_
  refine g_getf 5 dX10_divide_15 kX10 (by decide) fX10_23 fk6_0 rfl ?_
  refine g_sipush dX10_divide_18 (by decide) ?_
  refine g_iload_n 2 dX10_divide_21 rfl ?_
  refine g_imul dX10_divide_22 ?_
  refine g_aload_n 0 dX10_divide_23 rfl ?_
  refine g_getf 6 dX10_divide_24 kX10 (by decide) fX10_26 fk6_0 rfl ?_
  refine g_iload_n 2 dX10_divide_27 rfl ?_
  refine g_iaload dX10_divide_28 hD (by omega) (by omega) (by omega) ?_
  refine g_iadd dX10_divide_29 ?_
  refine g_iaload dX10_divide_30 hR (by omega) (by omega) (by omega) ?_
  have hrl : ar R (200 * b + d b) = cf fb (dgi hp fb) := by rw [hFb.1, ar_r R (by omega) (by omega), hFb.2 _ (by omega) (by omega)]
  have hcb := cf_in fb hp (dgi hp fb)
  have hiv := ivr_in hp (cf fb (dgi hp fb))
  rw [hrl]
  refine g_callV (nc2 := 0) (ns2 := 0) (ci := 10) (As := [.int (gI (cf fb (dgi hp fb)))]) (st := []) rfl dX10_divide_31 okX10_inverse lX10_173 itX10_inverse seX10_inverse rfl fk6_0 (by decide) (by decide) rfl (Nat.le_of_ble_eq_true rfl) (sM_inverse N _ B p hp hp2 hf le fc pn rn hn qn (cf fb (dgi hp fb)) fk6_0 (by omega) (by omega)) (by omega) (by omega) (fun v107 hc107 q107 => ?_)
  obtain ⟨hq108, rfl⟩ := q107
  refine Go.nf (h' := hc4) (st' := [.int (gI (ivr p (cf fb (dgi hp fb))))]) hq108 rfl (Nat.le_refl _) (Nat.le_refl _) ?_
  refine g_istore (ls2 := [(5, .int (gI (ivr p (cf fb (dgi hp fb))))), (0, .ref (B)), (1, .int (gI (a))), (2, .int (gI (b))), (3, .int (gI (q))), (4, .int (gI (r)))]) dX10_divide_34 (by decide) rfl ?_
  refine g_aload_n 1 dX10_divide_36 rfl ?_
  refine g_getf 6 dX10_divide_37 kX10 (by decide) fX10_26 fk6_0 rfl ?_
  refine g_iload 5 dX10_divide_40 rfl ?_
  refine g_iaload dX10_divide_42 hD (by omega) (by omega) (by omega) ?_
  refine g_aload_n 1 dX10_divide_43 rfl ?_
  refine g_getf 6 dX10_divide_44 kX10 (by decide) fX10_26 fk6_0 rfl ?_
  refine g_iload_n 3 dX10_divide_47 rfl ?_
  refine g_iaload dX10_divide_48 hD (by omega) (by omega) (by omega) ?_
  refine g_isub dX10_divide_49 ?_
  refine g_istore (ls2 := [(6, .int (gI (((d) (r)) - ((d) (b))))), (5, .int (gI (ivr p (cf fb (dgi hp fb))))), (0, .ref (B)), (1, .int (gI (a))), (2, .int (gI (b))), (3, .int (gI (q))), (4, .int (gI (r)))]) dX10_divide_50 (by decide) rfl ?_
  have lo : ∀ (kk : Nat) (i : Int) (lr : Int → Int) (lq : Int → Int) (hlo : GH), kk = (i + 1).toNat → Fr [B + 5] h hlo → hlo.2 (B + 5) = some (aI 8000 (ar (gup (gup R q (lq)) r (lr)))) → hlo.2 (B + 6) = some (aI 40 (d)) → (-200 ≤ i ∧ i ≤ dgi hp fa - dgi hp fb) → (dvI hp fa fb i lr lq) → Go N mX10_divide (fun v h1 => v = none ∧ MF B [] [r, q] h h1 ∧ MG hp B h1 r (rm hp fa fb) ∧ MG hp B h1 q (qt hp fa fb)) 0 0 hlo 52 [(6, .int (gI (i))), (5, .int (gI (ivr p (cf fb (dgi hp fb))))), (0, .ref (B)), (1, .int (gI (a))), (2, .int (gI (b))), (3, .int (gI (q))), (4, .int (gI (r)))] [] := by
    refine Go.ind (fun kk ih_lo => ?_)
    intro i lr lq hlo hkk_lo fr_lo cf_lo_0 cf_lo_1 hi hI
    have cg_lo_0 : hlo.2 (B) = some (mO B ((p : Int)) (hf) (le) (fc) (pn) (rn) (hn) (qn)) := Fr.at0 fr_lo (Ni.c ⟨neA, neB⟩ (Ni.n _)) hm
    refine g_iload 0 dX10_divide_52 rfl ?_
    refine g_if_lt (tgt := 200) dX10_divide_54 rfl (by unfold gW; omega) (fun c209 => ?_) (fun c209 => ?_)
    · skip
      refine g_aload_n 2 dX10_divide_200 rfl ?_
      refine g_iload_n 5 dX10_divide_201 rfl ?_
      refine g_callV (nc2 := 0) (ns2 := 0) (ci := 10) (As := [.int (gI (q))]) (st := []) rfl dX10_divide_202 okX10_measure lX10_164 itX10_measure seX10_measure rfl cg_lo_0 (by decide) (by decide) rfl (Nat.le_of_ble_eq_true rfl) (sM_meas0 N _ B p hf le fc pn rn hn qn (q) hp2 (by omega) cg_lo_0 ((gup (gup R q (lq)) r (lr))) (d) cf_lo_0 cf_lo_1 (fun k k0 k1 => by rw [gup_n _ _ hqr, gup_s]; exact hI.2.1 k k0 k1)) (by omega) (by omega) (fun v210 hc210 q210 => ?_)
      obtain ⟨rfl, frc211, m5_211, e_q, m6_211, e_qb, e_qz, e_qn⟩ := q210
      have fk212_0 : hc210.2 (B) = some (mO B ((p : Int)) (hf) (le) (fc) (pn) (rn) (hn) (qn)) := Fr.at0 frc211 (Ni.c ⟨neA, neB⟩ (Ni.n _)) cg_lo_0
      have fr212 : Fr [B + 5] h hc210 := (fr_lo).tr ((frc211).mo (sub_c (List.Mem.head _) sub_n))
      refine Go.nf (h' := hc210) (st' := []) rfl rfl (Nat.le_refl _) (Nat.le_refl _) ?_
      refine g_aload_n 2 dX10_divide_205 rfl ?_
      refine g_iload 6 dX10_divide_206 rfl ?_
      refine g_callV (nc2 := 0) (ns2 := 0) (ci := 10) (As := [.int (gI (r))]) (st := []) rfl dX10_divide_208 okX10_measure lX10_164 itX10_measure seX10_measure rfl fk212_0 (by decide) (by decide) rfl (Nat.le_of_ble_eq_true rfl) (sM_meas0 N _ B p hf le fc pn rn hn qn (r) hp2 (by omega) fk212_0 ((gup (gup R q (lq)) r (lr))) (gup (d) (q) e_q) m5_211 m6_211 (fun k k0 k1 => by rw [gup_s]; exact hI.1 k k0 k1)) (by omega) (by omega) (fun v213 hc213 q213 => ?_)
      obtain ⟨rfl, frc214, m5_214, e_r, m6_214, e_rb, e_rz, e_rn⟩ := q213
      have fk215_0 : hc213.2 (B) = some (mO B ((p : Int)) (hf) (le) (fc) (pn) (rn) (hn) (qn)) := Fr.at0 frc214 (Ni.c ⟨neA, neB⟩ (Ni.n _)) fk212_0
      have fr215 : Fr [B + 5] h hc213 := (fr212).tr ((frc214).mo (sub_c (List.Mem.head _) sub_n))
      refine Go.nf (h' := hc213) (st' := []) rfl rfl (Nat.le_refl _) (Nat.le_refl _) ?_
      exact g_vret dX10_divide_211 rfl ⟨rfl, (fr6).tr (MF.many (L := [r, q]) (Fr.lr (fr6).1 fr215) hu hv hR hD m5_214 m6_214 (fun s hs => by rw [gup_n _ _ (hs r (List.Mem.head _)), gup_n _ _ (hs q (List.Mem.tail _ (List.Mem.head _)))]) (fun s hs => by rw [gup_n _ _ (hs r (List.Mem.head _)), gup_n _ _ (hs q (List.Mem.tail _ (List.Mem.head _)))])), by
        rw [← (dvI_e hp hpa hpb hdb (by omega) hI).2]
        have er0 : gup (gup R q lq) r lr r = lr := gup_s _ _ _
        refine MG.mk (e := e_r) hp2 hr m5_214 m6_214 (gup_s _ _ _) (by omega) ?_ e_rz
        rw [er0]
        exact PO_top (t := 199) e_rb.1 e_rb.2 (fun k k0 k1 => by have := e_rz k k0 (by omega); rw [er0] at this; exact this) (fun z => by have := e_rn z; rw [er0] at this; exact this) (fun k k0 k1 => hI.1 k k0 (by omega)) rfl, by
        rw [← (dvI_e hp hpa hpb hdb (by omega) hI).1]
        have eq0 : gup (gup R q lq) r lr q = lq := by rw [gup_n _ _ hqr, gup_s]
        refine MG.mk (e := e_q) hp2 hq m5_214 m6_214 (by rw [gup_n _ _ hqr, gup_s]) (by omega) ?_ e_qz
        rw [eq0]
        exact PO_top (t := 199) e_qb.1 e_qb.2 (fun k k0 k1 => by have := e_qz k k0 (by omega); rw [eq0] at this; exact this) (fun z => by have := e_qn z; rw [eq0] at this; exact this) (fun k k0 k1 => hI.2.1 k k0 (by omega)) rfl⟩
    · skip
      refine g_aload_n 2 dX10_divide_57 rfl ?_
      refine g_getf 5 dX10_divide_58 kX10 (by decide) fX10_23 cg_lo_0 rfl ?_
      refine g_sipush dX10_divide_61 (by decide) ?_
      refine g_iload 6 dX10_divide_64 rfl ?_
      refine g_imul dX10_divide_66 ?_
      refine g_iload 0 dX10_divide_67 rfl ?_
      refine g_iadd dX10_divide_69 ?_
      refine g_aload_n 2 dX10_divide_70 rfl ?_
      refine g_getf 6 dX10_divide_71 kX10 (by decide) fX10_26 cg_lo_0 rfl ?_
      refine g_iload_n 4 dX10_divide_74 rfl ?_
      refine g_iaload dX10_divide_75 cf_lo_1 (by omega) (by omega) (by omega) ?_
      refine g_iadd dX10_divide_76 ?_
      refine g_iaload dX10_divide_77 cf_lo_0 (by omega) (by omega) (by omega) ?_
      rw [show 200 * r + i + d b = 200 * r + (i + dgi hp fb) by omega, ar_r _ (by omega) (by omega), gup_s]
      have bl := hI.1 (i + dgi hp fb) (by omega) (by omega)
      have bp := g_prod bl.1 bl.2 hiv.1 hiv.2 (show (p : Int) ≤ 65536 by omega)
      refine g_i2l dX10_divide_78 (by unfold gW; omega) ?_
      refine g_iload 1 dX10_divide_79 rfl ?_
      refine g_i2l dX10_divide_81 (by unfold gW; omega) ?_
      refine g_lmul dX10_divide_82 ?_
      refine g_aload_n 2 dX10_divide_83 rfl ?_
      refine g_getf 0 dX10_divide_84 kX10 (by decide) fX10_78 cg_lo_0 rfl ?_
      refine g_i2l dX10_divide_87 (by unfold gW; omega) ?_
      refine g_lrem dX10_divide_88 (by unfold gX; omega) (by unfold gX; omega) (by omega) ?_
      rw [tm_em bp.1]
      obtain ⟨c, hc⟩ : ∃ c : Int, c = lr (i + dgi hp fb) * ivr p (cf fb (dgi hp fb)) % p := ⟨_, rfl⟩
      have hcb2 : 0 ≤ c ∧ c < p := by rw [hc]; exact em_in hp _
      rw [← hc]
      refine g_lstore (ls2 := [(7, .long (gJ (c))), (6, .int (gI (i))), (5, .int (gI (ivr p (cf fb (dgi hp fb))))), (0, .ref (B)), (1, .int (gI (a))), (2, .int (gI (b))), (3, .int (gI (q))), (4, .int (gI (r)))]) dX10_divide_89 (by decide) rfl ?_
      refine g_aload_n 3 dX10_divide_91 rfl ?_
      refine g_getf 5 dX10_divide_92 kX10 (by decide) fX10_23 cg_lo_0 rfl ?_
      refine g_sipush dX10_divide_95 (by decide) ?_
      refine g_iload_n 6 dX10_divide_98 rfl ?_
      refine g_imul dX10_divide_99 ?_
      refine g_iload 1 dX10_divide_100 rfl ?_
      refine g_iadd dX10_divide_102 ?_
      refine g_lload 0 dX10_divide_103 rfl ?_
      refine g_l2i dX10_divide_105 ?_
      refine g_iastore dX10_divide_106 cf_lo_0 (by omega) (by omega) (by omega) ?_
      obtain ⟨hh216, eh216⟩ : ∃ z : GH, z = hset hlo (B + 5) (aI 8000 (gup (ar (gup (gup R q (lq)) r (lr))) (((200) * (q)) + (i)) (c))) := ⟨_, rfl⟩
      refine Go.hp eh216.symm ?_
      have fh216_0 : hh216.2 (B) = some (mO B ((p : Int)) (hf) (le) (fc) (pn) (rn) (hn) (qn)) := hs_n eh216 neA cg_lo_0
      have fh216_1 : hh216.2 (B + 5) = some (aI 8000 (gup (ar (gup (gup R q (lq)) r (lr))) (((200) * (q)) + (i)) (c))) := hs_s eh216
      have fh216_2 : hh216.2 (B + 6) = some (aI 40 (d)) := hs_n eh216 (neC).s cf_lo_1
      have fr216 : Fr [B + 5] h hh216 := Fr.w0 fr_lo (List.Mem.head _) eh216
      have e5 : hh216.2 (B + 5) = some (aI 8000 (ar (gup (gup R q (gup lq i c)) r (lr)))) := by rw [← ar_wq R lq lr hqr (by omega) (by omega)]; exact fh216_1
      refine g_iconst dX10_divide_107 ?_
      refine g_istore (ls2 := [(9, .int (gI (0))), (7, .long (gJ (c))), (6, .int (gI (i))), (5, .int (gI (ivr p (cf fb (dgi hp fb))))), (0, .ref (B)), (1, .int (gI (a))), (2, .int (gI (b))), (3, .int (gI (q))), (4, .int (gI (r)))]) dX10_divide_108 (by decide) rfl ?_
      have lk : ∀ (kk : Nat) (k : Int) (hlk : GH), kk = (dgi hp fb + 1 - k).toNat → Fr [B + 5] h hlk → hlk.2 (B + 5) = some (aI 8000 (ar (gup (gup R q (gup lq i c)) r (dvL p lr fb c i k)))) → hlk.2 (B + 6) = some (aI 40 (d)) → (0 ≤ k ∧ k ≤ dgi hp fb + 1) → (k = 0 ∨ c ≠ 0) → Go N mX10_divide (fun v h1 => v = none ∧ MF B [] [r, q] h h1 ∧ MG hp B h1 r (rm hp fa fb) ∧ MG hp B h1 q (qt hp fa fb)) 0 0 hlk 110 [(9, .int (gI (k))), (7, .long (gJ (c))), (6, .int (gI (i))), (5, .int (gI (ivr p (cf fb (dgi hp fb))))), (0, .ref (B)), (1, .int (gI (a))), (2, .int (gI (b))), (3, .int (gI (q))), (4, .int (gI (r)))] [] := by
        refine Go.ind (fun kk ih_lk => ?_)
        intro k hlk hkk_lk fr_lk cf_lk_0 cf_lk_1 hk hkc
        have cg_lk_0 : hlk.2 (B) = some (mO B ((p : Int)) (hf) (le) (fc) (pn) (rn) (hn) (qn)) := Fr.at0 fr_lk (Ni.c ⟨neA, neB⟩ (Ni.n _)) hm
        refine g_iload 0 dX10_divide_110 rfl ?_
        refine g_aload_n 4 dX10_divide_112 rfl ?_
        refine g_getf 6 dX10_divide_113 kX10 (by decide) fX10_26 cg_lk_0 rfl ?_
        refine g_iload_n 6 dX10_divide_116 rfl ?_
        refine g_iaload dX10_divide_117 cf_lk_1 (by omega) (by omega) (by omega) ?_
        refine g_icmp_gt (tgt := 194) dX10_divide_118 rfl (by unfold gW; omega) (by unfold gW; omega) (fun c317 => ?_) (fun c317 => ?_)
        · skip
          refine g_iinc 2 (ls2 := [(6, .int (gI (i + (-1)))), (9, .int (gI (k))), (7, .long (gJ (c))), (5, .int (gI (ivr p (cf fb (dgi hp fb))))), (0, .ref (B)), (1, .int (gI (a))), (2, .int (gI (b))), (3, .int (gI (q))), (4, .int (gI (r)))]) dX10_divide_194 rfl (by decide) rfl ?_
          refine g_goto (tgt := 52) dX10_divide_197 rfl ?_
          refine Go.sub [0, 3, 4, 5, 6, 7, 8] rfl ?_
          exact ih_lo _ (by omega) (i + (-1)) (dvL p lr fb c i (dgi hp fb + 1)) (gup lq i c) hlk rfl fr_lk (by
        have hk0 : k = dgi hp fb + 1 := by omega
        have e9 := cf_lk_0
        rw [hk0] at e9
        exact e9) cf_lk_1 (by omega) (by rw [← Int.sub_eq_add_neg]; exact dvI_s hp hpb hdb (by omega) (by omega) hI hc)
        · skip
          refine g_lload 1 dX10_divide_121 rfl ?_
          refine g_lconst0 dX10_divide_123 ?_
          refine g_lcmp dX10_divide_124 (by unfold gX; omega) (by unfold gX; omega) ?_
          refine g_if_eq (tgt := 194) dX10_divide_125 rfl (gW_cmp _ _) (fun c318 => ?_) (fun c318 => ?_)
          · skip
            have hc0 := gcmp_eq.mp c318
            refine g_iinc 2 (ls2 := [(6, .int (gI (i + (-1)))), (9, .int (gI (k))), (7, .long (gJ (c))), (5, .int (gI (ivr p (cf fb (dgi hp fb))))), (0, .ref (B)), (1, .int (gI (a))), (2, .int (gI (b))), (3, .int (gI (q))), (4, .int (gI (r)))]) dX10_divide_194 rfl (by decide) rfl ?_
            refine g_goto (tgt := 52) dX10_divide_197 rfl ?_
            refine Go.sub [0, 3, 4, 5, 6, 7, 8] rfl ?_
            exact ih_lo _ (by omega) (i + (-1)) (lr) (gup lq i c) hlk rfl fr_lk (by
        have hk0 : k = 0 := by omega
        have e9 := cf_lk_0
        rw [hk0, dvL_0] at e9
        exact e9) cf_lk_1 (by omega) (by rw [← Int.sub_eq_add_neg]; exact dvI_z hp hpb hdb (by omega) (by omega) hI hc hc0)
          · skip
            have hc0 : ¬ c = 0 := fun z => c318 (gcmp_eq.mpr z)
            refine g_sipush dX10_divide_128 (by decide) ?_
            refine g_iload 8 dX10_divide_131 rfl ?_
            refine g_imul dX10_divide_133 ?_
            refine g_iload 2 dX10_divide_134 rfl ?_
            refine g_iadd dX10_divide_136 ?_
            refine g_iload 0 dX10_divide_137 rfl ?_
            refine g_iadd dX10_divide_139 ?_
            refine g_istore (ls2 := [(10, .int (gI ((((200) * (r)) + (i)) + (k)))), (9, .int (gI (k))), (7, .long (gJ (c))), (6, .int (gI (i))), (5, .int (gI (ivr p (cf fb (dgi hp fb))))), (0, .ref (B)), (1, .int (gI (a))), (2, .int (gI (b))), (3, .int (gI (q))), (4, .int (gI (r)))]) dX10_divide_140 (by decide) rfl ?_
            refine g_aload_n 5 dX10_divide_142 rfl ?_
            refine g_getf 5 dX10_divide_143 kX10 (by decide) fX10_23 cg_lk_0 rfl ?_
            refine g_iload 0 dX10_divide_146 rfl ?_
            refine g_aload_n 5 dX10_divide_148 rfl ?_
            refine g_getf 5 dX10_divide_149 kX10 (by decide) fX10_23 cg_lk_0 rfl ?_
            refine g_iload 0 dX10_divide_152 rfl ?_
            refine g_iaload dX10_divide_154 cf_lk_0 (by omega) (by omega) (by omega) ?_
            have erk : ar (gup (gup R q (gup lq i c)) r (dvL p lr fb c i k)) (200 * r + i + k) = lr (i + k) := by rw [show 200 * r + i + k = 200 * r + (i + k) by omega, ar_r _ (by omega) (by omega), gup_s, dvL_at]
            rw [erk]
            have bk := hI.1 (i + k) (by omega) (by omega)
            refine g_i2l dX10_divide_155 (by unfold gW; omega) ?_
            refine g_aload_n 5 dX10_divide_156 rfl ?_
            refine g_getf 0 dX10_divide_157 kX10 (by decide) fX10_78 cg_lk_0 rfl ?_
            refine g_i2l dX10_divide_160 (by unfold gW; omega) ?_
            refine g_lload 2 dX10_divide_161 rfl ?_
            refine g_lsub dX10_divide_163 ?_
            refine g_aload_n 5 dX10_divide_164 rfl ?_
            refine g_getf 5 dX10_divide_165 kX10 (by decide) fX10_23 cg_lk_0 rfl ?_
            refine g_sipush dX10_divide_168 (by decide) ?_
            refine g_iload_n 7 dX10_divide_171 rfl ?_
            refine g_imul dX10_divide_172 ?_
            refine g_iload 1 dX10_divide_173 rfl ?_
            refine g_iadd dX10_divide_175 ?_
            refine g_iaload dX10_divide_176 cf_lk_0 (by omega) (by omega) (by omega) ?_
            rw [ar_r _ (show 0 ≤ k by omega) (show k < 200 by omega), gup_n _ _ hbr, gup_n _ _ hbq, hFb.2 k (by omega) (by omega)]
            have bc := cf_in fb hp k
            have bm : 0 ≤ (p - c) * cf fb k ∧ (p - c) * cf fb k ≤ 65536 * 65536 := ⟨Int.mul_nonneg (by omega) bc.1, Int.mul_le_mul (by omega) (by omega) bc.1 (by omega)⟩
            refine g_i2l dX10_divide_177 (by unfold gW; omega) ?_
            refine g_lmul dX10_divide_178 ?_
            refine g_ladd dX10_divide_179 ?_
            refine g_aload_n 5 dX10_divide_180 rfl ?_
            refine g_getf 0 dX10_divide_181 kX10 (by decide) fX10_78 cg_lk_0 rfl ?_
            refine g_i2l dX10_divide_184 (by unfold gW; omega) ?_
            refine g_lrem dX10_divide_185 (by unfold gX; omega) (by unfold gX; omega) (by omega) ?_
            rw [tm_em (show 0 ≤ lr (i + k) + (p - c) * cf fb k by omega)]
            refine g_l2i dX10_divide_186 ?_
            refine g_iastore dX10_divide_187 cf_lk_0 (by omega) (by omega) (by omega) ?_
            obtain ⟨hh319, eh319⟩ : ∃ z : GH, z = hset hlk (B + 5) (aI 8000 (gup (ar (gup (gup R q (gup lq i c)) r (dvL p lr fb c i k))) ((((200) * (r)) + (i)) + (k)) ((lr (i + k) + (p - c) * cf fb k) % p))) := ⟨_, rfl⟩
            refine Go.hp eh319.symm ?_
            have fh319_0 : hh319.2 (B) = some (mO B ((p : Int)) (hf) (le) (fc) (pn) (rn) (hn) (qn)) := hs_n eh319 neA cg_lk_0
            have fh319_1 : hh319.2 (B + 5) = some (aI 8000 (gup (ar (gup (gup R q (gup lq i c)) r (dvL p lr fb c i k))) ((((200) * (r)) + (i)) + (k)) ((lr (i + k) + (p - c) * cf fb k) % p))) := hs_s eh319
            have fh319_2 : hh319.2 (B + 6) = some (aI 40 (d)) := hs_n eh319 (neC).s cf_lk_1
            have fr319 : Fr [B + 5] h hh319 := Fr.w0 fr_lk (List.Mem.head _) eh319
            refine g_iinc 1 (ls2 := [(9, .int (gI (k + 1))), (10, .int (gI ((((200) * (r)) + (i)) + (k)))), (7, .long (gJ (c))), (6, .int (gI (i))), (5, .int (gI (ivr p (cf fb (dgi hp fb))))), (0, .ref (B)), (1, .int (gI (a))), (2, .int (gI (b))), (3, .int (gI (q))), (4, .int (gI (r)))]) dX10_divide_188 rfl (by decide) rfl ?_
            refine g_goto (tgt := 110) dX10_divide_191 rfl ?_
            refine Go.sub [0, 2, 3, 4, 5, 6, 7, 8, 9] rfl ?_
            exact ih_lk _ (by omega) (k + 1) hh319 rfl fr319 (by
        have e9 := fh319_1
        rw [show 200 * r + i + k = 200 * r + (i + k) by omega, ar_wg _ _ (by omega) (by omega), dvL_s lr fb hk.1] at e9
        exact e9) fh319_2 (by omega) (Or.inr (by omega))
      exact lk _ (0) hh216 rfl fr216 (by rw [dvL_0]; exact e5) fh216_2 (by omega) (Or.inl rfl)
  exact lo _ (((d) (r)) - ((d) (b))) (R r) (R q) hc4 rfl (fr6).1 (by rw [gup_id, gup_id]; exact hR) hD (by omega) (dvI_0 hp hpa hla.2 (by omega) hFr.2 (fun k k0 k1 => by rw [hFq.2 k k0 k1]; letI := pR hp; rw [cz_z0]; unfold cf; rw [if_pos k0, zero_k]; exact f_zero hp) (by omega))
