theorem ix_bd40 {i k sz : Int} (i0 : 0 ≤ i) (i1 : i < sz) (k0 : 0 ≤ k) (k1 : k < sz) (s1 : sz ≤ 40) : 0 ≤ i * sz + k ∧ i * sz + k < 1600 := by
  have h1 : 0 ≤ i * sz := Int.mul_nonneg i0 (by omega)
  have h2 : i * sz ≤ (sz - 1) * sz := Int.mul_le_mul_of_nonneg_right (by omega) (by omega)
  have h3 : (sz - 1) * sz ≤ (sz - 1) * 40 := Int.mul_le_mul_of_nonneg_left (by omega) (by omega)
  omega
/-- rows a and r change, as far as column c; the new r is multiplied by iv -/
def rsG (p : Int) (gg : Int → Int) (sz a r iv c : Int) : Int → Int := fun t => if t % sz < c then (if t / sz = r then gg (a * sz + t % sz) * iv % p else if t / sz = a then gg (r * sz + t % sz) else gg t) else gg t
theorem rsG_0 (p : Int) (gg : Int → Int) {sz : Int} (hs : 0 < sz) (a r iv : Int) : rsG p gg sz a r iv 0 = gg := funext fun t => by
  have := Int.emod_nonneg t (show sz ≠ 0 by omega)
  unfold rsG
  rw [if_neg (by omega)]
theorem rsG_at (p : Int) (gg : Int → Int) {sz a r iv c i : Int} (c0 : 0 ≤ c) (c1 : c < sz) : rsG p gg sz a r iv c (i * sz + c) = gg (i * sz + c) := by
  have := ix_div (i := i) c0 c1
  unfold rsG
  rw [this.2, if_neg (by omega)]
theorem rsG_s (p : Int) (gg : Int → Int) {sz a r iv c : Int} (c0 : 0 ≤ c) (c1 : c < sz) : gup (gup (rsG p gg sz a r iv c) (a * sz + c) (gg (r * sz + c))) (r * sz + c) (gg (a * sz + c) * iv % p) = rsG p gg sz a r iv (c + 1) := funext fun t => by
  have ht : t / sz * sz + t % sz = t := by
    have := Int.mul_ediv_add_emod t sz
    rw [Int.mul_comm] at this
    exact this
  unfold gup
  by_cases z : t = r * sz + c
  · rw [if_pos z]
    have e := ix_div (i := r) c0 c1
    unfold rsG
    rw [z, e.1, e.2, if_pos (by omega), if_pos rfl]
  · rw [if_neg z]
    by_cases y : t = a * sz + c
    · rw [if_pos y]
      have e := ix_div (i := a) c0 c1
      unfold rsG
      rw [y, e.1, e.2, if_pos (by omega), if_neg (fun q => z (by rw [y, q])), if_pos rfl]
    · rw [if_neg y]
      unfold rsG
      by_cases x : t % sz < c
      · rw [if_pos x, if_pos (show t % sz < c + 1 by omega)]
      · rw [if_neg x]
        by_cases u : t % sz < c + 1
        · have ec : t % sz = c := by omega
          rw [if_pos u, if_neg (fun q => z (by rw [← ht, q, ec])), if_neg (fun q => y (by rw [← ht, q, ec]))]
        · rw [if_neg u]
/-- row i and a multiple of row r, in the columns from c0 as far as c -/
def clG (p : Int) (gg : Int → Int) (sz i r nb c0 c : Int) : Int → Int := fun t => if t / sz = i ∧ c0 ≤ t % sz ∧ t % sz < c then (gg t + (p - nb) * gg (r * sz + t % sz)) % p else gg t
theorem clG_0 (p : Int) (gg : Int → Int) (sz i r nb c0 : Int) : clG p gg sz i r nb c0 c0 = gg := funext fun t => by
  unfold clG
  rw [if_neg (by omega)]
theorem clG_at (p : Int) (gg : Int → Int) {sz i r nb c0 c j : Int} (h0 : 0 ≤ c) (h1 : c < sz) : clG p gg sz i r nb c0 c (j * sz + c) = gg (j * sz + c) := by
  have := ix_div (i := j) h0 h1
  unfold clG
  rw [this.2, if_neg (by omega)]
theorem clG_s (p : Int) (gg : Int → Int) {sz i r nb c0 c : Int} (h0 : 0 ≤ c) (h1 : c < sz) (hc : c0 ≤ c) : gup (clG p gg sz i r nb c0 c) (i * sz + c) ((gg (i * sz + c) + (p - nb) * gg (r * sz + c)) % p) = clG p gg sz i r nb c0 (c + 1) := funext fun t => by
  have ht : t / sz * sz + t % sz = t := by
    have := Int.mul_ediv_add_emod t sz
    rw [Int.mul_comm] at this
    exact this
  unfold gup
  by_cases z : t = i * sz + c
  · rw [if_pos z]
    have e := ix_div (i := i) h0 h1
    unfold clG
    rw [z, e.1, e.2, if_pos (by omega)]
  · rw [if_neg z]
    unfold clG
    by_cases x : t / sz = i ∧ c0 ≤ t % sz ∧ t % sz < c
    · rw [if_pos x, if_pos (by omega)]
    · rw [if_neg x, if_neg (fun q => x ⟨q.1, q.2.1, by
        have : t % sz ≠ c := fun e => z (by rw [← ht, q.1, e])
        omega⟩)]
set_option maxHeartbeats 4000000 in
set_option maxRecDepth 100000 in
theorem sF_raiseRow (N : GN) (h : GH) (B f p : Nat) (hp : prm p) (hp2 : p ≤ 65536) (hBf : B + 58 ≤ f) (sz : Int) (hsz : 1 ≤ sz ∧ sz ≤ 40) (gg gv : Int → Int) (hgb : ∀ i k : Int, 0 ≤ i → i < sz → 0 ≤ k → k < sz → 0 ≤ gg (i * sz + k) ∧ gg (i * sz + k) < p) (a r k : Int) (ha : 0 ≤ a ∧ a < sz) (hr : 0 ≤ r ∧ r < sz) (hk : 0 ≤ k ∧ k < sz) (hsp : h.2 (f + 12) = some (spO B f sz)) (hg : h.2 (f + 13) = some (aJ 1600 gg)) (hv : h.2 (f + 14) = some (aI 40 gv)) (hfl : h.2 (B + 1) = some (oB 1 [.int (gI ((p : Int)))])) : Sp N yX6_raiseRow mX6_raiseRow 0 0 [.ref (f + 12), .int (gI (a)), .int (gI (r)), .int (gI (k))] h (fun v h1 => v = none ∧ Fr [f + 13] h h1 ∧ h1.2 (f + 13) = some (aJ 1600 (rsG p gg sz a r (ivr p (gg (a * sz + k))) sz)) ∧ h1.2 (f + 14) = some (aI 40 gv)) := by
  refine Sp.of (by decide) rfl rfl (Nat.le_of_ble_eq_true rfl) ?_
  show Go N mX6_raiseRow _ 0 0 h 0 [(0, .ref (f + 12)), (1, .int (gI (a))), (2, .int (gI (r))), (3, .int (gI (k)))] []
  have hp1 := hp.1
  have hb_a := ix_bd40 (sz := sz) (show 0 ≤ a by omega) (show a < sz by omega) (show 0 ≤ k by omega) (show k < sz by omega) hsz.2
  refine g_aload_n 0 dX6_raiseRow_0 rfl ?_
  refine g_getf 0 dX6_raiseRow_1 kX6 (by decide) fX6_34 hsp rfl ?_
  refine g_aload_n 0 dX6_raiseRow_4 rfl ?_
  refine g_getf 2 dX6_raiseRow_5 kX6 (by decide) fX6_9 hsp rfl ?_
  refine g_iload_n 1 dX6_raiseRow_8 rfl ?_
  refine g_aload_n 0 dX6_raiseRow_9 rfl ?_
  refine g_getf 7 dX6_raiseRow_10 kX6 (by decide) fX6_57 hsp rfl ?_
  refine g_imul dX6_raiseRow_13 ?_
  refine g_iload_n 3 dX6_raiseRow_14 rfl ?_
  refine g_iadd dX6_raiseRow_15 ?_
  refine g_laload dX6_raiseRow_16 hg (by omega) (by omega) (by omega) ?_
  refine g_callV (nc2 := 0) (ns2 := 0) (ci := 1) (As := [.long (gJ ((gg) (((a) * (sz)) + (k))))]) (st := []) rfl dX6_raiseRow_17 okX1_inverse lX6_118 itX1_inverse seX1_inverse rfl hfl (by decide) (by decide) rfl (Nat.le_of_ble_eq_true rfl) (sP_inverse N _ (B + 1) p hp.1 hp2 ((gg) (((a) * (sz)) + (k))) (hgb a k ha.1 ha.2 hk.1 hk.2).1 (hgb a k ha.1 ha.2 hk.1 hk.2).2 hfl) (by omega) (by omega) (fun v1 hc1 q1 => ?_)
  obtain ⟨hq2, rfl⟩ := q1
  refine Go.nf (h' := h) (st' := [.long (gJ (ivr p (gg (a * sz + k))))]) hq2 rfl (Nat.le_refl _) (Nat.le_refl _) ?_
  refine g_lstore (ls2 := [(4, .long (gJ (ivr p (gg (a * sz + k))))), (0, .ref (f + 12)), (1, .int (gI (a))), (2, .int (gI (r))), (3, .int (gI (k)))]) dX6_raiseRow_20 (by decide) rfl ?_
  refine g_iconst dX6_raiseRow_22 ?_
  refine g_istore (ls2 := [(6, .int (gI (0))), (4, .long (gJ (ivr p (gg (a * sz + k))))), (0, .ref (f + 12)), (1, .int (gI (a))), (2, .int (gI (r))), (3, .int (gI (k)))]) dX6_raiseRow_23 (by decide) rfl ?_
  have lo : ∀ (kk : Nat) (c : Int) (hlo : GH), kk = (40 - c).toNat → Fr [f + 13] h hlo → hlo.2 (f + 12) = some (oB 6 [.ref (B + 1), .ref (B + 7), .ref (f + 13), .ref (f + 14), .ref (f + 15), .ref (f + 17), .ref (f + 19), .int (gI (sz))]) → hlo.2 (f + 13) = some (aJ 1600 (rsG p gg sz a r (ivr p (gg (a * sz + k))) c)) → hlo.2 (f + 14) = some (aI 40 (gv)) → hlo.2 (B + 1) = some (oB 1 [.int (gI ((p : Int)))]) → (0 ≤ c ∧ c ≤ sz) → Go N mX6_raiseRow (fun v h1 => v = none ∧ Fr [f + 13] h h1 ∧ h1.2 (f + 13) = some (aJ 1600 (rsG p gg sz a r (ivr p (gg (a * sz + k))) sz)) ∧ h1.2 (f + 14) = some (aI 40 gv)) 0 0 hlo 25 [(6, .int (gI (c))), (4, .long (gJ (ivr p (gg (a * sz + k))))), (0, .ref (f + 12)), (1, .int (gI (a))), (2, .int (gI (r))), (3, .int (gI (k)))] [] := by
    refine Go.ind (fun kk ih_lo => ?_)
    intro c hlo hkk_lo fr_lo cf_lo_0 cf_lo_1 cf_lo_2 cf_lo_3 hc
    refine g_iload 0 dX6_raiseRow_25 rfl ?_
    refine g_aload_n 2 dX6_raiseRow_27 rfl ?_
    refine g_getf 7 dX6_raiseRow_28 kX6 (by decide) fX6_57 cf_lo_0 rfl ?_
    refine g_icmp_ge (tgt := 112) dX6_raiseRow_31 rfl (by first | assumption | (unfold gW; omega) | (unfold gW; split <;> omega)) (by first | assumption | (unfold gW; omega) | (unfold gW; split <;> omega)) (fun c103 => ?_) (fun c103 => ?_)
    · skip
      exact g_vret dX6_raiseRow_112 rfl ⟨rfl, fr_lo, by
                                                                      have hc9 : c = sz := by omega
                                                                      have e9 := cf_lo_1
                                                                      rw [hc9] at e9
                                                                      exact e9, cf_lo_2⟩
    · skip
      have hb_a := ix_bd40 (sz := sz) (show 0 ≤ a by omega) (show a < sz by omega) (show 0 ≤ c by omega) (show c < sz by omega) hsz.2
      have hb_r := ix_bd40 (sz := sz) (show 0 ≤ r by omega) (show r < sz by omega) (show 0 ≤ c by omega) (show c < sz by omega) hsz.2
      refine g_aload_n 2 dX6_raiseRow_34 rfl ?_
      refine g_getf 2 dX6_raiseRow_35 kX6 (by decide) fX6_9 cf_lo_0 rfl ?_
      refine g_iload_n 3 dX6_raiseRow_38 rfl ?_
      refine g_aload_n 2 dX6_raiseRow_39 rfl ?_
      refine g_getf 7 dX6_raiseRow_40 kX6 (by decide) fX6_57 cf_lo_0 rfl ?_
      refine g_imul dX6_raiseRow_43 ?_
      refine g_iload 0 dX6_raiseRow_44 rfl ?_
      refine g_iadd dX6_raiseRow_46 ?_
      refine g_laload dX6_raiseRow_47 cf_lo_1 (by omega) (by omega) (by omega) ?_
      have hv_48 : (rsG p gg sz a r (ivr p (gg (a * sz + k))) c) (((a) * (sz)) + (c)) = gg (a * sz + c) := rsG_at (p : Int) gg hc.1 (by omega)
      rw [hv_48]
      refine g_lload 1 dX6_raiseRow_48 rfl ?_
      refine g_lmul dX6_raiseRow_50 ?_
      refine g_aload_n 2 dX6_raiseRow_51 rfl ?_
      refine g_getf 0 dX6_raiseRow_52 kX6 (by decide) fX6_34 cf_lo_0 rfl ?_
      refine g_getf 0 dX6_raiseRow_55 kX1 (by decide) fX6_73 cf_lo_3 rfl ?_
      refine g_i2l dX6_raiseRow_58 (by first | assumption | (unfold gW; omega) | (unfold gW; split <;> omega)) ?_
      have hpr9 := g_prod (hgb a c ha.1 ha.2 hc.1 (by omega)).1 (hgb a c ha.1 ha.2 hc.1 (by omega)).2 (ivr_in hp (gg (a * sz + k))).1 (ivr_in hp (gg (a * sz + k))).2 (by omega)
      have hgx9 : gX (gg (a * sz + c) * ivr p (gg (a * sz + k))) := by unfold gX; omega
      refine g_lrem dX6_raiseRow_59 (by first | assumption | (unfold gX; omega)) (by first | assumption | (unfold gX; omega)) (by omega) ?_
      have hv_60 : ((gg (a * sz + c)) * (ivr p (gg (a * sz + k)))).tmod ((p : Int)) = gg (a * sz + c) * ivr p (gg (a * sz + k)) % p := Int.tmod_eq_emod_of_nonneg hpr9.1
      rw [hv_60]
      refine g_lstore (ls2 := [(7, .long (gJ (gg (a * sz + c) * ivr p (gg (a * sz + k)) % p))), (6, .int (gI (c))), (4, .long (gJ (ivr p (gg (a * sz + k))))), (0, .ref (f + 12)), (1, .int (gI (a))), (2, .int (gI (r))), (3, .int (gI (k)))]) dX6_raiseRow_60 (by decide) rfl ?_
      refine g_aload_n 3 dX6_raiseRow_62 rfl ?_
      refine g_getf 2 dX6_raiseRow_63 kX6 (by decide) fX6_9 cf_lo_0 rfl ?_
      refine g_iload_n 4 dX6_raiseRow_66 rfl ?_
      refine g_aload_n 3 dX6_raiseRow_67 rfl ?_
      refine g_getf 7 dX6_raiseRow_68 kX6 (by decide) fX6_57 cf_lo_0 rfl ?_
      refine g_imul dX6_raiseRow_71 ?_
      refine g_iload 1 dX6_raiseRow_72 rfl ?_
      refine g_iadd dX6_raiseRow_74 ?_
      refine g_aload_n 3 dX6_raiseRow_75 rfl ?_
      refine g_getf 2 dX6_raiseRow_76 kX6 (by decide) fX6_9 cf_lo_0 rfl ?_
      refine g_iload_n 5 dX6_raiseRow_79 rfl ?_
      refine g_aload_n 3 dX6_raiseRow_80 rfl ?_
      refine g_getf 7 dX6_raiseRow_81 kX6 (by decide) fX6_57 cf_lo_0 rfl ?_
      refine g_imul dX6_raiseRow_84 ?_
      refine g_iload 1 dX6_raiseRow_85 rfl ?_
      refine g_iadd dX6_raiseRow_87 ?_
      refine g_laload dX6_raiseRow_88 cf_lo_1 (by omega) (by omega) (by omega) ?_
      have hv_89 : (rsG p gg sz a r (ivr p (gg (a * sz + k))) c) (((r) * (sz)) + (c)) = gg (r * sz + c) := rsG_at (p : Int) gg hc.1 (by omega)
      rw [hv_89]
      refine g_lastore dX6_raiseRow_89 cf_lo_1 (by omega) (by omega) (by omega) ?_
      obtain ⟨hh104, eh104⟩ : ∃ z : GH, z = hset hlo (f + 13) (aJ 1600 (gup (rsG p gg sz a r (ivr p (gg (a * sz + k))) c) (((a) * (sz)) + (c)) (gg (r * sz + c)))) := ⟨_, rfl⟩
      refine Go.hp eh104.symm ?_
      have fh104_0 : hh104.2 (f + 12) = some (oB 6 [.ref (B + 1), .ref (B + 7), .ref (f + 13), .ref (f + 14), .ref (f + 15), .ref (f + 17), .ref (f + 19), .int (gI (sz))]) := hs_n eh104 (show NE (f + 12) (f + 13) by unfold NE; omega) cf_lo_0
      have fh104_1 : hh104.2 (f + 13) = some (aJ 1600 (gup (rsG p gg sz a r (ivr p (gg (a * sz + k))) c) (((a) * (sz)) + (c)) (gg (r * sz + c)))) := hs_s eh104
      have fh104_2 : hh104.2 (f + 14) = some (aI 40 (gv)) := hs_n eh104 (show NE (f + 14) (f + 13) by unfold NE; omega) cf_lo_2
      have fh104_3 : hh104.2 (B + 1) = some (oB 1 [.int (gI ((p : Int)))]) := hs_n eh104 (show NE (B + 1) (f + 13) by unfold NE; omega) cf_lo_3
      have fr104 : Fr [f + 13] h hh104 := Fr.w0 fr_lo (List.Mem.head _) eh104
      refine g_aload_n 3 dX6_raiseRow_90 rfl ?_
      refine g_getf 2 dX6_raiseRow_91 kX6 (by decide) fX6_9 fh104_0 rfl ?_
      refine g_iload_n 5 dX6_raiseRow_94 rfl ?_
      refine g_aload_n 3 dX6_raiseRow_95 rfl ?_
      refine g_getf 7 dX6_raiseRow_96 kX6 (by decide) fX6_57 fh104_0 rfl ?_
      refine g_imul dX6_raiseRow_99 ?_
      refine g_iload 1 dX6_raiseRow_100 rfl ?_
      refine g_iadd dX6_raiseRow_102 ?_
      refine g_lload 0 dX6_raiseRow_103 rfl ?_
      refine g_lastore dX6_raiseRow_105 fh104_1 (by omega) (by omega) (by omega) ?_
      obtain ⟨hh105, eh105⟩ : ∃ z : GH, z = hset hh104 (f + 13) (aJ 1600 (gup (gup (rsG p gg sz a r (ivr p (gg (a * sz + k))) c) (((a) * (sz)) + (c)) (gg (r * sz + c))) (((r) * (sz)) + (c)) (gg (a * sz + c) * ivr p (gg (a * sz + k)) % p))) := ⟨_, rfl⟩
      refine Go.hp eh105.symm ?_
      have fh105_0 : hh105.2 (f + 12) = some (oB 6 [.ref (B + 1), .ref (B + 7), .ref (f + 13), .ref (f + 14), .ref (f + 15), .ref (f + 17), .ref (f + 19), .int (gI (sz))]) := hs_n eh105 (show NE (f + 12) (f + 13) by unfold NE; omega) fh104_0
      have fh105_1 : hh105.2 (f + 13) = some (aJ 1600 (gup (gup (rsG p gg sz a r (ivr p (gg (a * sz + k))) c) (((a) * (sz)) + (c)) (gg (r * sz + c))) (((r) * (sz)) + (c)) (gg (a * sz + c) * ivr p (gg (a * sz + k)) % p))) := hs_s eh105
      have fh105_2 : hh105.2 (f + 14) = some (aI 40 (gv)) := hs_n eh105 (show NE (f + 14) (f + 13) by unfold NE; omega) fh104_2
      have fh105_3 : hh105.2 (B + 1) = some (oB 1 [.int (gI ((p : Int)))]) := hs_n eh105 (show NE (B + 1) (f + 13) by unfold NE; omega) fh104_3
      have fr105 : Fr [f + 13] h hh105 := Fr.w0 fr104 (List.Mem.head _) eh105
      refine g_iinc 1 (ls2 := [(6, .int (gI (c + 1))), (7, .long (gJ (gg (a * sz + c) * ivr p (gg (a * sz + k)) % p))), (4, .long (gJ (ivr p (gg (a * sz + k))))), (0, .ref (f + 12)), (1, .int (gI (a))), (2, .int (gI (r))), (3, .int (gI (k)))]) dX6_raiseRow_106 rfl (by decide) rfl ?_
      refine g_goto (tgt := 25) dX6_raiseRow_109 rfl ?_
      refine Go.sub [0, 2, 3, 4, 5, 6] rfl ?_
      exact ih_lo _ (by omega) (c + 1) hh105 rfl fr105 fh105_0 (by rw [← rsG_s (p : Int) gg hc.1 (by omega)]; exact fh105_1) fh105_2 fh105_3 (by omega)
  exact lo _ (0) h rfl (Fr.rf [f + 13] h) hsp (by rw [rsG_0 (p : Int) gg (by omega)]; exact hg) hv hfl (by omega)
set_option maxHeartbeats 4000000 in
set_option maxRecDepth 100000 in
theorem sF_clearRow (N : GN) (h : GH) (B f p : Nat) (hp : prm p) (hp2 : p ≤ 65536) (hBf : B + 58 ≤ f) (sz : Int) (hsz : 1 ≤ sz ∧ sz ≤ 40) (gg gv : Int → Int) (hgb : ∀ i k : Int, 0 ≤ i → i < sz → 0 ≤ k → k < sz → 0 ≤ gg (i * sz + k) ∧ gg (i * sz + k) < p) (i r k : Int) (hi : 0 ≤ i ∧ i < sz) (hr : 0 ≤ r ∧ r < sz) (hk : 0 ≤ k ∧ k < sz) (hsp : h.2 (f + 12) = some (spO B f sz)) (hg : h.2 (f + 13) = some (aJ 1600 gg)) (hv : h.2 (f + 14) = some (aI 40 gv)) (hfl : h.2 (B + 1) = some (oB 1 [.int (gI ((p : Int)))])) : Sp N yX6_clearRow mX6_clearRow 0 0 [.ref (f + 12), .int (gI (i)), .int (gI (r)), .int (gI (k))] h (fun v h1 => v = none ∧ Fr [f + 13] h h1 ∧ h1.2 (f + 13) = some (aJ 1600 (if gg (i * sz + k) = 0 then gg else clG p gg sz i r (gg (i * sz + k)) k sz)) ∧ h1.2 (f + 14) = some (aI 40 gv)) := by
  refine Sp.of (by decide) rfl rfl (Nat.le_of_ble_eq_true rfl) ?_
  show Go N mX6_clearRow _ 0 0 h 0 [(0, .ref (f + 12)), (1, .int (gI (i))), (2, .int (gI (r))), (3, .int (gI (k)))] []
  have hp1 := hp.1
  have hb_i := ix_bd40 (sz := sz) (show 0 ≤ i by omega) (show i < sz by omega) (show 0 ≤ k by omega) (show k < sz by omega) hsz.2
  have hnb := hgb i k hi.1 hi.2 hk.1 hk.2
  have hgxn : gX (gg (i * sz + k)) := by unfold gX; omega
  refine g_aload_n 0 dX6_clearRow_0 rfl ?_
  refine g_getf 2 dX6_clearRow_1 kX6 (by decide) fX6_9 hsp rfl ?_
  refine g_iload_n 1 dX6_clearRow_4 rfl ?_
  refine g_aload_n 0 dX6_clearRow_5 rfl ?_
  refine g_getf 7 dX6_clearRow_6 kX6 (by decide) fX6_57 hsp rfl ?_
  refine g_imul dX6_clearRow_9 ?_
  refine g_iload_n 3 dX6_clearRow_10 rfl ?_
  refine g_iadd dX6_clearRow_11 ?_
  refine g_laload dX6_clearRow_12 hg (by omega) (by omega) (by omega) ?_
  refine g_lstore (ls2 := [(4, .long (gJ ((gg) (((i) * (sz)) + (k))))), (0, .ref (f + 12)), (1, .int (gI (i))), (2, .int (gI (r))), (3, .int (gI (k)))]) dX6_clearRow_13 (by decide) rfl ?_
  refine g_lload 0 dX6_clearRow_15 rfl ?_
  refine g_lconst0 dX6_clearRow_17 ?_
  refine g_lcmp dX6_clearRow_18 (by first | assumption | (unfold gX; omega)) (by unfold gX; omega) ?_
  refine g_if_ne (tgt := 23) dX6_clearRow_19 rfl (gW_cmp _ _) (fun c1 => ?_) (fun c1 => ?_)
  · skip
    have hnz : ¬ gg (i * sz + k) = 0 := fun z => c1 (gcmp_eq.mpr z)
    refine g_aload_n 1 dX6_clearRow_23 rfl ?_
    refine g_getf 0 dX6_clearRow_24 kX6 (by decide) fX6_34 hsp rfl ?_
    refine g_getf 0 dX6_clearRow_27 kX1 (by decide) fX6_73 hfl rfl ?_
    refine g_i2l dX6_clearRow_30 (by first | assumption | (unfold gW; omega) | (unfold gW; split <;> omega)) ?_
    refine g_lstore (ls2 := [(6, .long (gJ ((p : Int)))), (4, .long (gJ ((gg) (((i) * (sz)) + (k))))), (0, .ref (f + 12)), (1, .int (gI (i))), (2, .int (gI (r))), (3, .int (gI (k)))]) dX6_clearRow_31 (by decide) rfl ?_
    refine g_iload_n 5 dX6_clearRow_33 rfl ?_
    refine g_istore (ls2 := [(8, .int (gI (k))), (6, .long (gJ ((p : Int)))), (4, .long (gJ ((gg) (((i) * (sz)) + (k))))), (0, .ref (f + 12)), (1, .int (gI (i))), (2, .int (gI (r))), (3, .int (gI (k)))]) dX6_clearRow_34 (by decide) rfl ?_
    have lo : ∀ (kk : Nat) (c : Int) (hlo : GH), kk = (40 - c).toNat → Fr [f + 13] h hlo → hlo.2 (f + 12) = some (oB 6 [.ref (B + 1), .ref (B + 7), .ref (f + 13), .ref (f + 14), .ref (f + 15), .ref (f + 17), .ref (f + 19), .int (gI (sz))]) → hlo.2 (f + 13) = some (aJ 1600 (clG p gg sz i r (gg (i * sz + k)) k c)) → hlo.2 (f + 14) = some (aI 40 (gv)) → hlo.2 (B + 1) = some (oB 1 [.int (gI ((p : Int)))]) → (k ≤ c ∧ c ≤ sz) → Go N mX6_clearRow (fun v h1 => v = none ∧ Fr [f + 13] h h1 ∧ h1.2 (f + 13) = some (aJ 1600 (if gg (i * sz + k) = 0 then gg else clG p gg sz i r (gg (i * sz + k)) k sz)) ∧ h1.2 (f + 14) = some (aI 40 gv)) 0 0 hlo 36 [(8, .int (gI (c))), (6, .long (gJ ((p : Int)))), (4, .long (gJ ((gg) (((i) * (sz)) + (k))))), (0, .ref (f + 12)), (1, .int (gI (i))), (2, .int (gI (r))), (3, .int (gI (k)))] [] := by
      refine Go.ind (fun kk ih_lo => ?_)
      intro c hlo hkk_lo fr_lo cf_lo_0 cf_lo_1 cf_lo_2 cf_lo_3 hc
      refine g_iload 0 dX6_clearRow_36 rfl ?_
      refine g_aload_n 3 dX6_clearRow_38 rfl ?_
      refine g_getf 7 dX6_clearRow_39 kX6 (by decide) fX6_57 cf_lo_0 rfl ?_
      refine g_icmp_ge (tgt := 103) dX6_clearRow_42 rfl (by first | assumption | (unfold gW; omega) | (unfold gW; split <;> omega)) (by first | assumption | (unfold gW; omega) | (unfold gW; split <;> omega)) (fun c102 => ?_) (fun c102 => ?_)
      · skip
        exact g_vret dX6_clearRow_103 rfl ⟨rfl, fr_lo, by
                                                                      have hc9 : c = sz := by omega
                                                                      have e9 := cf_lo_1
                                                                      rw [hc9] at e9
                                                                      rw [if_neg hnz]
                                                                      exact e9, cf_lo_2⟩
      · skip
        have hb2 := ix_bd40 (sz := sz) hi.1 hi.2 (show 0 ≤ c by omega) (show c < sz by omega) hsz.2
        have hb3 := ix_bd40 (sz := sz) hr.1 hr.2 (show 0 ≤ c by omega) (show c < sz by omega) hsz.2
        refine g_aload_n 3 dX6_clearRow_45 rfl ?_
        refine g_getf 2 dX6_clearRow_46 kX6 (by decide) fX6_9 cf_lo_0 rfl ?_
        refine g_iload_n 4 dX6_clearRow_49 rfl ?_
        refine g_aload_n 3 dX6_clearRow_50 rfl ?_
        refine g_getf 7 dX6_clearRow_51 kX6 (by decide) fX6_57 cf_lo_0 rfl ?_
        refine g_imul dX6_clearRow_54 ?_
        refine g_iload 0 dX6_clearRow_55 rfl ?_
        refine g_iadd dX6_clearRow_57 ?_
        refine g_aload_n 3 dX6_clearRow_58 rfl ?_
        refine g_getf 2 dX6_clearRow_59 kX6 (by decide) fX6_9 cf_lo_0 rfl ?_
        refine g_iload_n 4 dX6_clearRow_62 rfl ?_
        refine g_aload_n 3 dX6_clearRow_63 rfl ?_
        refine g_getf 7 dX6_clearRow_64 kX6 (by decide) fX6_57 cf_lo_0 rfl ?_
        refine g_imul dX6_clearRow_67 ?_
        refine g_iload 0 dX6_clearRow_68 rfl ?_
        refine g_iadd dX6_clearRow_70 ?_
        refine g_laload dX6_clearRow_71 cf_lo_1 (by omega) (by omega) (by omega) ?_
        have hv_72 : (clG p gg sz i r (gg (i * sz + k)) k c) (((i) * (sz)) + (c)) = gg (i * sz + c) := clG_at (p : Int) gg (show 0 ≤ c by omega) (by omega)
        rw [hv_72]
        refine g_lload 1 dX6_clearRow_72 rfl ?_
        refine g_lload 2 dX6_clearRow_74 rfl ?_
        refine g_lsub dX6_clearRow_76 ?_
        refine g_aload_n 3 dX6_clearRow_77 rfl ?_
        refine g_getf 2 dX6_clearRow_78 kX6 (by decide) fX6_9 cf_lo_0 rfl ?_
        refine g_iload_n 5 dX6_clearRow_81 rfl ?_
        refine g_aload_n 3 dX6_clearRow_82 rfl ?_
        refine g_getf 7 dX6_clearRow_83 kX6 (by decide) fX6_57 cf_lo_0 rfl ?_
        refine g_imul dX6_clearRow_86 ?_
        refine g_iload 0 dX6_clearRow_87 rfl ?_
        refine g_iadd dX6_clearRow_89 ?_
        refine g_laload dX6_clearRow_90 cf_lo_1 (by omega) (by omega) (by omega) ?_
        have hv_91 : (clG p gg sz i r (gg (i * sz + k)) k c) (((r) * (sz)) + (c)) = gg (r * sz + c) := clG_at (p : Int) gg (show 0 ≤ c by omega) (by omega)
        rw [hv_91]
        refine g_lmul dX6_clearRow_91 ?_
        refine g_ladd dX6_clearRow_92 ?_
        refine g_lload 1 dX6_clearRow_93 rfl ?_
        have hx1 := hgb i c hi.1 hi.2 (by omega) (by omega)
        have hx2 := hgb r c hr.1 hr.2 (by omega) (by omega)
        have hpr9 := g_prod (p := p) (show 0 ≤ (p : Int) - gg (i * sz + k) by omega) (show (p : Int) - gg (i * sz + k) < p by omega) hx2.1 hx2.2 (by omega)
        have hgx9 : gX (gg (i * sz + c) + (p - gg (i * sz + k)) * gg (r * sz + c)) := by unfold gX; omega
        refine g_lrem dX6_clearRow_95 (by first | assumption | (unfold gX; omega)) (by first | assumption | (unfold gX; omega)) (by omega) ?_
        have hv_96 : ((gg (i * sz + c)) + ((((p : Int)) - ((gg) (((i) * (sz)) + (k)))) * (gg (r * sz + c)))).tmod ((p : Int)) = (gg (i * sz + c) + (p - gg (i * sz + k)) * gg (r * sz + c)) % p := Int.tmod_eq_emod_of_nonneg (by omega)
        rw [hv_96]
        refine g_lastore dX6_clearRow_96 cf_lo_1 (by omega) (by omega) (by omega) ?_
        obtain ⟨hh103, eh103⟩ : ∃ z : GH, z = hset hlo (f + 13) (aJ 1600 (gup (clG p gg sz i r (gg (i * sz + k)) k c) (((i) * (sz)) + (c)) ((gg (i * sz + c) + (p - gg (i * sz + k)) * gg (r * sz + c)) % p))) := ⟨_, rfl⟩
        refine Go.hp eh103.symm ?_
        have fh103_0 : hh103.2 (f + 12) = some (oB 6 [.ref (B + 1), .ref (B + 7), .ref (f + 13), .ref (f + 14), .ref (f + 15), .ref (f + 17), .ref (f + 19), .int (gI (sz))]) := hs_n eh103 (show NE (f + 12) (f + 13) by unfold NE; omega) cf_lo_0
        have fh103_1 : hh103.2 (f + 13) = some (aJ 1600 (gup (clG p gg sz i r (gg (i * sz + k)) k c) (((i) * (sz)) + (c)) ((gg (i * sz + c) + (p - gg (i * sz + k)) * gg (r * sz + c)) % p))) := hs_s eh103
        have fh103_2 : hh103.2 (f + 14) = some (aI 40 (gv)) := hs_n eh103 (show NE (f + 14) (f + 13) by unfold NE; omega) cf_lo_2
        have fh103_3 : hh103.2 (B + 1) = some (oB 1 [.int (gI ((p : Int)))]) := hs_n eh103 (show NE (B + 1) (f + 13) by unfold NE; omega) cf_lo_3
        have fr103 : Fr [f + 13] h hh103 := Fr.w0 fr_lo (List.Mem.head _) eh103
        refine g_iinc 0 (ls2 := [(8, .int (gI (c + 1))), (6, .long (gJ ((p : Int)))), (4, .long (gJ ((gg) (((i) * (sz)) + (k))))), (0, .ref (f + 12)), (1, .int (gI (i))), (2, .int (gI (r))), (3, .int (gI (k)))]) dX6_clearRow_97 rfl (by decide) rfl ?_
        refine g_goto (tgt := 36) dX6_clearRow_100 rfl ?_
        exact ih_lo _ (by omega) (c + 1) hh103 rfl fr103 fh103_0 (by rw [← clG_s (p : Int) gg (show 0 ≤ c by omega) (by omega) hc.1]; exact fh103_1) fh103_2 fh103_3 (by omega)
    exact lo _ (k) h rfl (Fr.rf [f + 13] h) hsp (by rw [clG_0]; exact hg) hv hfl (by omega)
  · skip
    have hnz := gcmp_eq.mp c1
    exact g_vret dX6_clearRow_22 rfl ⟨rfl, Fr.rf _ _, by rw [if_pos hnz]; exact hg, hv⟩
