theorem sM_invQ {p : Nat} (hp : prm p) {a b l c : Int} (a0 : 0 ≤ a ∧ a < p) (b0 : 0 ≤ b ∧ b < p) (l0 : 0 ≤ l) (H : a * b ^ l.toNat % p = c) (hl : 0 < l) : (l % 2 = 1 → (0 ≤ a * b % p ∧ a * b % p < p) ∧ (a * b % p) * (b * b % p) ^ (l / 2).toNat % p = c) ∧ (l % 2 = 0 → a * (b * b % p) ^ (l / 2).toNat % p = c) := by
  have hp1 := hp.1
  have key : ∀ x : Int, x * (b * b % p) ^ (l / 2).toNat % p = x * b ^ (2 * (l / 2).toNat) % p := fun x => by
    apply zi_inj hp
    letI := fR hp
    rw [zi_mul, zi_mul, zi_pw, zi_pw, zi_mod, zi_mul, mul_pw (fR hp), ← Lean.Grind.Semiring.pow_add, Nat.two_mul]
  refine ⟨fun z => ⟨em_in hp _, ?_⟩, fun z => ?_⟩
  · rw [key, ← H]
    apply zi_inj hp
    letI := fR hp
    rw [zi_mul, zi_mul, zi_mod, zi_mul, zi_pw, zi_pw, show l.toNat = 2 * (l / 2).toNat + 1 by omega, pw_s (fR hp)]
    grind
  · rw [key, ← H, show l.toNat = 2 * (l / 2).toNat by omega]
set_option maxHeartbeats 4000000 in
set_option maxRecDepth 100000 in
theorem sM_inverse (N : GN) (h : GH) (B p : Nat) (hp : prm p) (hp2 : p ≤ 65536) (hf le fc pn rn hn qn : Int) (x : Int) (hm : h.2 B = some (mO B p hf le fc pn rn hn qn)) (x0 : 0 ≤ x) (x1 : x < p) : Sp N yX10_inverse mX10_inverse 0 0 [.ref (B), .int (gI (x))] h (fun v h1 => h1 = h ∧ v = some (.int (gI (ivr p x)))) := by
  refine Sp.of (by decide) rfl rfl (Nat.le_of_ble_eq_true rfl) ?_
  show Go N mX10_inverse _ 0 0 h 0 [(0, .ref (B)), (1, .int (gI (x)))] []
  have hp1 := hp.1
  refine g_lconst1 dX10_inverse_0 ?_
  refine g_lstore_n (ls2 := [(2, .long (gJ (1))), (0, .ref (B)), (1, .int (gI (x)))]) dX10_inverse_1 rfl (by decide) rfl ?_
  refine g_iload_n 2 dX10_inverse_2 rfl ?_
  refine g_i2l dX10_inverse_3 (by unfold gW; omega) ?_
  refine g_lstore (ls2 := [(4, .long (gJ (x))), (2, .long (gJ (1))), (0, .ref (B)), (1, .int (gI (x)))]) dX10_inverse_4 (by decide) rfl ?_
  refine g_aload_n 2 dX10_inverse_6 rfl ?_
  refine g_getf 0 dX10_inverse_7 kX10 (by decide) fX10_78 hm rfl ?_
  refine g_iconst dX10_inverse_10 ?_
  refine g_isub dX10_inverse_11 ?_
  refine g_istore (ls2 := [(6, .int (gI (((p : Int)) - (2)))), (4, .long (gJ (x))), (2, .long (gJ (1))), (0, .ref (B)), (1, .int (gI (x)))]) dX10_inverse_12 (by decide) rfl ?_
  have lo : ∀ (kk : Nat) (a : Int) (b : Int) (l : Int) (hlo : GH), kk = l.toNat → Fr [] h hlo → (0 ≤ l ∧ l < 65536) → (0 ≤ a ∧ a < p) → (0 ≤ b ∧ b < p) → (a * b ^ l.toNat % p = x ^ ((p : Int) - 2).toNat % p) → Go N mX10_inverse (fun v h1 => h1 = h ∧ v = some (.int (gI (ivr p x)))) 0 0 hlo 14 [(6, .int (gI (l))), (4, .long (gJ (b))), (2, .long (gJ (a))), (0, .ref (B)), (1, .int (gI (x)))] [] := by
    refine Go.ind (fun kk ih_lo => ?_)
    intro a b l hlo hkk_lo fr_lo hl hA hB hI
    have cg_lo_0 : hlo.2 (B) = some (mO B ((p : Int)) (hf) (le) (fc) (pn) (rn) (hn) (qn)) := Fr.at0 fr_lo (Ni.n _) hm
    have hab := g_prod hA.1 hA.2 hB.1 hB.2 (show (p : Int) ≤ 65536 by omega)
    have hbb := g_prod hB.1 hB.2 hB.1 hB.2 (show (p : Int) ≤ 65536 by omega)
    refine g_iload 0 dX10_inverse_14 rfl ?_
    refine g_if_le (tgt := 64) dX10_inverse_16 rfl (by unfold gW; omega) (fun c101 => ?_) (fun c101 => ?_)
    · skip
      refine g_aload_n 3 dX10_inverse_64 rfl ?_
      refine g_getf 0 dX10_inverse_65 kX10 (by decide) fX10_78 cg_lo_0 rfl ?_
      refine g_iconst dX10_inverse_68 ?_
      refine g_icmp_ne (tgt := 76) dX10_inverse_69 rfl (by unfold gW; omega) (by unfold gW; omega) (fun c102 => ?_) (fun c102 => ?_)
      · skip
        refine g_lload_n 2 dX10_inverse_76 rfl ?_
        refine g_l2i dX10_inverse_77 ?_
        exact g_iret dX10_inverse_78 rfl ⟨Fr.e0 fr_lo, by
      have hl0 : l = 0 := by omega
      rw [hl0, show (0 : Int).toNat = 0 from rfl, Int.pow_zero, Int.mul_one, Int.emod_eq_of_lt hA.1 hA.2] at hI
      rw [show ivr p x = a from by
        unfold ivr
        by_cases z : x = 1
        · rw [if_pos z, hI, z, Int.one_pow]; exact (Int.emod_eq_of_lt (by omega) (by omega)).symm
        · rw [if_neg z, hI]]⟩
      · skip
        refine g_lconst1 dX10_inverse_72 ?_
        refine g_goto (tgt := 77) dX10_inverse_73 rfl ?_
        refine g_l2i dX10_inverse_77 ?_
        exact g_iret dX10_inverse_78 rfl ⟨Fr.e0 fr_lo, by
      have hl0 : l = 0 := by omega
      rw [show ivr p x = 1 from by
        unfold ivr
        by_cases z : x = 1
        · rw [if_pos z]
        · rw [if_neg z, show ((p : Int) - 2).toNat = 0 by omega, Int.pow_zero]; exact Int.emod_eq_of_lt (by omega) (by omega)]⟩
    · skip
      have hQ := sM_invQ hp hA hB hl.1 hI (by omega)
      refine g_iload 0 dX10_inverse_19 rfl ?_
      refine g_iconst dX10_inverse_21 ?_
      refine g_iand dX10_inverse_22 ?_
      refine g_iconst dX10_inverse_23 ?_
      rw [gAnd1 (by omega) (by omega)]
      refine g_icmp_ne (tgt := 40) dX10_inverse_24 rfl (by unfold gW; omega) (by unfold gW; omega) (fun c103 => ?_) (fun c103 => ?_)
      · skip
        refine g_lload_n 2 dX10_inverse_40 rfl ?_
        refine g_lstore_n (ls2 := [(2, .long (gJ (a))), (6, .int (gI (l))), (4, .long (gJ (b))), (0, .ref (B)), (1, .int (gI (x)))]) dX10_inverse_41 rfl (by decide) rfl ?_
        refine g_lload 2 dX10_inverse_42 rfl ?_
        refine g_lload 2 dX10_inverse_44 rfl ?_
        refine g_lmul dX10_inverse_46 ?_
        refine g_aload_n 3 dX10_inverse_47 rfl ?_
        refine g_getf 0 dX10_inverse_48 kX10 (by decide) fX10_78 cg_lo_0 rfl ?_
        refine g_i2l dX10_inverse_51 (by unfold gW; omega) ?_
        refine g_lrem dX10_inverse_52 (by unfold gX; omega) (by unfold gX; omega) (by omega) ?_
        rw [tm_em hbb.1]
        refine g_lstore (ls2 := [(4, .long (gJ (b * b % p))), (2, .long (gJ (a))), (6, .int (gI (l))), (0, .ref (B)), (1, .int (gI (x)))]) dX10_inverse_53 (by decide) rfl ?_
        refine g_iload 2 dX10_inverse_55 rfl ?_
        refine g_iconst dX10_inverse_57 ?_
        refine g_ishr dX10_inverse_58 ?_
        rw [gShr1 (by omega) (by omega)]
        refine g_istore (ls2 := [(6, .int (gI (l / 2))), (4, .long (gJ (b * b % p))), (2, .long (gJ (a))), (0, .ref (B)), (1, .int (gI (x)))]) dX10_inverse_59 (by decide) rfl ?_
        refine g_goto (tgt := 14) dX10_inverse_61 rfl ?_
        exact ih_lo _ (by omega) (a) (b * b % p) (l / 2) hlo rfl fr_lo (by omega) hA (em_in hp _) (hQ.2 (by omega))
      · skip
        refine g_lload_n 2 dX10_inverse_27 rfl ?_
        refine g_lload 1 dX10_inverse_28 rfl ?_
        refine g_lmul dX10_inverse_30 ?_
        refine g_aload_n 3 dX10_inverse_31 rfl ?_
        refine g_getf 0 dX10_inverse_32 kX10 (by decide) fX10_78 cg_lo_0 rfl ?_
        refine g_i2l dX10_inverse_35 (by unfold gW; omega) ?_
        refine g_lrem dX10_inverse_36 (by unfold gX; omega) (by unfold gX; omega) (by omega) ?_
        rw [tm_em hab.1]
        refine g_goto (tgt := 41) dX10_inverse_37 rfl ?_
        refine g_lstore_n (ls2 := [(2, .long (gJ (a * b % p))), (6, .int (gI (l))), (4, .long (gJ (b))), (0, .ref (B)), (1, .int (gI (x)))]) dX10_inverse_41 rfl (by decide) rfl ?_
        refine g_lload 2 dX10_inverse_42 rfl ?_
        refine g_lload 2 dX10_inverse_44 rfl ?_
        refine g_lmul dX10_inverse_46 ?_
        refine g_aload_n 3 dX10_inverse_47 rfl ?_
        refine g_getf 0 dX10_inverse_48 kX10 (by decide) fX10_78 cg_lo_0 rfl ?_
        refine g_i2l dX10_inverse_51 (by unfold gW; omega) ?_
        refine g_lrem dX10_inverse_52 (by unfold gX; omega) (by unfold gX; omega) (by omega) ?_
        rw [tm_em hbb.1]
        refine g_lstore (ls2 := [(4, .long (gJ (b * b % p))), (2, .long (gJ (a * b % p))), (6, .int (gI (l))), (0, .ref (B)), (1, .int (gI (x)))]) dX10_inverse_53 (by decide) rfl ?_
        refine g_iload 2 dX10_inverse_55 rfl ?_
        refine g_iconst dX10_inverse_57 ?_
        refine g_ishr dX10_inverse_58 ?_
        rw [gShr1 (by omega) (by omega)]
        refine g_istore (ls2 := [(6, .int (gI (l / 2))), (4, .long (gJ (b * b % p))), (2, .long (gJ (a * b % p))), (0, .ref (B)), (1, .int (gI (x)))]) dX10_inverse_59 (by decide) rfl ?_
        refine g_goto (tgt := 14) dX10_inverse_61 rfl ?_
        exact ih_lo _ (by omega) (a * b % p) (b * b % p) (l / 2) hlo rfl fr_lo (by omega) (em_in hp _) (em_in hp _) ((hQ.1 (by omega)).2)
  exact lo _ (1) (x) ((p : Int) - 2) h rfl (Fr.rf [] h) (by omega) (by omega) (by omega) (by rw [Int.one_mul])
set_option maxHeartbeats 4000000 in
set_option maxRecDepth 100000 in
theorem sM_measure (N : GN) (h : GH) (B p : Nat) (hp : prm p) (hp2 : p ≤ 65536) (hf le fc pn rn hn qn : Int) (r : Int) (hr : 0 ≤ r ∧ r < 40) (hm : h.2 B = some (mO B p hf le fc pn rn hn qn)) (R0 : Int → Int → Int) (d0 : Int → Int) (f : Px p) (hR0 : h.2 (B + 5) = some (aI 8000 (ar R0))) (hD0 : h.2 (B + 6) = some (aI 40 d0)) (hb0 : ∀ k, 0 ≤ k → k < 200 → 0 ≤ R0 r k ∧ R0 r k < p) (hF0 : f = ph hp (R0 r) 199) : Sp N yX10_measure mX10_measure 0 0 [.ref (B), .int (gI (r))] h (fun v h1 => v = none ∧ MF B [] [r] h h1 ∧ MG hp B h1 (r) (f)) := by
  refine Sp.of (by decide) rfl rfl (Nat.le_of_ble_eq_true rfl) ?_
  show Go N mX10_measure _ 0 0 h 0 [(0, .ref (B)), (1, .int (gI (r)))] []
  have hp1 := hp.1
  have neA : NE B (B + 5) := by unfold NE; omega
  have neB : NE B (B + 6) := by unfold NE; omega
  have neC : NE (B + 5) (B + 6) := by unfold NE; omega
  obtain ⟨R, hRe⟩ : ∃ R : Int → Int → Int, R = fun r i => (gI (R0 r i)).toInt := ⟨_, rfl⟩
  obtain ⟨d, hde⟩ : ∃ d : Int → Int, d = fun r => (gI (d0 r)).toInt := ⟨_, rfl⟩
  have hR : h.2 (B + 5) = some (aI 8000 (ar R)) := by rw [hR0, aI_nf, hRe]; rfl
  have hD : h.2 (B + 6) = some (aI 40 d) := by rw [hD0, aI_nf, hde]
  have hu : ∀ r i, gW (R r i) := fun _ _ => by rw [hRe]; exact gW_t _
  have hv : ∀ r, gW (d r) := fun _ => by rw [hde]; exact gW_t _
  have hRr : ∀ k, 0 ≤ k → k < 200 → R r k = R0 r k := fun k k0 k1 => by
    have := hb0 k k0 k1
    rw [hRe]; exact gI_id (by unfold gW; omega)
  have hb : ∀ k, 0 ≤ k → k < 200 → 0 ≤ R r k ∧ R r k < p := fun k k0 k1 => by rw [hRr k k0 k1]; exact hb0 k k0 k1
  have hF : f = ph hp (R r) 199 := hF0.trans (ph_cg hp (fun k k0 k1 => by rw [hRr k k0 (by omega)]))
  refine g_sipush dX10_measure_0 (by decide) ?_
  refine g_istore_n (ls2 := [(2, .int (gI (199))), (0, .ref (B)), (1, .int (gI (r)))]) dX10_measure_3 rfl (by decide) rfl ?_
  have lo : ∀ (kk : Nat) (e : Int) (hlo : GH), kk = (e + 1).toNat → Fr [B + 5] h hlo → hlo.2 (B + 5) = some (aI 8000 (ar R)) → hlo.2 (B + 6) = some (aI 40 (d)) → (-1 ≤ e ∧ e ≤ 199) → (∀ k, e < k → k < 200 → R r k = 0) → Go N mX10_measure (fun v h1 => v = none ∧ MF B [] [r] h h1 ∧ MG hp B h1 (r) (f)) 0 0 hlo 4 [(2, .int (gI (e))), (0, .ref (B)), (1, .int (gI (r)))] [] := by
    refine Go.ind (fun kk ih_lo => ?_)
    intro e hlo hkk_lo fr_lo cf_lo_0 cf_lo_1 he hz
    have cg_lo_0 : hlo.2 (B) = some (mO B ((p : Int)) (hf) (le) (fc) (pn) (rn) (hn) (qn)) := Fr.at0 fr_lo (Ni.c ⟨neA, neB⟩ (Ni.n _)) hm
    refine g_iload_n 0 dX10_measure_4 rfl ?_
    refine g_if_lt (tgt := 29) dX10_measure_5 rfl (by unfold gW; omega) (fun c101 => ?_) (fun c101 => ?_)
    · skip
      refine g_aload_n 1 dX10_measure_29 rfl ?_
      refine g_getf 6 dX10_measure_30 kX10 (by decide) fX10_26 cg_lo_0 rfl ?_
      refine g_iload_n 2 dX10_measure_33 rfl ?_
      refine g_iload_n 0 dX10_measure_34 rfl ?_
      refine g_iastore dX10_measure_35 cf_lo_1 (by omega) (by omega) (by omega) ?_
      obtain ⟨hh102, eh102⟩ : ∃ z : GH, z = hset hlo (B + 6) (aI 40 (gup (d) (r) (e))) := ⟨_, rfl⟩
      refine Go.hp eh102.symm ?_
      have fh102_0 : hh102.2 (B) = some (mO B ((p : Int)) (hf) (le) (fc) (pn) (rn) (hn) (qn)) := hs_n eh102 neB cg_lo_0
      have fh102_1 : hh102.2 (B + 5) = some (aI 8000 (ar R)) := hs_n eh102 neC cf_lo_0
      have fh102_2 : hh102.2 (B + 6) = some (aI 40 (gup (d) (r) (e))) := hs_s eh102
      have fr102 : Fr [B + 5] h hh102 := Fr.w1 fr_lo (List.Mem.head _) eh102
      exact g_vret dX10_measure_36 rfl ⟨rfl, MF.one (r := r) fr102 hu hv hR hD fh102_1 fh102_2 (fun _ _ => rfl) (fun s hs => gup_n _ _ hs), MG.mk hp2 hr fh102_1 fh102_2 (gup_s _ _ _) (by omega) (PO_top (t := 199) he.1 he.2 (fun k k0 k1 => hz k k0 (by omega)) (fun z => absurd z (by omega)) (fun k k0 k1 => hb k k0 (by omega)) hF) hz⟩
    · skip
      refine g_aload_n 1 dX10_measure_8 rfl ?_
      refine g_getf 5 dX10_measure_9 kX10 (by decide) fX10_23 cg_lo_0 rfl ?_
      refine g_sipush dX10_measure_12 (by decide) ?_
      refine g_iload_n 2 dX10_measure_15 rfl ?_
      refine g_imul dX10_measure_16 ?_
      refine g_iload_n 0 dX10_measure_17 rfl ?_
      refine g_iadd dX10_measure_18 ?_
      refine g_iaload dX10_measure_19 cf_lo_0 (by omega) (by omega) (by omega) ?_
      rw [ar_r R (by omega) (by omega)]
      have hbe := hb e (by omega) (by omega)
      refine g_if_ne (tgt := 29) dX10_measure_20 rfl (by unfold gW; omega) (fun c103 => ?_) (fun c103 => ?_)
      · skip
        have hc1 : R r e ≠ 0 := by omega
        refine g_aload_n 1 dX10_measure_29 rfl ?_
        refine g_getf 6 dX10_measure_30 kX10 (by decide) fX10_26 cg_lo_0 rfl ?_
        refine g_iload_n 2 dX10_measure_33 rfl ?_
        refine g_iload_n 0 dX10_measure_34 rfl ?_
        refine g_iastore dX10_measure_35 cf_lo_1 (by omega) (by omega) (by omega) ?_
        obtain ⟨hh104, eh104⟩ : ∃ z : GH, z = hset hlo (B + 6) (aI 40 (gup (d) (r) (e))) := ⟨_, rfl⟩
        refine Go.hp eh104.symm ?_
        have fh104_0 : hh104.2 (B) = some (mO B ((p : Int)) (hf) (le) (fc) (pn) (rn) (hn) (qn)) := hs_n eh104 neB cg_lo_0
        have fh104_1 : hh104.2 (B + 5) = some (aI 8000 (ar R)) := hs_n eh104 neC cf_lo_0
        have fh104_2 : hh104.2 (B + 6) = some (aI 40 (gup (d) (r) (e))) := hs_s eh104
        have fr104 : Fr [B + 5] h hh104 := Fr.w1 fr_lo (List.Mem.head _) eh104
        exact g_vret dX10_measure_36 rfl ⟨rfl, MF.one (r := r) fr104 hu hv hR hD fh104_1 fh104_2 (fun _ _ => rfl) (fun s hs => gup_n _ _ hs), MG.mk hp2 hr fh104_1 fh104_2 (gup_s _ _ _) (by omega) (PO_top (t := 199) he.1 he.2 (fun k k0 k1 => hz k k0 (by omega)) (fun _ => hc1) (fun k k0 k1 => hb k k0 (by omega)) hF) hz⟩
      · skip
        have hc0 : R r e = 0 := by omega
        refine g_iinc 0 (ls2 := [(2, .int (gI (e + (-1)))), (0, .ref (B)), (1, .int (gI (r)))]) dX10_measure_23 rfl (by decide) rfl ?_
        refine g_goto (tgt := 4) dX10_measure_26 rfl ?_
        exact ih_lo _ (by omega) (e + (-1)) hlo rfl fr_lo cf_lo_0 cf_lo_1 (by omega) (fun k k0 k1 => by
        rcases Int.lt_or_le e k with z | z
        · exact hz k z k1
        · rw [show k = e by omega]; exact hc0)
  exact lo _ (199) h rfl (Fr.rf [B + 5] h) hR hD (by omega) (fun k k0 k1 => by omega)
set_option maxHeartbeats 4000000 in
set_option maxRecDepth 100000 in
theorem sM_be (N : GN) (h : GH) (B p : Nat) (hp : prm p) (hp2 : p ≤ 65536) (hf le fc pn rn hn qn : Int) (r c : Int) (hr : 0 ≤ r ∧ r < 40) (c0 : 0 ≤ c) (c1 : c < p) (hm : h.2 B = some (mO B p hf le fc pn rn hn qn)) (ma : MA B h)  : Sp N yX10_be mX10_be 0 0 [.ref (B), .int (gI (r)), .int (gI (c))] h (fun v h1 => v = none ∧ MF B [] [r] h h1 ∧ MG hp B h1 (r) (cz hp (zi hp c))) := by
  refine Sp.of (by decide) rfl rfl (Nat.le_of_ble_eq_true rfl) ?_
  show Go N mX10_be _ 0 0 h 0 [(0, .ref (B)), (1, .int (gI (r))), (2, .int (gI (c)))] []
  have hp1 := hp.1
  have neA : NE B (B + 5) := by unfold NE; omega
  have neB : NE B (B + 6) := by unfold NE; omega
  have neC : NE (B + 5) (B + 6) := by unfold NE; omega
  obtain ⟨R, d, hu, hv, hR, hD⟩ := ma
  refine g_iconst dX10_be_0 ?_
  refine g_istore_n (ls2 := [(3, .int (gI (0))), (0, .ref (B)), (1, .int (gI (r))), (2, .int (gI (c)))]) dX10_be_1 rfl (by decide) rfl ?_
  have lo : ∀ (kk : Nat) (k : Int) (hlo : GH), kk = (200 - k).toNat → Fr [B + 5] h hlo → hlo.2 (B + 5) = some (aI 8000 (ar (gup R r (gF (R r) (fun _ => 0) k)))) → hlo.2 (B + 6) = some (aI 40 (d)) → (0 ≤ k) → (k ≤ 200) → Go N mX10_be (fun v h1 => v = none ∧ MF B [] [r] h h1 ∧ MG hp B h1 (r) (cz hp (zi hp c))) 0 0 hlo 2 [(3, .int (gI (k))), (0, .ref (B)), (1, .int (gI (r))), (2, .int (gI (c)))] [] := by
    refine Go.ind (fun kk ih_lo => ?_)
    intro k hlo hkk_lo fr_lo cf_lo_0 cf_lo_1 hk0 hk1
    have cg_lo_0 : hlo.2 (B) = some (mO B ((p : Int)) (hf) (le) (fc) (pn) (rn) (hn) (qn)) := Fr.at0 fr_lo (Ni.c ⟨neA, neB⟩ (Ni.n _)) hm
    refine g_iload_n 0 dX10_be_2 rfl ?_
    refine g_sipush dX10_be_3 (by decide) ?_
    refine g_icmp_ge (tgt := 28) dX10_be_6 rfl (by unfold gW; omega) (by unfold gW; omega) (fun c101 => ?_) (fun c101 => ?_)
    · skip
      refine g_aload_n 1 dX10_be_28 rfl ?_
      refine g_getf 5 dX10_be_29 kX10 (by decide) fX10_23 cg_lo_0 rfl ?_
      refine g_sipush dX10_be_32 (by decide) ?_
      refine g_iload_n 2 dX10_be_35 rfl ?_
      refine g_imul dX10_be_36 ?_
      refine g_iload_n 3 dX10_be_37 rfl ?_
      refine g_iastore dX10_be_38 cf_lo_0 (by omega) (by omega) (by omega) ?_
      obtain ⟨hh102, eh102⟩ : ∃ z : GH, z = hset hlo (B + 5) (aI 8000 (gup (ar (gup R r (gF (R r) (fun _ => 0) k))) ((200) * (r)) (c))) := ⟨_, rfl⟩
      refine Go.hp eh102.symm ?_
      have fh102_0 : hh102.2 (B) = some (mO B ((p : Int)) (hf) (le) (fc) (pn) (rn) (hn) (qn)) := hs_n eh102 neA cg_lo_0
      have fh102_1 : hh102.2 (B + 5) = some (aI 8000 (gup (ar (gup R r (gF (R r) (fun _ => 0) k))) ((200) * (r)) (c))) := hs_s eh102
      have fh102_2 : hh102.2 (B + 6) = some (aI 40 (d)) := hs_n eh102 (neC).s cf_lo_1
      have fr102 : Fr [B + 5] h hh102 := Fr.w0 fr_lo (List.Mem.head _) eh102
      have e5 : hh102.2 (B + 5) = some (aI 8000 (ar (gup R r (gup (gF (R r) (fun _ => 0) k) 0 c)))) := by rw [← ar_wg0]; exact fh102_1
      refine g_aload_n 1 dX10_be_39 rfl ?_
      refine g_getf 6 dX10_be_40 kX10 (by decide) fX10_26 fh102_0 rfl ?_
      refine g_iload_n 2 dX10_be_43 rfl ?_
      refine g_iload_n 3 dX10_be_44 rfl ?_
      refine g_if_ne (tgt := 52) dX10_be_45 rfl (by unfold gW; omega) (fun c103 => ?_) (fun c103 => ?_)
      · skip
        refine g_iconst dX10_be_52 ?_
        refine g_iastore dX10_be_53 fh102_2 (by omega) (by omega) (by omega) ?_
        obtain ⟨hh104, eh104⟩ : ∃ z : GH, z = hset hh102 (B + 6) (aI 40 (gup (d) (r) (0))) := ⟨_, rfl⟩
        refine Go.hp eh104.symm ?_
        have fh104_0 : hh104.2 (B) = some (mO B ((p : Int)) (hf) (le) (fc) (pn) (rn) (hn) (qn)) := hs_n eh104 neB fh102_0
        have fh104_1 : hh104.2 (B + 5) = some (aI 8000 (ar (gup R r (gup (gF (R r) (fun _ => 0) k) 0 c)))) := hs_n eh104 neC e5
        have fh104_2 : hh104.2 (B + 6) = some (aI 40 (gup (d) (r) (0))) := hs_s eh104
        have fr104 : Fr [B + 5] h hh104 := Fr.w1 fr102 (List.Mem.head _) eh104
        have e5 : hh104.2 (B + 5) = some (aI 8000 (ar (gup R r (gup (gF (R r) (fun _ => 0) k) 0 c)))) := fh104_1
        exact g_vret dX10_be_54 rfl ⟨rfl, MF.one (r := r) fr104 hu hv hR hD e5 fh104_2 (fun s hs => gup_n _ _ hs) (fun s hs => gup_n _ _ hs), by
        have e0 : gup R r (gup (gF (R r) (fun _ => 0) k) 0 c) r = gup (gF (R r) (fun _ => 0) k) 0 c := gup_s _ _ _
        refine MG.mk (e := 0) hp2 hr e5 fh104_2 (gup_s _ _ _) (by omega) ?_ (fun j j0 j1 => ?_)
        · rw [e0]
          have hP := PO_cz (h := hp) (g := gup (gF (R r) (fun _ => 0) k) 0 c) c0 c1 (gup_s _ _ _)
          rw [if_neg (by omega)] at hP
          exact hP
        · rw [e0]
          by_cases z : j = 0
          · rw [z, gup_s]; omega
          · rw [gup_n _ _ z]; unfold gF; rw [if_pos (by omega)]⟩
      · skip
        refine g_iconst dX10_be_48 ?_
        refine g_goto (tgt := 53) dX10_be_49 rfl ?_
        refine g_iastore dX10_be_53 fh102_2 (by omega) (by omega) (by omega) ?_
        obtain ⟨hh105, eh105⟩ : ∃ z : GH, z = hset hh102 (B + 6) (aI 40 (gup (d) (r) (-1))) := ⟨_, rfl⟩
        refine Go.hp eh105.symm ?_
        have fh105_0 : hh105.2 (B) = some (mO B ((p : Int)) (hf) (le) (fc) (pn) (rn) (hn) (qn)) := hs_n eh105 neB fh102_0
        have fh105_1 : hh105.2 (B + 5) = some (aI 8000 (ar (gup R r (gup (gF (R r) (fun _ => 0) k) 0 c)))) := hs_n eh105 neC e5
        have fh105_2 : hh105.2 (B + 6) = some (aI 40 (gup (d) (r) (-1))) := hs_s eh105
        have fr105 : Fr [B + 5] h hh105 := Fr.w1 fr102 (List.Mem.head _) eh105
        have e5 : hh105.2 (B + 5) = some (aI 8000 (ar (gup R r (gup (gF (R r) (fun _ => 0) k) 0 c)))) := fh105_1
        exact g_vret dX10_be_54 rfl ⟨rfl, MF.one (r := r) fr105 hu hv hR hD e5 fh105_2 (fun s hs => gup_n _ _ hs) (fun s hs => gup_n _ _ hs), by
        have e0 : gup R r (gup (gF (R r) (fun _ => 0) k) 0 c) r = gup (gF (R r) (fun _ => 0) k) 0 c := gup_s _ _ _
        refine MG.mk (e := -1) hp2 hr e5 fh105_2 (gup_s _ _ _) (by omega) ?_ (fun j j0 j1 => ?_)
        · rw [e0]
          have hP := PO_cz (h := hp) (g := gup (gF (R r) (fun _ => 0) k) 0 c) c0 c1 (gup_s _ _ _)
          rw [if_pos (by omega)] at hP
          exact hP
        · rw [e0]
          by_cases z : j = 0
          · rw [z, gup_s]; omega
          · rw [gup_n _ _ z]; unfold gF; rw [if_pos (by omega)]⟩
    · skip
      refine g_aload_n 1 dX10_be_9 rfl ?_
      refine g_getf 5 dX10_be_10 kX10 (by decide) fX10_23 cg_lo_0 rfl ?_
      refine g_sipush dX10_be_13 (by decide) ?_
      refine g_iload_n 2 dX10_be_16 rfl ?_
      refine g_imul dX10_be_17 ?_
      refine g_iload_n 0 dX10_be_18 rfl ?_
      refine g_iadd dX10_be_19 ?_
      refine g_iconst dX10_be_20 ?_
      refine g_iastore dX10_be_21 cf_lo_0 (by omega) (by omega) (by omega) ?_
      obtain ⟨hh106, eh106⟩ : ∃ z : GH, z = hset hlo (B + 5) (aI 8000 (gup (ar (gup R r (gF (R r) (fun _ => 0) k))) (((200) * (r)) + (k)) (0))) := ⟨_, rfl⟩
      refine Go.hp eh106.symm ?_
      have fh106_0 : hh106.2 (B) = some (mO B ((p : Int)) (hf) (le) (fc) (pn) (rn) (hn) (qn)) := hs_n eh106 neA cg_lo_0
      have fh106_1 : hh106.2 (B + 5) = some (aI 8000 (gup (ar (gup R r (gF (R r) (fun _ => 0) k))) (((200) * (r)) + (k)) (0))) := hs_s eh106
      have fh106_2 : hh106.2 (B + 6) = some (aI 40 (d)) := hs_n eh106 (neC).s cf_lo_1
      have fr106 : Fr [B + 5] h hh106 := Fr.w0 fr_lo (List.Mem.head _) eh106
      refine g_iinc 0 (ls2 := [(3, .int (gI (k + 1))), (0, .ref (B)), (1, .int (gI (r))), (2, .int (gI (c)))]) dX10_be_22 rfl (by decide) rfl ?_
      refine g_goto (tgt := 2) dX10_be_25 rfl ?_
      exact ih_lo _ (by omega) (k + 1) hh106 rfl fr106 (by rw [← gF_s (R r) (fun _ => 0) hk0, ← ar_wg R _ hk0 (by omega)]; exact fh106_1) fh106_2 (by omega) (by omega)
  exact lo _ (0) h rfl (Fr.rf [B + 5] h) (by rw [gF_0, gup_id]; exact hR) hD (by omega) (by omega)
set_option maxHeartbeats 4000000 in
set_option maxRecDepth 100000 in
theorem sM_copy (N : GN) (h : GH) (B p : Nat) (hp : prm p) (hp2 : p ≤ 65536) (hf le fc pn rn hn qn : Int) (a t : Int) (hr : 0 ≤ t ∧ t < 40) (hat : a ≠ t) (f : Px p) (hm : h.2 B = some (mO B p hf le fc pn rn hn qn)) (ma : MA B h) (hG : MG hp B h a f) : Sp N yX10_copy mX10_copy 0 0 [.ref (B), .int (gI (a)), .int (gI (t))] h (fun v h1 => v = none ∧ MF B [] [t] h h1 ∧ MG hp B h1 (t) (f)) := by
  refine Sp.of (by decide) rfl rfl (Nat.le_of_ble_eq_true rfl) ?_
  show Go N mX10_copy _ 0 0 h 0 [(0, .ref (B)), (1, .int (gI (a))), (2, .int (gI (t)))] []
  have hp1 := hp.1
  have neA : NE B (B + 5) := by unfold NE; omega
  have neB : NE B (B + 6) := by unfold NE; omega
  have neC : NE (B + 5) (B + 6) := by unfold NE; omega
  have hra := hG.in
  obtain ⟨R, d, hu, hv, hR, hD⟩ := ma
  refine g_iconst dX10_copy_0 ?_
  refine g_istore_n (ls2 := [(3, .int (gI (0))), (0, .ref (B)), (1, .int (gI (a))), (2, .int (gI (t)))]) dX10_copy_1 rfl (by decide) rfl ?_
  have lo : ∀ (kk : Nat) (k : Int) (hlo : GH), kk = (200 - k).toNat → Fr [B + 5] h hlo → hlo.2 (B + 5) = some (aI 8000 (ar (gup R t (gF (R t) (R a) k)))) → hlo.2 (B + 6) = some (aI 40 (d)) → (0 ≤ k) → (k ≤ 200) → Go N mX10_copy (fun v h1 => v = none ∧ MF B [] [t] h h1 ∧ MG hp B h1 (t) (f)) 0 0 hlo 2 [(3, .int (gI (k))), (0, .ref (B)), (1, .int (gI (a))), (2, .int (gI (t)))] [] := by
    refine Go.ind (fun kk ih_lo => ?_)
    intro k hlo hkk_lo fr_lo cf_lo_0 cf_lo_1 hk0 hk1
    have cg_lo_0 : hlo.2 (B) = some (mO B ((p : Int)) (hf) (le) (fc) (pn) (rn) (hn) (qn)) := Fr.at0 fr_lo (Ni.c ⟨neA, neB⟩ (Ni.n _)) hm
    refine g_iload_n 0 dX10_copy_2 rfl ?_
    refine g_sipush dX10_copy_3 (by decide) ?_
    refine g_icmp_ge (tgt := 39) dX10_copy_6 rfl (by unfold gW; omega) (by unfold gW; omega) (fun c101 => ?_) (fun c101 => ?_)
    · skip
      refine g_aload_n 1 dX10_copy_39 rfl ?_
      refine g_getf 6 dX10_copy_40 kX10 (by decide) fX10_26 cg_lo_0 rfl ?_
      refine g_iload_n 3 dX10_copy_43 rfl ?_
      refine g_aload_n 1 dX10_copy_44 rfl ?_
      refine g_getf 6 dX10_copy_45 kX10 (by decide) fX10_26 cg_lo_0 rfl ?_
      refine g_iload_n 2 dX10_copy_48 rfl ?_
      refine g_iaload dX10_copy_49 cf_lo_1 (by omega) (by omega) (by omega) ?_
      refine g_iastore dX10_copy_50 cf_lo_1 (by omega) (by omega) (by omega) ?_
      obtain ⟨hh102, eh102⟩ : ∃ z : GH, z = hset hlo (B + 6) (aI 40 (gup (d) (t) ((d) (a)))) := ⟨_, rfl⟩
      refine Go.hp eh102.symm ?_
      have fh102_0 : hh102.2 (B) = some (mO B ((p : Int)) (hf) (le) (fc) (pn) (rn) (hn) (qn)) := hs_n eh102 neB cg_lo_0
      have fh102_1 : hh102.2 (B + 5) = some (aI 8000 (ar (gup R t (gF (R t) (R a) k)))) := hs_n eh102 neC cf_lo_0
      have fh102_2 : hh102.2 (B + 6) = some (aI 40 (gup (d) (t) ((d) (a)))) := hs_s eh102
      have fr102 : Fr [B + 5] h hh102 := Fr.w1 fr_lo (List.Mem.head _) eh102
      exact g_vret dX10_copy_51 rfl ⟨rfl, MF.one (r := t) fr102 hu hv hR hD fh102_1 fh102_2 (fun s hs => gup_n _ _ hs) (fun s hs => gup_n _ _ hs), by
        have e0 : gup R t (gF (R t) (R a) k) t = gF (R t) (R a) k := gup_s _ _ _
        have ha := hG.at hu hv hR hD
        refine MG.mk (e := dgi hp f) hp2 hr fh102_1 fh102_2 (by rw [gup_s, ha.1]) hG.lt.2 ?_ (fun j j0 j1 => ?_)
        · rw [e0]
          refine PO_of rfl ((ph_cf hp hG.po (Int.le_refl _)).symm.trans (ph_cg hp (fun j j0 j1 => ?_))) (fun j j0 j1 => ?_)
          · have := hG.lt; unfold gF; rw [if_pos (by omega), ha.2 j j0 (by omega)]
          · have := hG.lt; unfold gF; rw [if_pos (by omega), ha.2 j j0 (by omega)]; exact cf_in f hp j
        · have := hG.lt
          rw [e0]; unfold gF; rw [if_pos (by omega), ha.2 j (by omega) j1, cf_hi hp hG.po j0]⟩
    · skip
      refine g_aload_n 1 dX10_copy_9 rfl ?_
      refine g_getf 5 dX10_copy_10 kX10 (by decide) fX10_23 cg_lo_0 rfl ?_
      refine g_sipush dX10_copy_13 (by decide) ?_
      refine g_iload_n 3 dX10_copy_16 rfl ?_
      refine g_imul dX10_copy_17 ?_
      refine g_iload_n 0 dX10_copy_18 rfl ?_
      refine g_iadd dX10_copy_19 ?_
      refine g_aload_n 1 dX10_copy_20 rfl ?_
      refine g_getf 5 dX10_copy_21 kX10 (by decide) fX10_23 cg_lo_0 rfl ?_
      refine g_sipush dX10_copy_24 (by decide) ?_
      refine g_iload_n 2 dX10_copy_27 rfl ?_
      refine g_imul dX10_copy_28 ?_
      refine g_iload_n 0 dX10_copy_29 rfl ?_
      refine g_iadd dX10_copy_30 ?_
      refine g_iaload dX10_copy_31 cf_lo_0 (by omega) (by omega) (by omega) ?_
      rw [ar_r _ (show 0 ≤ k by omega) (show k < 200 by omega), gup_n _ _ hat]
      refine g_iastore dX10_copy_32 cf_lo_0 (by omega) (by omega) (by omega) ?_
      obtain ⟨hh103, eh103⟩ : ∃ z : GH, z = hset hlo (B + 5) (aI 8000 (gup (ar (gup R t (gF (R t) (R a) k))) (((200) * (t)) + (k)) (R a k))) := ⟨_, rfl⟩
      refine Go.hp eh103.symm ?_
      have fh103_0 : hh103.2 (B) = some (mO B ((p : Int)) (hf) (le) (fc) (pn) (rn) (hn) (qn)) := hs_n eh103 neA cg_lo_0
      have fh103_1 : hh103.2 (B + 5) = some (aI 8000 (gup (ar (gup R t (gF (R t) (R a) k))) (((200) * (t)) + (k)) (R a k))) := hs_s eh103
      have fh103_2 : hh103.2 (B + 6) = some (aI 40 (d)) := hs_n eh103 (neC).s cf_lo_1
      have fr103 : Fr [B + 5] h hh103 := Fr.w0 fr_lo (List.Mem.head _) eh103
      refine g_iinc 0 (ls2 := [(3, .int (gI (k + 1))), (0, .ref (B)), (1, .int (gI (a))), (2, .int (gI (t)))]) dX10_copy_33 rfl (by decide) rfl ?_
      refine g_goto (tgt := 2) dX10_copy_36 rfl ?_
      exact ih_lo _ (by omega) (k + 1) hh103 rfl fr103 (by rw [← gF_s (R t) (R a) hk0, ← ar_wg R _ hk0 (by omega)]; exact fh103_1) fh103_2 (by omega) (by omega)
  exact lo _ (0) h rfl (Fr.rf [B + 5] h) (by rw [gF_0, gup_id]; exact hR) hD (by omega) (by omega)
set_option maxHeartbeats 4000000 in
set_option maxRecDepth 100000 in
theorem sM_minus (N : GN) (h : GH) (B p : Nat) (hp : prm p) (hp2 : p ≤ 65536) (hf le fc pn rn hn qn : Int) (a b t : Int) (hr : 0 ≤ t ∧ t < 40) (f g : Px p) (hm : h.2 B = some (mO B p hf le fc pn rn hn qn)) (ma : MA B h) (hGa : MG hp B h a f) (hGb : MG hp B h b g) : Sp N yX10_minus mX10_minus 0 0 [.ref (B), .int (gI (a)), .int (gI (b)), .int (gI (t))] h (fun v h1 => v = none ∧ MF B [] [t] h h1 ∧ MG hp B h1 (t) (psb hp f g)) := by
  refine Sp.of (by decide) rfl rfl (Nat.le_of_ble_eq_true rfl) ?_
  show Go N mX10_minus _ 0 0 h 0 [(0, .ref (B)), (1, .int (gI (a))), (2, .int (gI (b))), (3, .int (gI (t)))] []
  have hp1 := hp.1
  have neA : NE B (B + 5) := by unfold NE; omega
  have neB : NE B (B + 6) := by unfold NE; omega
  have neC : NE (B + 5) (B + 6) := by unfold NE; omega
  have hra := hGa.in
  have hrb := hGb.in
  obtain ⟨R, d, hu, hv, hR, hD⟩ := ma
  have hFa := hGa.at hu hv hR hD
  have hFb := hGb.at hu hv hR hD
  refine g_iconst dX10_minus_0 ?_
  refine g_istore (ls2 := [(4, .int (gI (0))), (0, .ref (B)), (1, .int (gI (a))), (2, .int (gI (b))), (3, .int (gI (t)))]) dX10_minus_1 (by decide) rfl ?_
  have lo : ∀ (kk : Nat) (k : Int) (hlo : GH), kk = (200 - k).toNat → Fr [B + 5] h hlo → hlo.2 (B + 5) = some (aI 8000 (ar (gup R t (gF (R t) (fun k => (R a k - R b k + p) % p) k)))) → hlo.2 (B + 6) = some (aI 40 (d)) → (0 ≤ k) → (k ≤ 200) → Go N mX10_minus (fun v h1 => v = none ∧ MF B [] [t] h h1 ∧ MG hp B h1 (t) (psb hp f g)) 0 0 hlo 3 [(4, .int (gI (k))), (0, .ref (B)), (1, .int (gI (a))), (2, .int (gI (b))), (3, .int (gI (t)))] [] := by
    refine Go.ind (fun kk ih_lo => ?_)
    intro k hlo hkk_lo fr_lo cf_lo_0 cf_lo_1 hk0 hk1
    have cg_lo_0 : hlo.2 (B) = some (mO B ((p : Int)) (hf) (le) (fc) (pn) (rn) (hn) (qn)) := Fr.at0 fr_lo (Ni.c ⟨neA, neB⟩ (Ni.n _)) hm
    have hrd : ∀ z : Int, gup R t (gF (R t) (fun k => (R a k - R b k + p) % p) k) z k = R z k := fun z => by
        by_cases y : z = t
        · rw [y, gup_s, gF_at]
        · rw [gup_n _ _ y]
    refine g_iload 0 dX10_minus_3 rfl ?_
    refine g_sipush dX10_minus_5 (by decide) ?_
    refine g_icmp_ge (tgt := 67) dX10_minus_8 rfl (by unfold gW; omega) (by unfold gW; omega) (fun c101 => ?_) (fun c101 => ?_)
    · skip
      have hk2 : k = 200 := by omega
      refine g_aload_n 1 dX10_minus_67 rfl ?_
      refine g_iload_n 4 dX10_minus_68 rfl ?_
      refine g_callV (nc2 := 0) (ns2 := 0) (ci := 10) (As := [.int (gI (t))]) (st := []) rfl dX10_minus_69 okX10_measure lX10_164 itX10_measure seX10_measure rfl cg_lo_0 (by decide) (by decide) rfl (Nat.le_of_ble_eq_true rfl) (sM_measure N _ B p hp hp2 hf le fc pn rn hn qn (t) (by omega) cg_lo_0 ((gup R t (gF (R t) (fun k => (R a k - R b k + p) % p) k))) (d) (psb hp f g) cf_lo_0 cf_lo_1 (fun j j0 j1 => by rw [gup_s]; unfold gF; rw [if_pos (by omega)]; exact em_in hp _) (by
        rw [gup_s]
        refine funext fun j => ?_
        letI := fR hp
        show f j - g j = (if (j : Int) ≤ 199 then zi hp (gF (R t) (fun k => (R a k - R b k + p) % p) k j) else 0)
        have h1 := hGa.lt
        have h2 := hGb.lt
        by_cases z : (j : Int) ≤ 199
        · rw [if_pos z]
          unfold gF
          rw [if_pos (by omega)]
          show _ = zi hp ((R a j - R b j + p) % p)
          rw [zi_mod, zi_add, zi_sub, zi_p hp, hFa.2 j (by omega) (by omega), hFb.2 j (by omega) (by omega), cf_zi, cf_zi]
          grind
        · rw [if_neg z, dgi_dl hp hGa.po j (by omega), dgi_dl hp hGb.po j (by omega)]
          grind)) (by omega) (by omega) (fun v102 hc102 q102 => ?_)
      obtain ⟨rfl, mfc103, rn103⟩ := q102
      have mfd103 : MF B [] [t] h hc102 := (MF.one (r := t) fr_lo hu hv hR hD cf_lo_0 cf_lo_1 (fun s hs => gup_n _ _ hs) (fun _ _ => rfl)).tr mfc103
      have fk104_0 : hc102.2 (B) = some (mO B ((p : Int)) (hf) (le) (fc) (pn) (rn) (hn) (qn)) := Fr.at0 mfc103.1 (Ni.c ⟨neA, neB⟩ (Ni.n _)) cg_lo_0
      have fr104 : Fr [B + 5] h hc102 := (fr_lo).tr ((mfc103.1).mo (sub_c (List.Mem.head _) sub_n))
      refine Go.nf (h' := hc102) (st' := []) rfl rfl (Nat.le_refl _) (Nat.le_refl _) ?_
      exact g_vret dX10_minus_72 rfl ⟨rfl, mfd103, rn103⟩
    · skip
      refine g_aload_n 1 dX10_minus_11 rfl ?_
      refine g_getf 5 dX10_minus_12 kX10 (by decide) fX10_23 cg_lo_0 rfl ?_
      refine g_sipush dX10_minus_15 (by decide) ?_
      refine g_iload_n 4 dX10_minus_18 rfl ?_
      refine g_imul dX10_minus_19 ?_
      refine g_iload 0 dX10_minus_20 rfl ?_
      refine g_iadd dX10_minus_22 ?_
      refine g_aload_n 1 dX10_minus_23 rfl ?_
      refine g_getf 5 dX10_minus_24 kX10 (by decide) fX10_23 cg_lo_0 rfl ?_
      refine g_sipush dX10_minus_27 (by decide) ?_
      refine g_iload_n 2 dX10_minus_30 rfl ?_
      refine g_imul dX10_minus_31 ?_
      refine g_iload 0 dX10_minus_32 rfl ?_
      refine g_iadd dX10_minus_34 ?_
      refine g_iaload dX10_minus_35 cf_lo_0 (by omega) (by omega) (by omega) ?_
      refine g_aload_n 1 dX10_minus_36 rfl ?_
      refine g_getf 5 dX10_minus_37 kX10 (by decide) fX10_23 cg_lo_0 rfl ?_
      refine g_sipush dX10_minus_40 (by decide) ?_
      refine g_iload_n 3 dX10_minus_43 rfl ?_
      refine g_imul dX10_minus_44 ?_
      refine g_iload 0 dX10_minus_45 rfl ?_
      refine g_iadd dX10_minus_47 ?_
      refine g_iaload dX10_minus_48 cf_lo_0 (by omega) (by omega) (by omega) ?_
      rw [ar_r _ (show 0 ≤ k by omega) (show k < 200 by omega), ar_r _ (show 0 ≤ k by omega) (show k < 200 by omega), hrd a, hrd b]
      have b1 := cf_in f hp k
      have b2 := cf_in g hp k
      rw [← hFa.2 k hk0 (by omega)] at b1
      rw [← hFb.2 k hk0 (by omega)] at b2
      refine g_isub dX10_minus_49 ?_
      refine g_aload_n 1 dX10_minus_50 rfl ?_
      refine g_getf 0 dX10_minus_51 kX10 (by decide) fX10_78 cg_lo_0 rfl ?_
      refine g_iadd dX10_minus_54 ?_
      refine g_aload_n 1 dX10_minus_55 rfl ?_
      refine g_getf 0 dX10_minus_56 kX10 (by decide) fX10_78 cg_lo_0 rfl ?_
      refine g_irem dX10_minus_59 (by unfold gW; omega) (by unfold gW; omega) (by omega) ?_
      rw [tm_em (show 0 ≤ R a k - R b k + p by omega)]
      refine g_iastore dX10_minus_60 cf_lo_0 (by omega) (by omega) (by omega) ?_
      obtain ⟨hh105, eh105⟩ : ∃ z : GH, z = hset hlo (B + 5) (aI 8000 (gup (ar (gup R t (gF (R t) (fun k => (R a k - R b k + p) % p) k))) (((200) * (t)) + (k)) ((R a k - R b k + p) % p))) := ⟨_, rfl⟩
      refine Go.hp eh105.symm ?_
      have fh105_0 : hh105.2 (B) = some (mO B ((p : Int)) (hf) (le) (fc) (pn) (rn) (hn) (qn)) := hs_n eh105 neA cg_lo_0
      have fh105_1 : hh105.2 (B + 5) = some (aI 8000 (gup (ar (gup R t (gF (R t) (fun k => (R a k - R b k + p) % p) k))) (((200) * (t)) + (k)) ((R a k - R b k + p) % p))) := hs_s eh105
      have fh105_2 : hh105.2 (B + 6) = some (aI 40 (d)) := hs_n eh105 (neC).s cf_lo_1
      have fr105 : Fr [B + 5] h hh105 := Fr.w0 fr_lo (List.Mem.head _) eh105
      refine g_iinc 0 (ls2 := [(4, .int (gI (k + 1))), (0, .ref (B)), (1, .int (gI (a))), (2, .int (gI (b))), (3, .int (gI (t)))]) dX10_minus_61 rfl (by decide) rfl ?_
      refine g_goto (tgt := 3) dX10_minus_64 rfl ?_
      exact ih_lo _ (by omega) (k + 1) hh105 rfl fr105 (by rw [← gF_s (R t) (fun k => (R a k - R b k + p) % p) hk0, ← ar_wg R _ hk0 (by omega)]; exact fh105_1) fh105_2 (by omega) (by omega)
  exact lo _ (0) h rfl (Fr.rf [B + 5] h) (by rw [gF_0, gup_id]; exact hR) hD (by omega) (by omega)
