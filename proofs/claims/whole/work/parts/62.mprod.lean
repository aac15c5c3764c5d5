theorem sbI_n {L : List Int} : ∀ x, x ∈ ([] : List Int) → x ∈ L := fun _ h => absurd h (List.not_mem_nil)
theorem sbI_c {a : Int} {L L2 : List Int} (h : a ∈ L) (t : ∀ x, x ∈ L2 → x ∈ L) : ∀ x, x ∈ a :: L2 → x ∈ L := fun x hx => by
  rcases List.mem_cons.mp hx with z | z
  · subst z; exact h
  · exact t x z
theorem Fr.lr {L : List Nat} {h h1 h2 : GH} (a : Fr L h h1) (b : Fr L h h2) : Fr L h1 h2 := ⟨b.1.trans a.1.symm, fun x hx => (b.2 x hx).trans (a.2 x hx).symm⟩
section
variable {p : Nat}
/-- some registers have changed -/
theorem MF.many {B : Nat} {h h1 : GH} {R R2 : Int → Int → Int} {d d2 : Int → Int} {L : List Int} (fr : Fr [B + 5] h h1) (u : ∀ r i, gW (R r i)) (v : ∀ r, gW (d r)) (a : h.2 (B + 5) = some (aI 8000 (ar R))) (b : h.2 (B + 6) = some (aI 40 d)) (a2 : h1.2 (B + 5) = some (aI 8000 (ar R2))) (b2 : h1.2 (B + 6) = some (aI 40 d2)) (eR : ∀ s, (∀ x ∈ L, s ≠ x) → R2 s = R s) (ed : ∀ s, (∀ x ∈ L, s ≠ x) → d2 s = d s) : MF B [] L h h1 := by
  refine ⟨fr, MA.of a2 b2, fun p hp s f hp2 hs w => ?_⟩
  have hw := w.at u v a b
  obtain ⟨w1, w2, w3, _⟩ := w
  refine ⟨w1, w2, w3, fun r i => (gI (R2 r i)).toInt, fun r => (gI (d2 r)).toInt, fun _ _ => gW_t _, fun _ => gW_t _, ?_, by rw [b2, ← aI_nf], ?_, fun i i0 i1 => ?_⟩
  · rw [a2, aI_nf]; rfl
  · show (gI (d2 s)).toInt = _
    rw [ed s hs, gI_id (v s)]; exact hw.1
  · show (gI (R2 s i)).toInt = _
    rw [eR s hs, gI_id (u s i)]; exact hw.2 i i0 i1
/-- the number at i of a product, as far as k -/
def prT (h : prm p) (fa fb : Px p) (i k : Nat) : Fp p := letI := fR h; sm (fR h) k (fun j => fa j * fb (i - j))
theorem prT_0 (h : prm p) {fa fb : Px p} (hb : po (fR h) fb) {i k : Nat} (hk : ∀ j : Nat, j < k → dgi h fb < (i : Int) - j) : letI := fR h; prT h fa fb i k = 0 := by
  letI := fR h
  refine sm_zero (fR h) (fun j hj => ?_)
  have := hk j hj
  have := dgi_ge h hb
  rw [dgi_dl h hb (i - j) (by omega)]; grind
theorem prT_e (h : prm p) {fa fb : Px p} (ha : po (fR h) fa) (hb : po (fR h) fb) {i k : Nat} (hk : k ≤ i + 1) (hc : dgi h fa < k ∨ i < k ∨ dgi h (pml h fa fb) < i) : prT h fa fb i k = pml h fa fb i := by
  letI := fR h
  show sm (fR h) k (fun j => fa j * fb (i - j)) = sm (fR h) (i + 1) (fun j => fa j * fb (i - j))
  have ga := dgi_ge h ha
  have gb := dgi_ge h hb
  rcases hc with z | z | z
  · refine (sm_tail (fR h) hk (fun j hj => ?_)).symm
    rw [dgi_dl h ha j (by omega)]; grind
  · rw [show k = i + 1 by omega]
  · have e : dgi h (pml h fa fb) = _ := mul_dgi h ha hb
    rw [e] at z
    have key : ∀ j : Nat, j ≤ i → fa j * fb (i - j) = 0 := fun j hj => by
      by_cases x : dgi h fa < j
      · rw [dgi_dl h ha j (by omega)]; grind
      · have : dgi h fb < ((i - j : Nat) : Int) := by split at z <;> omega
        rw [dgi_dl h hb (i - j) (by omega)]; grind
    rw [sm_zero (fR h) (fun j hj => key j (by omega)), sm_zero (fR h) (fun j hj => key j (by omega))]
theorem cf_of (h : prm p) {f : Px p} {v i : Int} (v0 : 0 ≤ v ∧ v < p) (hi : 0 ≤ i) (e : zi h v = f i.toNat) : v = cf f i := by
  unfold cf
  rw [if_pos hi, ← e, zi_lt h v0.1 v0.2]
/-- the state of a division before place i -/
def dvI (h : prm p) (fa fb : Px p) (i : Int) (lr lq : Int → Int) : Prop := (∀ k, 0 ≤ k → k < 200 → 0 ≤ lr k ∧ lr k < p) ∧ (∀ k, 0 ≤ k → k < 200 → 0 ≤ lq k ∧ lq k < p) ∧ (∀ k, i + dgi h fb < k → k < 200 → lr k = 0) ∧ (∀ k, 0 ≤ k → k ≤ i → lq k = 0) ∧ (letI := pR h; fa = ph h lq 199 * fb + ph h lr 199)
def dvL (p : Nat) (lr : Int → Int) (fb : Px p) (c i k : Int) : Int → Int := fun m => if i ≤ m ∧ m < i + k then (lr m + (p - c) * cf fb (m - i)) % p else lr m
theorem dvL_0 (lr : Int → Int) (fb : Px p) (c i : Int) : dvL p lr fb c i 0 = lr := funext fun m => by unfold dvL; rw [if_neg (by omega)]
theorem dvL_at (lr : Int → Int) (fb : Px p) (c i k : Int) : dvL p lr fb c i k (i + k) = lr (i + k) := by unfold dvL; rw [if_neg (by omega)]
theorem dvL_s (lr : Int → Int) (fb : Px p) {c i k : Int} (hk : 0 ≤ k) : gup (dvL p lr fb c i k) (i + k) ((lr (i + k) + (p - c) * cf fb k) % p) = dvL p lr fb c i (k + 1) := funext fun m => by
  unfold gup dvL
  by_cases z : m = i + k
  · subst z; rw [if_pos rfl, if_pos (by omega), show i + k - i = k by omega]
  · rw [if_neg z]
    by_cases w : i ≤ m ∧ m < i + k
    · rw [if_pos w, if_pos (by omega)]
    · rw [if_neg w, if_neg (by omega)]
theorem ph_xm (h : prm p) {lq : Int → Int} {i c : Int} (i0 : 0 ≤ i) (i1 : i < 200) (hz : lq i = 0) : letI := pR h; ph h (gup lq i c) 199 = ph h lq 199 + xm (fR h) (zi h c) i.toNat := funext fun m => by
  letI := fR h
  show (if (m : Int) ≤ 199 then zi h (gup lq i c m) else 0) = (if (m : Int) ≤ 199 then zi h (lq m) else 0) + (if m = i.toNat then zi h c else 0)
  by_cases z : m = i.toNat
  · have e : (m : Int) = i := by omega
    rw [if_pos z, e, if_pos (by omega), if_pos (by omega), gup_s, hz, zi_0 h]; grind
  · rw [if_neg z, gup_n _ _ (by omega)]; grind
theorem dvI_s (h : prm p) {fa fb : Px p} {i c : Int} {lr lq : Int → Int} (hb : po (fR h) fb) (hd : 0 ≤ dgi h fb) (i0 : 0 ≤ i) (i1 : i + dgi h fb < 200) (H : dvI h fa fb i lr lq) (hc : c = lr (i + dgi h fb) * ivr p (cf fb (dgi h fb)) % p) : dvI h fa fb (i - 1) (dvL p lr fb c i (dgi h fb + 1)) (gup lq i c) := by
  obtain ⟨h1, h2, h3, h4, h5⟩ := H
  have hp := h.1
  have hcb : 0 ≤ c ∧ c < p := by rw [hc]; exact em_in h _
  have hbl := h1 (i + dgi h fb) (by omega) i1
  have hld := ld_in h hb hd
  have hiv := ivr_zi h hld.1 hld.2
  have e1 : letI := pR h; ph h (dvL p lr fb c i (dgi h fb + 1)) 199 = ph h lr 199 - xm (fR h) (zi h c) i.toNat * fb := funext fun m => by
    letI := fR h
    show (if (m : Int) ≤ 199 then zi h (dvL p lr fb c i (dgi h fb + 1) m) else 0) = (if (m : Int) ≤ 199 then zi h (lr m) else 0) - zmul (fR h) (xm (fR h) (zi h c) i.toNat) fb m
    rw [xm_mul]
    by_cases z : (m : Int) ≤ 199
    · rw [if_pos z, if_pos z]
      unfold dvL
      by_cases y : i ≤ (m : Int) ∧ (m : Int) < i + (dgi h fb + 1)
      · rw [if_pos y, if_pos (by omega), zi_mod, zi_add, zi_mul, zi_sub, zi_p h, show (m : Int) - i = ((m - i.toNat : Nat) : Int) by omega, cf_zi]
        grind
      · rw [if_neg y]
        by_cases x : i.toNat ≤ m
        · rw [if_pos x, dgi_dl h hb (m - i.toNat) (by omega)]; grind
        · rw [if_neg x]; grind
    · rw [if_neg z, if_neg z, if_pos (by omega), dgi_dl h hb (m - i.toNat) (by omega)]; grind
  refine ⟨fun k k0 k1 => ?_, fun k k0 k1 => ?_, fun k k0 k1 => ?_, fun k k0 k1 => ?_, ?_⟩
  · unfold dvL
    split
    · exact em_in h _
    · exact h1 k k0 k1
  · by_cases z : k = i
    · rw [z, gup_s]; exact hcb
    · rw [gup_n _ _ z]; exact h2 k k0 k1
  · by_cases z : k = i + dgi h fb
    · have hb2 : 0 ≤ dvL p lr fb c i (dgi h fb + 1) k ∧ dvL p lr fb c i (dgi h fb + 1) k < p := by
        unfold dvL; rw [if_pos (by omega)]; exact em_in h _
      have e2 : zi h (dvL p lr fb c i (dgi h fb + 1) k) = zi h 0 := by
        letI := fR h
        unfold dvL
        rw [if_pos (by omega), zi_mod, zi_add, zi_mul, zi_sub, zi_p h, hc, zi_mod, zi_mul, show k - i = dgi h fb by omega, z]
        have e3 : zi h (cf fb (dgi h fb)) = zi h (ld h fb) := rfl
        have e4 : zi h (ivr p (cf fb (dgi h fb))) * zi h (cf fb (dgi h fb)) = 1 := hiv
        rw [zi_0 h]
        generalize zi h (ivr p (cf fb (dgi h fb))) = x1 at *
        generalize zi h (cf fb (dgi h fb)) = x2 at *
        generalize zi h (lr (i + dgi h fb)) = x3 at *
        grind
      have e5 := zi_inj h e2
      rw [Int.emod_eq_of_lt hb2.1 hb2.2, Int.zero_emod] at e5
      exact e5
    · unfold dvL
      rw [if_neg (by omega)]
      exact h3 k (by omega) k1
  · rw [gup_n _ _ (by omega)]; exact h4 k k0 (by omega)
  · letI := pR h
    rw [e1, ph_xm h i0 (by omega) (h4 i i0 (Int.le_refl _))]
    refine h5.trans ?_
    generalize ph h lq 199 = x
    generalize ph h lr 199 = y
    generalize xm (fR h) (zi h c) i.toNat = z
    grind
theorem dvI_z (h : prm p) {fa fb : Px p} {i c : Int} {lr lq : Int → Int} (hb : po (fR h) fb) (hd : 0 ≤ dgi h fb) (i0 : 0 ≤ i) (i1 : i + dgi h fb < 200) (H : dvI h fa fb i lr lq) (hc : c = lr (i + dgi h fb) * ivr p (cf fb (dgi h fb)) % p) (hz : c = 0) : dvI h fa fb (i - 1) lr (gup lq i c) := by
  have H2 := dvI_s h hb hd i0 i1 H hc
  have e : ∀ k, 0 ≤ k → k < 200 → dvL p lr fb c i (dgi h fb + 1) k = lr k := fun k k0 k1 => by
    unfold dvL
    split
    · have hb1 := H.1 k k0 k1
      rw [hz]
      have e1 : zi h ((lr k + (p - 0) * cf fb (k - i)) % p) = zi h (lr k) := by
        letI := fR h
        rw [zi_mod, zi_add, zi_mul, zi_sub, zi_p h, zi_0 h]; grind
      have e2 := zi_inj h e1
      rw [Int.emod_emod_of_dvd _ (Int.dvd_refl _), Int.emod_eq_of_lt hb1.1 hb1.2] at e2
      exact e2
    · rfl
  obtain ⟨h1, h2, h3, h4, h5⟩ := H2
  refine ⟨H.1, h2, fun k k0 k1 => by rw [← e k (by omega) k1]; exact h3 k k0 k1, h4, ?_⟩
  rw [ph_cg h (g := dvL p lr fb c i (dgi h fb + 1)) (g2 := lr) (fun k k0 k1 => by rw [e k k0 (by omega)])]
  exact h5
theorem dvI_e (h : prm p) {fa fb : Px p} {i : Int} {lr lq : Int → Int} (ha : po (fR h) fa) (hb : po (fR h) fb) (hd : 0 ≤ dgi h fb) (i0 : i < 0) (H : dvI h fa fb i lr lq) : ph h lq 199 = qt h fa fb ∧ ph h lr 199 = rm h fa fb := by
  obtain ⟨h1, h2, h3, h4, h5⟩ := H
  refine qr_un h ha hb hd (ph_po h _ _) h5 (fun k hk => ?_)
  letI := fR h
  show (if (k : Int) ≤ 199 then zi h (lr k) else 0) = 0
  by_cases z : (k : Int) ≤ 199
  · rw [if_pos z, h3 k (by omega) (by omega), zi_0 h]
  · rw [if_neg z]
theorem ar_wq (R : Int → Int → Int) (lq lr : Int → Int) {q r i : Int} (hqr : q ≠ r) (h0 : 0 ≤ i) (h1 : i < 200) (v : Int) : gup (ar (gup (gup R q lq) r lr)) (200 * q + i) v = ar (gup (gup R q (gup lq i v)) r lr) := by
  rw [ar_w _ h0 h1, gup_n _ _ hqr, gup_s]
  congr 1
  funext m
  by_cases z : m = q
  · rw [z, gup_s, gup_n _ _ hqr, gup_s]
  · rw [gup_n _ _ z]
    by_cases y : m = r
    · rw [y, gup_s, gup_s]
    · rw [gup_n _ _ y, gup_n _ _ y, gup_n _ _ z, gup_n _ _ z]
end
set_option maxHeartbeats 4000000 in
set_option maxRecDepth 100000 in
theorem sM_meas0 (N : GN) (h : GH) (B p : Nat) (hf le fc pn rn hn qn : Int) (r : Int) (hp2 : p ≤ 65536) (hr : 0 ≤ r ∧ r < 40) (hm : h.2 B = some (mO B p hf le fc pn rn hn qn)) (R : Int → Int → Int) (d : Int → Int) (hR : h.2 (B + 5) = some (aI 8000 (ar R))) (hD : h.2 (B + 6) = some (aI 40 d)) (hb : ∀ k, 0 ≤ k → k < 200 → 0 ≤ R r k ∧ R r k < p) : Sp N yX10_measure mX10_measure 0 0 [.ref (B), .int (gI (r))] h (fun v h1 => v = none ∧ Fr [B + 5] h h1 ∧ h1.2 (B + 5) = some (aI 8000 (ar R)) ∧ ∃ e, h1.2 (B + 6) = some (aI 40 (gup d r e)) ∧ (-1 ≤ e ∧ e ≤ 199) ∧ (∀ k, e < k → k < 200 → R r k = 0) ∧ (0 ≤ e → R r e ≠ 0)) := by
  refine Sp.of (by decide) rfl rfl (Nat.le_of_ble_eq_true rfl) ?_
  show Go N mX10_measure _ 0 0 h 0 [(0, .ref (B)), (1, .int (gI (r)))] []
  have neA : NE B (B + 5) := by unfold NE; omega
  have neB : NE B (B + 6) := by unfold NE; omega
  have neC : NE (B + 5) (B + 6) := by unfold NE; omega
  refine g_sipush dX10_measure_0 (by decide) ?_
  refine g_istore_n (ls2 := [(2, .int (gI (199))), (0, .ref (B)), (1, .int (gI (r)))]) dX10_measure_3 rfl (by decide) rfl ?_
  have lo : ∀ (kk : Nat) (e : Int) (hlo : GH), kk = (e + 1).toNat → Fr [B + 5] h hlo → hlo.2 (B + 5) = some (aI 8000 (ar R)) → hlo.2 (B + 6) = some (aI 40 (d)) → (-1 ≤ e ∧ e ≤ 199) → (∀ k, e < k → k < 200 → R r k = 0) → Go N mX10_measure (fun v h1 => v = none ∧ Fr [B + 5] h h1 ∧ h1.2 (B + 5) = some (aI 8000 (ar R)) ∧ ∃ e, h1.2 (B + 6) = some (aI 40 (gup d r e)) ∧ (-1 ≤ e ∧ e ≤ 199) ∧ (∀ k, e < k → k < 200 → R r k = 0) ∧ (0 ≤ e → R r e ≠ 0)) 0 0 hlo 4 [(2, .int (gI (e))), (0, .ref (B)), (1, .int (gI (r)))] [] := by
    refine Go.ind (fun kk ih_lo => ?_)
    intro e hlo hkk_lo fr_lo cf_lo_0 cf_lo_1 he hz
    have cg_lo_0 : hlo.2 (B) = some (mO B ((p : Int)) (hf) (le) (fc) (pn) (rn) (hn) (qn)) := Fr.at0 fr_lo (Ni.c ⟨neA, neB⟩ (Ni.n _)) hm
    refine g_iload_n 0 dX10_measure_4 rfl ?_
    refine g_if_lt (tgt := 29) dX10_measure_5 rfl (by unfold gW; omega) (fun c101 => ?_) (fun c101 => ?_)
    · skip
      refine g_aload_n 1 dX10_measure_29 rfl ?_
      refine g_getf 6 dX10_measure_30 kX10 (by decide) fX10_26 cg_lo_0 rfl ?_
      refine g_iload_n 2 dX10_measure_33 rfl ?_
      refine g_iload_n 0 dX10_measure_34 rfl ?_
      refine g_iastore dX10_measure_35 cf_lo_1 (by omega) (by omega) (by omega) ?_
      obtain ⟨hh102, eh102⟩ : ∃ z : GH, z = hset hlo (B + 6) (aI 40 (gup (d) (r) (e))) := ⟨_, rfl⟩
      refine Go.hp eh102.symm ?_
      have fh102_0 : hh102.2 (B) = some (mO B ((p : Int)) (hf) (le) (fc) (pn) (rn) (hn) (qn)) := hs_n eh102 neB cg_lo_0
      have fh102_1 : hh102.2 (B + 5) = some (aI 8000 (ar R)) := hs_n eh102 neC cf_lo_0
      have fh102_2 : hh102.2 (B + 6) = some (aI 40 (gup (d) (r) (e))) := hs_s eh102
      have fr102 : Fr [B + 5] h hh102 := Fr.w1 fr_lo (List.Mem.head _) eh102
      exact g_vret dX10_measure_36 rfl ⟨rfl, fr102, fh102_1, e, fh102_2, he, hz, fun z => absurd z (by omega)⟩
    · skip
      refine g_aload_n 1 dX10_measure_8 rfl ?_
      refine g_getf 5 dX10_measure_9 kX10 (by decide) fX10_23 cg_lo_0 rfl ?_
      refine g_sipush dX10_measure_12 (by decide) ?_
      refine g_iload_n 2 dX10_measure_15 rfl ?_
      refine g_imul dX10_measure_16 ?_
      refine g_iload_n 0 dX10_measure_17 rfl ?_
      refine g_iadd dX10_measure_18 ?_
      refine g_iaload dX10_measure_19 cf_lo_0 (by omega) (by omega) (by omega) ?_
      rw [ar_r R (by omega) (by omega)]
      have hbe := hb e (by omega) (by omega)
      refine g_if_ne (tgt := 29) dX10_measure_20 rfl (by unfold gW; omega) (fun c103 => ?_) (fun c103 => ?_)
      · skip
        have hc1 : R r e ≠ 0 := by omega
        refine g_aload_n 1 dX10_measure_29 rfl ?_
        refine g_getf 6 dX10_measure_30 kX10 (by decide) fX10_26 cg_lo_0 rfl ?_
        refine g_iload_n 2 dX10_measure_33 rfl ?_
        refine g_iload_n 0 dX10_measure_34 rfl ?_
        refine g_iastore dX10_measure_35 cf_lo_1 (by omega) (by omega) (by omega) ?_
        obtain ⟨hh104, eh104⟩ : ∃ z : GH, z = hset hlo (B + 6) (aI 40 (gup (d) (r) (e))) := ⟨_, rfl⟩
        refine Go.hp eh104.symm ?_
        have fh104_0 : hh104.2 (B) = some (mO B ((p : Int)) (hf) (le) (fc) (pn) (rn) (hn) (qn)) := hs_n eh104 neB cg_lo_0
        have fh104_1 : hh104.2 (B + 5) = some (aI 8000 (ar R)) := hs_n eh104 neC cf_lo_0
        have fh104_2 : hh104.2 (B + 6) = some (aI 40 (gup (d) (r) (e))) := hs_s eh104
        have fr104 : Fr [B + 5] h hh104 := Fr.w1 fr_lo (List.Mem.head _) eh104
        exact g_vret dX10_measure_36 rfl ⟨rfl, fr104, fh104_1, e, fh104_2, he, hz, fun _ => hc1⟩
      · skip
        have hc0 : R r e = 0 := by omega
        refine g_iinc 0 (ls2 := [(2, .int (gI (e + (-1)))), (0, .ref (B)), (1, .int (gI (r)))]) dX10_measure_23 rfl (by decide) rfl ?_
        refine g_goto (tgt := 4) dX10_measure_26 rfl ?_
        exact ih_lo _ (by omega) (e + (-1)) hlo rfl fr_lo cf_lo_0 cf_lo_1 (by omega) (fun k k0 k1 => by
        rcases Int.lt_or_le e k with z | z
        · exact hz k z k1
        · rw [show k = e by omega]; exact hc0)
  exact lo _ (199) h rfl (Fr.rf [B + 5] h) hR hD (by omega) (fun k k0 k1 => by omega)
set_option maxHeartbeats 4000000 in
set_option maxRecDepth 100000 in
theorem sM_product (N : GN) (h : GH) (B p : Nat) (hp : prm p) (hp2 : p ≤ 65536) (hf le fc pn rn hn qn : Int) (a b t : Int) (hr : 0 ≤ t ∧ t < 40) (hat : a ≠ t) (hbt : b ≠ t) (fa fb : Px p) (hm : h.2 B = some (mO B p hf le fc pn rn hn qn)) (ma : MA B h) (hGa : MG hp B h a fa) (hGb : MG hp B h b fb) (hd : dgi hp fa + dgi hp fb < 200) : Sp N yX10_product mX10_product 0 0 [.ref (B), .int (gI (a)), .int (gI (b)), .int (gI (t))] h (fun v h1 => v = none ∧ MF B [] [t] h h1 ∧ MG hp B h1 (t) (pml hp fa fb)) := by
  refine Sp.of (by decide) rfl rfl (Nat.le_of_ble_eq_true rfl) ?_
  show Go N mX10_product _ 0 0 h 0 [(0, .ref (B)), (1, .int (gI (a))), (2, .int (gI (b))), (3, .int (gI (t)))] []
  have hp1 := hp.1
  have neA : NE B (B + 5) := by unfold NE; omega
  have neB : NE B (B + 6) := by unfold NE; omega
  have neC : NE (B + 5) (B + 6) := by unfold NE; omega
  have hra := hGa.in
  have hrb := hGb.in
  have hla := hGa.lt
  have hlb := hGb.lt
  have hmd : dgi hp (pml hp fa fb) = _ := mul_dgi hp hGa.po hGb.po
  have hmd2 : -1 ≤ dgi hp (pml hp fa fb) ∧ dgi hp (pml hp fa fb) < 200 := by rw [hmd]; split <;> omega
  obtain ⟨R, d, hu, hv, hR, hD⟩ := ma
  have hFa := hGa.at hu hv hR hD
  have hFb := hGb.at hu hv hR hD
  have hFa1 := hFa.1
  have hFb1 := hFb.1
  have rest : ∀ T : Int, T = dgi hp (pml hp fa fb) → Go N mX10_product (fun v h1 => v = none ∧ MF B [] [t] h h1 ∧ MG hp B h1 (t) (pml hp fa fb)) 0 0 h 35 [(0, .ref (B)), (1, .int (gI (a))), (2, .int (gI (b))), (3, .int (gI (t)))] [.int (gI T)] := by
    intro T hT
    refine g_istore (ls2 := [(4, .int (gI (T))), (0, .ref (B)), (1, .int (gI (a))), (2, .int (gI (b))), (3, .int (gI (t)))]) dX10_product_35 (by decide) rfl ?_
    refine g_iconst dX10_product_37 ?_
    refine g_istore (ls2 := [(5, .int (gI (0))), (4, .int (gI (T))), (0, .ref (B)), (1, .int (gI (a))), (2, .int (gI (b))), (3, .int (gI (t)))]) dX10_product_38 (by decide) rfl ?_
    have lo : ∀ (kk : Nat) (i : Int) (hlo : GH), kk = (200 - i).toNat → Fr [B + 5] h hlo → hlo.2 (B + 5) = some (aI 8000 (ar (gup R t (gF (R t) (fun z => cf (pml hp fa fb) z) i)))) → hlo.2 (B + 6) = some (aI 40 (d)) → (0 ≤ i) → (i ≤ 200) → Go N mX10_product (fun v h1 => v = none ∧ MF B [] [t] h h1 ∧ MG hp B h1 (t) (pml hp fa fb)) 0 0 hlo 40 [(5, .int (gI (i))), (4, .int (gI (T))), (0, .ref (B)), (1, .int (gI (a))), (2, .int (gI (b))), (3, .int (gI (t)))] [] := by
      refine Go.ind (fun kk ih_lo => ?_)
      intro i hlo hkk_lo fr_lo cf_lo_0 cf_lo_1 hi0 hi1
      have cg_lo_0 : hlo.2 (B) = some (mO B ((p : Int)) (hf) (le) (fc) (pn) (rn) (hn) (qn)) := Fr.at0 fr_lo (Ni.c ⟨neA, neB⟩ (Ni.n _)) hm
      refine g_iload 0 dX10_product_40 rfl ?_
      refine g_sipush dX10_product_42 (by decide) ?_
      refine g_icmp_ge (tgt := 178) dX10_product_45 rfl (by unfold gW; omega) (by unfold gW; omega) (fun c1101 => ?_) (fun c1101 => ?_)
      · skip
        have hi2 : i = 200 := by omega
        refine g_aload_n 2 dX10_product_178 rfl ?_
        refine g_iload_n 5 dX10_product_179 rfl ?_
        refine g_callV (nc2 := 0) (ns2 := 0) (ci := 10) (As := [.int (gI (t))]) (st := []) rfl dX10_product_180 okX10_measure lX10_164 itX10_measure seX10_measure rfl cg_lo_0 (by decide) (by decide) rfl (Nat.le_of_ble_eq_true rfl) (sM_measure N _ B p hp hp2 hf le fc pn rn hn qn (t) (by omega) cg_lo_0 ((gup R t (gF (R t) (fun z => cf (pml hp fa fb) z) i))) (d) (pml hp fa fb) cf_lo_0 cf_lo_1 (fun j j0 j1 => by rw [gup_s]; unfold gF; rw [if_pos (by omega)]; exact cf_in _ hp j) (by
        rw [gup_s]
        exact (ph_cf hp (mul_po hGa.po hGb.po) (d := 199) (by show dgi hp (pml hp fa fb) ≤ 199; omega)).symm.trans (ph_cg hp (fun j j0 j1 => by unfold gF; rw [if_pos (by omega)])))) (by omega) (by omega) (fun v1102 hc1102 q1102 => ?_)
        obtain ⟨rfl, mfc1103, rn1103⟩ := q1102
        have mfd1103 : MF B [] [t] h hc1102 := (MF.one (r := t) fr_lo hu hv hR hD cf_lo_0 cf_lo_1 (fun s hs => gup_n _ _ hs) (fun _ _ => rfl)).tr mfc1103
        have fk1104_0 : hc1102.2 (B) = some (mO B ((p : Int)) (hf) (le) (fc) (pn) (rn) (hn) (qn)) := Fr.at0 mfc1103.1 (Ni.c ⟨neA, neB⟩ (Ni.n _)) cg_lo_0
        have fr1104 : Fr [B + 5] h hc1102 := (fr_lo).tr ((mfc1103.1).mo (sub_c (List.Mem.head _) sub_n))
        refine Go.nf (h' := hc1102) (st' := []) rfl rfl (Nat.le_refl _) (Nat.le_refl _) ?_
        exact g_vret dX10_product_183 rfl ⟨rfl, mfd1103, rn1103⟩
      · skip
        refine g_lconst0 dX10_product_48 ?_
        refine g_lstore (ls2 := [(6, .long (gJ (0))), (5, .int (gI (i))), (4, .int (gI (T))), (0, .ref (B)), (1, .int (gI (a))), (2, .int (gI (b))), (3, .int (gI (t)))]) dX10_product_49 (by decide) rfl ?_
        refine g_iload 1 dX10_product_51 rfl ?_
        refine g_aload_n 3 dX10_product_53 rfl ?_
        refine g_getf 6 dX10_product_54 kX10 (by decide) fX10_26 cg_lo_0 rfl ?_
        refine g_iload_n 5 dX10_product_57 rfl ?_
        refine g_iaload dX10_product_58 cf_lo_1 (by omega) (by omega) (by omega) ?_
        refine g_isub dX10_product_59 ?_
        refine g_if_le (tgt := 75) dX10_product_60 rfl (by unfold gW; omega) (fun c1105 => ?_) (fun c1105 => ?_)
        · skip
          refine g_iconst dX10_product_75 ?_
          refine g_istore (ls2 := [(8, .int (gI (0))), (6, .long (gJ (0))), (5, .int (gI (i))), (4, .int (gI (T))), (0, .ref (B)), (1, .int (gI (a))), (2, .int (gI (b))), (3, .int (gI (t)))]) dX10_product_76 (by decide) rfl ?_
          refine g_iload 0 dX10_product_78 rfl ?_
          refine g_istore (ls2 := [(9, .int (gI (0))), (8, .int (gI (0))), (6, .long (gJ (0))), (5, .int (gI (i))), (4, .int (gI (T))), (0, .ref (B)), (1, .int (gI (a))), (2, .int (gI (b))), (3, .int (gI (t)))]) dX10_product_80 (by decide) rfl ?_
          have lk : ∀ (kk : Nat) (k : Int) (v : Int) (hlk : GH), kk = (i + 1 - k).toNat → Fr [B + 5] h hlk → hlk.2 (B + 5) = some (aI 8000 (ar (gup R t (gF (R t) (fun z => cf (pml hp fa fb) z) i)))) → hlk.2 (B + 6) = some (aI 40 (d)) → (0 ≤ k ∧ k ≤ i + 1 ∧ i - dgi hp fb ≤ k) → ((0 ≤ v ∧ v < p) ∧ zi hp v = prT hp fa fb i.toNat k.toNat) → Go N mX10_product (fun v h1 => v = none ∧ MF B [] [t] h h1 ∧ MG hp B h1 (t) (pml hp fa fb)) 0 0 hlk 82 [(9, .int (gI (k))), (6, .long (gJ (v))), (5, .int (gI (i))), (4, .int (gI (T))), (0, .ref (B)), (1, .int (gI (a))), (2, .int (gI (b))), (3, .int (gI (t)))] [] := by
            refine Go.ind (fun kk ih_lk => ?_)
            intro k v hlk hkk_lk fr_lk cf_lk_0 cf_lk_1 hk hV
            have cg_lk_0 : hlk.2 (B) = some (mO B ((p : Int)) (hf) (le) (fc) (pn) (rn) (hn) (qn)) := Fr.at0 fr_lk (Ni.c ⟨neA, neB⟩ (Ni.n _)) hm
            refine g_iload 0 dX10_product_82 rfl ?_
            refine g_aload_n 4 dX10_product_84 rfl ?_
            refine g_getf 6 dX10_product_85 kX10 (by decide) fX10_26 cg_lk_0 rfl ?_
            refine g_iload_n 5 dX10_product_88 rfl ?_
            refine g_iaload dX10_product_89 cf_lk_1 (by omega) (by omega) (by omega) ?_
            refine g_icmp_gt (tgt := 156) dX10_product_90 rfl (by unfold gW; omega) (by unfold gW; omega) (fun c1206 => ?_) (fun c1206 => ?_)
            · skip
              have hvv : v = cf (pml hp fa fb) i := cf_of hp hV.1 (by omega) (hV.2.trans (prT_e hp hGa.po hGb.po (by omega) (by omega)))
              refine g_aload_n 4 dX10_product_156 rfl ?_
              refine g_getf 5 dX10_product_157 kX10 (by decide) fX10_23 cg_lk_0 rfl ?_
              refine g_sipush dX10_product_160 (by decide) ?_
              refine g_iload_n 7 dX10_product_163 rfl ?_
              refine g_imul dX10_product_164 ?_
              refine g_iload 2 dX10_product_165 rfl ?_
              refine g_iadd dX10_product_167 ?_
              refine g_lload 1 dX10_product_168 rfl ?_
              refine g_l2i dX10_product_170 ?_
              refine g_iastore dX10_product_171 cf_lk_0 (by omega) (by omega) (by omega) ?_
              obtain ⟨hh1207, eh1207⟩ : ∃ z : GH, z = hset hlk (B + 5) (aI 8000 (gup (ar (gup R t (gF (R t) (fun z => cf (pml hp fa fb) z) i))) (((200) * (t)) + (i)) (v))) := ⟨_, rfl⟩
              refine Go.hp eh1207.symm ?_
              have fh1207_0 : hh1207.2 (B) = some (mO B ((p : Int)) (hf) (le) (fc) (pn) (rn) (hn) (qn)) := hs_n eh1207 neA cg_lk_0
              have fh1207_1 : hh1207.2 (B + 5) = some (aI 8000 (gup (ar (gup R t (gF (R t) (fun z => cf (pml hp fa fb) z) i))) (((200) * (t)) + (i)) (v))) := hs_s eh1207
              have fh1207_2 : hh1207.2 (B + 6) = some (aI 40 (d)) := hs_n eh1207 (neC).s cf_lk_1
              have fr1207 : Fr [B + 5] h hh1207 := Fr.w0 fr_lk (List.Mem.head _) eh1207
              refine g_iinc 2 (ls2 := [(5, .int (gI (i + 1))), (9, .int (gI (k))), (6, .long (gJ (v))), (4, .int (gI (T))), (0, .ref (B)), (1, .int (gI (a))), (2, .int (gI (b))), (3, .int (gI (t)))]) dX10_product_172 rfl (by decide) rfl ?_
              refine g_goto (tgt := 40) dX10_product_175 rfl ?_
              refine Go.sub [0, 3, 4, 5, 6, 7] rfl ?_
              exact ih_lo _ (by omega) (i + 1) hh1207 rfl fr1207 (by rw [← gF_s (R t) (fun z => cf (pml hp fa fb) z) hi0, ← ar_wg R _ hi0 (by omega)]; rw [← hvv]; exact fh1207_1) fh1207_2 (by omega) (by omega)
            · skip
              refine g_iload 0 dX10_product_93 rfl ?_
              refine g_iload 2 dX10_product_95 rfl ?_
              refine g_icmp_gt (tgt := 156) dX10_product_97 rfl (by unfold gW; omega) (by unfold gW; omega) (fun c1208 => ?_) (fun c1208 => ?_)
              · skip
                have hvv : v = cf (pml hp fa fb) i := cf_of hp hV.1 (by omega) (hV.2.trans (prT_e hp hGa.po hGb.po (by omega) (by omega)))
                refine g_aload_n 4 dX10_product_156 rfl ?_
                refine g_getf 5 dX10_product_157 kX10 (by decide) fX10_23 cg_lk_0 rfl ?_
                refine g_sipush dX10_product_160 (by decide) ?_
                refine g_iload_n 7 dX10_product_163 rfl ?_
                refine g_imul dX10_product_164 ?_
                refine g_iload 2 dX10_product_165 rfl ?_
                refine g_iadd dX10_product_167 ?_
                refine g_lload 1 dX10_product_168 rfl ?_
                refine g_l2i dX10_product_170 ?_
                refine g_iastore dX10_product_171 cf_lk_0 (by omega) (by omega) (by omega) ?_
                obtain ⟨hh1209, eh1209⟩ : ∃ z : GH, z = hset hlk (B + 5) (aI 8000 (gup (ar (gup R t (gF (R t) (fun z => cf (pml hp fa fb) z) i))) (((200) * (t)) + (i)) (v))) := ⟨_, rfl⟩
                refine Go.hp eh1209.symm ?_
                have fh1209_0 : hh1209.2 (B) = some (mO B ((p : Int)) (hf) (le) (fc) (pn) (rn) (hn) (qn)) := hs_n eh1209 neA cg_lk_0
                have fh1209_1 : hh1209.2 (B + 5) = some (aI 8000 (gup (ar (gup R t (gF (R t) (fun z => cf (pml hp fa fb) z) i))) (((200) * (t)) + (i)) (v))) := hs_s eh1209
                have fh1209_2 : hh1209.2 (B + 6) = some (aI 40 (d)) := hs_n eh1209 (neC).s cf_lk_1
                have fr1209 : Fr [B + 5] h hh1209 := Fr.w0 fr_lk (List.Mem.head _) eh1209
                refine g_iinc 2 (ls2 := [(5, .int (gI (i + 1))), (9, .int (gI (k))), (6, .long (gJ (v))), (4, .int (gI (T))), (0, .ref (B)), (1, .int (gI (a))), (2, .int (gI (b))), (3, .int (gI (t)))]) dX10_product_172 rfl (by decide) rfl ?_
                refine g_goto (tgt := 40) dX10_product_175 rfl ?_
                refine Go.sub [0, 3, 4, 5, 6, 7] rfl ?_
                exact ih_lo _ (by omega) (i + 1) hh1209 rfl fr1209 (by rw [← gF_s (R t) (fun z => cf (pml hp fa fb) z) hi0, ← ar_wg R _ hi0 (by omega)]; rw [← hvv]; exact fh1209_1) fh1209_2 (by omega) (by omega)
              · skip
                refine g_iload 2 dX10_product_100 rfl ?_
                refine g_iload 3 dX10_product_102 rfl ?_
                refine g_icmp_gt (tgt := 156) dX10_product_104 rfl (by unfold gW; omega) (by unfold gW; omega) (fun c1210 => ?_) (fun c1210 => ?_)
                · skip
                  have hvv : v = cf (pml hp fa fb) i := cf_of hp hV.1 (by omega) (hV.2.trans (prT_e hp hGa.po hGb.po (by omega) (by omega)))
                  refine g_aload_n 4 dX10_product_156 rfl ?_
                  refine g_getf 5 dX10_product_157 kX10 (by decide) fX10_23 cg_lk_0 rfl ?_
                  refine g_sipush dX10_product_160 (by decide) ?_
                  refine g_iload_n 7 dX10_product_163 rfl ?_
                  refine g_imul dX10_product_164 ?_
                  refine g_iload 2 dX10_product_165 rfl ?_
                  refine g_iadd dX10_product_167 ?_
                  refine g_lload 1 dX10_product_168 rfl ?_
                  refine g_l2i dX10_product_170 ?_
                  refine g_iastore dX10_product_171 cf_lk_0 (by omega) (by omega) (by omega) ?_
                  obtain ⟨hh1211, eh1211⟩ : ∃ z : GH, z = hset hlk (B + 5) (aI 8000 (gup (ar (gup R t (gF (R t) (fun z => cf (pml hp fa fb) z) i))) (((200) * (t)) + (i)) (v))) := ⟨_, rfl⟩
                  refine Go.hp eh1211.symm ?_
                  have fh1211_0 : hh1211.2 (B) = some (mO B ((p : Int)) (hf) (le) (fc) (pn) (rn) (hn) (qn)) := hs_n eh1211 neA cg_lk_0
                  have fh1211_1 : hh1211.2 (B + 5) = some (aI 8000 (gup (ar (gup R t (gF (R t) (fun z => cf (pml hp fa fb) z) i))) (((200) * (t)) + (i)) (v))) := hs_s eh1211
                  have fh1211_2 : hh1211.2 (B + 6) = some (aI 40 (d)) := hs_n eh1211 (neC).s cf_lk_1
                  have fr1211 : Fr [B + 5] h hh1211 := Fr.w0 fr_lk (List.Mem.head _) eh1211
                  refine g_iinc 2 (ls2 := [(5, .int (gI (i + 1))), (9, .int (gI (k))), (6, .long (gJ (v))), (4, .int (gI (T))), (0, .ref (B)), (1, .int (gI (a))), (2, .int (gI (b))), (3, .int (gI (t)))]) dX10_product_172 rfl (by decide) rfl ?_
                  refine g_goto (tgt := 40) dX10_product_175 rfl ?_
                  refine Go.sub [0, 3, 4, 5, 6, 7] rfl ?_
                  exact ih_lo _ (by omega) (i + 1) hh1211 rfl fr1211 (by rw [← gF_s (R t) (fun z => cf (pml hp fa fb) z) hi0, ← ar_wg R _ hi0 (by omega)]; rw [← hvv]; exact fh1211_1) fh1211_2 (by omega) (by omega)
                · skip
                  refine g_lload 1 dX10_product_107 rfl ?_
                  refine g_aload_n 4 dX10_product_109 rfl ?_
                  refine g_getf 5 dX10_product_110 kX10 (by decide) fX10_23 cg_lk_0 rfl ?_
                  refine g_sipush dX10_product_113 (by decide) ?_
                  refine g_iload_n 5 dX10_product_116 rfl ?_
                  refine g_imul dX10_product_117 ?_
                  refine g_iload 0 dX10_product_118 rfl ?_
                  refine g_iadd dX10_product_120 ?_
                  refine g_iaload dX10_product_121 cf_lk_0 (by omega) (by omega) (by omega) ?_
                  rw [ar_r _ (show 0 ≤ k by omega) (show k < 200 by omega), gup_n _ _ hat, hFa.2 k (by omega) (by omega)]
                  have b1 := cf_in fa hp k
                  refine g_i2l dX10_product_122 (by unfold gW; omega) ?_
                  refine g_aload_n 4 dX10_product_123 rfl ?_
                  refine g_getf 5 dX10_product_124 kX10 (by decide) fX10_23 cg_lk_0 rfl ?_
                  refine g_sipush dX10_product_127 (by decide) ?_
                  refine g_iload_n 6 dX10_product_130 rfl ?_
                  refine g_imul dX10_product_131 ?_
                  refine g_iload 2 dX10_product_132 rfl ?_
                  refine g_iadd dX10_product_134 ?_
                  refine g_iload 0 dX10_product_135 rfl ?_
                  refine g_isub dX10_product_137 ?_
                  refine g_iaload dX10_product_138 cf_lk_0 (by omega) (by omega) (by omega) ?_
                  rw [show 200 * b + i - k = 200 * b + (i - k) by omega, ar_r _ (show 0 ≤ i - k by omega) (show i - k < 200 by omega), gup_n _ _ hbt, hFb.2 (i - k) (by omega) (by omega)]
                  have b2 := cf_in fb hp (i - k)
                  have bp := g_prod b1.1 b1.2 b2.1 b2.2 (show (p : Int) ≤ 65536 by omega)
                  refine g_i2l dX10_product_139 (by unfold gW; omega) ?_
                  refine g_lmul dX10_product_140 ?_
                  refine g_ladd dX10_product_141 ?_
                  refine g_aload_n 4 dX10_product_142 rfl ?_
                  refine g_getf 0 dX10_product_143 kX10 (by decide) fX10_78 cg_lk_0 rfl ?_
                  refine g_i2l dX10_product_146 (by unfold gW; omega) ?_
                  refine g_lrem dX10_product_147 (by unfold gX; omega) (by unfold gX; omega) (by omega) ?_
                  rw [tm_em (show 0 ≤ v + cf fa k * cf fb (i - k) by omega)]
                  refine g_lstore (ls2 := [(6, .long (gJ ((v + cf fa k * cf fb (i - k)) % p))), (9, .int (gI (k))), (5, .int (gI (i))), (4, .int (gI (T))), (0, .ref (B)), (1, .int (gI (a))), (2, .int (gI (b))), (3, .int (gI (t)))]) dX10_product_148 (by decide) rfl ?_
                  refine g_iinc 1 (ls2 := [(9, .int (gI (k + 1))), (6, .long (gJ ((v + cf fa k * cf fb (i - k)) % p))), (5, .int (gI (i))), (4, .int (gI (T))), (0, .ref (B)), (1, .int (gI (a))), (2, .int (gI (b))), (3, .int (gI (t)))]) dX10_product_150 rfl (by decide) rfl ?_
                  refine g_goto (tgt := 82) dX10_product_153 rfl ?_
                  exact ih_lk _ (by omega) (k + 1) ((v + cf fa k * cf fb (i - k)) % p) hlk rfl fr_lk cf_lk_0 cf_lk_1 (by omega) (⟨em_in hp _, by
        letI := fR hp
        rw [zi_mod, zi_add, zi_mul, hV.2, show (k + 1).toNat = k.toNat + 1 by omega]
        show _ = prT hp fa fb i.toNat k.toNat + fa k.toNat * fb (i.toNat - k.toNat)
        have e1 := cf_zi hp fa k.toNat
        have e2 := cf_zi hp fb (i.toNat - k.toNat)
        rw [show ((k.toNat : Nat) : Int) = k by omega] at e1
        rw [show ((i.toNat - k.toNat : Nat) : Int) = i - k by omega] at e2
        rw [e1, e2]⟩)
          refine Go.sub [0, 2, 3, 4, 5, 6, 7, 8] rfl ?_
          exact lk _ (0) (0) hlo rfl fr_lo cf_lo_0 cf_lo_1 (by omega) (⟨by omega, by rw [zi_0 hp, prT_0 hp hGb.po (fun j hj => by omega)]⟩)
        · skip
          refine g_iload 1 dX10_product_63 rfl ?_
          refine g_aload_n 3 dX10_product_65 rfl ?_
          refine g_getf 6 dX10_product_66 kX10 (by decide) fX10_26 cg_lo_0 rfl ?_
          refine g_iload_n 5 dX10_product_69 rfl ?_
          refine g_iaload dX10_product_70 cf_lo_1 (by omega) (by omega) (by omega) ?_
          refine g_isub dX10_product_71 ?_
          refine g_goto (tgt := 76) dX10_product_72 rfl ?_
          refine g_istore (ls2 := [(8, .int (gI ((i) - ((d) (b))))), (6, .long (gJ (0))), (5, .int (gI (i))), (4, .int (gI (T))), (0, .ref (B)), (1, .int (gI (a))), (2, .int (gI (b))), (3, .int (gI (t)))]) dX10_product_76 (by decide) rfl ?_
          refine g_iload 0 dX10_product_78 rfl ?_
          refine g_istore (ls2 := [(9, .int (gI ((i) - ((d) (b))))), (8, .int (gI ((i) - ((d) (b))))), (6, .long (gJ (0))), (5, .int (gI (i))), (4, .int (gI (T))), (0, .ref (B)), (1, .int (gI (a))), (2, .int (gI (b))), (3, .int (gI (t)))]) dX10_product_80 (by decide) rfl ?_
          have lk : ∀ (kk : Nat) (k : Int) (v : Int) (hlk : GH), kk = (i + 1 - k).toNat → Fr [B + 5] h hlk → hlk.2 (B + 5) = some (aI 8000 (ar (gup R t (gF (R t) (fun z => cf (pml hp fa fb) z) i)))) → hlk.2 (B + 6) = some (aI 40 (d)) → (0 ≤ k ∧ k ≤ i + 1 ∧ i - dgi hp fb ≤ k) → ((0 ≤ v ∧ v < p) ∧ zi hp v = prT hp fa fb i.toNat k.toNat) → Go N mX10_product (fun v h1 => v = none ∧ MF B [] [t] h h1 ∧ MG hp B h1 (t) (pml hp fa fb)) 0 0 hlk 82 [(9, .int (gI (k))), (6, .long (gJ (v))), (5, .int (gI (i))), (4, .int (gI (T))), (0, .ref (B)), (1, .int (gI (a))), (2, .int (gI (b))), (3, .int (gI (t)))] [] := by
            refine Go.ind (fun kk ih_lk => ?_)
            intro k v hlk hkk_lk fr_lk cf_lk_0 cf_lk_1 hk hV
            have cg_lk_0 : hlk.2 (B) = some (mO B ((p : Int)) (hf) (le) (fc) (pn) (rn) (hn) (qn)) := Fr.at0 fr_lk (Ni.c ⟨neA, neB⟩ (Ni.n _)) hm
            refine g_iload 0 dX10_product_82 rfl ?_
            refine g_aload_n 4 dX10_product_84 rfl ?_
            refine g_getf 6 dX10_product_85 kX10 (by decide) fX10_26 cg_lk_0 rfl ?_
            refine g_iload_n 5 dX10_product_88 rfl ?_
            refine g_iaload dX10_product_89 cf_lk_1 (by omega) (by omega) (by omega) ?_
            refine g_icmp_gt (tgt := 156) dX10_product_90 rfl (by unfold gW; omega) (by unfold gW; omega) (fun c1412 => ?_) (fun c1412 => ?_)
            · skip
              have hvv : v = cf (pml hp fa fb) i := cf_of hp hV.1 (by omega) (hV.2.trans (prT_e hp hGa.po hGb.po (by omega) (by omega)))
              refine g_aload_n 4 dX10_product_156 rfl ?_
              refine g_getf 5 dX10_product_157 kX10 (by decide) fX10_23 cg_lk_0 rfl ?_
              refine g_sipush dX10_product_160 (by decide) ?_
              refine g_iload_n 7 dX10_product_163 rfl ?_
              refine g_imul dX10_product_164 ?_
              refine g_iload 2 dX10_product_165 rfl ?_
              refine g_iadd dX10_product_167 ?_
              refine g_lload 1 dX10_product_168 rfl ?_
              refine g_l2i dX10_product_170 ?_
              refine g_iastore dX10_product_171 cf_lk_0 (by omega) (by omega) (by omega) ?_
              obtain ⟨hh1413, eh1413⟩ : ∃ z : GH, z = hset hlk (B + 5) (aI 8000 (gup (ar (gup R t (gF (R t) (fun z => cf (pml hp fa fb) z) i))) (((200) * (t)) + (i)) (v))) := ⟨_, rfl⟩
              refine Go.hp eh1413.symm ?_
              have fh1413_0 : hh1413.2 (B) = some (mO B ((p : Int)) (hf) (le) (fc) (pn) (rn) (hn) (qn)) := hs_n eh1413 neA cg_lk_0
              have fh1413_1 : hh1413.2 (B + 5) = some (aI 8000 (gup (ar (gup R t (gF (R t) (fun z => cf (pml hp fa fb) z) i))) (((200) * (t)) + (i)) (v))) := hs_s eh1413
              have fh1413_2 : hh1413.2 (B + 6) = some (aI 40 (d)) := hs_n eh1413 (neC).s cf_lk_1
              have fr1413 : Fr [B + 5] h hh1413 := Fr.w0 fr_lk (List.Mem.head _) eh1413
              refine g_iinc 2 (ls2 := [(5, .int (gI (i + 1))), (9, .int (gI (k))), (6, .long (gJ (v))), (4, .int (gI (T))), (0, .ref (B)), (1, .int (gI (a))), (2, .int (gI (b))), (3, .int (gI (t)))]) dX10_product_172 rfl (by decide) rfl ?_
              refine g_goto (tgt := 40) dX10_product_175 rfl ?_
              refine Go.sub [0, 3, 4, 5, 6, 7] rfl ?_
              exact ih_lo _ (by omega) (i + 1) hh1413 rfl fr1413 (by rw [← gF_s (R t) (fun z => cf (pml hp fa fb) z) hi0, ← ar_wg R _ hi0 (by omega)]; rw [← hvv]; exact fh1413_1) fh1413_2 (by omega) (by omega)
            · skip
              refine g_iload 0 dX10_product_93 rfl ?_
              refine g_iload 2 dX10_product_95 rfl ?_
              refine g_icmp_gt (tgt := 156) dX10_product_97 rfl (by unfold gW; omega) (by unfold gW; omega) (fun c1414 => ?_) (fun c1414 => ?_)
              · skip
                have hvv : v = cf (pml hp fa fb) i := cf_of hp hV.1 (by omega) (hV.2.trans (prT_e hp hGa.po hGb.po (by omega) (by omega)))
                refine g_aload_n 4 dX10_product_156 rfl ?_
                refine g_getf 5 dX10_product_157 kX10 (by decide) fX10_23 cg_lk_0 rfl ?_
                refine g_sipush dX10_product_160 (by decide) ?_
                refine g_iload_n 7 dX10_product_163 rfl ?_
                refine g_imul dX10_product_164 ?_
                refine g_iload 2 dX10_product_165 rfl ?_
                refine g_iadd dX10_product_167 ?_
                refine g_lload 1 dX10_product_168 rfl ?_
                refine g_l2i dX10_product_170 ?_
                refine g_iastore dX10_product_171 cf_lk_0 (by omega) (by omega) (by omega) ?_
                obtain ⟨hh1415, eh1415⟩ : ∃ z : GH, z = hset hlk (B + 5) (aI 8000 (gup (ar (gup R t (gF (R t) (fun z => cf (pml hp fa fb) z) i))) (((200) * (t)) + (i)) (v))) := ⟨_, rfl⟩
                refine Go.hp eh1415.symm ?_
                have fh1415_0 : hh1415.2 (B) = some (mO B ((p : Int)) (hf) (le) (fc) (pn) (rn) (hn) (qn)) := hs_n eh1415 neA cg_lk_0
                have fh1415_1 : hh1415.2 (B + 5) = some (aI 8000 (gup (ar (gup R t (gF (R t) (fun z => cf (pml hp fa fb) z) i))) (((200) * (t)) + (i)) (v))) := hs_s eh1415
                have fh1415_2 : hh1415.2 (B + 6) = some (aI 40 (d)) := hs_n eh1415 (neC).s cf_lk_1
                have fr1415 : Fr [B + 5] h hh1415 := Fr.w0 fr_lk (List.Mem.head _) eh1415
                refine g_iinc 2 (ls2 := [(5, .int (gI (i + 1))), (9, .int (gI (k))), (6, .long (gJ (v))), (4, .int (gI (T))), (0, .ref (B)), (1, .int (gI (a))), (2, .int (gI (b))), (3, .int (gI (t)))]) dX10_product_172 rfl (by decide) rfl ?_
                refine g_goto (tgt := 40) dX10_product_175 rfl ?_
                refine Go.sub [0, 3, 4, 5, 6, 7] rfl ?_
                exact ih_lo _ (by omega) (i + 1) hh1415 rfl fr1415 (by rw [← gF_s (R t) (fun z => cf (pml hp fa fb) z) hi0, ← ar_wg R _ hi0 (by omega)]; rw [← hvv]; exact fh1415_1) fh1415_2 (by omega) (by omega)
              · skip
                refine g_iload 2 dX10_product_100 rfl ?_
                refine g_iload 3 dX10_product_102 rfl ?_
                refine g_icmp_gt (tgt := 156) dX10_product_104 rfl (by unfold gW; omega) (by unfold gW; omega) (fun c1416 => ?_) (fun c1416 => ?_)
                · skip
                  have hvv : v = cf (pml hp fa fb) i := cf_of hp hV.1 (by omega) (hV.2.trans (prT_e hp hGa.po hGb.po (by omega) (by omega)))
                  refine g_aload_n 4 dX10_product_156 rfl ?_
                  refine g_getf 5 dX10_product_157 kX10 (by decide) fX10_23 cg_lk_0 rfl ?_
                  refine g_sipush dX10_product_160 (by decide) ?_
                  refine g_iload_n 7 dX10_product_163 rfl ?_
                  refine g_imul dX10_product_164 ?_
                  refine g_iload 2 dX10_product_165 rfl ?_
                  refine g_iadd dX10_product_167 ?_
                  refine g_lload 1 dX10_product_168 rfl ?_
                  refine g_l2i dX10_product_170 ?_
                  refine g_iastore dX10_product_171 cf_lk_0 (by omega) (by omega) (by omega) ?_
                  obtain ⟨hh1417, eh1417⟩ : ∃ z : GH, z = hset hlk (B + 5) (aI 8000 (gup (ar (gup R t (gF (R t) (fun z => cf (pml hp fa fb) z) i))) (((200) * (t)) + (i)) (v))) := ⟨_, rfl⟩
                  refine Go.hp eh1417.symm ?_
                  have fh1417_0 : hh1417.2 (B) = some (mO B ((p : Int)) (hf) (le) (fc) (pn) (rn) (hn) (qn)) := hs_n eh1417 neA cg_lk_0
                  have fh1417_1 : hh1417.2 (B + 5) = some (aI 8000 (gup (ar (gup R t (gF (R t) (fun z => cf (pml hp fa fb) z) i))) (((200) * (t)) + (i)) (v))) := hs_s eh1417
                  have fh1417_2 : hh1417.2 (B + 6) = some (aI 40 (d)) := hs_n eh1417 (neC).s cf_lk_1
                  have fr1417 : Fr [B + 5] h hh1417 := Fr.w0 fr_lk (List.Mem.head _) eh1417
                  refine g_iinc 2 (ls2 := [(5, .int (gI (i + 1))), (9, .int (gI (k))), (6, .long (gJ (v))), (4, .int (gI (T))), (0, .ref (B)), (1, .int (gI (a))), (2, .int (gI (b))), (3, .int (gI (t)))]) dX10_product_172 rfl (by decide) rfl ?_
                  refine g_goto (tgt := 40) dX10_product_175 rfl ?_
                  refine Go.sub [0, 3, 4, 5, 6, 7] rfl ?_
                  exact ih_lo _ (by omega) (i + 1) hh1417 rfl fr1417 (by rw [← gF_s (R t) (fun z => cf (pml hp fa fb) z) hi0, ← ar_wg R _ hi0 (by omega)]; rw [← hvv]; exact fh1417_1) fh1417_2 (by omega) (by omega)
                · skip
                  refine g_lload 1 dX10_product_107 rfl ?_
                  refine g_aload_n 4 dX10_product_109 rfl ?_
                  refine g_getf 5 dX10_product_110 kX10 (by decide) fX10_23 cg_lk_0 rfl ?_
                  refine g_sipush dX10_product_113 (by decide) ?_
                  refine g_iload_n 5 dX10_product_116 rfl ?_
                  refine g_imul dX10_product_117 ?_
                  refine g_iload 0 dX10_product_118 rfl ?_
                  refine g_iadd dX10_product_120 ?_
                  refine g_iaload dX10_product_121 cf_lk_0 (by omega) (by omega) (by omega) ?_
                  rw [ar_r _ (show 0 ≤ k by omega) (show k < 200 by omega), gup_n _ _ hat, hFa.2 k (by omega) (by omega)]
                  have b1 := cf_in fa hp k
                  refine g_i2l dX10_product_122 (by unfold gW; omega) ?_
                  refine g_aload_n 4 dX10_product_123 rfl ?_
                  refine g_getf 5 dX10_product_124 kX10 (by decide) fX10_23 cg_lk_0 rfl ?_
                  refine g_sipush dX10_product_127 (by decide) ?_
                  refine g_iload_n 6 dX10_product_130 rfl ?_
                  refine g_imul dX10_product_131 ?_
                  refine g_iload 2 dX10_product_132 rfl ?_
                  refine g_iadd dX10_product_134 ?_
                  refine g_iload 0 dX10_product_135 rfl ?_
                  refine g_isub dX10_product_137 ?_
                  refine g_iaload dX10_product_138 cf_lk_0 (by omega) (by omega) (by omega) ?_
                  rw [show 200 * b + i - k = 200 * b + (i - k) by omega, ar_r _ (show 0 ≤ i - k by omega) (show i - k < 200 by omega), gup_n _ _ hbt, hFb.2 (i - k) (by omega) (by omega)]
                  have b2 := cf_in fb hp (i - k)
                  have bp := g_prod b1.1 b1.2 b2.1 b2.2 (show (p : Int) ≤ 65536 by omega)
                  refine g_i2l dX10_product_139 (by unfold gW; omega) ?_
                  refine g_lmul dX10_product_140 ?_
                  refine g_ladd dX10_product_141 ?_
                  refine g_aload_n 4 dX10_product_142 rfl ?_
                  refine g_getf 0 dX10_product_143 kX10 (by decide) fX10_78 cg_lk_0 rfl ?_
                  refine g_i2l dX10_product_146 (by unfold gW; omega) ?_
                  refine g_lrem dX10_product_147 (by unfold gX; omega) (by unfold gX; omega) (by omega) ?_
                  rw [tm_em (show 0 ≤ v + cf fa k * cf fb (i - k) by omega)]
                  refine g_lstore (ls2 := [(6, .long (gJ ((v + cf fa k * cf fb (i - k)) % p))), (9, .int (gI (k))), (5, .int (gI (i))), (4, .int (gI (T))), (0, .ref (B)), (1, .int (gI (a))), (2, .int (gI (b))), (3, .int (gI (t)))]) dX10_product_148 (by decide) rfl ?_
                  refine g_iinc 1 (ls2 := [(9, .int (gI (k + 1))), (6, .long (gJ ((v + cf fa k * cf fb (i - k)) % p))), (5, .int (gI (i))), (4, .int (gI (T))), (0, .ref (B)), (1, .int (gI (a))), (2, .int (gI (b))), (3, .int (gI (t)))]) dX10_product_150 rfl (by decide) rfl ?_
                  refine g_goto (tgt := 82) dX10_product_153 rfl ?_
                  exact ih_lk _ (by omega) (k + 1) ((v + cf fa k * cf fb (i - k)) % p) hlk rfl fr_lk cf_lk_0 cf_lk_1 (by omega) (⟨em_in hp _, by
        letI := fR hp
        rw [zi_mod, zi_add, zi_mul, hV.2, show (k + 1).toNat = k.toNat + 1 by omega]
        show _ = prT hp fa fb i.toNat k.toNat + fa k.toNat * fb (i.toNat - k.toNat)
        have e1 := cf_zi hp fa k.toNat
        have e2 := cf_zi hp fb (i.toNat - k.toNat)
        rw [show ((k.toNat : Nat) : Int) = k by omega] at e1
        rw [show ((i.toNat - k.toNat : Nat) : Int) = i - k by omega] at e2
        rw [e1, e2]⟩)
          refine Go.sub [0, 2, 3, 4, 5, 6, 7, 8] rfl ?_
          exact lk _ ((i) - ((d) (b))) (0) hlo rfl fr_lo cf_lo_0 cf_lo_1 (by omega) (⟨by omega, by rw [zi_0 hp, prT_0 hp hGb.po (fun j hj => by omega)]⟩)
    exact lo _ (0) h rfl (Fr.rf [B + 5] h) (by rw [gF_0, gup_id]; exact hR) hD (by omega) (by omega)
  refine g_aload_n 0 dX10_product_0 rfl ?_
  refine g_getf 6 dX10_product_1 kX10 (by decide) fX10_26 hm rfl ?_
  refine g_iload_n 1 dX10_product_4 rfl ?_
  refine g_iaload dX10_product_5 hD (by omega) (by omega) (by omega) ?_
  refine g_if_lt (tgt := 18) dX10_product_6 rfl (by unfold gW; omega) (fun c1618 => ?_) (fun c1618 => ?_)
  · skip
    refine g_iconst dX10_product_18 ?_
    refine g_goto (tgt := 35) dX10_product_19 rfl ?_
    exact rest _ (by rw [hmd]; rw [if_pos (by omega)])
  · skip
    refine g_aload_n 0 dX10_product_9 rfl ?_
    refine g_getf 6 dX10_product_10 kX10 (by decide) fX10_26 hm rfl ?_
    refine g_iload_n 2 dX10_product_13 rfl ?_
    refine g_iaload dX10_product_14 hD (by omega) (by omega) (by omega) ?_
    refine g_if_ge (tgt := 22) dX10_product_15 rfl (by unfold gW; omega) (fun c1619 => ?_) (fun c1619 => ?_)
    · skip
      refine g_aload_n 0 dX10_product_22 rfl ?_
      refine g_getf 6 dX10_product_23 kX10 (by decide) fX10_26 hm rfl ?_
      refine g_iload_n 1 dX10_product_26 rfl ?_
      refine g_iaload dX10_product_27 hD (by omega) (by omega) (by omega) ?_
      refine g_aload_n 0 dX10_product_28 rfl ?_
      refine g_getf 6 dX10_product_29 kX10 (by decide) fX10_26 hm rfl ?_
      refine g_iload_n 2 dX10_product_32 rfl ?_
      refine g_iaload dX10_product_33 hD (by omega) (by omega) (by omega) ?_
      refine g_iadd dX10_product_34 ?_
      exact rest _ (by rw [hmd]; rw [if_neg (by omega)]; omega)
    · skip
      refine g_iconst dX10_product_18 ?_
      refine g_goto (tgt := 35) dX10_product_19 rfl ?_
      exact rest _ (by rw [hmd]; rw [if_pos (by omega)])
set_option maxHeartbeats 4000000 in
set_option maxRecDepth 100000 in
theorem sM_monic (N : GN) (h : GH) (B p : Nat) (hp : prm p) (hp2 : p ≤ 65536) (hf le fc pn rn hn qn : Int) (r : Int) (f : Px p) (hm : h.2 B = some (mO B p hf le fc pn rn hn qn)) (ma : MA B h) (hG : MG hp B h r f) : Sp N yX10_monic mX10_monic 0 0 [.ref (B), .int (gI (r))] h (fun v h1 => v = none ∧ MF B [] [r] h h1 ∧ MG hp B h1 (r) (mon hp f)) := by
  refine Sp.of (by decide) rfl rfl (Nat.le_of_ble_eq_true rfl) ?_
  show Go N mX10_monic _ 0 0 h 0 [(0, .ref (B)), (1, .int (gI (r)))] []
  have hp1 := hp.1
  have neA : NE B (B + 5) := by unfold NE; omega
  have neB : NE B (B + 6) := by unfold NE; omega
  have neC : NE (B + 5) (B + 6) := by unfold NE; omega
  have hr := hG.in
  have hlt := hG.lt
  have hma := ma
  obtain ⟨R, d, hu, hv, hR, hD⟩ := ma
  have hF := hG.at hu hv hR hD
  have hF1 := hF.1
  refine g_aload_n 0 dX10_monic_0 rfl ?_
  refine g_getf 6 dX10_monic_1 kX10 (by decide) fX10_26 hm rfl ?_
  refine g_iload_n 1 dX10_monic_4 rfl ?_
  refine g_iaload dX10_monic_5 hD (by omega) (by omega) (by omega) ?_
  refine g_if_lt (tgt := 84) dX10_monic_6 rfl (by unfold gW; omega) (fun c1 => ?_) (fun c1 => ?_)
  · skip
    exact g_vret dX10_monic_84 rfl ⟨rfl, MF.rf [] [r] hma, by rw [mon_0 hp hG.po (by omega)]; exact hG⟩
  · skip
    refine g_aload_n 0 dX10_monic_9 rfl ?_
    refine g_aload_n 0 dX10_monic_10 rfl ?_
    refine g_getf 5 dX10_monic_11 kX10 (by decide) fX10_23 hm rfl ?_
    refine g_sipush dX10_monic_14 (by decide) ?_
    refine g_iload_n 1 dX10_monic_17 rfl ?_
    refine g_imul dX10_monic_18 ?_
    refine g_aload_n 0 dX10_monic_19 rfl ?_
    refine g_getf 6 dX10_monic_20 kX10 (by decide) fX10_26 hm rfl ?_
    refine g_iload_n 1 dX10_monic_23 rfl ?_
    refine g_iaload dX10_monic_24 hD (by omega) (by omega) (by omega) ?_
    refine g_iadd dX10_monic_25 ?_
    refine g_iaload dX10_monic_26 hR (by omega) (by omega) (by omega) ?_
    have hld := ld_in hp hG.po (by omega)
    have hiv := ivr_in hp (ld hp f)
    have hrl : ar R (200 * r + d r) = ld hp f := by rw [hF.1, ar_r R (by omega) (by omega), hF.2 _ (by omega) (by omega)]; rfl
    rw [hrl]
    refine g_callV (nc2 := 0) (ns2 := 0) (ci := 10) (As := [.int (gI (ld hp f))]) (st := []) rfl dX10_monic_27 okX10_inverse lX10_173 itX10_inverse seX10_inverse rfl hm (by decide) (by decide) rfl (Nat.le_of_ble_eq_true rfl) (sM_inverse N _ B p hp hp2 hf le fc pn rn hn qn (ld hp f) hm (by omega) (by omega)) (by omega) (by omega) (fun v2 hc2 q2 => ?_)
    obtain ⟨hq3, rfl⟩ := q2
    refine Go.nf (h' := h) (st' := [.int (gI (ivr p (ld hp f)))]) hq3 rfl (Nat.le_refl _) (Nat.le_refl _) ?_
    refine g_istore_n (ls2 := [(2, .int (gI (ivr p (ld hp f)))), (0, .ref (B)), (1, .int (gI (r)))]) dX10_monic_30 rfl (by decide) rfl ?_
    refine g_iconst dX10_monic_31 ?_
    refine g_istore_n (ls2 := [(3, .int (gI (0))), (2, .int (gI (ivr p (ld hp f)))), (0, .ref (B)), (1, .int (gI (r)))]) dX10_monic_32 rfl (by decide) rfl ?_
    have lo : ∀ (kk : Nat) (k : Int) (hlo : GH), kk = (dgi hp f + 1 - k).toNat → Fr [B + 5] h hlo → hlo.2 (B + 5) = some (aI 8000 (ar (gup R r (gF (R r) (fun j => R r j * ivr p (ld hp f) % p) k)))) → hlo.2 (B + 6) = some (aI 40 (d)) → (0 ≤ k) → (k ≤ dgi hp f + 1) → Go N mX10_monic (fun v h1 => v = none ∧ MF B [] [r] h h1 ∧ MG hp B h1 (r) (mon hp f)) 0 0 hlo 33 [(3, .int (gI (k))), (2, .int (gI (ivr p (ld hp f)))), (0, .ref (B)), (1, .int (gI (r)))] [] := by
      refine Go.ind (fun kk ih_lo => ?_)
      intro k hlo hkk_lo fr_lo cf_lo_0 cf_lo_1 hk0 hk1
      have cg_lo_0 : hlo.2 (B) = some (mO B ((p : Int)) (hf) (le) (fc) (pn) (rn) (hn) (qn)) := Fr.at0 fr_lo (Ni.c ⟨neA, neB⟩ (Ni.n _)) hm
      refine g_iload_n 0 dX10_monic_33 rfl ?_
      refine g_aload_n 2 dX10_monic_34 rfl ?_
      refine g_getf 6 dX10_monic_35 kX10 (by decide) fX10_26 cg_lo_0 rfl ?_
      refine g_iload_n 3 dX10_monic_38 rfl ?_
      refine g_iaload dX10_monic_39 cf_lo_1 (by omega) (by omega) (by omega) ?_
      refine g_icmp_gt (tgt := 84) dX10_monic_40 rfl (by unfold gW; omega) (by unfold gW; omega) (fun c104 => ?_) (fun c104 => ?_)
      · skip
        exact g_vret dX10_monic_84 rfl ⟨rfl, MF.one (r := r) fr_lo hu hv hR hD cf_lo_0 cf_lo_1 (fun s hs => gup_n _ _ hs) (fun _ _ => rfl), by
        have e0 : gup R r (gF (R r) (fun j => R r j * ivr p (ld hp f) % p) k) r = gF (R r) (fun j => R r j * ivr p (ld hp f) % p) k := gup_s _ _ _
        have hPf : PO hp (dgi hp f) (R r) f := PO_of rfl ((ph_cf hp hG.po (Int.le_refl _)).symm.trans (ph_cg hp (fun j j0 j1 => by rw [hF.2 j j0 (by omega)]))) (fun j j0 j1 => by rw [hF.2 j j0 (by omega)]; exact cf_in f hp j)
        refine MG.mk (e := dgi hp f) hp2 hr cf_lo_0 cf_lo_1 hF.1 (by omega) ?_ (fun j j0 j1 => ?_)
        · rw [e0]
          exact PO_sm hPf (iv_ne hp hld.1 hld.2) (fun j j0 j1 => by unfold gF; rw [if_pos (by omega)])
        · rw [e0]; unfold gF; rw [if_neg (by omega), hF.2 j (by omega) j1, cf_hi hp hG.po j0]⟩
      · skip
        refine g_aload_n 2 dX10_monic_43 rfl ?_
        refine g_getf 5 dX10_monic_44 kX10 (by decide) fX10_23 cg_lo_0 rfl ?_
        refine g_sipush dX10_monic_47 (by decide) ?_
        refine g_iload_n 3 dX10_monic_50 rfl ?_
        refine g_imul dX10_monic_51 ?_
        refine g_iload_n 0 dX10_monic_52 rfl ?_
        refine g_iadd dX10_monic_53 ?_
        refine g_aload_n 2 dX10_monic_54 rfl ?_
        refine g_getf 5 dX10_monic_55 kX10 (by decide) fX10_23 cg_lo_0 rfl ?_
        refine g_sipush dX10_monic_58 (by decide) ?_
        refine g_iload_n 3 dX10_monic_61 rfl ?_
        refine g_imul dX10_monic_62 ?_
        refine g_iload_n 0 dX10_monic_63 rfl ?_
        refine g_iadd dX10_monic_64 ?_
        refine g_iaload dX10_monic_65 cf_lo_0 (by omega) (by omega) (by omega) ?_
        rw [ar_r _ (show 0 ≤ k by omega) (show k < 200 by omega), gup_s, gF_at]
        have bk := cf_in f hp k
        rw [← hF.2 k hk0 (by omega)] at bk
        have bp := g_prod bk.1 bk.2 hiv.1 hiv.2 (show (p : Int) ≤ 65536 by omega)
        refine g_i2l dX10_monic_66 (by unfold gW; omega) ?_
        refine g_iload_n 1 dX10_monic_67 rfl ?_
        refine g_i2l dX10_monic_68 (by unfold gW; omega) ?_
        refine g_lmul dX10_monic_69 ?_
        refine g_aload_n 2 dX10_monic_70 rfl ?_
        refine g_getf 0 dX10_monic_71 kX10 (by decide) fX10_78 cg_lo_0 rfl ?_
        refine g_i2l dX10_monic_74 (by unfold gW; omega) ?_
        refine g_lrem dX10_monic_75 (by unfold gX; omega) (by unfold gX; omega) (by omega) ?_
        rw [tm_em bp.1]
        refine g_l2i dX10_monic_76 ?_
        refine g_iastore dX10_monic_77 cf_lo_0 (by omega) (by omega) (by omega) ?_
        obtain ⟨hh105, eh105⟩ : ∃ z : GH, z = hset hlo (B + 5) (aI 8000 (gup (ar (gup R r (gF (R r) (fun j => R r j * ivr p (ld hp f) % p) k))) (((200) * (r)) + (k)) (R r k * ivr p (ld hp f) % p))) := ⟨_, rfl⟩
        refine Go.hp eh105.symm ?_
        have fh105_0 : hh105.2 (B) = some (mO B ((p : Int)) (hf) (le) (fc) (pn) (rn) (hn) (qn)) := hs_n eh105 neA cg_lo_0
        have fh105_1 : hh105.2 (B + 5) = some (aI 8000 (gup (ar (gup R r (gF (R r) (fun j => R r j * ivr p (ld hp f) % p) k))) (((200) * (r)) + (k)) (R r k * ivr p (ld hp f) % p))) := hs_s eh105
        have fh105_2 : hh105.2 (B + 6) = some (aI 40 (d)) := hs_n eh105 (neC).s cf_lo_1
        have fr105 : Fr [B + 5] h hh105 := Fr.w0 fr_lo (List.Mem.head _) eh105
        refine g_iinc 0 (ls2 := [(3, .int (gI (k + 1))), (2, .int (gI (ivr p (ld hp f)))), (0, .ref (B)), (1, .int (gI (r)))]) dX10_monic_78 rfl (by decide) rfl ?_
        refine g_goto (tgt := 33) dX10_monic_81 rfl ?_
        exact ih_lo _ (by omega) (k + 1) hh105 rfl fr105 (by rw [← gF_s (R r) (fun j => R r j * ivr p (ld hp f) % p) hk0, ← ar_wg R _ hk0 (by omega)]; exact fh105_1) fh105_2 (by omega) (by omega)
    exact lo _ (0) h rfl (Fr.rf [B + 5] h) (by rw [gF_0, gup_id]; exact hR) hD (by omega) (by omega)
