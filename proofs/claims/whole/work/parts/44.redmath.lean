section
variable {p : Nat}
theorem zi_pw (h : prm p) (a : Int) (n : Nat) : letI := fR h; zi h (a ^ n) = zi h a ^ n := by
  letI := fR h
  induction n with
  | zero => rw [Int.pow_zero, pw_0 (fR h), zi_1 h]
  | succ n ih => rw [Int.pow_succ, pw_s (fR h), zi_mul h, ih]
theorem zi_mod (h : prm p) (a : Int) : zi h (a % p) = zi h a := zi_eq h (Int.emod_emod_of_dvd _ (Int.dvd_refl _))
theorem zi_ne (h : prm p) {a : Int} (h0 : 0 < a) (h1 : a < p) : letI := fR h; zi h a ≠ 0 := by
  letI := fR h
  intro e
  rw [← zi_0 h] at e
  have := zi_inj h e
  rw [Int.emod_eq_of_lt (by omega) h1, Int.zero_emod] at this
  omega
/-- the inverse as the class finds it -/
def ivr (p a : Int) : Int := if a = 1 then 1 else a ^ (p - 2).toNat % p
theorem ivr_in (h : prm p) (a : Int) : 0 ≤ ivr p a ∧ ivr p a < p := by
  have := h.1
  unfold ivr
  split
  · omega
  · exact ⟨Int.emod_nonneg _ (by omega), Int.emod_lt_of_pos _ (by omega)⟩
theorem ivr_zi (h : prm p) {a : Int} (h0 : 0 < a) (h1 : a < p) : letI := fR h; zi h (ivr p a) * zi h a = 1 := by
  letI := fR h
  have hp := h.1
  unfold ivr
  by_cases z : a = 1
  · rw [if_pos z, z, zi_1 h]; grind
  · rw [if_neg z, zi_mod, zi_pw, show ((p : Int) - 2).toNat = p - 2 by omega]
    have := f_inv h (zi_ne h h0 h1)
    generalize zi h a = x at this ⊢
    generalize x ^ (p - 2) = y at this ⊢
    grind
/-- what one turn leaves in the row -/
def rdL (L gb : Int → Int) (s c j : Int) : Int → Int := fun k => if s ≤ k ∧ k < s + j then L k + c * gb (k - s) else L k
theorem rdL_0 (L gb : Int → Int) (s c : Int) : rdL L gb s c 0 = L := funext fun k => by unfold rdL; rw [if_neg (by omega)]
theorem rdL_s (L gb : Int → Int) {s c j : Int} (hj : 0 ≤ j) : gup (rdL L gb s c j) (s + j) (rdL L gb s c j (s + j) + c * gb j) = rdL L gb s c (j + 1) := funext fun k => by
  unfold gup
  by_cases z : k = s + j
  · subst z
    rw [if_pos rfl]
    have e1 : rdL L gb s c j (s + j) = L (s + j) := by unfold rdL; rw [if_neg (by omega)]
    have e2 : rdL L gb s c (j + 1) (s + j) = L (s + j) + c * gb (s + j - s) := by unfold rdL; rw [if_pos (by omega)]
    rw [e1, e2, show s + j - s = j by omega]
  · rw [if_neg z]
    unfold rdL
    by_cases w : s ≤ k ∧ k < s + j
    · rw [if_pos w, if_pos (by omega)]
    · rw [if_neg w, if_neg (by omega)]
/-- the state of the division before place i is looked at -/
def rdI (h : prm p) (gr gb : Int → Int) (d e U i : Int) (L Q : Int → Int) : Prop :=
  i ≤ d ∧ (e - 1 ≤ i ∨ i = d) ∧ (∀ k, 0 ≤ k → k ≤ d → 0 ≤ L k ∧ L k ≤ U + (d - i) * 4294967296) ∧ (∀ k, gX (L k)) ∧ (∀ k, i - e < k → k ≤ d - e → 0 ≤ Q k ∧ Q k < p) ∧ (∀ k, gX (Q k)) ∧ (letI := pR h; ph h gr d = phq h Q (i - e) (d - e) * ph h gb e + ph h L i)
theorem rdI_0 (h : prm p) {gr gb gq : Int → Int} {d e U : Int} (hg : ∀ k, 0 ≤ k → k ≤ d → 0 ≤ gr k ∧ gr k ≤ U) (h1 : ∀ k, gX (gr k)) (h2 : ∀ k, gX (gq k)) : rdI h gr gb d e U d gr gq := by
  refine ⟨Int.le_refl _, Or.inr rfl, fun k a b => ?_, h1, fun k a b => by omega, h2, ?_⟩
  · have := hg k a b; omega
  · letI := pR h
    rw [phq_none h gq (Int.le_refl _)]
    generalize ph h gr d = x
    generalize ph h gb e = y
    grind
/-- one turn keeps it -/
theorem rdI_s (h : prm p) {gr gb L Q : Int → Int} {d e U i : Int} (hp : p ≤ 65536) (hU : 0 ≤ U ∧ U ≤ 17592186044416) (hd : d ≤ 1000) (he : 0 ≤ e) (hei : e ≤ i) (hgb : ∀ k, 0 ≤ k → k ≤ e → 0 ≤ gb k ∧ gb k < p) (hge : gb e ≠ 0) (H : rdI h gr gb d e U i L Q) :
    rdI h gr gb d e U (i - 1) (rdL L gb (i - e) (p - L i % p * ivr p (gb e) % p) e) (gup Q (i - e) (L i % p * ivr p (gb e) % p)) := by
  obtain ⟨a1, a2, a3, a4, a5, a6, a7⟩ := H
  have hp2 := h.1
  obtain ⟨tm, htm⟩ : ∃ z : Int, z = L i % p * ivr p (gb e) % p := ⟨_, rfl⟩
  rw [← htm]
  have ht0 : 0 ≤ tm := by rw [htm]; exact Int.emod_nonneg _ (by omega)
  have ht1 : tm < p := by rw [htm]; exact Int.emod_lt_of_pos _ (by omega)
  have hlead := hgb e he (Int.le_refl _)
  have hprod : ∀ k, 0 ≤ k → k ≤ e → 0 ≤ (p - tm) * gb k ∧ (p - tm) * gb k ≤ 4294967296 := fun k k0 k1 => by
    have hb := hgb k k0 k1
    refine ⟨Int.mul_nonneg (by omega) hb.1, ?_⟩
    have := Int.mul_le_mul (show (p : Int) - tm ≤ 65536 by omega) (show gb k ≤ 65536 by omega) hb.1 (by omega)
    omega
  have hL : ∀ k, 0 ≤ k → k ≤ d → 0 ≤ rdL L gb (i - e) (p - tm) e k ∧ rdL L gb (i - e) (p - tm) e k ≤ U + (d - (i - 1)) * 4294967296 := fun k k0 k1 => by
    have h1 := a3 k k0 k1
    unfold rdL
    split
    · have h2 := hprod (k - (i - e)) (by omega) (by omega)
      omega
    · omega
  refine ⟨by omega, Or.inl (by omega), hL, fun k => ?_, fun k k0 k1 => ?_, fun k => ?_, ?_⟩
  · by_cases z : 0 ≤ k ∧ k ≤ d
    · have := hL k z.1 z.2
      unfold gX
      omega
    · have e1 : rdL L gb (i - e) (p - tm) e k = L k := by unfold rdL; rw [if_neg (by omega)]
      rw [e1]
      exact a4 k
  · unfold gup
    by_cases z : k = i - e
    · rw [if_pos z]; omega
    · rw [if_neg z]; exact a5 k (by omega) k1
  · unfold gup
    split
    · unfold gX; omega
    · exact a6 k
  · rw [a7]
    refine div_turn h (t := zi h tm) he hei a1 ?_ (fun k k0 k1 => ?_) (fun k k0 k1 => ?_) (by rw [gup_s]) (fun k hk => gup_n _ _ hk)
    · letI := fR h
      rw [htm, zi_mod, zi_mul h, zi_mod]
      have := ivr_zi h (show 0 < gb e by omega) hlead.2
      generalize zi h (L i) = x
      generalize zi h (ivr p (gb e)) = y at this ⊢
      generalize zi h (gb e) = w at this ⊢
      grind
    · letI := fR h
      have e1 : rdL L gb (i - e) (p - tm) e k = L k + (p - tm) * gb (k - (i - e)) := by unfold rdL; rw [if_pos (by omega)]
      rw [e1, zi_add h, zi_mul h, zi_sub h, zi_p h]
      generalize zi h (L k) = x
      generalize zi h tm = y
      generalize zi h (gb (k - (i - e))) = w
      grind
    · have e1 : rdL L gb (i - e) (p - tm) e k = L k := by unfold rdL; rw [if_neg (by omega)]
      rw [e1]
/-- .. also where nothing is taken away -/
theorem rdI_z (h : prm p) {gr gb L Q : Int → Int} {d e U i : Int} (hp : p ≤ 65536) (hU : 0 ≤ U ∧ U ≤ 17592186044416) (hd : d ≤ 1000) (he : 0 ≤ e) (hei : e ≤ i) (hgb : ∀ k, 0 ≤ k → k ≤ e → 0 ≤ gb k ∧ gb k < p) (hge : gb e ≠ 0) (H : rdI h gr gb d e U i L Q) (hz : L i % p * ivr p (gb e) % p = 0) :
    rdI h gr gb d e U (i - 1) L (gup Q (i - e) (L i % p * ivr p (gb e) % p)) := by
  obtain ⟨a1, a2, a3, a4, a5, a6, a7⟩ := H
  have hp2 := h.1
  rw [hz]
  have hlead := hgb e he (Int.le_refl _)
  refine ⟨by omega, Or.inl (by omega), fun k k0 k1 => by have := a3 k k0 k1; omega, a4, fun k k0 k1 => ?_, fun k => ?_, ?_⟩
  · unfold gup
    by_cases z : k = i - e
    · rw [if_pos z]; omega
    · rw [if_neg z]; exact a5 k (by omega) k1
  · unfold gup
    split
    · unfold gX; omega
    · exact a6 k
  · rw [a7]
    have h9 : letI := fR h; zi h (L i) = 0 := by
      letI := fR h
      have e1 : zi h (L i % p * ivr p (gb e) % p) = 0 := by rw [hz, zi_0 h]
      rw [zi_mod, zi_mul h, zi_mod] at e1
      have := ivr_zi h (show 0 < gb e by omega) hlead.2
      generalize zi h (L i) = x at e1 ⊢
      generalize zi h (ivr p (gb e)) = y at this e1
      generalize zi h (gb e) = w at this
      grind
    refine div_turn h (t := letI := fR h; 0) he hei a1 ?_ (fun k k0 k1 => ?_) (fun k k0 k1 => rfl) (by rw [gup_s, zi_0 h]) (fun k hk => gup_n _ _ hk)
    · letI := fR h
      rw [h9]
      generalize zi h (gb e) = w
      grind
    · letI := fR h
      generalize zi h (L k) = x
      generalize zi h (gb (k - (i - e))) = w
      grind
end
