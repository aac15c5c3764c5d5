/-! the search: mathematics -/
section
variable {p : Nat}
theorem drv_lt (h : prm p) {f : Px p} (hf : po (fR h) f) (h0 : 0 ≤ dgi h f) : dgi h (drv h f) < dgi h f := by
  letI := fR h
  have hd : dl (fR h) (drv h f) (dgi h f).toNat := fun k hk => by
    show zi h ((k : Int) + 1) * f (k + 1) = 0
    rw [dgi_dl h hf (k + 1) (by omega)]; grind
  have := dgi_le h hd
  omega
theorem rt_mnc (h : prm p) {f : Px p} (hf : po (fR h) f) (hd : dgi h (drv h f) < 0) (h1 : 0 ≤ dgi h f) (hm : mnc h f) : letI := pR h; po (fR h) (rtP f) ∧ f = rtP f ^ p ∧ mnc h (rtP f) ∧ 0 ≤ dgi h (rtP f) ∧ dgi h f = p * dgi h (rtP f) := by
  letI := fR h
  letI := pR h
  have hp := h.1
  obtain ⟨a, b⟩ := rt_pw h hf (dgi_z h (drv_po h hf) hd)
  rcases Int.lt_or_le (dgi h (rtP f)) 0 with z | z
  · exfalso
    rw [dgi_z h a z, zero_pw (pR h) (by omega)] at b
    rw [b, dgi_0 h] at h1
    omega
  · have e1 := pw_dg h (dgi_dg h a z) p
    rw [← b] at e1
    have e2 := dgi_of h e1
    have e3 : dgi h f = p * dgi h (rtP f) := by
      rw [e2, Int.natCast_mul, Int.mul_comm]
      rw [show (((dgi h (rtP f)).toNat : Nat) : Int) = dgi h (rtP f) by omega]
    refine ⟨a, b, ?_, z, e3⟩
    rcases hm with y | y
    · omega
    · refine Or.inr ?_
      show f ((dgi h (rtP f)).toNat * p) = 1
      rw [e2] at y
      rw [show (((dgi h (rtP f)).toNat * p : Nat) : Int).toNat = (dgi h (rtP f)).toNat * p by omega] at y
      exact y
theorem sq_part (h : prm p) {R : Px p} (hR : po (fR h) R) (h0 : 0 ≤ dgi h R) (hm : mnc h R) (hd : 0 ≤ dgi h (drv h R)) : po (fR h) (qt h R (gP h R (drv h R))) ∧ R = zmul (fR h) (gP h R (drv h R)) (qt h R (gP h R (drv h R))) ∧ mnc h (qt h R (gP h R (drv h R))) ∧ sqf h (qt h R (gP h R (drv h R))) ∧ 1 ≤ dgi h (qt h R (gP h R (drv h R))) ∧ dgi h (qt h R (gP h R (drv h R))) ≤ dgi h R ∧ 0 ≤ dgi h (gP h R (drv h R)) ∧ dv (fR h) (gP h R (drv h R)) R := by
  have hdp := drv_po h hR
  have G := gP_sp h hR hdp
  obtain ⟨q, hq, eq⟩ := G.2.2.1
  have g0 : 0 ≤ dgi h (gP h R (drv h R)) := by
    rcases Int.lt_or_le (dgi h (gP h R (drv h R))) 0 with z | z
    · exfalso
      letI := pR h
      have e : drv h R = q * gP h R (drv h R) := eq
      rw [dgi_z h G.1 z] at e
      have e2 : drv h R = 0 := e.trans (by grind)
      rw [e2, dgi_0 h] at hd
      omega
    · exact z
  have k := qt_of h hR G.1 g0 G.2.1
  have l1 := dv_deg (fld_p h) (dgi_dg h G.1 g0) (dgi_dg h hdp hd) G.2.2.1
  have l2 := drv_lt h hR h0
  have l3 := qt_dgi h hR G.1 g0
  have l4 : 1 ≤ dgi h (qt h R (gP h R (drv h R))) := by omega
  refine ⟨k.1, k.2, mnc_co h (dgi_dg h G.1 g0) (dgi_dg h k.1 (by omega)) k.2 G.2.2.2.2 hm, fun g hg => ?_, l4, by omega, g0, G.2.1⟩
  obtain ⟨e, k0, w⟩ := mul_ex h hg _ _ R (Nat.le_refl _) (dgi_dg h hR h0)
  exact (sq_step h (dgi_dg h hR h0) G k.1 k.2 hg w).1
theorem spS_ne (h : prm p) {w : Px p} {st e : Int} {Q Q0 : Int → Px p} (hs : spS h w st e Q Q0) (hsq : sqf h w) {i j : Int} (i0 : st ≤ i) (i1 : i < j) (j1 : j < e) (hg : irr (fR h) (Q i)) : Q i ≠ Q j := fun eq => by
  obtain ⟨k, hk, ek, hj⟩ := prd_at h (Q := fun j : Nat => Q (st + (j : Int))) (e - st).toNat (fun i hi => (hs.1.1 i hi).1) (i - st).toNat (by omega)
  have d := hj (j - st).toNat (by omega) (by omega)
  rw [show st + ((j - st).toNat : Int) = j by omega] at d
  rw [show st + ((i - st).toNat : Int) = i by omega] at ek
  obtain ⟨t, ht, et⟩ := d
  refine hsq (Q i) hg ⟨t, ht, ?_⟩
  have e1 := hs.1.2
  rw [e1, ek, et, ← eq]
  letI := pR h
  show Q i * (t * Q i) = t * (Q i * Q i)
  generalize Q i = x
  grind
theorem mnc_1 (h : prm p) : letI := pR h; mnc h (1 : Px p) := by
  letI := fR h
  letI := pR h
  refine Or.inr ?_
  rw [dgi_1 h]
  rfl
theorem mnc_pw (h : prm p) {g : Px p} {d : Nat} (hg : dg (fR h) g d) (hm : mnc h g) (m : Nat) : letI := pR h; mnc h (g ^ m) := by
  letI := pR h
  induction m with
  | zero => rw [pw_0 (pR h)]; exact mnc_1 h
  | succ m ih => rw [pw_s (pR h)]; exact mnc_mul h (pw_dg h hg m) hg ih hm
/-- sums -/
def sI (t : Int → Int) : Nat → Int
  | 0 => 0
  | n + 1 => sI t n + t n
theorem sI_cg {t t2 : Int → Int} : ∀ n : Nat, (∀ i : Int, 0 ≤ i → i < n → t i = t2 i) → sI t n = sI t2 n
  | 0, _ => rfl
  | n + 1, h => by
    show sI t n + t n = sI t2 n + t2 n
    rw [sI_cg n (fun i i0 i1 => h i i0 (by omega)), h n (by omega) (by omega)]
theorem fiv_cg (h : prm p) {F R : Px p} {q : Nat} {n : Int} {Q Q2 : Int → Px p} {t : Int → Int} (e : ∀ i : Int, 0 ≤ i → i < n → Q2 i = Q i) (w : fiv h F R q n Q t) : fiv h F R q n Q2 t := by
  obtain ⟨w1, w2, w3⟩ := w
  exact ⟨fun i i0 i1 => by rw [e i i0 i1]; exact w1 i i0 i1, fun i j i0 i1 j1 => by rw [e i i0 (by omega), e j (by omega) j1]; exact w2 i j i0 i1 j1, fun g a b c => w3 g a b (fun i i0 i1 => by rw [← e i i0 i1]; exact c i i0 i1)⟩
def sea (h : prm p) (F R : Px p) (q n tg : Int) (Q : Int → Px p) (t : Int → Int) : Prop := po (fR h) R ∧ 0 ≤ dgi h R ∧ mnc h R ∧ 1 ≤ q ∧ 0 ≤ n ∧ fiv h F R q.toNat n Q t ∧ tg = sI t n.toNat ∧ tg + q * dgi h R ≤ 40 ∧ n + dgi h R ≤ 40
theorem sea_0 (h : prm p) {F : Px p} (hF : po (fR h) F) (h0 : 0 ≤ dgi h F) (h1 : dgi h F ≤ 40) (hm : mnc h F) (Q : Int → Px p) (t : Int → Int) : sea h F F 1 0 0 Q t := ⟨hF, h0, hm, by omega, by omega, fiv_0 h F Q t, rfl, by omega, by omega⟩
theorem sea_root (h : prm p) {F R : Px p} {q n tg : Int} {Q : Int → Px p} {t : Int → Int} (w : sea h F R q n tg Q t) (hd : dgi h (drv h R) < 0) (h1 : 1 ≤ dgi h R) : sea h F (rtP R) (q * p) n tg Q t ∧ dgi h (rtP R) < dgi h R := by
  have hp := h.1
  obtain ⟨w1, w2, w3, w4, w5, w6, w7, w8, w9⟩ := w
  obtain ⟨a, b, c, d, e⟩ := rt_mnc h w1 hd w2 w3
  have h2 : 2 * dgi h (rtP R) ≤ p * dgi h (rtP R) := Int.mul_le_mul_of_nonneg_right (by omega) d
  have h3 : 1 * 1 ≤ q * p := Int.mul_le_mul w4 (by omega) (by omega) (by omega)
  have e2 : (q * (p : Int)).toNat = q.toNat * p := by
    rw [Int.toNat_mul (by omega) (by omega)]
    rw [Int.toNat_natCast]
  refine ⟨⟨a, d, c, by omega, w5, ?_, w7, by rw [Int.mul_assoc, ← e]; exact w8, by omega⟩, by omega⟩
  rw [e2]
  rw [b] at w6
  exact fiv_root h (dgi_dg h a d) w6
def sei (h : prm p) (F R0 R : Px p) (q n0 k e tg : Int) (Q : Int → Px p) (t : Int → Int) : Prop := sea h F R q k tg Q t ∧ (n0 ≤ k ∧ k ≤ e) ∧ (k - n0) + dgi h R ≤ dgi h R0 ∧ ∀ j : Int, k ≤ j → j < e → irr (fR h) (Q j) ∧ mnc h (Q j) ∧ dv (fR h) (Q j) R ∧ ∀ i : Int, k ≤ i → i < j → Q i ≠ Q j
theorem sei_0 (h : prm p) {F R K : Px p} {q n e tg : Int} {Q Q1 : Int → Px p} {t : Int → Int} (w : sea h F R q n tg Q t) (hK : dv (fR h) K R) (hsq : sqf h K) (hs : spS h K n e Q1 Q) (hi : ∀ i : Int, n ≤ i → i < e → irr (fR h) (Q1 i)) (hne : n ≤ e) : sei h F R R q n n e tg Q1 t := by
  obtain ⟨w1, w2, w3, w4, w5, w6, w7, w8, w9⟩ := w
  refine ⟨⟨w1, w2, w3, w4, w5, fiv_cg h (fun i i0 i1 => hs.2.2 i i0 i1) w6, w7, w8, w9⟩, by omega, by omega, fun j j0 j1 => ⟨hi j j0 j1, hs.2.1 j j0 j1, dv_tr (spS_po h hs j0 j1).2.2 hK, fun i i0 i1 => spS_ne h hs hsq i0 i1 j1 (hi i i0 (by omega))⟩⟩
theorem nl_div {tg q a m b : Int} (hq : 1 ≤ q) (h1 : tg + q * a ≤ 40) (h2 : m + b ≤ a) : tg + q * m + q * b ≤ 40 := by
  have h3 : q * (m + b) ≤ q * a := Int.mul_le_mul_of_nonneg_left h2 (by omega)
  rw [Int.mul_add] at h3
  omega
theorem sei_s (h : prm p) {F R0 R R1 : Px p} {q n0 k e tg m : Int} {Q : Int → Px p} {t : Int → Int} (w : sei h F R0 R q n0 k e tg Q t) (hk : k < e) (hd : dou h (Q k) R R1 m) (hm : mul_e h (Q k) R R1 m.toNat) : sei h F R0 R1 q n0 (k + 1) e (tg + q * m) Q (gup t k (q * m)) := by
  obtain ⟨⟨w1, w2, w3, w4, w5, w6, w7, w8, w9⟩, wk, wd, wj⟩ := w
  obtain ⟨hi, hmn, hdv, _⟩ := wj k (by omega) hk
  obtain ⟨d1, d2, d3, d4, d5⟩ := hd
  obtain ⟨dk, dk1, dk2⟩ := hi.2.1
  have hRd := dgi_dg h w1 w2
  have hR1d := dgi_dg h d1 d2
  have m1 : 1 ≤ m := by
    have := (ml_dv h hi hRd).mp hdv
    rw [mul_ml h hi hm] at this
    omega
  letI := pR h
  have eR : R = zmul (fR h) (Q k ^ m.toNat) R1 := hm.2.1
  have hF2 := fiv_div h (t2 := gup t k (q * m)) w5 hR1d (show 1 ≤ q.toNat by omega) (show 1 ≤ m.toNat by omega) hi hmn (fun i i0 i1 e9 => (w6.1 i i0 i1).2.2.2.2 (by rw [e9]; exact hdv)) hm (fun i i0 i1 => gup_n _ _ (by omega)) (by rw [gup_s]; rw [show ((q.toNat : Nat) : Int) = q by omega, show ((m.toNat : Nat) : Int) = m by omega]) w6
  refine ⟨⟨d1, d2, mnc_co h (pw_dg h dk2 m.toNat) hR1d eR (mnc_pw h dk2 hmn _) w3, w4, by omega, hF2, ?_, nl_div w4 w8 d5, by omega⟩, by omega, by omega, fun j j0 j1 => ?_⟩
  · rw [show (k + 1).toNat = k.toNat + 1 by omega]
    show _ = sI (gup t k (q * m)) k.toNat + gup t k (q * m) (k.toNat : Int)
    rw [show ((k.toNat : Nat) : Int) = k by omega, gup_s, sI_cg k.toNat (t2 := t) (fun i i0 i1 => gup_n _ _ (by omega)), ← w7]
  · obtain ⟨a, b, c, d⟩ := wj j (by omega) j1
    refine ⟨a, b, ?_, fun i i0 i1 => d i (by omega) i1⟩
    have h1 := (ml_dv h a hRd).mp c
    rw [eR, ml_mul h a (pw_dg h dk2 m.toNat) hR1d, ml_pw h a dk2, ml_ne h a hi b hmn (fun e9 => d k (by omega) (by omega) e9.symm), Nat.mul_zero, Nat.zero_add] at h1
    exact (ml_dv h a hR1d).mpr h1
theorem sea_fin (h : prm p) {F R : Px p} {q n tg : Int} {Q : Int → Px p} {t : Int → Int} (hF : po (fR h) F) (hF0 : 0 ≤ dgi h F) (w : sea h F R q n tg Q t) (h0 : dgi h R ≤ 0) : fcl h F n Q t ∧ tg = sI t n.toNat ∧ tg ≤ 40 ∧ 0 ≤ n ∧ n ≤ 40 := by
  obtain ⟨w1, w2, w3, w4, w5, w6, w7, w8, w9⟩ := w
  have e : dgi h R = 0 := by omega
  have d := dgi_dg h w1 w2
  rw [e] at d
  rw [e, Int.mul_zero] at w8
  exact ⟨fiv_fcl h (dgi_dg h hF hF0) d w6, w7, by omega, w5, by omega⟩
end
