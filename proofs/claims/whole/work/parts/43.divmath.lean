/-! rows of integers as polynomials over the field of p; one turn of the division -/
section
variable {p : Nat}
/-- the numbers at 0 .. i -/
def ph (h : prm p) (g : Int → Int) (i : Int) : Px p := fun k => letI := fR h; if (k : Int) ≤ i then zi h (g k) else 0
/-- the numbers behind lo, up to hi -/
def phq (h : prm p) (g : Int → Int) (lo hi : Int) : Px p := fun k => letI := fR h; if lo < (k : Int) ∧ (k : Int) ≤ hi then zi h (g k) else 0
theorem ph_po (h : prm p) (g : Int → Int) (i : Int) : po (fR h) (ph h g i) := ⟨(i + 1).toNat, fun k hk => by
  letI := fR h
  show (if (k : Int) ≤ i then zi h (g k) else 0) = 0
  rw [if_neg (by omega)]⟩
theorem phq_po (h : prm p) (g : Int → Int) (lo hi : Int) : po (fR h) (phq h g lo hi) := ⟨(hi + 1).toNat, fun k hk => by
  letI := fR h
  show (if lo < (k : Int) ∧ (k : Int) ≤ hi then zi h (g k) else 0) = 0
  rw [if_neg (by omega)]⟩
theorem phq_all (h : prm p) (g : Int → Int) (hi : Int) : phq h g (-1) hi = ph h g hi := funext fun k => by
  letI := fR h
  show (if -1 < (k : Int) ∧ (k : Int) ≤ hi then zi h (g k) else 0) = (if (k : Int) ≤ hi then zi h (g k) else 0)
  by_cases z : (k : Int) ≤ hi
  · rw [if_pos ⟨by omega, z⟩, if_pos z]
  · rw [if_neg (by omega), if_neg z]
theorem phq_none (h : prm p) (g : Int → Int) {lo hi : Int} (hl : hi ≤ lo) : letI := pR h; phq h g lo hi = 0 := funext fun k => by
  letI := fR h
  show (if lo < (k : Int) ∧ (k : Int) ≤ hi then zi h (g k) else 0) = (if k = 0 then (0 : Fp p) else 0)
  rw [if_neg (by omega)]
  split <;> rfl
/-- one turn of the division: times x^(i - e) b is taken away, and comes to the quotient -/
theorem div_turn (h : prm p) {L L2 Q Q2 gb : Int → Int} {i e d : Int} {t : Fp p} (he : 0 ≤ e) (hi : e ≤ i) (hid : i ≤ d)
    (ht : letI := fR h; zi h (L i) = t * zi h (gb e)) (h1 : letI := fR h; ∀ k, i - e ≤ k → k < i → zi h (L2 k) = zi h (L k) - t * zi h (gb (k - (i - e)))) (h2 : ∀ k, 0 ≤ k → k < i - e → zi h (L2 k) = zi h (L k)) (hQ : zi h (Q2 (i - e)) = t) (hQ2 : ∀ k, k ≠ i - e → Q2 k = Q k) :
    letI := pR h; phq h Q (i - e) (d - e) * ph h gb e + ph h L i = phq h Q2 (i - 1 - e) (d - e) * ph h gb e + ph h L2 (i - 1) := by
  have e1 : letI := pR h; phq h Q2 (i - 1 - e) (d - e) = phq h Q (i - e) (d - e) + xm (fR h) t (i - e).toNat := funext fun k => by
    letI := fR h
    show (if i - 1 - e < (k : Int) ∧ (k : Int) ≤ d - e then zi h (Q2 k) else 0) = (if i - e < (k : Int) ∧ (k : Int) ≤ d - e then zi h (Q k) else 0) + (if k = (i - e).toNat then t else 0)
    by_cases z : (k : Int) = i - e
    · rw [if_pos (by omega), if_neg (by omega), if_pos (by omega), z, hQ]
      grind
    · by_cases w : i - e < (k : Int) ∧ (k : Int) ≤ d - e
      · rw [if_pos (by omega), if_pos w, if_neg (by omega), hQ2 _ z]
        grind
      · rw [if_neg (by omega), if_neg w, if_neg (by omega)]
        grind
  have e2 : letI := pR h; ph h L i = xm (fR h) t (i - e).toNat * ph h gb e + ph h L2 (i - 1) := funext fun k => by
    letI := fR h
    show (if (k : Int) ≤ i then zi h (L k) else 0) = zmul (fR h) (xm (fR h) t (i - e).toNat) (ph h gb e) k + (if (k : Int) ≤ i - 1 then zi h (L2 k) else 0)
    rw [xm_mul (fR h)]
    by_cases z : (i - e).toNat ≤ k
    · rw [if_pos z]
      show _ = t * (if ((k - (i - e).toNat : Nat) : Int) ≤ e then zi h (gb ((k - (i - e).toNat : Nat) : Int)) else 0) + _
      rw [show ((k - (i - e).toNat : Nat) : Int) = (k : Int) - (i - e) by omega]
      by_cases w : (k : Int) ≤ i - 1
      · rw [if_pos (by omega), if_pos (by omega), if_pos w, h1 _ (by omega) (by omega)]
        generalize zi h (L k) = a
        generalize zi h (gb ((k : Int) - (i - e))) = b
        grind
      · by_cases y : (k : Int) = i
        · rw [if_pos (by omega), if_pos (by omega), if_neg w, y, ht, show i - (i - e) = e by omega]
          generalize zi h (gb e) = b
          grind
        · rw [if_neg (by omega), if_neg (by omega), if_neg w]
          grind
    · rw [if_neg z, if_pos (by omega), if_pos (by omega), h2 _ (by omega) (by omega)]
      generalize zi h (L k) = a
      grind
  letI := pR h
  rw [e1, e2]
  generalize phq h Q (i - e) (d - e) = a
  generalize xm (fR h) t (i - e).toNat = b
  generalize ph h gb e = c
  generalize ph h L2 (i - 1) = f
  grind
end
