/-! the field of p: Fin p; an integer in it; Fermat -/
section
variable {p : Nat}
theorem prm_ne (h : prm p) : p ≠ 0 := by have := h.1; omega
/-- the numbers 0 .. p - 1 -/
def Fp (p : Nat) : Type := Fin p
def fv (x : Fp p) : Nat := Fin.val (n := p) x
theorem fv_lt (x : Fp p) : fv x < p := Fin.isLt (n := p) x
def fR (h : prm p) : Lean.Grind.CommRing (Fp p) :=
  haveI : NeZero p := ⟨prm_ne h⟩
  (inferInstance : Lean.Grind.CommRing (Fin p))
def zi (h : prm p) (n : Int) : Fp p := Fin.mk (n := p) (n % (p : Int)).toNat (by
  have h1 := Int.emod_nonneg n (show (p : Int) ≠ 0 by have := h.1; omega)
  have h2 := Int.emod_lt_of_pos n (show (0 : Int) < p by have := h.1; omega)
  omega)
theorem zi_val (h : prm p) (n : Int) : (fv (zi h n) : Int) = n % p := by
  have h1 := Int.emod_nonneg n (show (p : Int) ≠ 0 by have := h.1; omega)
  show (((n % (p : Int)).toNat : Nat) : Int) = n % p
  omega
theorem fin_eq {a b : Fp p} (e : (fv a : Int) = fv b) : a = b := Fin.ext (n := p) (by unfold fv at e; omega)
theorem f_add (h : prm p) (a b : Fp p) : letI := fR h; (fv (a + b) : Int) = ((fv a : Int) + fv b) % p := by
  letI := fR h
  show (((fv a + fv b) % p : Nat) : Int) = _
  rw [Int.natCast_emod, Int.natCast_add]
theorem f_mul (h : prm p) (a b : Fp p) : letI := fR h; (fv (a * b) : Int) = ((fv a : Int) * fv b) % p := by
  letI := fR h
  show (((fv a * fv b) % p : Nat) : Int) = _
  rw [Int.natCast_emod, Int.natCast_mul]
theorem f_zero (h : prm p) : letI := fR h; (fv (0 : Fp p) : Int) = 0 := by
  show ((0 % p : Nat) : Int) = 0
  rw [Nat.zero_mod]
  rfl
theorem f_one (h : prm p) : letI := fR h; (fv (1 : Fp p) : Int) = 1 := by
  show ((1 % p : Nat) : Int) = 1
  have := h.1
  rw [Nat.mod_eq_of_lt (by omega)]
  rfl
theorem zi_add (h : prm p) (a b : Int) : letI := fR h; zi h (a + b) = zi h a + zi h b := by
  letI := fR h
  refine fin_eq ?_
  rw [f_add h, zi_val, zi_val, zi_val, ← Int.add_emod]
theorem zi_mul (h : prm p) (a b : Int) : letI := fR h; zi h (a * b) = zi h a * zi h b := by
  letI := fR h
  refine fin_eq ?_
  rw [f_mul h, zi_val, zi_val, zi_val, ← Int.mul_emod]
theorem zi_0 (h : prm p) : letI := fR h; zi h 0 = 0 := by
  letI := fR h
  refine fin_eq ?_
  rw [f_zero h, zi_val, Int.zero_emod]
theorem zi_1 (h : prm p) : letI := fR h; zi h 1 = 1 := by
  letI := fR h
  refine fin_eq ?_
  have := h.1
  rw [f_one h, zi_val, Int.emod_eq_of_lt (by omega) (by omega)]
theorem zi_neg (h : prm p) (a : Int) : letI := fR h; zi h (-a) = - zi h a := by
  letI := fR h
  have e : zi h (-a) + zi h a = 0 := by
    rw [← zi_add h, show -a + a = 0 by omega, zi_0 h]
  generalize zi h (-a) = x at e ⊢
  generalize zi h a = y at e ⊢
  grind
theorem zi_sub (h : prm p) (a b : Int) : letI := fR h; zi h (a - b) = zi h a - zi h b := by
  letI := fR h
  rw [Int.sub_eq_add_neg, zi_add h, zi_neg h]
  generalize zi h a = x
  generalize zi h b = y
  grind
theorem zi_eq (h : prm p) {a b : Int} (e : a % p = b % p) : zi h a = zi h b := fin_eq (by rw [zi_val, zi_val, e])
theorem zi_inj (h : prm p) {a b : Int} (e : zi h a = zi h b) : a % p = b % p := by rw [← zi_val h, ← zi_val h, e]
theorem zi_of (h : prm p) (x : Fp p) : zi h (fv x : Int) = x := fin_eq (by
  rw [zi_val]
  have := fv_lt x
  exact Int.emod_eq_of_lt (by omega) (by omega))
theorem zi_lt (h : prm p) {a : Int} (h0 : 0 ≤ a) (h1 : a < p) : (fv (zi h a) : Int) = a := by rw [zi_val, Int.emod_eq_of_lt h0 h1]
theorem zi_p (h : prm p) : letI := fR h; zi h (p : Int) = 0 := by
  letI := fR h
  rw [← zi_0 h]
  exact zi_eq h (by rw [Int.emod_self, Int.zero_emod])
theorem nr_zi (h : prm p) (n : Nat) : nr (fR h) n = zi h (n : Int) := by
  letI := fR h
  induction n with
  | zero => exact (zi_0 h).symm
  | succ n ih =>
    show nr (fR h) n + 1 = zi h ((n + 1 : Nat) : Int)
    rw [ih, Int.natCast_succ, zi_add h, zi_1 h]
theorem nr_p (h : prm p) : letI := fR h; nr (fR h) p = 0 := by rw [nr_zi]; exact zi_p h
/-- no two numbers that are not 0 have the product 0 -/
theorem f_dom (h : prm p) {a b : Fp p} (e : letI := fR h; a * b = 0) : letI := fR h; a = 0 ∨ b = 0 := by
  letI := fR h
  have e1 : ((fv a : Int) * fv b) % p = 0 := by rw [← f_mul h, e, f_zero h]
  have e2 : p ∣ fv a * fv b := by
    have : ((fv a * fv b : Nat) : Int) % (p : Int) = 0 := by rw [Int.natCast_mul]; exact e1
    exact Nat.dvd_of_mod_eq_zero (by omega)
  have ha := fv_lt a
  have hb := fv_lt b
  rcases prm_mul h e2 with z | z
  · left
    refine fin_eq ?_
    rw [f_zero h]
    have := Nat.eq_zero_of_dvd_of_lt z ha
    omega
  · right
    refine fin_eq ?_
    rw [f_zero h]
    have := Nat.eq_zero_of_dvd_of_lt z hb
    omega
theorem one_pw {A : Type} (R : Lean.Grind.CommRing A) (n : Nat) : letI := R; (1 : A) ^ n = 1 := by
  letI := R
  induction n with
  | zero => exact pw_0 R 1
  | succ n ih => rw [pw_s R, ih]; grind
theorem fermat0 (h : prm p) (n : Nat) : letI := fR h; (zi h (n : Int)) ^ p = zi h (n : Int) := by
  letI := fR h
  induction n with
  | zero =>
    show (zi h 0) ^ p = zi h 0
    rw [zi_0 h]
    obtain ⟨k, hk⟩ : ∃ k, p = k + 1 := ⟨p - 1, by have := h.1; omega⟩
    have e : ∀ m : Nat, (0 : Fp p) ^ (m + 1) = 0 := fun m => by rw [pw_s (fR h)]; grind
    have := e k
    rw [← hk] at this
    exact this
  | succ n ih =>
    rw [Int.natCast_succ, zi_add h, zi_1 h, frob (fR h) h (nr_p h), ih, one_pw (fR h)]
theorem fermat (h : prm p) (a : Fp p) : letI := fR h; a ^ p = a := by
  have := fermat0 h (fv a)
  rw [zi_of] at this
  exact this
/-- the inverse is the power p - 2 -/
theorem f_inv (h : prm p) {a : Fp p} (ha : letI := fR h; a ≠ 0) : letI := fR h; a * a ^ (p - 2) = 1 := by
  letI := fR h
  obtain ⟨k, hk⟩ : ∃ k, p = k + 2 := ⟨p - 2, by have := h.1; omega⟩
  have e1 : a ^ (k + 1 + 1) = a := by
    have := fermat h a
    rw [show k + 1 + 1 = p by omega]
    exact this
  rw [show p - 2 = k by omega]
  rw [pw_s (fR h), pw_s (fR h)] at e1
  have e2 : a * (a ^ k * a - 1) = 0 := by
    generalize a ^ k = b at e1 ⊢
    grind
  rcases f_dom h e2 with z | z
  · exact absurd z ha
  · generalize a ^ k = b at z ⊢
    grind
end
