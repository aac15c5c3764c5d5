/-! binomial numbers, the p-th power of a sum where p is 0, and primes -/
def chs : Nat → Nat → Nat
  | _, 0 => 1
  | 0, _ + 1 => 0
  | n + 1, k + 1 => chs n k + chs n (k + 1)
theorem chs_0 (n : Nat) : chs n 0 = 1 := by cases n <;> rfl
theorem chs_big : ∀ {n k : Nat}, n < k → chs n k = 0
  | 0, k + 1, _ => rfl
  | n + 1, k + 1, h => by show chs n k + chs n (k + 1) = 0; rw [chs_big (show n < k by omega), chs_big (show n < k + 1 by omega)]
theorem chs_self : ∀ n : Nat, chs n n = 1
  | 0 => rfl
  | n + 1 => by show chs n n + chs n (n + 1) = 1; rw [chs_self n, chs_big (Nat.lt_succ_self n)]
theorem chs_abs : ∀ n k : Nat, (k + 1) * chs (n + 1) (k + 1) = (n + 1) * chs n k
  | 0, 0 => rfl
  | 0, k + 1 => by
    show (k + 1 + 1) * (chs 0 (k + 1) + chs 0 (k + 1 + 1)) = (0 + 1) * chs 0 (k + 1)
    rw [show chs 0 (k + 1) = 0 from rfl, show chs 0 (k + 1 + 1) = 0 from rfl]
    omega
  | n + 1, 0 => by
    have h := chs_abs n 0
    show (0 + 1) * (chs (n + 1) 0 + chs (n + 1) (0 + 1)) = (n + 1 + 1) * chs (n + 1) 0
    rw [chs_0] at h
    rw [chs_0]
    omega
  | n + 1, k + 1 => by
    have h1 := chs_abs n (k + 1)
    have h2 := chs_abs n k
    show (k + 1 + 1) * (chs (n + 1) (k + 1) + chs (n + 1) (k + 1 + 1)) = (n + 1 + 1) * chs (n + 1) (k + 1)
    have e : chs (n + 1) (k + 1) = chs n k + chs n (k + 1) := rfl
    rw [Nat.mul_add, h1]
    have e2 : (k + 1 + 1) * chs (n + 1) (k + 1) = (k + 1) * chs (n + 1) (k + 1) + chs (n + 1) (k + 1) := by rw [Nat.add_mul (k + 1) 1, Nat.one_mul]
    have e3 : (n + 1 + 1) * chs (n + 1) (k + 1) = (n + 1) * chs (n + 1) (k + 1) + chs (n + 1) (k + 1) := by rw [Nat.add_mul (n + 1) 1, Nat.one_mul]
    rw [e2, e3, h2]
    have e4 : (n + 1) * chs (n + 1) (k + 1) = (n + 1) * chs n k + (n + 1) * chs n (k + 1) := by rw [e, Nat.mul_add]
    rw [e4]
    omega
/-- a number from 2 on that no smaller number from 2 on divides -/
def prm (p : Nat) : Prop := 2 ≤ p ∧ ∀ d, 2 ≤ d → d < p → ¬ d ∣ p
theorem prm_cop {p a : Nat} (hp : prm p) (h : ¬ p ∣ a) : Nat.Coprime p a := by
  have h1 : Nat.gcd p a ∣ p := Nat.gcd_dvd_left p a
  have h2 : Nat.gcd p a ∣ a := Nat.gcd_dvd_right p a
  have h3 : Nat.gcd p a ≤ p := Nat.le_of_dvd (by have := hp.1; omega) h1
  rcases Nat.lt_or_ge (Nat.gcd p a) 2 with z | z
  · have h4 : 0 < Nat.gcd p a := Nat.gcd_pos_of_pos_left a (by have := hp.1; omega)
    show Nat.gcd p a = 1
    omega
  · rcases Nat.lt_or_eq_of_le h3 with w | w
    · exact absurd h1 (hp.2 _ z w)
    · exact absurd (w ▸ h2) h
theorem prm_mul {p a b : Nat} (hp : prm p) (h : p ∣ a * b) : p ∣ a ∨ p ∣ b := by
  by_cases z : p ∣ a
  · exact Or.inl z
  · exact Or.inr (Nat.Coprime.dvd_of_dvd_mul_left (prm_cop hp z) h)
theorem prm_chs {p k : Nat} (hp : prm p) (h0 : 0 < k) (h1 : k < p) : p ∣ chs p k := by
  obtain ⟨n, rfl⟩ : ∃ n, p = n + 1 := ⟨p - 1, by have := hp.1; omega⟩
  obtain ⟨j, rfl⟩ : ∃ j, k = j + 1 := ⟨k - 1, by omega⟩
  have h := chs_abs n j
  have h2 : n + 1 ∣ (j + 1) * chs (n + 1) (j + 1) := ⟨_, h⟩
  rcases prm_mul hp h2 with z | z
  · exact absurd (Nat.le_of_dvd (by omega) z) (by omega)
  · exact z
section
variable {A : Type}
/-- a natural number in a ring -/
def nr (R : Lean.Grind.CommRing A) : Nat → A
  | 0 => letI := R; 0
  | n + 1 => letI := R; nr R n + 1
theorem nr_add (R : Lean.Grind.CommRing A) (m n : Nat) : letI := R; nr R (m + n) = nr R m + nr R n := by
  letI := R
  induction n with
  | zero => show nr R m = nr R m + 0; grind
  | succ n ih => show nr R (m + n) + 1 = nr R m + (nr R n + 1); rw [ih]; grind
theorem nr_mul (R : Lean.Grind.CommRing A) (m n : Nat) : letI := R; nr R (m * n) = nr R m * nr R n := by
  letI := R
  induction n with
  | zero => show (0 : A) = nr R m * 0; grind
  | succ n ih => rw [Nat.mul_succ, nr_add R, ih]; show _ = nr R m * (nr R n + 1); grind
theorem pw_s (R : Lean.Grind.CommRing A) (x : A) (n : Nat) : letI := R; x ^ (n + 1) = x ^ n * x := by letI := R; exact Lean.Grind.Semiring.pow_succ x n
theorem pw_0 (R : Lean.Grind.CommRing A) (x : A) : letI := R; x ^ 0 = 1 := by letI := R; exact Lean.Grind.Semiring.pow_zero x
/-- the binomial sum -/
theorem bin_sum (R : Lean.Grind.CommRing A) (x y : A) (n : Nat) : letI := R; (x + y) ^ n = sm R (n + 1) (fun k => nr R (chs n k) * (x ^ k * y ^ (n - k))) := by
  letI := R
  induction n with
  | zero =>
    show (x + y) ^ 0 = 0 + nr R (chs 0 0) * (x ^ 0 * y ^ (0 - 0))
    rw [pw_0 R, show (0 - 0 : Nat) = 0 from rfl, pw_0 R, pw_0 R]
    show (1 : A) = 0 + (0 + 1) * (1 * 1)
    grind
  | succ n ih =>
    rw [pw_s R, ih]
    have e1 : sm R (n + 1 + 1) (fun k => nr R (chs (n + 1) k) * (x ^ k * y ^ (n + 1 - k))) = y ^ (n + 1) + sm R (n + 1) (fun k => nr R (chs n k + chs n (k + 1)) * (x ^ (k + 1) * y ^ (n - k))) := by
      rw [sm_front R]
      have e : sm R (n + 1) (fun i => nr R (chs (n + 1) (i + 1)) * (x ^ (i + 1) * y ^ (n + 1 - (i + 1)))) = sm R (n + 1) (fun k => nr R (chs n k + chs n (k + 1)) * (x ^ (k + 1) * y ^ (n - k))) := sm_congr R (fun i hi => by
        rw [show n + 1 - (i + 1) = n - i by omega]
        rfl)
      rw [e, chs_0, pw_0 R, Nat.sub_zero]
      show (0 + 1) * (1 * y ^ (n + 1)) + _ = _
      grind
    have e2 : sm R (n + 1) (fun k => nr R (chs n k + chs n (k + 1)) * (x ^ (k + 1) * y ^ (n - k))) = sm R (n + 1) (fun k => nr R (chs n k) * (x ^ (k + 1) * y ^ (n - k))) + sm R (n + 1) (fun k => nr R (chs n (k + 1)) * (x ^ (k + 1) * y ^ (n - k))) := by
      rw [← sm_add R]
      refine sm_congr R (fun i hi => ?_)
      rw [nr_add R]
      grind
    have e3 : sm R (n + 1) (fun k => nr R (chs n k) * (x ^ (k + 1) * y ^ (n - k))) = sm R (n + 1) (fun k => nr R (chs n k) * (x ^ k * y ^ (n - k))) * x := by
      rw [← sm_mulr R]
      refine sm_congr R (fun i hi => ?_)
      rw [pw_s R]
      grind
    have e4 : y ^ (n + 1) + sm R (n + 1) (fun k => nr R (chs n (k + 1)) * (x ^ (k + 1) * y ^ (n - k))) = sm R (n + 1) (fun k => nr R (chs n k) * (x ^ k * y ^ (n - k))) * y := by
      have f1 : sm R (n + 1) (fun k => nr R (chs n (k + 1)) * (x ^ (k + 1) * y ^ (n - k))) = sm R n (fun k => nr R (chs n (k + 1)) * (x ^ (k + 1) * y ^ (n - k))) := by
        show sm R n _ + nr R (chs n (n + 1)) * (x ^ (n + 1) * y ^ (n - n)) = _
        rw [chs_big (Nat.lt_succ_self n)]
        show _ + 0 * _ = _
        grind
      have f2 : sm R n (fun i => nr R (chs n (i + 1)) * (x ^ (i + 1) * y ^ (n - (i + 1))) * y) = sm R n (fun k => nr R (chs n (k + 1)) * (x ^ (k + 1) * y ^ (n - k))) := sm_congr R (fun i hi => by
        rw [show n - i = n - (i + 1) + 1 by omega, pw_s R y]
        grind)
      have f3 : sm R (n + 1) (fun i => nr R (chs n i) * (x ^ i * y ^ (n - i)) * y) = nr R (chs n 0) * (x ^ 0 * y ^ (n - 0)) * y + sm R n (fun i => nr R (chs n (i + 1)) * (x ^ (i + 1) * y ^ (n - (i + 1))) * y) := sm_front R n _
      rw [← sm_mulr R, f3, f1, f2, chs_0, pw_0 R, Nat.sub_zero, pw_s R]
      show _ = (0 + 1) * (1 * y ^ n) * y + _
      grind
    rw [e1, e2, e3]
    generalize sm R (n + 1) (fun k => nr R (chs n k) * (x ^ k * y ^ (n - k))) = S at e4 ⊢
    grind
/-- Frobenius: where p is a prime and 0, the p-th power of a sum -/
theorem frob (R : Lean.Grind.CommRing A) {p : Nat} (hp : prm p) (h0 : letI := R; nr R p = 0) (x y : A) : letI := R; (x + y) ^ p = x ^ p + y ^ p := by
  letI := R
  rw [bin_sum R]
  obtain ⟨n, rfl⟩ : ∃ n, p = n + 1 := ⟨p - 1, by have := hp.1; omega⟩
  show sm R (n + 1) _ + nr R (chs (n + 1) (n + 1)) * (x ^ (n + 1) * y ^ (n + 1 - (n + 1))) = _
  rw [sm_front R n]
  have e : sm R n (fun i => nr R (chs (n + 1) (i + 1)) * (x ^ (i + 1) * y ^ (n + 1 - (i + 1)))) = 0 := sm_zero R (fun i hi => by
    obtain ⟨c, hc⟩ := prm_chs hp (show 0 < i + 1 by omega) (show i + 1 < n + 1 by omega)
    rw [hc, nr_mul R, h0]
    grind)
  rw [e, chs_0, chs_self, pw_0 R, show n + 1 - (n + 1) = 0 by omega, pw_0 R, Nat.sub_zero]
  show (0 + 1) * (1 * y ^ (n + 1)) + 0 + (0 + 1) * (x ^ (n + 1) * 1) = _
  grind
end
