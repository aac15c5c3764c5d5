/-! polynomials over a field, among the power series -/
section
variable {K : Type}
/-- all numbers from n on are 0 -/
def dl (R : Lean.Grind.CommRing K) (f : Nat → K) (n : Nat) : Prop := letI := R; ∀ k, n ≤ k → f k = 0
/-- of degree n -/
def dg (R : Lean.Grind.CommRing K) (f : Nat → K) (n : Nat) : Prop := letI := R; f n ≠ 0 ∧ dl R f (n + 1)
def po (R : Lean.Grind.CommRing K) (f : Nat → K) : Prop := ∃ n, dl R f n
/-- a field: each number that is not 0 has an inverse; and 1 is not 0 -/
def fld (R : Lean.Grind.CommRing K) : Prop := letI := R; (∀ a : K, a ≠ 0 → ∃ b, a * b = 1) ∧ (1 : K) ≠ 0
theorem fld_dom {R : Lean.Grind.CommRing K} (hf : fld R) {a b : K} (ha : letI := R; a ≠ 0) (hb : letI := R; b ≠ 0) : letI := R; a * b ≠ 0 := by
  letI := R
  intro e
  obtain ⟨c, hc⟩ := hf.1 a ha
  exact hb (by grind)
theorem dl_mono {R : Lean.Grind.CommRing K} {f : Nat → K} {n m : Nat} (h : dl R f n) (hm : n ≤ m) : dl R f m := fun k hk => h k (by omega)
theorem sm_one (R : Lean.Grind.CommRing K) {n j : Nat} {F : Nat → K} (hj : j < n) (h : letI := R; ∀ i, i < n → i ≠ j → F i = 0) : sm R n F = F j := by
  letI := R
  induction n with
  | zero => omega
  | succ n ih =>
    show sm R n F + F n = F j
    rcases Nat.lt_or_eq_of_le (show j ≤ n by omega) with z | z
    · rw [ih z (fun i hi hn => h i (by omega) hn), h n (by omega) (by omega)]
      grind
    · subst z
      rw [sm_zero R (fun i hi => h i (by omega) (by omega))]
      grind
theorem mul_top (R : Lean.Grind.CommRing K) {f g : Nat → K} {n m : Nat} (hf : dl R f (n + 1)) (hg : dl R g (m + 1)) : letI := R; zmul R f g (n + m) = f n * g m := by
  letI := R
  show sm R (n + m + 1) (fun i => f i * g (n + m - i)) = f n * g m
  rw [sm_one R (j := n) (by omega) (fun i hi hn => ?_)]
  · rw [show n + m - n = m by omega]
  · rcases Nat.lt_or_ge i n with z | z
    · rw [hg (n + m - i) (by omega)]; grind
    · rw [hf i (by omega)]; grind
theorem mul_dl (R : Lean.Grind.CommRing K) {f g : Nat → K} {n m : Nat} (hf : dl R f (n + 1)) (hg : dl R g (m + 1)) : dl R (zmul R f g) (n + m + 1) := by
  letI := R
  intro k hk
  show sm R (k + 1) (fun i => f i * g (k - i)) = 0
  refine sm_zero R (fun i hi => ?_)
  rcases Nat.lt_or_ge n i with z | z
  · rw [hf i (by omega)]; grind
  · rw [hg (k - i) (by omega)]; grind
theorem mul_dg {R : Lean.Grind.CommRing K} (hF : fld R) {f g : Nat → K} {n m : Nat} (hf : dg R f n) (hg : dg R g m) : dg R (zmul R f g) (n + m) :=
  ⟨by rw [mul_top R hf.2 hg.2]; exact fld_dom hF hf.1 hg.1, mul_dl R hf.2 hg.2⟩
theorem mul_po {R : Lean.Grind.CommRing K} {f g : Nat → K} (hf : po R f) (hg : po R g) : po R (zmul R f g) := by
  obtain ⟨n, hn⟩ := hf
  obtain ⟨m, hm⟩ := hg
  exact ⟨_, mul_dl R (dl_mono hn (Nat.le_succ n)) (dl_mono hm (Nat.le_succ m))⟩
theorem add_po {R : Lean.Grind.CommRing K} {f g : Nat → K} (hf : po R f) (hg : po R g) : letI := zR R; po R (f + g) := by
  letI := R
  obtain ⟨n, hn⟩ := hf
  obtain ⟨m, hm⟩ := hg
  refine ⟨n + m, fun k hk => ?_⟩
  show f k + g k = 0
  rw [hn k (by omega), hm k (by omega)]
  grind
theorem sub_po {R : Lean.Grind.CommRing K} {f g : Nat → K} (hf : po R f) (hg : po R g) : letI := zR R; po R (f - g) := by
  letI := R
  obtain ⟨n, hn⟩ := hf
  obtain ⟨m, hm⟩ := hg
  refine ⟨n + m, fun k hk => ?_⟩
  show f k - g k = 0
  rw [hn k (by omega), hm k (by omega)]
  grind
theorem zero_po (R : Lean.Grind.CommRing K) : letI := zR R; po R (0 : Nat → K) := ⟨0, fun k _ => by
  letI := R
  show (if k = 0 then (0 : K) else 0) = 0
  split <;> rfl⟩
theorem one_po (R : Lean.Grind.CommRing K) : letI := zR R; po R (1 : Nat → K) := ⟨1, fun k hk => by
  letI := R
  show (if k = 0 then (1 : K) else 0) = 0
  rw [if_neg (by omega)]⟩
theorem zero_k (R : Lean.Grind.CommRing K) (k : Nat) : letI := R; letI := zR R; (0 : Nat → K) k = 0 := by
  letI := R
  show (if k = 0 then (0 : K) else 0) = 0
  split <;> rfl
/-- a polynomial is 0 or has a degree -/
theorem po_dg {R : Lean.Grind.CommRing K} {f : Nat → K} (hf : po R f) : letI := zR R; f = 0 ∨ ∃ n, dg R f n := by
  letI := R
  obtain ⟨n, hn⟩ := hf
  induction n with
  | zero => exact Or.inl (funext fun k => (hn k (by omega)).trans (zero_k R k).symm)
  | succ n ih =>
    by_cases z : f n = 0
    · exact ih (fun k hk => by
        rcases Nat.lt_or_eq_of_le hk with w | w
        · exact hn k w
        · rw [← w]; exact z)
    · exact Or.inr ⟨n, z, hn⟩
theorem dg_ne {R : Lean.Grind.CommRing K} {f : Nat → K} {n : Nat} (h : dg R f n) : letI := zR R; f ≠ 0 := by
  letI := R
  intro e
  refine h.1 ?_
  rw [e]
  exact zero_k R n
theorem dg_un {R : Lean.Grind.CommRing K} {f : Nat → K} {n m : Nat} (h : dg R f n) (h2 : dg R f m) : n = m := by
  rcases Nat.lt_trichotomy n m with z | z | z
  · exact absurd (h.2 m (by omega)) h2.1
  · exact z
  · exact absurd (h2.2 n (by omega)) h.1
/-- c x^k -/
def xm (R : Lean.Grind.CommRing K) (c : K) (k : Nat) : Nat → K := letI := R; fun i => if i = k then c else 0
theorem xm_mul (R : Lean.Grind.CommRing K) (c : K) (k : Nat) (g : Nat → K) (i : Nat) : letI := R; zmul R (xm R c k) g i = if k ≤ i then c * g (i - k) else 0 := by
  letI := R
  show sm R (i + 1) (fun j => (if j = k then c else 0) * g (i - j)) = _
  by_cases z : k ≤ i
  · rw [if_pos z, sm_one R (j := k) (by omega) (fun j hj hn => by rw [if_neg hn]; grind), if_pos rfl]
  · rw [if_neg z]
    exact sm_zero R (fun j hj => by rw [if_neg (by omega)]; grind)
theorem xm_po (R : Lean.Grind.CommRing K) (c : K) (k : Nat) : po R (xm R c k) := ⟨k + 1, fun i hi => by
  letI := R
  show (if i = k then c else 0) = 0
  rw [if_neg (by omega)]⟩
/-- division with a rest -/
theorem div_ex {R : Lean.Grind.CommRing K} (hF : fld R) {g : Nat → K} {m : Nat} (hg : dg R g m) : letI := zR R; ∀ (n : Nat) (f : Nat → K), dl R f n → ∃ q r : Nat → K, po R q ∧ f = q * g + r ∧ dl R r m := by
  letI := R
  obtain ⟨b, hb⟩ := hF.1 (g m) hg.1
  intro n
  induction n with
  | zero =>
    intro f hf
    refine ⟨_, f, zero_po R, ?_, fun k hk => hf k (by omega)⟩
    letI := zR R
    grind
  | succ n ih =>
    intro f hf
    rcases Nat.lt_or_ge n m with z | z
    · refine ⟨_, f, zero_po R, ?_, fun k hk => hf k (by omega)⟩
      letI := zR R
      grind
    · have hf2 : letI := zR R; dl R (f - xm R (f n * b) (n - m) * g) n := by
        intro k hk
        show f k - zmul R (xm R (f n * b) (n - m)) g k = 0
        rw [xm_mul R, if_pos (by omega)]
        rcases Nat.lt_or_eq_of_le hk with w | w
        · rw [hf k w, hg.2 (k - (n - m)) (by omega)]; grind
        · subst w
          rw [show n - (n - m) = m by omega]
          grind
      obtain ⟨q, r, hq, e, hr⟩ := ih _ hf2
      refine ⟨_, r, add_po hq (xm_po R (f n * b) (n - m)), ?_, hr⟩
      letI := zR R
      generalize xm R (f n * b) (n - m) = x at e ⊢
      grind
/-- .. and only one -/
theorem div_un {R : Lean.Grind.CommRing K} (hF : fld R) {g q r q2 r2 : Nat → K} {m : Nat} (hg : dg R g m) (hq : po R q) (hq2 : po R q2) (hr : dl R r m) (hr2 : dl R r2 m) (e : letI := zR R; q * g + r = q2 * g + r2) : q = q2 ∧ r = r2 := by
  letI := R
  have e1 : letI := zR R; (q - q2) * g = r2 - r := by
    letI := zR R
    grind
  have hd : letI := zR R; dl R (r2 - r) m := fun k hk => by
    show r2 k - r k = 0
    rw [hr k hk, hr2 k hk]
    grind
  have hz : letI := zR R; q - q2 = 0 := by
    rcases po_dg (sub_po hq hq2) with z | ⟨n, hn⟩
    · exact z
    · have h1 := mul_dg hF hn hg
      have h2 : zmul R (letI := zR R; q - q2) g (n + m) ≠ 0 := h1.1
      exact absurd (by
        have e2 : zmul R (letI := zR R; q - q2) g = (letI := zR R; r2 - r) := e1
        rw [e2]
        exact hd (n + m) (by omega)) h2
  letI := zR R
  have hq3 : q = q2 := by grind
  refine ⟨hq3, ?_⟩
  subst hq3
  grind
end
