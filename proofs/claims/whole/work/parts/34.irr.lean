/-! divisors, Bezout, irreducible polynomials -/
section
variable {K : Type}
/-- f divides g, by a polynomial -/
def dv (R : Lean.Grind.CommRing K) (f g : Nat → K) : Prop := ∃ q, po R q ∧ g = zmul R q f
theorem dv_rf (R : Lean.Grind.CommRing K) (f : Nat → K) : dv R f f := ⟨_, one_po R, by
  letI := zR R
  show f = 1 * f
  grind⟩
theorem dv_tr {R : Lean.Grind.CommRing K} {f g h : Nat → K} (h1 : dv R f g) (h2 : dv R g h) : dv R f h := by
  obtain ⟨q, hq, rfl⟩ := h1
  obtain ⟨s, hs, rfl⟩ := h2
  exact ⟨_, mul_po hs hq, by rw [zmul_assoc]⟩
theorem dv_mul {R : Lean.Grind.CommRing K} {f g : Nat → K} (h : Nat → K) (hh : po R h) (h1 : dv R f g) : dv R f (zmul R h g) := by
  obtain ⟨q, hq, rfl⟩ := h1
  exact ⟨_, mul_po hh hq, by rw [zmul_assoc]⟩
theorem dv_mulr {R : Lean.Grind.CommRing K} {f g : Nat → K} (h : Nat → K) (hh : po R h) (h1 : dv R f g) : dv R f (zmul R g h) := by
  rw [zmul_comm]
  exact dv_mul h hh h1
theorem dv_l {R : Lean.Grind.CommRing K} {f g : Nat → K} (hg : po R g) : dv R f (zmul R f g) := ⟨g, hg, zmul_comm R f g⟩
theorem dv_r {R : Lean.Grind.CommRing K} {f g : Nat → K} (hg : po R g) : dv R f (zmul R g f) := ⟨g, hg, rfl⟩
theorem dv_add {R : Lean.Grind.CommRing K} {f g h : Nat → K} (h1 : dv R f g) (h2 : dv R f h) : letI := zR R; dv R f (g + h) := by
  obtain ⟨q, hq, rfl⟩ := h1
  obtain ⟨s, hs, rfl⟩ := h2
  letI := zR R
  exact ⟨q + s, add_po hq hs, by show q * f + s * f = (q + s) * f; grind⟩
theorem dv_sub {R : Lean.Grind.CommRing K} {f g h : Nat → K} (h1 : dv R f g) (h2 : dv R f h) : letI := zR R; dv R f (g - h) := by
  obtain ⟨q, hq, rfl⟩ := h1
  obtain ⟨s, hs, rfl⟩ := h2
  letI := zR R
  exact ⟨q - s, sub_po hq hs, by show q * f - s * f = (q - s) * f; grind⟩
theorem dv_0 (R : Lean.Grind.CommRing K) (f : Nat → K) : letI := zR R; dv R f 0 := ⟨_, zero_po R, by
  letI := zR R
  show 0 = 0 * f
  grind⟩
theorem dv_po {R : Lean.Grind.CommRing K} {f g : Nat → K} (hf : po R f) (h : dv R f g) : po R g := by
  obtain ⟨q, hq, rfl⟩ := h
  exact mul_po hq hf
/-- a divisor's degree -/
theorem dv_deg {R : Lean.Grind.CommRing K} (hF : fld R) {f g : Nat → K} {n m : Nat} (hf : dg R f n) (hg : dg R g m) (h : dv R f g) : n ≤ m := by
  obtain ⟨q, hq, rfl⟩ := h
  rcases po_dg hq with z | ⟨k, hk⟩
  · subst z
    refine absurd ?_ (dg_ne hg)
    letI := zR R
    show 0 * f = 0
    grind
  · have := dg_un (mul_dg hF hk hf) hg
    omega
/-- a polynomial of degree 0 divides 1 -/
theorem unit_of {R : Lean.Grind.CommRing K} (hF : fld R) {f : Nat → K} (hf : dg R f 0) : letI := zR R; dv R f 1 := by
  letI := R
  obtain ⟨b, hb⟩ := hF.1 (f 0) hf.1
  refine ⟨xm R b 0, xm_po R b 0, funext fun k => ?_⟩
  rw [xm_mul R, if_pos (Nat.zero_le k), Nat.sub_zero]
  show (if k = 0 then (1 : K) else 0) = _
  by_cases z : k = 0
  · subst z; rw [if_pos rfl]; grind
  · rw [if_neg z, hf.2 k (by omega)]; grind
theorem one_dg {R : Lean.Grind.CommRing K} (hF : fld R) : letI := zR R; dg R (1 : Nat → K) 0 := ⟨hF.2, fun k hk => by
  letI := R
  show (if k = 0 then (1 : K) else 0) = 0
  rw [if_neg (by omega)]⟩
theorem unit_deg {R : Lean.Grind.CommRing K} (hF : fld R) {f : Nat → K} (hp : po R f) (hf : letI := zR R; dv R f 1) : dg R f 0 := by
  rcases po_dg hp with z | ⟨k, hk⟩
  · subst z
    obtain ⟨q, -, e⟩ := hf
    refine absurd ?_ (dg_ne (one_dg hF))
    letI := zR R
    rw [e]
    show q * 0 = 0
    grind
  · have := dv_deg hF hk (one_dg hF) hf
    rw [show k = 0 by omega] at hk
    exact hk
/-- Bezout -/
theorem bezout {R : Lean.Grind.CommRing K} (hF : fld R) : letI := zR R; ∀ (m : Nat) (f g : Nat → K), po R f → dl R g m → ∃ d u v : Nat → K, po R d ∧ po R u ∧ po R v ∧ d = u * f + v * g ∧ dv R d f ∧ dv R d g := by
  intro m
  induction m using Nat.strongRecOn with
  | ind m ih =>
    intro f g hf hg
    rcases po_dg ⟨m, hg⟩ with z | ⟨k, hk⟩
    · refine ⟨f, _, _, hf, one_po R, zero_po R, ?_, dv_rf R f, z ▸ dv_0 R f⟩
      letI := zR R
      show f = 1 * f + 0 * g
      grind
    · have hkm : k < m := by
        rcases Nat.lt_or_ge k m with w | w
        · exact w
        · exact absurd (hg k w) hk.1
      obtain ⟨n, hn⟩ := hf
      obtain ⟨q, r, hq, e, hr⟩ := div_ex hF hk n f hn
      obtain ⟨d, u, v, hd, hu, hv, e2, h1, h2⟩ := ih k hkm g r ⟨m, hg⟩ hr
      letI := zR R
      refine ⟨d, v, u - v * q, hd, hv, sub_po hu (mul_po hv hq), by grind, ?_, h1⟩
      rw [e]
      exact dv_add (dv_mul q hq h1) h2
/-- irreducible -/
def irr (R : Lean.Grind.CommRing K) (f : Nat → K) : Prop := po R f ∧ (∃ n, 1 ≤ n ∧ dg R f n) ∧ ∀ a b, po R a → po R b → f = zmul R a b → dg R a 0 ∨ dg R b 0
theorem irr_prime {R : Lean.Grind.CommRing K} (hF : fld R) {f a b : Nat → K} (hf : irr R f) (ha : po R a) (hb : po R b) (h : dv R f (zmul R a b)) : dv R f a ∨ dv R f b := by
  obtain ⟨hp, ⟨n, hn1, hn⟩, hs⟩ := hf
  obtain ⟨m, hm⟩ := ha
  obtain ⟨d, u, v, hd, hu, hv, e, h1, h2⟩ := bezout hF m f a hp hm
  obtain ⟨c, hc, e2⟩ := h1
  rcases hs c d hc hd e2 with z | z
  · -- c is a unit: f divides d, so a
    left
    obtain ⟨i, hi, e3⟩ := unit_of hF z
    refine dv_tr ⟨i, hi, ?_⟩ h2
    letI := zR R
    have e4 : f = c * d := e2
    have e5 : (1 : Nat → K) = i * c := e3
    show d = i * f
    grind
  · right
    obtain ⟨i, hi, e3⟩ := unit_of hF z
    letI := zR R
    have e5 : (1 : Nat → K) = i * d := e3
    have e6 : b = (i * b) * (u * f) + (i * v) * (a * b) := by grind
    rw [e6]
    refine dv_add ?_ (dv_mul _ (mul_po hi hv) h)
    exact dv_mul _ (mul_po hi hb) (dv_mul u hu (dv_rf R f))
/-- coprime divisors together -/
theorem cop_mul {R : Lean.Grind.CommRing K} {f g h u v : Nat → K} (hu : po R u) (hv : po R v) (e : letI := zR R; u * f + v * g = 1) (h1 : dv R f h) (h2 : dv R g h) (hh : po R h) : dv R (zmul R f g) h := by
  obtain ⟨a, ha, e1⟩ := h1
  obtain ⟨b, hb, e2⟩ := h2
  letI := zR R
  have e3 : h = a * f := e1
  have e4 : h = b * g := e2
  refine ⟨u * b + v * a, add_po (mul_po hu hb) (mul_po hv ha), ?_⟩
  show h = (u * b + v * a) * (f * g)
  grind
/-- an irreducible one either divides or is coprime -/
theorem irr_cop {R : Lean.Grind.CommRing K} (hF : fld R) {f a : Nat → K} (hf : irr R f) (ha : po R a) : letI := zR R; dv R f a ∨ ∃ u v, po R u ∧ po R v ∧ u * f + v * a = 1 := by
  obtain ⟨hp, ⟨n, hn1, hn⟩, hs⟩ := hf
  obtain ⟨m, hm⟩ := ha
  obtain ⟨d, u, v, hd, hu, hv, e, h1, h2⟩ := bezout hF m f a hp hm
  obtain ⟨c, hc, e2⟩ := h1
  rcases hs c d hc hd e2 with z | z
  · left
    obtain ⟨i, hi, e3⟩ := unit_of hF z
    refine dv_tr ⟨i, hi, ?_⟩ h2
    letI := zR R
    have e4 : f = c * d := e2
    have e5 : (1 : Nat → K) = i * c := e3
    show d = i * f
    grind
  · right
    obtain ⟨i, hi, e3⟩ := unit_of hF z
    letI := zR R
    have e5 : (1 : Nat → K) = i * d := e3
    exact ⟨i * u, i * v, mul_po hi hu, mul_po hi hv, by grind⟩
/-- a polynomial of degree 1 or more has an irreducible divisor -/
theorem irr_ex {R : Lean.Grind.CommRing K} (hF : fld R) : ∀ (n : Nat) (f : Nat → K), po R f → 1 ≤ n → dg R f n → ∃ g, irr R g ∧ dv R g f := by
  intro n
  induction n using Nat.strongRecOn with
  | ind n ih =>
    intro f hp hn hf
    by_cases z : irr R f
    · exact ⟨f, z, dv_rf R f⟩
    · have h1 : ∃ a b, po R a ∧ po R b ∧ f = zmul R a b ∧ ¬ dg R a 0 ∧ ¬ dg R b 0 := by
        refine Classical.byContradiction fun w => z ⟨hp, ⟨n, hn, hf⟩, fun a b ha hb e => ?_⟩
        refine Classical.byContradiction fun y => w ⟨a, b, ha, hb, e, fun q => y (Or.inl q), fun q => y (Or.inr q)⟩
      obtain ⟨a, b, ha, hb, e, na, nb⟩ := h1
      rcases po_dg ha with z1 | ⟨i, hi⟩
      · refine absurd ?_ (dg_ne hf)
        subst z1
        letI := zR R
        rw [e]
        show 0 * b = 0
        grind
      · rcases po_dg hb with z2 | ⟨j, hj⟩
        · refine absurd ?_ (dg_ne hf)
          subst z2
          letI := zR R
          rw [e]
          show a * 0 = 0
          grind
        · have h2 := mul_dg hF hi hj
          rw [← e] at h2
          have h3 := dg_un h2 hf
          have hi0 : i ≠ 0 := fun q => na (q ▸ hi)
          have hj0 : j ≠ 0 := fun q => nb (q ▸ hj)
          obtain ⟨g, hg, hd⟩ := ih i (by omega) a ha (by omega) hi
          exact ⟨g, hg, dv_tr hd (e ▸ dv_l hb)⟩
end
