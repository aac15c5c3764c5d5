/-! greatest common divisors, congruences -/
section
variable {p : Nat}
theorem dgi_dl2 (h : prm p) {f : Px p} (hf : po (fR h) f) {d : Int} (hd : dgi h f < d) : dl (fR h) f d.toNat := dl_mono (dgi_dl h hf) (by have := dgi_ge h hf; omega)
theorem dl_po {K : Type} {R : Lean.Grind.CommRing K} {f : Nat → K} {n : Nat} (h : dl R f n) : po R f := ⟨n, h⟩
theorem sub_dgi (h : prm p) {f g : Px p} (hf : po (fR h) f) (hg : po (fR h) g) {d : Int} (h1 : dgi h f ≤ d) (h2 : dgi h g ≤ d) : letI := pR h; dgi h (f - g) ≤ d := by
  letI := pR h
  have a1 := dgi_ge h hf
  have : dl (fR h) (f - g) (d + 1).toNat := fun k hk => by
    letI := fR h
    show f k - g k = 0
    rw [dgi_dl h hf k (by omega), dgi_dl h hg k (by omega)]; grind
  have := dgi_le h this
  omega
theorem add_dgi (h : prm p) {f g : Px p} (hf : po (fR h) f) (hg : po (fR h) g) {d : Int} (h1 : dgi h f ≤ d) (h2 : dgi h g ≤ d) : letI := pR h; dgi h (f + g) ≤ d := by
  letI := pR h
  have a1 := dgi_ge h hf
  have : dl (fR h) (f + g) (d + 1).toNat := fun k hk => by
    letI := fR h
    show f k + g k = 0
    rw [dgi_dl h hf k (by omega), dgi_dl h hg k (by omega)]; grind
  have := dgi_le h this
  omega
theorem dgi_1 (h : prm p) : letI := pR h; dgi h (1 : Px p) = 0 := dgi_of h (one_dg (fld_p h))
/-- 0, or its leading number is 1 -/
def mnc (h : prm p) (f : Px p) : Prop := letI := fR h; dgi h f < 0 ∨ f (dgi h f).toNat = 1
theorem mon_dgi (h : prm p) {f : Px p} (hf : po (fR h) f) : dgi h (mon h f) = dgi h f := by
  rcases Int.lt_or_le (dgi h f) 0 with z | z
  · rw [mon_0 h hf z]
  · have := ld_in h hf z
    have e := mul_dgi h (cz_po h (zi h (ivr p (ld h f)))) hf
    rw [cz_dgi h (iv_ne h this.1 this.2), if_neg (by omega)] at e
    exact e.trans (by omega)
theorem mon_po (h : prm p) {f : Px p} (hf : po (fR h) f) : po (fR h) (mon h f) := mul_po (cz_po h _) hf
theorem mon_mnc (h : prm p) {f : Px p} (hf : po (fR h) f) : mnc h (mon h f) := by
  rcases Int.lt_or_le (dgi h f) 0 with z | z
  · exact Or.inl (by rw [mon_dgi h hf]; exact z)
  · refine Or.inr ?_
    rw [mon_dgi h hf]
    have h1 := ld_in h hf z
    letI := fR h
    show zmul (fR h) (zc (fR h) (zi h (ivr p (ld h f)))) f (dgi h f).toNat = 1
    rw [zmul_c]
    have h2 := ivr_zi h h1.1 h1.2
    have h3 := cf_zi h f (dgi h f).toNat
    rw [show (((dgi h f).toNat : Nat) : Int) = dgi h f by omega] at h3
    rw [← h3]
    exact h2
theorem mon_id (h : prm p) {f : Px p} (hf : po (fR h) f) (hm : mnc h f) : mon h f = f := by
  letI := fR h
  rcases hm with z | z
  · exact mon_0 h hf z
  · rcases Int.lt_or_le (dgi h f) 0 with y | y
    · exact mon_0 h hf y
    · have e : ld h f = 1 := by
        unfold ld cf
        rw [if_pos y, z]
        exact f_one h
      refine funext fun k => ?_
      show zmul (fR h) (zc (fR h) (zi h (ivr p (ld h f)))) f k = f k
      rw [zmul_c, e, show ivr p 1 = 1 from rfl, zi_1 h]
      grind
theorem dv_mon (h : prm p) {f : Px p} : dv (fR h) f (mon h f) := ⟨_, cz_po h _, rfl⟩
theorem mon_dv (h : prm p) {f : Px p} (hf : po (fR h) f) : dv (fR h) (mon h f) f := by
  rcases Int.lt_or_le (dgi h f) 0 with z | z
  · rw [mon_0 h hf z]; exact dv_rf _ _
  · have h1 := ld_in h hf z
    refine ⟨cz h (zi h (ld h f)), cz_po h _, ?_⟩
    refine funext fun k => ?_
    letI := fR h
    show f k = zmul (fR h) (zc (fR h) (zi h (ld h f))) (zmul (fR h) (zc (fR h) (zi h (ivr p (ld h f)))) f) k
    rw [zmul_c, zmul_c]
    have := ivr_zi h h1.1 h1.2
    grind
theorem dv_dv (h : prm p) {a b : Px p} (ha : po (fR h) a) (hb : po (fR h) b) (h1 : dv (fR h) a b) (h2 : dv (fR h) b a) (m1 : mnc h a) (m2 : mnc h b) : a = b := by
  letI := pR h
  rcases Int.lt_or_le (dgi h a) 0 with z | z
  · obtain ⟨q, hq, e⟩ := h1
    have e2 := dgi_z h ha z
    rw [e, e2]
    show (0 : Px p) = q * 0
    grind
  · rcases Int.lt_or_le (dgi h b) 0 with y | y
    · obtain ⟨q, hq, e⟩ := h2
      have e2 := dgi_z h hb y
      rw [e, e2]
      show q * 0 = (0 : Px p)
      grind
    · have d1 := dv_deg (fld_p h) (dgi_dg h ha z) (dgi_dg h hb y) h1
      have d2 := dv_deg (fld_p h) (dgi_dg h hb y) (dgi_dg h ha z) h2
      have hde : dgi h b = dgi h a := by omega
      obtain ⟨q, hq, e⟩ := h1
      have hqd : dgi h q = 0 := by
        have h3 : dgi h (zmul (fR h) q a) = _ := mul_dgi h hq ha
        have h4 : dgi h (zmul (fR h) q a) = dgi h a := by rw [← e, hde]
        rw [h4] at h3
        have := dgi_ge h hq
        split at h3 <;> omega
      have hqc := dgi_dl h hq
      rw [hqd] at hqc
      letI := fR h
      have ta := m1.resolve_left (by omega)
      have tb := m2.resolve_left (by omega)
      have tt := mul_top (fR h) (n := 0) (m := (dgi h a).toNat) (f := q) (g := a) (fun k hk => hqc k (by omega)) (dgi_dg h ha z).2
      rw [Nat.zero_add, ← e, ta] at tt
      rw [hde, tt] at tb
      have q1 : q = zc (fR h) 1 := funext fun k => by
        show q k = if k = 0 then 1 else 0
        by_cases x : k = 0
        · rw [if_pos x, x]; grind
        · rw [if_neg x]; exact hqc k (by omega)
      rw [e, q1, zmul_one]
/-- the greatest common divisor -/
def isG (h : prm p) (f g d : Px p) : Prop := letI := pR h; po (fR h) d ∧ dv (fR h) d f ∧ dv (fR h) d g ∧ (∃ u v, po (fR h) u ∧ po (fR h) v ∧ d = u * f + v * g) ∧ mnc h d
noncomputable def gP (h : prm p) (f g : Px p) : Px p := @Classical.epsilon (Px p) ⟨fun _ => zi h 0⟩ (isG h f g)
theorem gP_sp (h : prm p) {f g : Px p} (hf : po (fR h) f) (hg : po (fR h) g) : isG h f g (gP h f g) := by
  letI := pR h
  refine Classical.epsilon_spec (p := isG h f g) ?_
  obtain ⟨m, hm⟩ := hg
  obtain ⟨d, u, v, a1, a2, a3, a4, a5, a6⟩ := bezout (fld_p h) m f g hf hm
  refine ⟨mon h d, mon_po h a1, dv_tr (mon_dv h a1) a5, dv_tr (mon_dv h a1) a6, ⟨cz h (zi h (ivr p (ld h d))) * u, cz h (zi h (ivr p (ld h d))) * v, mul_po (cz_po h _) a2, mul_po (cz_po h _) a3, ?_⟩, mon_mnc h a1⟩
  show cz h (zi h (ivr p (ld h d))) * d = _
  generalize cz h (zi h (ivr p (ld h d))) = c
  rw [a4]
  grind
theorem gP_un (h : prm p) {f g d : Px p} (hf : po (fR h) f) (hg : po (fR h) g) (hd : isG h f g d) : d = gP h f g := by
  letI := pR h
  have h2 := gP_sp h hf hg
  have key : ∀ {d e : Px p}, isG h f g d → isG h f g e → dv (fR h) d e := fun {d e} x y => by
    obtain ⟨_, x2, x3, _, _⟩ := x
    obtain ⟨_, _, _, ⟨u, v, hu, hv, e1⟩, _⟩ := y
    rw [e1]
    exact dv_add (dv_mul u hu x2) (dv_mul v hv x3)
  exact dv_dv h hd.1 h2.1 (key hd h2) (key h2 hd) hd.2.2.2.2 h2.2.2.2.2
theorem gP_po (h : prm p) {f g : Px p} (hf : po (fR h) f) (hg : po (fR h) g) : po (fR h) (gP h f g) := (gP_sp h hf hg).1
theorem gP_step (h : prm p) {f g : Px p} (hf : po (fR h) f) (hg : po (fR h) g) (hd : 0 ≤ dgi h g) : gP h g (rm h f g) = gP h f g := by
  letI := pR h
  have hr := rm_po h hf hg hd
  obtain ⟨hq, e, _⟩ := qr_sp h hf hg hd
  obtain ⟨a1, a2, a3, ⟨u, v, hu, hv, a4⟩, a5⟩ := gP_sp h hf hg
  refine (gP_un h hg hr ⟨a1, a3, ?_, ⟨u * qt h f g + v, u, add_po (mul_po hu hq) hv, hu, ?_⟩, a5⟩).symm
  · have : rm h f g = f - qt h f g * g := by
      have e2 := e
      generalize qt h f g * g = x at *
      grind
    rw [this]
    exact dv_sub a2 (dv_mul _ hq a3)
  · rw [a4]
    have e2 : u * f = u * (qt h f g * g + rm h f g) := congrArg (u * ·) e
    rw [e2]
    generalize rm h f g = r
    generalize qt h f g = q
    grind
theorem gP_0 (h : prm p) {f g : Px p} (hf : po (fR h) f) (hg : po (fR h) g) (hd : dgi h g < 0) : gP h f g = mon h f := by
  letI := pR h
  refine (gP_un h hf hg ⟨mon_po h hf, mon_dv h hf, ?_, ⟨cz h (zi h (ivr p (ld h f))), 0, cz_po h _, zero_po _, ?_⟩, mon_mnc h hf⟩).symm
  · rw [dgi_z h hg hd]; exact dv_0 _ _
  · show cz h (zi h (ivr p (ld h f))) * f = _
    generalize cz h (zi h (ivr p (ld h f))) = c
    grind
theorem gP_dl (h : prm p) {f g : Px p} (hf : po (fR h) f) (hg : po (fR h) g) {n : Int} (h1 : dgi h f < n) (h2 : dgi h g < n) (hn : 0 ≤ n) : dgi h (gP h f g) < n := by
  letI := pR h
  obtain ⟨a1, a2, a3, a4, a5⟩ := gP_sp h hf hg
  rcases Int.lt_or_le (dgi h (gP h f g)) 0 with z | z
  · omega
  · rcases Int.lt_or_le (dgi h f) 0 with y | y
    · rcases Int.lt_or_le (dgi h g) 0 with x | x
      · rw [gP_0 h hf hg x, mon_dgi h hf]; exact h1
      · have := dv_deg (fld_p h) (dgi_dg h a1 z) (dgi_dg h hg x) a3
        omega
    · have := dv_deg (fld_p h) (dgi_dg h a1 z) (dgi_dg h hf y) a2
      omega
/-- the rest: congruent, of lesser degree -/
theorem rm_eq (h : prm p) {f g r : Px p} (hf : po (fR h) f) (hg : po (fR h) g) (hd : 0 ≤ dgi h g) (hr : po (fR h) r) (hl : dgi h r < dgi h g) (e : letI := pR h; dv (fR h) g (f - r)) : r = rm h f g := by
  letI := pR h
  obtain ⟨q, hq, e1⟩ := e
  refine (qr_un h hf hg hd hq ?_ (dgi_dl2 h hr hl)).2
  have e2 : f - r = q * g := e1
  generalize q * g = x at *
  grind
theorem rm_dv (h : prm p) {f g : Px p} (hf : po (fR h) f) (hg : po (fR h) g) (hd : 0 ≤ dgi h g) : letI := pR h; dv (fR h) g (f - rm h f g) := by
  letI := pR h
  obtain ⟨a, b, c⟩ := qr_sp h hf hg hd
  refine ⟨qt h f g, a, ?_⟩
  show f - rm h f g = qt h f g * g
  generalize qt h f g * g = x at *
  grind
theorem rm_cg (h : prm p) {f f2 g : Px p} (hf : po (fR h) f) (hf2 : po (fR h) f2) (hg : po (fR h) g) (hd : 0 ≤ dgi h g) (e : letI := pR h; dv (fR h) g (f - f2)) : rm h f g = rm h f2 g := by
  letI := pR h
  refine rm_eq h hf2 hg hd (rm_po h hf hg hd) (rm_lt h hf hg hd) ?_
  have := dv_sub (rm_dv h hf hg hd) e
  have e2 : f - rm h f g - (f - f2) = f2 - rm h f g := by generalize rm h f g = x; grind
  rw [e2] at this
  exact this
theorem dv_neg (h : prm p) {g a b : Px p} (e : letI := pR h; dv (fR h) g (a - b)) : letI := pR h; dv (fR h) g (b - a) := by
  letI := pR h
  have := dv_sub (dv_0 (fR h) g) e
  have e2 : (0 : Px p) - (a - b) = b - a := by grind
  rw [e2] at this
  exact this
theorem rm_small (h : prm p) {f g : Px p} (hf : po (fR h) f) (hg : po (fR h) g) (hd : dgi h f < dgi h g) : rm h f g = f := by
  letI := pR h
  refine (rm_eq h hf hg (by have := dgi_ge h hf; omega) hf hd ?_).symm
  have e2 : f - f = (0 : Px p) := by grind
  rw [e2]; exact dv_0 _ _
theorem rm_mul (h : prm p) {a b g : Px p} (ha : po (fR h) a) (hb : po (fR h) b) (hg : po (fR h) g) (hd : 0 ≤ dgi h g) : letI := pR h; rm h (rm h a g * rm h b g) g = rm h (a * b) g := by
  letI := pR h
  have ra := rm_po h ha hg hd
  have rb := rm_po h hb hg hd
  refine (rm_cg h (mul_po ha hb) (mul_po ra rb) hg hd ?_).symm
  have h1 := dv_mul (rm h b g) rb (rm_dv h ha hg hd)
  have h2 := dv_mul a ha (rm_dv h hb hg hd)
  have h3 := dv_add h1 h2
  have e : zmul (fR h) (rm h b g) (a - rm h a g) + zmul (fR h) a (b - rm h b g) = a * b - rm h a g * rm h b g := by
    show rm h b g * (a - rm h a g) + a * (b - rm h b g) = _
    generalize rm h b g = x
    generalize rm h a g = y
    grind
  rw [e] at h3
  exact h3
theorem rm_mon (h : prm p) {f g : Px p} (hf : po (fR h) f) (hg : po (fR h) g) (hd : 0 ≤ dgi h g) : rm h f (mon h g) = rm h f g := by
  letI := pR h
  have hm := mon_po h hg
  have hdm := mon_dgi h hg
  exact rm_eq h hf hg hd (rm_po h hf hm (by omega)) (by have := rm_lt h hf hm (by omega); omega) (dv_tr (dv_mon h) (rm_dv h hf hm (by omega)))
theorem rm_dvz (h : prm p) {f g : Px p} (hf : po (fR h) f) (hg : po (fR h) g) (hd : 0 ≤ dgi h g) : dgi h (rm h f g) < 0 ↔ dv (fR h) g f := by
  letI := pR h
  constructor
  · intro z
    have e := dgi_z h (rm_po h hf hg hd) z
    have := rm_dv h hf hg hd
    rw [e] at this
    have e2 : f - 0 = f := by grind
    rw [e2] at this
    exact this
  · intro z
    have e2 : f - 0 = f := by grind
    have : (0 : Px p) = rm h f g := rm_eq h hf hg hd (zero_po _) (by rw [dgi_0]; omega) (by rw [e2]; exact z)
    rw [← this, dgi_0]; omega
theorem qt_dgi (h : prm p) {f g : Px p} (hf : po (fR h) f) (hg : po (fR h) g) (hd : 0 ≤ dgi h g) : (dgi h f < dgi h g ∧ dgi h (qt h f g) = -1) ∨ (dgi h g ≤ dgi h f ∧ dgi h (qt h f g) = dgi h f - dgi h g) := by
  letI := pR h
  obtain ⟨a, b, c⟩ := qr_sp h hf hg hd
  have hl := rm_lt h hf hg hd
  have hr := rm_po h hf hg hd
  have m := mul_dgi h a hg
  have ga := dgi_ge h a
  have gf := dgi_ge h hf
  rcases Int.lt_or_le (dgi h (qt h f g)) 0 with z | z
  · left
    rw [dgi_z h a z] at b
    have e2 : f = rm h f g := by
      generalize rm h f g = x at *
      grind
    refine ⟨by rw [e2]; exact hl, by omega⟩
  · right
    rw [if_neg (by omega)] at m
    have e2 : qt h f g * g = f - rm h f g := by
      generalize qt h f g * g = x at *
      generalize rm h f g = y at *
      grind
    have h3 : dgi h (qt h f g) + dgi h g ≤ dgi h f := by
      rcases Int.lt_or_le (dgi h f) (dgi h (qt h f g) + dgi h g) with y | y
      · have := sub_dgi h hf hr (d := dgi h (qt h f g) + dgi h g - 1) (by omega) (by omega)
        rw [← e2, m] at this
        omega
      · exact y
    have h4 : dgi h f ≤ dgi h (qt h f g) + dgi h g := by
      have h5 := add_dgi h (mul_po a hg) hr (d := dgi h (qt h f g) + dgi h g) (Int.le_of_eq m) (by omega)
      have h6 : dgi h (zmul (fR h) (qt h f g) g + rm h f g) = dgi h f := congrArg (dgi h) b.symm
      omega
    exact ⟨by omega, by omega⟩
/-- inverses modulo b -/
def isI (h : prm p) (a b x : Px p) : Prop := letI := pR h; po (fR h) x ∧ dgi h x < dgi h b ∧ dv (fR h) b (a * x - 1)
noncomputable def ivM (h : prm p) (a b : Px p) : Px p := @Classical.epsilon (Px p) ⟨fun _ => zi h 0⟩ (isI h a b)
theorem ivM_un (h : prm p) {a b x : Px p} (ha : po (fR h) a) (hb : po (fR h) b) (hd : 0 ≤ dgi h b) (hx : isI h a b x) : x = ivM h a b := by
  letI := pR h
  have hy : isI h a b (ivM h a b) := Classical.epsilon_spec (p := isI h a b) ⟨x, hx⟩
  obtain ⟨x1, x2, x3⟩ := hx
  obtain ⟨y1, y2, y3⟩ := hy
  generalize ivM h a b = y at *
  have h1 := dv_sub (dv_mul x x1 y3) (dv_mul y y1 x3)
  have e : zmul (fR h) x (a * y - 1) - zmul (fR h) y (a * x - 1) = y - x := by
    show x * (a * y - 1) - y * (a * x - 1) = _
    grind
  rw [e] at h1
  have h2 := rm_small h x1 hb x2
  rw [← h2, ← rm_small h y1 hb y2]
  exact (rm_cg h y1 x1 hb hd h1).symm
end
