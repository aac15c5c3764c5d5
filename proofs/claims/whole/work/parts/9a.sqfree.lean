/-! how often an irreducible one divides; the square-free step -/
section
variable {p : Nat}
/-- f is g^e times k, and g divides k no more -/
def mul_e (h : prm p) (g f k : Px p) (e : Nat) : Prop := letI := pR h; po (fR h) k ∧ f = g ^ e * k ∧ ¬ dv (fR h) g k
theorem mul_ex (h : prm p) {g : Px p} (hg : irr (fR h) g) : ∀ (n m : Nat) (f : Px p), m ≤ n → dg (fR h) f m → ∃ e k, mul_e h g f k e := by
  letI := pR h
  have hF := fld_p h
  intro n
  induction n with
  | zero =>
    intro m f hm hf
    refine ⟨0, f, ⟨_, hf.2⟩, ?_, fun q => ?_⟩
    · rw [pw_0 (pR h)]; grind
    · obtain ⟨d, d1, d2⟩ := hg.2.1
      have := dv_deg hF d2 hf q
      omega
  | succ n ih =>
    intro m f hm hf
    by_cases z : dv (fR h) g f
    · obtain ⟨q, q1, q2⟩ := z
      obtain ⟨d, d1, d2⟩ := hg.2.1
      rcases po_dg q1 with y | ⟨mq, hq⟩
      · exfalso
        refine dg_ne hf ?_
        rw [q2, y]
        show (0 : Px p) * g = 0
        grind
      · have e1 : m = mq + d := dg_un hf (by rw [q2]; exact mul_dg hF hq d2)
        obtain ⟨e, k, k1, k2, k3⟩ := ih mq q (by omega) hq
        refine ⟨e + 1, k, k1, ?_, k3⟩
        have q3 : f = q * g := q2
        rw [q3, k2, pw_s (pR h)]
        generalize g ^ e = x
        grind
    · refine ⟨0, f, ⟨_, hf.2⟩, ?_, z⟩
      rw [pw_0 (pR h)]; grind
theorem irr_po (h : prm p) {g : Px p} (hg : irr (fR h) g) : po (fR h) g := hg.1
theorem dv_pw_le (h : prm p) {g : Px p} (hg : po (fR h) g) {a b : Nat} (hab : a ≤ b) : letI := pR h; dv (fR h) (g ^ a) (g ^ b) := by
  letI := pR h
  refine ⟨g ^ (b - a), pw_po h hg _, ?_⟩
  show g ^ b = g ^ (b - a) * g ^ a
  have e : ∀ n : Nat, g ^ (n + a) = g ^ n * g ^ a := fun n => by
    induction a with
    | zero => rw [pw_0 (pR h)]; show g ^ n = _; grind
    | succ a ih =>
      show g ^ (n + a + 1) = _
      rw [pw_s (pR h), pw_s (pR h), ih (by omega)]
      generalize g ^ n = x
      generalize g ^ a = y
      grind
  rw [← e, show b - a + a = b by omega]
/-- the greatest power of g that divides is known -/
theorem mul_dv (h : prm p) {g f k : Px p} {e a : Nat} (hg : irr (fR h) g) (w : mul_e h g f k e) : letI := pR h; dv (fR h) (g ^ a) f ↔ a ≤ e := by
  letI := pR h
  have hF := fld_p h
  obtain ⟨d, d1, d2⟩ := hg.2.1
  constructor
  · intro q
    rcases Nat.lt_or_ge e a with z | z
    · exfalso
      obtain ⟨t, t1, t2⟩ := dv_tr (dv_pw_le h hg.1 (show e + 1 ≤ a by omega)) q
      have t3 : f = t * g ^ (e + 1) := t2
      have e1 : zmul (fR h) (g ^ e) k = zmul (fR h) (g ^ e) (t * g) := by
        show g ^ e * k = g ^ e * (t * g)
        rw [← w.2.1, t3, pw_s (pR h)]
        generalize g ^ e = x
        grind
      have e2 := mul_cancel hF (pw_dg h d2 e) w.1 (mul_po t1 hg.1) e1
      exact w.2.2 (by rw [e2]; exact dv_r t1)
    · exact z
  · intro q
    rw [w.2.1]
    exact dv_mulr _ w.1 (dv_pw_le h hg.1 q)
/-- f over its greatest common divisor with its derivative -/
theorem sq_step (h : prm p) {f d k g k0 : Px p} {n e : Nat} (hf : dg (fR h) f n) (hG : isG h f (drv h f) d) (hk : po (fR h) k) (ef : f = zmul (fR h) d k) (hg : irr (fR h) g) (w : mul_e h g f k0 e) : ¬ dv (fR h) (zmul (fR h) g g) k ∧ (dv (fR h) g k ↔ ¬ p ∣ e) := by
  letI := pR h
  have hF := fld_p h
  have hp := h.1
  obtain ⟨m, m1, m2⟩ := hg.2.1
  have ef2 : f = d * k := ef
  -- what d is made of, given how often g divides it
  have key : ∀ a : Nat, a ≤ e → dv (fR h) (g ^ a) d → ¬ dv (fR h) (g ^ (a + 1)) d → (a = e ∧ ¬ dv (fR h) g k) ∨ (a + 1 = e ∧ dv (fR h) g k ∧ ¬ dv (fR h) (zmul (fR h) g g) k) ∨ a + 2 ≤ e := fun a ha h1 h2 => by
    obtain ⟨d2, x1, x2⟩ := h1
    have x3 : d = d2 * g ^ a := x2
    have nd2 : ¬ dv (fR h) g d2 := fun q => h2 (by
      obtain ⟨y, y1, y2⟩ := q
      have y3 : d2 = y * g := y2
      refine ⟨y, y1, ?_⟩
      show d = y * g ^ (a + 1)
      rw [x3, y3, pw_s (pR h)]
      generalize g ^ a = x
      grind)
    -- g^(e - a) k0 = d2 k
    have e1 : zmul (fR h) (g ^ a) (g ^ (e - a) * k0) = zmul (fR h) (g ^ a) (d2 * k) := by
      show g ^ a * (g ^ (e - a) * k0) = g ^ a * (d2 * k)
      obtain ⟨t, t1, t2⟩ := dv_pw_le h hg.1 ha
      have e3 : g ^ e = g ^ (e - a) * g ^ a := by
        have : ∀ b n : Nat, g ^ (n + b) = g ^ n * g ^ b := fun b n => by
          induction b with
          | zero => rw [pw_0 (pR h)]; show g ^ n = _; grind
          | succ b ih =>
            show g ^ (n + b + 1) = _
            rw [pw_s (pR h), pw_s (pR h), ih]
            generalize g ^ n = x
            generalize g ^ b = y
            grind
        rw [← this a (e - a), show e - a + a = e by omega]
      have e4 : g ^ (e - a) * g ^ a * k0 = d2 * g ^ a * k := by
        rw [← e3, ← x3, ← ef2]; exact w.2.1.symm
      generalize g ^ a = x at e4 ⊢
      generalize g ^ (e - a) = y at e4 ⊢
      grind
    have e2 : g ^ (e - a) * k0 = d2 * k := mul_cancel hF (pw_dg h m2 a) (mul_po (pw_po h hg.1 _) w.1) (mul_po x1 hk) e1
    rcases Nat.lt_or_ge (e - a) 1 with z | z
    · refine Or.inl ⟨by omega, fun q => w.2.2 ?_⟩
      rw [show e - a = 0 by omega, pw_0 (pR h)] at e2
      have e3 : k0 = d2 * k := by rw [← e2]; grind
      rw [e3]; exact dv_mul _ x1 q
    · rcases Nat.lt_or_ge (e - a) 2 with y | y
      · refine Or.inr (Or.inl ⟨by omega, ?_, fun q => ?_⟩)
        · rw [show e - a = 0 + 1 by omega, pw_s (pR h), pw_0 (pR h)] at e2
          have e3 : dv (fR h) g (zmul (fR h) d2 k) := by
            refine ⟨k0, w.1, ?_⟩
            show d2 * k = k0 * g
            rw [← e2]; grind
          rcases irr_prime hF hg x1 hk e3 with u | u
          · exact absurd u nd2
          · exact u
        · obtain ⟨t, t1, t2⟩ := q
          have t3 : k = t * (g * g) := t2
          rw [show e - a = 0 + 1 by omega, pw_s (pR h), pw_0 (pR h), t3] at e2
          have e3 : zmul (fR h) g k0 = zmul (fR h) g (d2 * t * g) := by
            show g * k0 = g * (d2 * t * g)
            have : (1 : Px p) * g * k0 = g * k0 := by grind
            rw [← this, e2]; grind
          have e4 := mul_cancel hF m2 w.1 (mul_po (mul_po x1 t1) hg.1) e3
          exact w.2.2 (by rw [e4]; exact dv_r (mul_po x1 t1))
      · exact Or.inr (Or.inr (by omega))
  have hdd : ∀ a : Nat, dv (fR h) (g ^ a) f → dv (fR h) (g ^ a) (drv h f) → dv (fR h) (g ^ a) d := fun a h1 h2 => by
    obtain ⟨u, v, u1, v1, ed⟩ := hG.2.2.2.1
    rw [ed]
    exact dv_add (dv_mul _ u1 h1) (dv_mul _ v1 h2)
  have hno : ∀ a : Nat, e < a → ¬ dv (fR h) (g ^ a) d := fun a ha q => by
    have := (mul_dv h hg w).mp (dv_tr q hG.2.1)
    omega
  rcases Nat.eq_zero_or_pos e with z0 | z0
  · -- g does not divide f
    have hnf : ¬ dv (fR h) g k := fun q => by
      have h1 : dv (fR h) (g ^ 1) f := by
        rw [pw_s (pR h), pw_0 (pR h)]
        have e1 : (1 : Px p) * g = g := by grind
        rw [e1, ef]; exact dv_mul _ hG.1 q
      have := (mul_dv h hg w).mp h1
      omega
    refine ⟨fun q => hnf (dv_tr (dv_l hg.1) q), fun q => absurd q hnf, fun q => absurd ?_ q⟩
    rw [z0]; exact Nat.dvd_zero p
  · obtain ⟨a, rfl⟩ : ∃ a, e = a + 1 := ⟨e - 1, by omega⟩
    have edf : drv h f = cz h (zi h ((a + 1 : Nat) : Int)) * g ^ a * drv h g * k0 + g ^ (a + 1) * drv h k0 := by
      have e1 := congrArg (drv h) w.2.1
      rw [e1, drv_mul h, drv_pw h]
    by_cases hz : p ∣ (a + 1)
    · have c0 : cz h (zi h ((a + 1 : Nat) : Int)) = 0 := by
        have : zi h ((a + 1 : Nat) : Int) = zi h 0 := zi_eq h (by
          rw [Int.zero_emod, ← Int.natCast_emod]
          have := Nat.mod_eq_zero_of_dvd hz
          omega)
        rw [this]; exact cz_z0 h
      have hd1 : dv (fR h) (g ^ (a + 1)) (drv h f) := by
        rw [edf, c0]
        have e1 : (0 : Px p) * g ^ a * drv h g * k0 + g ^ (a + 1) * drv h k0 = g ^ (a + 1) * drv h k0 := by
          generalize g ^ a = x
          generalize g ^ (a + 1) * drv h k0 = y
          grind
        rw [e1]; exact dv_l (drv_po h w.1)
      rcases key (a + 1) (Nat.le_refl _) (hdd _ ((mul_dv h hg w).mpr (Nat.le_refl _)) hd1) (hno _ (by omega)) with q | q | q
      · exact ⟨fun u => q.2 (dv_tr (dv_l hg.1) u), fun u => absurd u q.2, fun u => absurd hz u⟩
      · omega
      · omega
    · have hd1 : dv (fR h) (g ^ a) (drv h f) := by
        rw [edf, pw_s (pR h)]
        refine ⟨cz h (zi h ((a + 1 : Nat) : Int)) * drv h g * k0 + g * drv h k0, add_po (mul_po (mul_po (cz_po h _) (drv_po h hg.1)) w.1) (mul_po hg.1 (drv_po h w.1)), ?_⟩
        show _ = (cz h (zi h ((a + 1 : Nat) : Int)) * drv h g * k0 + g * drv h k0) * g ^ a
        generalize cz h (zi h ((a + 1 : Nat) : Int)) = x
        generalize g ^ a = y
        generalize drv h g = z
        generalize drv h k0 = u
        grind
      have hne : ¬ dv (fR h) (g ^ (a + 1)) d := fun q => by
        have q2 := dv_tr q hG.2.2.1
        rw [edf] at q2
        have q3 := dv_sub q2 (dv_l (f := g ^ (a + 1)) (drv_po h w.1))
        obtain ⟨t, t1, t2⟩ := q3
        have t3 : cz h (zi h ((a + 1 : Nat) : Int)) * g ^ a * drv h g * k0 + g ^ (a + 1) * drv h k0 - g ^ (a + 1) * drv h k0 = t * g ^ (a + 1) := t2
        have e1 : zmul (fR h) (g ^ a) (cz h (zi h ((a + 1 : Nat) : Int)) * (drv h g * k0)) = zmul (fR h) (g ^ a) (t * g) := by
          show g ^ a * (cz h (zi h ((a + 1 : Nat) : Int)) * (drv h g * k0)) = g ^ a * (t * g)
          rw [pw_s (pR h)] at t3
          generalize cz h (zi h ((a + 1 : Nat) : Int)) = x at t3 ⊢
          generalize g ^ a = y at t3 ⊢
          generalize drv h g = z at t3 ⊢
          generalize drv h k0 = u at t3 ⊢
          grind
        have e2 := mul_cancel hF (pw_dg h m2 a) (mul_po (cz_po h _) (mul_po (drv_po h hg.1) w.1)) (mul_po t1 hg.1) e1
        have e3 : dv (fR h) g (zmul (fR h) (cz h (zi h ((a + 1 : Nat) : Int))) (zmul (fR h) (drv h g) k0)) := ⟨t, t1, e2⟩
        rcases irr_prime hF hg (cz_po h _) (mul_po (drv_po h hg.1) w.1) e3 with u | u
        · have u1 := cz_dv0 h hg u
          have u2 : zi h ((a + 1 : Nat) : Int) = zi h 0 := by rw [zi_0]; exact u1
          have u3 := zi_inj h u2
          rw [Int.zero_emod, ← Int.natCast_emod] at u3
          exact hz (Nat.dvd_of_mod_eq_zero (by omega))
        · rcases irr_prime hF hg (drv_po h hg.1) w.1 u with y | y
          · refine irr_drv h hg (dv_low h m2 (fun j hj => ?_) y)
            letI := fR h
            show zi h ((j : Int) + 1) * g (j + 1) = 0
            rw [m2.2 (j + 1) (by omega)]; grind
          · exact w.2.2 y
      rcases key a (by omega) (hdd _ ((mul_dv h hg w).mpr (by omega)) hd1) hne with q | q | q
      · omega
      · exact ⟨q.2.2, fun _ => hz, fun _ => q.2.1⟩
      · omega
end
