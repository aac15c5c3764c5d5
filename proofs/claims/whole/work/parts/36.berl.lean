/-! Berlekamp: what parts a reducible one, and by which shift -/
section
variable {p : Nat}
theorem mul_cancel {K : Type} {R : Lean.Grind.CommRing K} (hF : fld R) {g a b : Nat → K} {n : Nat} (hg : dg R g n) (ha : po R a) (hb : po R b) (e : zmul R g a = zmul R g b) : a = b := by
  letI := R
  have e1 : letI := zR R; g * (a - b) = 0 := by
    letI := zR R
    have e2 : g * a = g * b := e
    grind
  rcases po_dg (sub_po ha hb) with z | ⟨m, hm⟩
  · letI := zR R
    have z : a - b = 0 := z
    grind
  · exact absurd e1 (dg_ne (mul_dg hF hg hm))
/-- powers of things that are alike modulo w -/
theorem pw_po (h : prm p) {v : Px p} (hv : po (fR h) v) (n : Nat) : letI := pR h; po (fR h) (v ^ n) := by
  letI := pR h
  induction n with
  | zero => rw [pw_0 (pR h)]; exact one_po (fR h)
  | succ n ih => rw [pw_s (pR h)]; exact mul_po ih hv
theorem pw_dv (h : prm p) {w a b : Px p} (ha : po (fR h) a) (hb : po (fR h) b) (hd : letI := pR h; dv (fR h) w (a - b)) (n : Nat) : letI := pR h; dv (fR h) w (a ^ n - b ^ n) := by
  letI := pR h
  induction n with
  | zero =>
    rw [pw_0 (pR h), pw_0 (pR h)]
    have e : (1 : Px p) - 1 = 0 := by grind
    rw [e]
    exact dv_0 (fR h) w
  | succ n ih =>
    rw [pw_s (pR h), pw_s (pR h)]
    have e : a ^ n * a - b ^ n * b = (a ^ n - b ^ n) * a + b ^ n * (a - b) := by
      generalize a ^ n = x
      generalize b ^ n = y
      grind
    rw [e]
    exact dv_add (dv_mulr a ha ih) (dv_mul _ (pw_po h hb n) hd)
theorem zero_pw {A : Type} (R : Lean.Grind.CommRing A) {n : Nat} (hn : 0 < n) : letI := R; (0 : A) ^ n = 0 := by
  letI := R
  obtain ⟨k, rfl⟩ : ∃ k, n = k + 1 := ⟨n - 1, by omega⟩
  rw [pw_s R]
  generalize (0 : A) ^ k = x
  grind
/-- no square of an irreducible one divides it -/
def sqf (h : prm p) (w : Px p) : Prop := ∀ g, irr (fR h) g → ¬ dv (fR h) (zmul (fR h) g g) w
/-- its own p-th power modulo w -/
def ker (h : prm p) (w v : Px p) : Prop := letI := pR h; po (fR h) v ∧ dv (fR h) w (v ^ p - v)
/-- 1 modulo q, 0 modulo its cofactor: that is its own p-th power -/
theorem idem_ker (h : prm p) {q k u s : Px p} (hq : po (fR h) q) (hk : po (fR h) k) (hu : po (fR h) u) (hs : po (fR h) s) (e : letI := pR h; u * q + s * k = 1) : letI := pR h; ker h (zmul (fR h) q k) (s * k) := by
  letI := pR h
  have hp : 0 < p := by have := h.1; omega
  refine ⟨mul_po hs hk, ?_⟩
  have h1 : dv (fR h) q (s * k - 1) := by
    have e1 : s * k - 1 = (0 - u) * q := by grind
    rw [e1]
    exact ⟨_, sub_po (zero_po (fR h)) hu, rfl⟩
  have h2 : dv (fR h) k (s * k - 0) := by
    have e1 : s * k - 0 = s * k := by grind
    rw [e1]
    exact dv_r hs
  have h3 := pw_dv h (mul_po hs hk) (one_po (fR h)) h1 p
  have h4 := pw_dv h (mul_po hs hk) (zero_po (fR h)) h2 p
  rw [one_pw (pR h)] at h3
  rw [zero_pw (pR h) hp] at h4
  have h5 : dv (fR h) q ((s * k) ^ p - s * k) := by
    have e1 : (s * k) ^ p - s * k = ((s * k) ^ p - 1) - (s * k - 1) := by
      generalize (s * k) ^ p = x
      grind
    rw [e1]
    exact dv_sub h3 h1
  have h6 : dv (fR h) k ((s * k) ^ p - s * k) := by
    have e1 : (s * k) ^ p - s * k = ((s * k) ^ p - 0) - (s * k - 0) := by
      generalize (s * k) ^ p = x
      grind
    rw [e1]
    exact dv_sub h4 h2
  exact cop_mul hu hs e h5 h6 (sub_po (pw_po h (mul_po hs hk) p) (mul_po hs hk))
/-- a reducible divisor of a square-free one is parted by something that is its own p-th power -/
theorem red_part (h : prm p) {w f : Px p} {n m : Nat} (hw : dg (fR h) w n) (hsq : sqf h w) (hf : dg (fR h) f m) (hfp : po (fR h) f) (hm : 1 ≤ m) (hd : dv (fR h) f w) (hred : ¬ irr (fR h) f) : letI := pR h; ∃ v, ker h w v ∧ ∀ c : Fp p, ¬ dv (fR h) f (v - cz h c) := by
  letI := pR h
  have hF := fld_p h
  obtain ⟨g, hg, k, hk, ek⟩ := irr_ex hF m f hfp hm hf
  have hgp := hg.1
  obtain ⟨gi, hgi1, hgi⟩ := hg.2.1
  -- w = g * hh
  obtain ⟨q, hq, eq⟩ := hd
  have ew : w = zmul (fR h) g (zmul (fR h) q k) := by
    rw [eq, ek, ← zmul_assoc, zmul_comm]
  have hhp : po (fR h) (zmul (fR h) q k) := mul_po hq hk
  have hng : ¬ dv (fR h) g (zmul (fR h) q k) := by
    rintro ⟨s, hs, es⟩
    refine hsq g hg ⟨s, hs, ?_⟩
    rw [ew, es, ← zmul_assoc, ← zmul_assoc, zmul_comm (fR h) g s]
  rcases irr_cop hF hg hhp with z | ⟨u, s, hu, hs, e⟩
  · exact absurd z hng
  · have hker := idem_ker h hgp hhp hu hs e
    refine ⟨u * g, ?_, fun c hc => ?_⟩
    · -- 1 - s hh
      have e1 : u * g = 1 - s * zmul (fR h) q k := by grind
      refine ⟨mul_po hu hgp, ?_⟩
      rw [ew]
      have h1 : dv (fR h) g (u * g - 0) := by
        have e2 : u * g - 0 = u * g := by grind
        rw [e2]
        exact dv_r hu
      have h2 : dv (fR h) (zmul (fR h) q k) (u * g - 1) := by
        have e2 : u * g - 1 = (0 - s) * zmul (fR h) q k := by grind
        rw [e2]
        exact ⟨_, sub_po (zero_po (fR h)) hs, rfl⟩
      have h3 := pw_dv h (mul_po hu hgp) (zero_po (fR h)) h1 p
      have h4 := pw_dv h (mul_po hu hgp) (one_po (fR h)) h2 p
      rw [zero_pw (pR h) (by have := h.1; omega)] at h3
      rw [one_pw (pR h)] at h4
      refine cop_mul hu hs e ?_ ?_ (sub_po (pw_po h (mul_po hu hgp) p) (mul_po hu hgp))
      · have e2 : (u * g) ^ p - u * g = ((u * g) ^ p - 0) - (u * g - 0) := by
          generalize (u * g) ^ p = x
          grind
        rw [e2]
        exact dv_sub h3 h1
      · have e2 : (u * g) ^ p - u * g = ((u * g) ^ p - 1) - (u * g - 1) := by
          generalize (u * g) ^ p = x
          grind
        rw [e2]
        exact dv_sub h4 h2
    · -- f = k g divides u g - c
      have hgf : dv (fR h) g f := ⟨k, hk, ek⟩
      have hg1 : dv (fR h) g (cz h c) := by
        have e2 : cz h c = u * g - (u * g - cz h c) := by grind
        rw [e2]
        exact dv_sub (dv_r hu) (dv_tr hgf hc)
      have hc0 : c = (letI := fR h; 0) := by
        refine Classical.byContradiction fun hc0 => ?_
        have := dv_deg hF hgi (cz_dg h hc0) hg1
        omega
      -- k has degree 1 or more
      have hkd : ∃ j, 1 ≤ j ∧ dg (fR h) k j := by
        rcases po_dg hk with z | ⟨j, hj⟩
        · exfalso
          refine dg_ne hf ?_
          rw [ek, z]
          show 0 * g = 0
          grind
        · rcases Nat.eq_zero_or_pos j with z | z
          · exfalso
            subst z
            refine hred ?_
            -- f is g times a unit: irreducible
            refine ⟨hfp, ⟨m, hm, hf⟩, fun a b ha hb eab => ?_⟩
            obtain ⟨i, hi, ei⟩ := unit_of hF hj
            have e3 : g = zmul (fR h) (i * a) b := by
              have e4 : f = k * g := ek
              have e5 : (1 : Px p) = i * k := ei
              have e6 : f = a * b := eab
              show g = i * a * b
              grind
            rcases hg.2.2 _ _ (mul_po hi ha) hb e3 with y | y
            · left
              refine unit_deg hF ha ?_
              exact dv_tr ⟨i, hi, rfl⟩ (unit_of hF y)
            · exact Or.inr y
          · exact ⟨j, z, hj⟩
      obtain ⟨j, hj1, hj⟩ := hkd
      have hkv : dv (fR h) k (u * g) := by
        have e2 : u * g = u * g - cz h c + cz h c := by grind
        have e3 : cz h c = 0 := by
          rw [hc0]
          exact funext fun i => (show (if i = 0 then _ else _) = _ from by
            letI := fR h
            show (if i = 0 then (0 : Fp p) else 0) = (if i = 0 then (0 : Fp p) else 0)
            rfl)
        have h9 : dv (fR h) f (u * g - cz h c) := hc
        rw [e3] at h9
        have e4 : u * g - 0 = u * g := by grind
        rw [e4] at h9
        exact dv_tr ⟨g, hgp, by rw [ek, zmul_comm]⟩ h9
      have hk1 : dv (fR h) k (1 : Px p) := by
        have e2 : (1 : Px p) = u * g + s * zmul (fR h) q k := e.symm
        rw [e2]
        exact dv_add hkv (dv_mul s hs (dv_r hq))
      have := dg_un hj (unit_deg hF hk hk1)
      omega
/-- two different numbers are told apart by some shift -/
theorem shift_ex (h : prm p) {c d : Fp p} (hne : c ≠ d) {m : Nat} (hm : 0 < m) : letI := fR h; ∃ s : Fp p, ¬ ((c + s) ^ m = 1 ↔ (d + s) ^ m = 1) := by
  letI := fR h
  refine Classical.byContradiction fun hno => ?_
  have hall : ∀ s : Fp p, ((c + s) ^ m = 1 ↔ (d + s) ^ m = 1) := fun s => Classical.byContradiction fun w => hno ⟨s, w⟩
  have he : d - c ≠ 0 := fun e => hne (by grind)
  have hstep : ∀ x : Fp p, x ^ m = 1 → (x + (d - c)) ^ m = 1 := fun x hx => by
    have h1 := hall (x - c)
    have e1 : c + (x - c) = x := by grind
    have e2 : d + (x - c) = x + (d - c) := by grind
    rw [e1, e2] at h1
    exact h1.mp hx
  have hk : ∀ k : Nat, (1 + nr (fR h) k * (d - c)) ^ m = 1 := by
    intro k
    induction k with
    | zero =>
      have e1 : (1 : Fp p) + nr (fR h) 0 * (d - c) = 1 := by show (1 : Fp p) + 0 * (d - c) = 1; grind
      rw [e1]
      exact one_pw (fR h) m
    | succ k ih =>
      have h1 := hstep _ ih
      have e1 : (1 : Fp p) + nr (fR h) k * (d - c) + (d - c) = 1 + nr (fR h) (k + 1) * (d - c) := by
        show _ = 1 + (nr (fR h) k + 1) * (d - c)
        generalize nr (fR h) k = x
        grind
      rw [e1] at h1
      exact h1
  obtain ⟨b, hb⟩ := (fld_p h).1 _ he
  have h1 := hk (fv (0 - b))
  rw [nr_zi, zi_of] at h1
  have e1 : (1 : Fp p) + (0 - b) * (d - c) = 0 := by grind
  rw [e1, zero_pw (fR h) hm] at h1
  exact (fld_p h).2 h1.symm
end
