/-! Berlekamp's rows: their kernel is what is its own p-th power -/
section
variable {p : Nat}
theorem pw_sm (h : prm p) : letI := pR h; ∀ (n : Nat) (F : Nat → Px p), (sm (pR h) n F) ^ p = sm (pR h) n (fun k => F k ^ p) := by
  letI := pR h
  intro n F
  induction n with
  | zero => exact zero_pw (pR h) (by have := h.1; omega)
  | succ n ih =>
    show (sm (pR h) n F + F n) ^ p = sm (pR h) n (fun k => F k ^ p) + F n ^ p
    rw [frob (pR h) h (nr_pp h), ih]
theorem cz_at (h : prm p) (c : Fp p) (f : Px p) (j : Nat) : letI := fR h; letI := pR h; (cz h c * f) j = c * f j := zmul_c (fR h) c f j
theorem v_sum (h : prm p) {n : Nat} {v : Px p} (hv : dl (fR h) v n) : letI := fR h; letI := pR h; v = sm (pR h) n (fun k => cz h (v k) * xm (fR h) 1 k) := funext fun j => by
  letI := fR h
  letI := pR h
  rw [sm_at]
  have e : ∀ k, (cz h (v k) * xm (fR h) 1 k) j = v k * (if j = k then 1 else 0) := fun k => cz_at h (v k) _ j
  rw [sm_congr (fR h) (g := fun k => v k * (if j = k then 1 else 0)) (fun k _ => e k)]
  rcases Nat.lt_or_ge j n with z | z
  · rw [sm_one (fR h) (j := j) z (fun i _ hi => by rw [if_neg (fun q => hi q.symm)]; grind), if_pos rfl]; grind
  · rw [sm_zero (fR h) (fun i hi => by rw [if_neg (by omega)]; grind)]
    exact hv j z
theorem dv_low (h : prm p) {w s : Px p} {n : Nat} (hw : dg (fR h) w n) (hs : dl (fR h) s n) (hd : dv (fR h) w s) : letI := pR h; s = 0 := by
  rcases po_dg (R := fR h) ⟨n, hs⟩ with z | ⟨m, z⟩
  · exact z
  · have h1 := dv_deg (fld_p h) hw z hd
    exact absurd (hs m h1) z.1
theorem ker_krn (h : prm p) {w v : Px p} {n : Nat} (hw : dg (fR h) w n) (b : Nat → Px p) (hb : ∀ k, k < n → dl (fR h) (b k) n) (hd : letI := fR h; letI := pR h; ∀ k, k < n → dv (fR h) w ((xm (fR h) 1 k) ^ p - b k)) (hv : dl (fR h) v n) : ker h w v ↔ krn (fR h) n (letI := fR h; fun i k => b k i - (if i = k then 1 else 0)) v := by
  letI := fR h
  letI := pR h
  have hvp : po (fR h) v := ⟨n, hv⟩
  -- the difference, without w's multiples
  obtain ⟨S, eS⟩ : ∃ S : Px p, S = sm (pR h) n (fun k => cz h (v k) * (b k - xm (fR h) 1 k)) := ⟨_, rfl⟩
  obtain ⟨D, eD⟩ : ∃ D : Px p, D = sm (pR h) n (fun k => cz h (v k) * ((xm (fR h) 1 k) ^ p - b k)) := ⟨_, rfl⟩
  have e1 : v ^ p = sm (pR h) n (fun k => cz h (v k) * (xm (fR h) 1 k) ^ p) := by
    have e := congrArg (fun x : Px p => x ^ p) (v_sum h hv)
    refine e.trans ?_
    show (sm (pR h) n (fun k => cz h (v k) * xm (fR h) 1 k)) ^ p = _
    rw [pw_sm h]
    exact sm_congr (pR h) (fun k _ => by
      show (cz h (v k) * xm (fR h) 1 k) ^ p = _
      rw [mul_pw (pR h), ← cz_pw h, fermat h])
  have e2 : v ^ p - v = S + D := by
    rw [eS, eD, ← sm_add (pR h), e1]
    have ev : sm (pR h) n (fun k => cz h (v k) * (xm (fR h) 1 k) ^ p) - v = sm (pR h) n (fun k => cz h (v k) * (xm (fR h) 1 k) ^ p) - sm (pR h) n (fun k => cz h (v k) * xm (fR h) 1 k) := congrArg (fun x => sm (pR h) n (fun k => cz h (v k) * (xm (fR h) 1 k) ^ p) - x) (v_sum h hv)
    rw [ev, ← sm_sub (pR h)]
    exact sm_congr (pR h) (fun k _ => by
      show cz h (v k) * (xm (fR h) 1 k) ^ p - cz h (v k) * xm (fR h) 1 k = cz h (v k) * (b k - xm (fR h) 1 k) + cz h (v k) * ((xm (fR h) 1 k) ^ p - b k)
      generalize (xm (fR h) 1 k) ^ p = x
      generalize cz h (v k) = y
      generalize xm (fR h) 1 k = z
      generalize b k = u
      grind)
  have hD : dv (fR h) w D := by
    rw [eD]
    exact dv_sm h n _ (fun k hk => dv_mul _ (cz_po h _) (hd k hk))
  have Sat : ∀ i, S i = sm (fR h) n (fun k => (b k i - (if i = k then 1 else 0)) * v k) := fun i => by
    rw [eS, sm_at]
    exact sm_congr (fR h) (fun k _ => by
      show (cz h (v k) * (b k - xm (fR h) 1 k)) i = _
      rw [cz_at h]
      show v k * (b k i - (if i = k then 1 else 0)) = _
      grind)
  have Sl : dl (fR h) S n := fun i hi => by
    rw [Sat]
    exact sm_zero (fR h) (fun k hk => by
      rw [hb k hk i hi, if_neg (by omega)]
      grind)
  constructor
  · intro q i hi
    have h1 : dv (fR h) w S := by
      have e3 : S = (v ^ p - v) - D := by
        rw [e2]
        grind
      rw [e3]
      exact dv_sub q.2 hD
    have h0 := dv_low h hw Sl h1
    rw [← Sat i, h0]
    exact zero_k (fR h) i
  · intro q
    refine ⟨hvp, ?_⟩
    have h0 : S = 0 := funext fun i => by
      rcases Nat.lt_or_ge i n with z | z
      · rw [Sat i, q i z]; exact (zero_k (fR h) i).symm
      · rw [Sl i z]; exact (zero_k (fR h) i).symm
    rw [e2, h0]
    have e4 : (0 : Px p) + D = D := by grind
    rw [e4]
    exact hD
end
