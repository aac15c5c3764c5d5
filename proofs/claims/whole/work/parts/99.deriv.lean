/-! derivatives, p-th roots -/
section
variable {p : Nat}
theorem drv_po (h : prm p) {f : Px p} (hf : po (fR h) f) : po (fR h) (drv h f) := by
  obtain ⟨n, hn⟩ := hf
  refine ⟨n, fun k hk => ?_⟩
  letI := fR h
  show zi h ((k : Int) + 1) * f (k + 1) = 0
  rw [hn (k + 1) (by omega)]; grind
theorem drv_mul (h : prm p) (f g : Px p) : letI := pR h; drv h (f * g) = drv h f * g + f * drv h g := funext fun k => by
  letI := fR h
  show zi h ((k : Int) + 1) * sm (fR h) (k + 1 + 1) (fun i => f i * g (k + 1 - i)) = sm (fR h) (k + 1) (fun i => (zi h ((i : Int) + 1) * f (i + 1)) * g (k - i)) + sm (fR h) (k + 1) (fun i => f i * (zi h (((k - i : Nat) : Int) + 1) * g (k - i + 1)))
  rw [← sm_mul (fR h)]
  rw [sm_congr (fR h) (g := fun i => zi h (i : Int) * f i * g (k + 1 - i) + f i * (zi h ((k + 1 - i : Nat) : Int) * g (k + 1 - i))) (fun i hi => by
    have e : zi h ((k : Int) + 1) = zi h (i : Int) + zi h ((k + 1 - i : Nat) : Int) := by
      rw [← zi_add]; congr 1; omega
    show zi h ((k : Int) + 1) * (f i * g (k + 1 - i)) = _
    rw [e]; grind), sm_add (fR h)]
  congr 1
  · rw [sm_front (fR h)]
    have e0 : zi h ((0 : Nat) : Int) = 0 := zi_0 h
    rw [e0]
    rw [sm_congr (fR h) (g := fun i => (zi h ((i : Int) + 1) * f (i + 1)) * g (k - i)) (fun i hi => by
      show zi h ((i + 1 : Nat) : Int) * f (i + 1) * g (k + 1 - (i + 1)) = _
      rw [show k + 1 - (i + 1) = k - i by omega, show ((i + 1 : Nat) : Int) = (i : Int) + 1 by omega])]
    grind
  · show sm (fR h) (k + 1) (fun i => f i * (zi h ((k + 1 - i : Nat) : Int) * g (k + 1 - i))) + f (k + 1) * (zi h ((k + 1 - (k + 1) : Nat) : Int) * g (k + 1 - (k + 1))) = _
    have e0 : zi h ((k + 1 - (k + 1) : Nat) : Int) = 0 := by rw [show k + 1 - (k + 1) = 0 by omega]; exact zi_0 h
    rw [e0]
    rw [sm_congr (fR h) (g := fun i => f i * (zi h (((k - i : Nat) : Int) + 1) * g (k - i + 1))) (fun i hi => by
      rw [show k + 1 - i = k - i + 1 by omega, show ((k - i + 1 : Nat) : Int) = ((k - i : Nat) : Int) + 1 by omega])]
    grind
theorem drv_1 (h : prm p) : letI := pR h; drv h (1 : Px p) = 0 := funext fun k => by
  letI := fR h
  rw [zero_k]
  show zi h ((k : Int) + 1) * (if k + 1 = 0 then (1 : Fp p) else 0) = 0
  rw [if_neg (by omega)]; grind
theorem drv_pw (h : prm p) (g : Px p) : letI := pR h; ∀ e : Nat, drv h (g ^ (e + 1)) = cz h (zi h ((e + 1 : Nat) : Int)) * g ^ e * drv h g := by
  letI := pR h
  intro e
  induction e with
  | zero =>
    rw [pw_s (pR h), pw_0 (pR h)]
    have e1 : cz h (zi h ((0 + 1 : Nat) : Int)) = 1 := cz_z1 h
    have e2 : (1 : Px p) * g = g := by grind
    rw [e1, e2]; grind
  | succ e ih =>
    rw [pw_s (pR h) g (e + 1), drv_mul h, ih]
    have e1 : cz h (zi h ((e + 1 + 1 : Nat) : Int)) = cz h (zi h ((e + 1 : Nat) : Int)) + 1 := by
      letI := fR h
      rw [show ((e + 1 + 1 : Nat) : Int) = ((e + 1 : Nat) : Int) + 1 by omega, zi_add, cz_add]
      congr 1
    rw [e1, pw_s (pR h) g e]
    generalize cz h (zi h ((e + 1 : Nat) : Int)) = x
    generalize g ^ e = y
    generalize drv h g = z
    grind
theorem xm_xm (h : prm p) (a b : Nat) : letI := fR h; letI := pR h; xm (fR h) 1 a * xm (fR h) 1 b = xm (fR h) 1 (a + b) := funext fun i => by
  letI := fR h
  refine (xm_mul (fR h) 1 a _ i).trans ?_
  show (if a ≤ i then 1 * (if i - a = b then (1 : Fp p) else 0) else 0) = if i = a + b then 1 else 0
  by_cases z : a ≤ i
  · rw [if_pos z]
    by_cases y : i = a + b
    · rw [if_pos y, if_pos (by omega)]; grind
    · rw [if_neg y, if_neg (by omega)]; grind
  · rw [if_neg z, if_neg (by omega)]
theorem xm_pw (h : prm p) (a : Nat) : letI := fR h; letI := pR h; ∀ n : Nat, (xm (fR h) 1 a) ^ n = xm (fR h) 1 (a * n) := by
  letI := fR h
  letI := pR h
  intro n
  induction n with
  | zero =>
    rw [pw_0 (pR h)]
    exact funext fun i => rfl
  | succ n ih =>
    rw [pw_s (pR h), ih, xm_xm h]
    rfl
/-- the p-th root -/
def rtP (f : Px p) : Px p := fun j => f (j * p)
theorem rt_pw (h : prm p) {f : Px p} (hf : po (fR h) f) (hd : letI := pR h; drv h f = 0) : letI := pR h; po (fR h) (rtP f) ∧ f = rtP f ^ p := by
  letI := fR h
  letI := pR h
  have hp := h.1
  obtain ⟨n, hn⟩ := hf
  have hr : dl (fR h) (rtP f) n := fun j hj => hn (j * p) (by have := Nat.mul_le_mul_left j (show 1 ≤ p by omega); omega)
  have hz : ∀ k, k % p ≠ 0 → f k = 0 := fun k hk => by
    have hk0 : k ≠ 0 := fun e => by rw [e] at hk; exact hk (Nat.zero_mod p)
    have e := congrFun hd (k - 1)
    rw [zero_k] at e
    have e2 : zi h (((k - 1 : Nat) : Int) + 1) * f (k - 1 + 1) = 0 := e
    rw [show k - 1 + 1 = k by omega, show ((k - 1 : Nat) : Int) + 1 = (k : Int) by omega] at e2
    rcases f_dom h e2 with z | z
    · exfalso
      have e3 : zi h (k : Int) = zi h 0 := by rw [zi_0]; exact z
      have e4 := zi_inj h e3
      rw [Int.zero_emod] at e4
      have e5 : ((k % p : Nat) : Int) = (k : Int) % (p : Int) := Int.natCast_emod k p
      omega
    · exact z
  refine ⟨⟨n, hr⟩, ?_⟩
  have e1 : rtP f ^ p = sm (pR h) n (fun j => cz h (rtP f j) * xm (fR h) 1 (j * p)) := by
    have e := congrArg (fun x : Px p => x ^ p) (v_sum h hr)
    refine e.trans ?_
    show (sm (pR h) n (fun k => cz h (rtP f k) * xm (fR h) 1 k)) ^ p = _
    rw [pw_sm h]
    exact sm_congr (pR h) (fun k _ => by
      show (cz h (rtP f k) * xm (fR h) 1 k) ^ p = _
      rw [mul_pw (pR h), ← cz_pw h, fermat h, xm_pw h])
  rw [e1]
  refine funext fun k => ?_
  rw [sm_at, sm_congr (fR h) (g := fun j => f (j * p) * (if k = j * p then 1 else 0)) (fun j _ => cz_at h (rtP f j) _ k)]
  by_cases z : k % p = 0
  · have ek : k = k / p * p := by have := Nat.div_add_mod k p; rw [Nat.mul_comm]; omega
    rcases Nat.lt_or_ge (k / p) n with y | y
    · rw [sm_one (fR h) (j := k / p) y (fun i _ hi => by
        rw [if_neg (fun q => hi (by
          have : i * p = k / p * p := by rw [← q]; exact ek
          exact Nat.eq_of_mul_eq_mul_right (by omega) this))]; grind), if_pos ek, ← ek]
      grind
    · rw [sm_zero (fR h) (fun i hi => by
        rw [if_neg (fun q => by
          have : i * p < n * p := Nat.mul_lt_mul_of_pos_right hi (by omega)
          have : n * p ≤ k / p * p := Nat.mul_le_mul_right p y
          omega)]; grind)]
      have : n * p ≤ k / p * p := Nat.mul_le_mul_right p y
      have : n * 1 ≤ n * p := Nat.mul_le_mul_left n (by omega)
      exact hn k (by omega)
  · rw [hz k z, sm_zero (fR h) (fun i hi => by
      rw [if_neg (fun q => z (by rw [q]; exact Nat.mul_mod_left i p))]; grind)]
theorem pw_dg (h : prm p) {r : Px p} {m : Nat} (hr : dg (fR h) r m) : letI := pR h; ∀ n : Nat, dg (fR h) (r ^ n) (m * n) := by
  letI := pR h
  intro n
  induction n with
  | zero => rw [pw_0 (pR h)]; exact one_dg (fld_p h)
  | succ n ih =>
    rw [pw_s (pR h)]
    exact mul_dg (fld_p h) ih hr
theorem irr_drv (h : prm p) {g : Px p} (hg : irr (fR h) g) : letI := pR h; drv h g ≠ 0 := fun hd => by
  letI := pR h
  have hp := h.1
  obtain ⟨r1, r2⟩ := rt_pw h hg.1 hd
  obtain ⟨n, n1, n2⟩ := hg.2.1
  rcases po_dg r1 with z | ⟨m, hm⟩
  · rw [z, zero_pw (pR h) (by omega)] at r2
    exact dg_ne n2 r2
  · have e1 : n = m * p := dg_un n2 (by rw [r2]; exact pw_dg h hm p)
    have e2 : g = zmul (fR h) (rtP g ^ (p - 1)) (rtP g) := by
      show g = rtP g ^ (p - 1) * rtP g
      rw [← pw_s (pR h), show p - 1 + 1 = p by omega]; exact r2
    rcases hg.2.2 _ _ (pw_po h r1 _) r1 e2 with z | z
    · have := dg_un z (pw_dg h hm (p - 1))
      rcases Nat.eq_zero_or_pos m with y | y
      · rw [y] at e1; omega
      · have : 1 * 1 ≤ m * (p - 1) := Nat.mul_le_mul y (by omega)
        omega
    · have := dg_un z hm
      rw [← this] at e1; omega
end
