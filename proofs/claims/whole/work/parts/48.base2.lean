/-! the rows' methods on pictures -/
theorem Sp.imp {N : GN} {y : MethodName} {M : GM} {nc ns : Nat} {vs : List Value} {h : GH} {Q Q2 : Option Value → GH → Prop} (k : Sp N y M nc ns vs h Q) (hq : ∀ v h1, Q v h1 → Q2 v h1) : Sp N y M nc ns vs h Q2 := by
  unfold Sp Met at k ⊢
  refine MetFree.mono k (fun _ _ z => z) (fun _ _ _ _ _ z => z) (fun a s o t _ z => ⟨?_, z.2⟩)
  obtain ⟨v, h1, e, q, r⟩ := z.1
  exact ⟨v, h1, e, hq v h1 q, r⟩
section
variable {p : Nat}
/-- the number at x^k -/
def cf (f : Px p) (k : Int) : Int := if 0 ≤ k then fv (f k.toNat) else 0
theorem cf_in (f : Px p) (hp : prm p) (k : Int) : 0 ≤ cf f k ∧ cf f k < p := by
  have := hp.1
  unfold cf
  split
  · have := fv_lt (f k.toNat); omega
  · omega
/-- the leading number, 0 of 0 -/
noncomputable def ld (h : prm p) (f : Px p) : Int := cf f (dgi h f)
theorem PO_cf {h : prm p} {d : Int} {g : Int → Int} {f : Px p} (w : PO h d g f) {k : Int} (h0 : 0 ≤ k) (h1 : k ≤ d) : g k = cf f k := by
  have := w.at (k := k.toNat) (by omega)
  unfold cf
  rw [if_pos h0, ← this]
  congr 1
  omega
theorem cf_hi (h : prm p) {f : Px p} (hf : po (fR h) f) {k : Int} (hk : dgi h f < k) : cf f k = 0 := by
  unfold cf
  split
  · have := dgi_dl h hf k.toNat (by have := dgi_ge h hf; omega)
    rw [this]
    exact f_zero h
  · rfl
theorem cf_zi (h : prm p) (f : Px p) (k : Nat) : zi h (cf f k) = f k := by
  unfold cf
  rw [if_pos (by omega), Int.toNat_natCast, zi_of]
theorem ph_cf (h : prm p) {f : Px p} (hf : po (fR h) f) {d : Int} (hd : dgi h f ≤ d) : ph h (cf f) d = f := funext fun k => by
  letI := fR h
  show (if (k : Int) ≤ d then zi h (cf f k) else 0) = f k
  by_cases z : (k : Int) ≤ d
  · rw [if_pos z, cf_zi]
  · rw [if_neg z]
    exact (dgi_dl h hf k (by have := dgi_ge h hf; omega)).symm
theorem ph_cg (h : prm p) {g g2 : Int → Int} {d : Int} (e : ∀ k, 0 ≤ k → k ≤ d → zi h (g2 k) = zi h (g k)) : ph h g2 d = ph h g d := funext fun k => by
  letI := fR h
  show (if (k : Int) ≤ d then zi h (g2 k) else 0) = (if (k : Int) ≤ d then zi h (g k) else 0)
  by_cases z : (k : Int) ≤ d
  · rw [if_pos z, if_pos z, e k (by omega) z]
  · rw [if_neg z, if_neg z]
/-- numbers in range that stand for f, up to its degree -/
theorem PO_of {h : prm p} {g : Int → Int} {f : Px p} {d : Int} (hd : dgi h f = d) (hf : f = ph h g d) (hb : ∀ k, 0 ≤ k → k ≤ d → 0 ≤ g k ∧ g k < p) : PO h d g f := by
  have hpo : po (fR h) f := by rw [hf]; exact ph_po h g d
  refine ⟨by rw [← hd]; exact dgi_ge h hpo, hb, fun z e => ?_, hf⟩
  have h1 := (dgi_dg h hpo (by omega)).1
  rw [hd] at h1
  apply h1
  have e2 : f d.toNat = ph h g d d.toNat := by rw [← hf]
  rw [e2]
  letI := fR h
  show (if ((d.toNat : Nat) : Int) ≤ d then zi h (g ((d.toNat : Nat) : Int)) else 0) = 0
  rw [if_pos (by omega), show ((d.toNat : Nat) : Int) = d by omega, e, zi_0 h]
theorem mul_dgi (h : prm p) {f g : Px p} (hf : po (fR h) f) (hg : po (fR h) g) : letI := pR h; dgi h (f * g) = if dgi h f < 0 ∨ dgi h g < 0 then -1 else dgi h f + dgi h g := by
  letI := pR h
  have a1 := dgi_ge h hf
  have a2 := dgi_ge h hg
  by_cases z : dgi h f < 0 ∨ dgi h g < 0
  · rw [if_pos z]
    have : f * g = 0 := by
      rcases z with z | z
      · rw [dgi_z h hf z]; grind
      · rw [dgi_z h hg z]; grind
    rw [this, dgi_0]
  · rw [if_neg z]
    have := dgi_of h (mul_dg (fld_p h) (dgi_dg h hf (by omega)) (dgi_dg h hg (by omega)))
    show dgi h (zmul (fR h) f g) = _
    rw [this]
    omega
theorem cz_dgi (h : prm p) {c : Fp p} (hc : letI := fR h; c ≠ 0) : dgi h (cz h c) = 0 := dgi_of h (cz_dg h hc)
/-- sums of integers, of numbers of the field -/
theorem zs_zi (h : prm p) (n : Nat) (F : Nat → Int) : zi h (zs n F) = sm (fR h) n (fun i => zi h (F i)) := by
  letI := fR h
  induction n with
  | zero => exact zi_0 h
  | succ n ih => show zi h (zs n F + F n) = sm (fR h) n _ + zi h (F n); rw [zi_add h, ih]
theorem zs_bd (n : Nat) (F : Nat → Int) {U : Int} (hF : ∀ i, i < n → 0 ≤ F i ∧ F i ≤ U) : 0 ≤ zs n F ∧ zs n F ≤ n * U := by
  induction n with
  | zero => show (0 : Int) ≤ 0 ∧ (0 : Int) ≤ ((0 : Nat) : Int) * U; rw [show ((0 : Nat) : Int) = 0 from rfl, Int.zero_mul]; omega
  | succ n ih =>
    have h1 := ih (fun i hi => hF i (by omega))
    have h2 := hF n (by omega)
    show 0 ≤ zs n F + F n ∧ zs n F + F n ≤ ((n + 1 : Nat) : Int) * U
    rw [show ((n + 1 : Nat) : Int) * U = n * U + U by rw [Int.natCast_add, Int.add_mul]; simp]
    omega
end
