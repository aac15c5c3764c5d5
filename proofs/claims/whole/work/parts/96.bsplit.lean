/-! what all vectors of the kernel leave together is irreducible -/
section
variable {p : Nat}
theorem cz_sm (h : prm p) : ∀ (n : Nat) (F : Nat → Fp p), cz h (sm (fR h) n F) = sm (pR h) n (fun i => cz h (F i))
  | 0, _ => cz_0 h
  | n + 1, F => by
    letI := fR h
    letI := pR h
    show cz h (sm (fR h) n F + F n) = sm (pR h) n (fun i => cz h (F i)) + cz h (F n)
    rw [cz_add, cz_sm h n F]
/-- a free column's vector, as a row -/
def bpv (h : prm p) (n : Nat) (pv : Nat → Option Nat) (M : Nat → Nat → Fp p) (f : Nat) : Px p := letI := fR h; fun k => if k < n then bas (fR h) pv M f k else 0
theorem bpv_dl (h : prm p) (n : Nat) (pv : Nat → Option Nat) (M : Nat → Nat → Fp p) (f : Nat) : dl (fR h) (bpv h n pv M f) n := fun k hk => by
  letI := fR h
  show (if k < n then _ else 0) = 0
  rw [if_neg (by omega)]
theorem krn_cg {K : Type} (R : Lean.Grind.CommRing K) {n : Nat} {M : Nat → Nat → K} {v u : Nat → K} (e : ∀ k, k < n → v k = u k) (hv : krn R n M v) : krn R n M u := fun i hi => by
  rw [← hv i hi]
  exact sm_congr R (fun k hk => by rw [e k hk])
theorem bpv_ker (h : prm p) {n q : Nat} {pv : Nat → Option Nat} {M : Nat → Nat → Fp p} (w : RR (fR h) n n q pv M) {f : Nat} (hf : f < n) (hp : pv f = none) : krn (fR h) n M (bpv h n pv M f) := krn_cg (fR h) (fun k hk => by
  letI := fR h
  show _ = (if k < n then bas (fR h) pv M f k else 0)
  rw [if_pos hk]) (bas_in (fR h) w hf hp)
theorem bpv_sum (h : prm p) {n q : Nat} {pv : Nat → Option Nat} {M : Nat → Nat → Fp p} (w : RR (fR h) n n q pv M) {r : Px p} (hr : dl (fR h) r n) (hk : krn (fR h) n M r) : letI := pR h; r = sm (pR h) n (fun f => if pv f = none then cz h (r f) * bpv h n pv M f else 0) := funext fun k => by
  letI := fR h
  letI := pR h
  rw [sm_at]
  have e : ∀ f, (if pv f = none then cz h (r f) * bpv h n pv M f else (0 : Px p)) k = if pv f = none then r f * bpv h n pv M f k else 0 := fun f => by
    by_cases z : pv f = none
    · rw [if_pos z, if_pos z]; exact cz_at h (r f) _ k
    · rw [if_neg z, if_neg z]; exact zero_k (fR h) k
  rw [sm_congr (fR h) (g := fun f => if pv f = none then r f * bpv h n pv M f k else 0) (fun f _ => e f)]
  rcases Nat.lt_or_ge k n with z | z
  · refine (bas_all (fR h) w hk z).trans (sm_congr (fR h) (fun f _ => ?_))
    have e2 : bpv h n pv M f k = bas (fR h) pv M f k := if_pos z
    rw [e2]
  · rw [hr k z]
    refine (sm_zero (fR h) (fun f _ => ?_)).symm
    rw [bpv_dl h n pv M f k z]
    split <;> grind
theorem all_irr (h : prm p) {w f : Px p} {n m q : Nat} (hw : dg (fR h) w n) (hsq : sqf h w) (hf : dg (fR h) f m) (hm : 1 ≤ m) (hd : dv (fR h) f w) {pv : Nat → Option Nat} {M : Nat → Nat → Fp p} (hR : RR (fR h) n n q pv M) (hk : ∀ v, dl (fR h) v n → (ker h w v ↔ krn (fR h) n M v)) (hc : letI := pR h; ∀ k, k < n → pv k = none → ∃ c : Fp p, dv (fR h) f (bpv h n pv M k - cz h c)) : irr (fR h) f := by
  letI := fR h
  letI := pR h
  have hF := fld_p h
  by_cases hred : irr (fR h) f
  · exact hred
  · exfalso
    obtain ⟨v, hv, hvc⟩ := red_part h hw hsq hf ⟨_, hf.2⟩ hm hd hred
    obtain ⟨mv, hmv⟩ := hv.1
    obtain ⟨t, r, t1, t2, t3⟩ := div_ex hF hw mv v hmv
    have hwp : po (fR h) w := ⟨_, hw.2⟩
    have hkr : ker h w r := ker_cong h hv ⟨n, t3⟩ (by
      have e : v - r = t * w := by rw [t2]; generalize t * w = x; grind
      rw [e]; exact dv_r t1)
    have hs := bpv_sum h hR t3 ((hk r t3).mp hkr)
    obtain ⟨c, hcc⟩ : ∃ c : Nat → Fp p, ∀ k, k < n → pv k = none → dv (fR h) f (bpv h n pv M k - cz h (c k)) := by
      refine ⟨fun k => @Classical.epsilon (Fp p) ⟨zi h 0⟩ (fun x => dv (fR h) f (bpv h n pv M k - cz h x)), fun k k1 k2 => ?_⟩
      obtain ⟨x, hx⟩ := hc k k1 k2
      exact @Classical.epsilon_spec (Fp p) (fun x => dv (fR h) f (bpv h n pv M k - cz h x)) ⟨x, hx⟩
    refine hvc (sm (fR h) n (fun k => if pv k = none then r k * c k else 0)) ?_
    have e1 : r - cz h (sm (fR h) n (fun k => if pv k = none then r k * c k else 0)) = sm (pR h) n (fun k => if pv k = none then cz h (r k) * (bpv h n pv M k - cz h (c k)) else 0) := by
      have er : r - cz h (sm (fR h) n (fun k => if pv k = none then r k * c k else 0)) = sm (pR h) n (fun f => if pv f = none then cz h (r f) * bpv h n pv M f else 0) - cz h (sm (fR h) n (fun k => if pv k = none then r k * c k else 0)) := congrArg (fun x => x - cz h (sm (fR h) n (fun k => if pv k = none then r k * c k else 0))) hs
      rw [er, cz_sm h, ← sm_sub (pR h)]
      refine sm_congr (pR h) (fun k _ => ?_)
      by_cases z : pv k = none
      · rw [if_pos z, if_pos z, if_pos z, cz_mul]
        generalize cz h (r k) = x
        generalize cz h (c k) = y
        generalize bpv h n pv M k = u
        grind
      · rw [if_neg z, if_neg z, if_neg z]
        have e0 : cz h (0 : Fp p) = 0 := cz_0 h
        rw [e0]; grind
    have e2 : v - cz h (sm (fR h) n (fun k => if pv k = none then r k * c k else 0)) = t * w + (r - cz h (sm (fR h) n (fun k => if pv k = none then r k * c k else 0))) := by
      rw [t2]
      generalize cz h (sm (fR h) n (fun k => if pv k = none then r k * c k else 0)) = y
      generalize t * w = x
      grind
    rw [e2, e1]
    refine dv_add (dv_mul _ t1 hd) (dv_sm h n _ (fun k hk2 => ?_))
    show dv (fR h) f (if pv k = none then cz h (r k) * (bpv h n pv M k - cz h (c k)) else 0)
    by_cases z : pv k = none
    · rw [if_pos z]; exact dv_mul _ (cz_po h _) (hcc k hk2 z)
    · rw [if_neg z]; exact dv_0 (fR h) f
/-- the free columns, counted -/
theorem fr_enum (pv : Nat → Option Nat) : ∀ n, ∃ φ : Nat → Nat, ∀ f, f < n → pv f = none → ∃ j, j < nFr pv n ∧ φ j = f
  | 0 => ⟨fun _ => 0, fun f hf => absurd hf (by omega)⟩
  | n + 1 => by
    obtain ⟨φ, hφ⟩ := fr_enum pv n
    by_cases z : pv n = none
    · refine ⟨fun j => if j = nFr pv n then n else φ j, fun f hf hp => ?_⟩
      have en : nFr pv (n + 1) = nFr pv n + 1 := by
        show nFr pv n + (if pv n = none then 1 else 0) = _
        rw [if_pos z]
      by_cases y : f = n
      · exact ⟨nFr pv n, by omega, by show (if nFr pv n = nFr pv n then n else _) = f; rw [if_pos rfl, y]⟩
      · obtain ⟨j, j1, j2⟩ := hφ f (by omega) hp
        exact ⟨j, by omega, by show (if j = nFr pv n then n else φ j) = f; rw [if_neg (by omega)]; exact j2⟩
    · refine ⟨φ, fun f hf hp => ?_⟩
      have en : nFr pv (n + 1) = nFr pv n := by
        show nFr pv n + (if pv n = none then 1 else 0) = _
        rw [if_neg z]; rfl
      obtain ⟨j, j1, j2⟩ := hφ f (by
        rcases Nat.lt_or_ge f n with y | y
        · exact y
        · have : f = n := by omega
          rw [this] at hp; exact absurd hp z) hp
      exact ⟨j, by omega, j2⟩
/-- two parts of a square-free one are coprime -/
theorem sq_cop (h : prm p) {q k : Px p} {n : Nat} (hq : po (fR h) q) (hk : po (fR h) k) (hw : dg (fR h) (zmul (fR h) q k) n) (hsq : sqf h (zmul (fR h) q k)) : letI := pR h; ∃ u s : Px p, po (fR h) u ∧ po (fR h) s ∧ u * q + s * k = 1 := by
  letI := pR h
  have hF := fld_p h
  obtain ⟨m, hm⟩ := hk
  obtain ⟨d, u, s, d1, d2, d3, d4, d5, d6⟩ := bezout hF m q k hq hm
  have hk : po (fR h) k := ⟨m, hm⟩
  have hqn : q ≠ 0 := fun e => by
    have : zmul (fR h) q k = 0 := by rw [e]; show (0 : Px p) * k = 0; grind
    rw [this] at hw
    exact hw.1 (zero_k (fR h) n)
  have hdn : d ≠ 0 := fun e => by
    obtain ⟨t, t1, t2⟩ := d5
    rw [e] at t2
    exact hqn (by rw [t2]; show t * (0 : Px p) = 0; grind)
  rcases po_dg d1 with z | ⟨e, he⟩
  · exact absurd z hdn
  · rcases Nat.eq_zero_or_pos e with y | y
    · rw [y] at he
      obtain ⟨t, t1, t2⟩ := unit_of hF he
      refine ⟨t * u, t * s, mul_po t1 d2, mul_po t1 d3, ?_⟩
      have e9 : t * u * q + t * s * k = t * (u * q + s * k) := by grind
      rw [e9, ← d4]
      exact t2.symm
    · exfalso
      obtain ⟨g, g1, g2⟩ := irr_ex hF e d d1 y he
      obtain ⟨a, a1, a2⟩ := dv_tr g2 d5
      obtain ⟨b, b1, b2⟩ := dv_tr g2 d6
      refine hsq g g1 ⟨zmul (fR h) a b, mul_po a1 b1, ?_⟩
      show q * k = a * b * (g * g)
      have a3 : q = a * g := a2
      have b3 : k = b * g := b2
      rw [a3, b3]; grind
end
