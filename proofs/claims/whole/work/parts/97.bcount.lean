/-! lists of parts: when there are as many as free columns, all are irreducible -/
section
variable {p : Nat}
def prd (h : prm p) (Q : Nat → Px p) : Nat → Px p
  | 0 => letI := pR h; 1
  | e + 1 => letI := pR h; prd h Q e * Q e
theorem prd_cg (h : prm p) {Q Q2 : Nat → Px p} : ∀ e, (∀ i, i < e → Q i = Q2 i) → prd h Q e = prd h Q2 e
  | 0, _ => rfl
  | e + 1, H => by
    letI := pR h
    show prd h Q e * Q e = prd h Q2 e * Q2 e
    rw [prd_cg h e (fun i hi => H i (by omega)), H e (by omega)]
theorem prd_po (h : prm p) {Q : Nat → Px p} : ∀ e, (∀ i, i < e → po (fR h) (Q i)) → po (fR h) (prd h Q e)
  | 0, _ => one_po (fR h)
  | e + 1, H => mul_po (prd_po h e (fun i hi => H i (by omega))) (H e (by omega))
theorem prd_at (h : prm p) {Q : Nat → Px p} : ∀ e, (∀ i, i < e → po (fR h) (Q i)) → ∀ i, i < e → ∃ k, po (fR h) k ∧ prd h Q e = zmul (fR h) (Q i) k ∧ ∀ j, j < e → j ≠ i → dv (fR h) (Q j) k
  | 0, _, i, hi => absurd hi (by omega)
  | e + 1, H, i, hi => by
    letI := pR h
    by_cases z : i = e
    · subst z
      refine ⟨prd h Q i, prd_po h i (fun j hj => H j (by omega)), ?_, fun j hj hne => ?_⟩
      · show prd h Q i * Q i = Q i * prd h Q i
        grind
      · obtain ⟨k, k1, k2, _⟩ := prd_at h i (fun j hj => H j (by omega)) j (by omega)
        rw [k2]; exact dv_l k1
    · obtain ⟨k, k1, k2, k3⟩ := prd_at h e (fun j hj => H j (by omega)) i (by omega)
      refine ⟨k * Q e, mul_po k1 (H e (by omega)), ?_, fun j hj hne => ?_⟩
      · show prd h Q e * Q e = Q i * (k * Q e)
        have k4 : prd h Q e = Q i * k := k2
        rw [k4]; grind
      · by_cases y : j = e
        · rw [y]; exact dv_r k1
        · exact dv_mulr _ (H e (by omega)) (k3 j (by omega) hne)
def upQ (Q : Nat → Px p) (i : Nat) (a : Px p) : Nat → Px p := fun j => if j = i then a else Q j
theorem prd_up (h : prm p) {Q : Nat → Px p} {a b : Px p} {i : Nat} (eq : Q i = zmul (fR h) a b) : ∀ e, i < e → letI := pR h; prd h (upQ Q i a) e * b = prd h Q e
  | 0, hi => absurd hi (by omega)
  | e + 1, hi => by
    letI := pR h
    have eq2 : Q i = a * b := eq
    show prd h (upQ Q i a) e * upQ Q i a e * b = prd h Q e * Q e
    by_cases z : i = e
    · have e1 : upQ Q i a e = a := if_pos z.symm
      have e2 : prd h (upQ Q i a) e = prd h Q e := prd_cg h e (fun j hj => if_neg (by omega))
      rw [e1, e2, ← z, eq2, z]; grind
    · have e1 : upQ Q i a e = Q e := if_neg (fun q => z q.symm)
      rw [e1, ← prd_up h eq e (by omega)]; grind
/-- w is the product of e parts, none constant -/
def spl (h : prm p) (w : Px p) (e : Nat) (Q : Nat → Px p) : Prop := (∀ i, i < e → po (fR h) (Q i) ∧ ∃ m, 1 ≤ m ∧ dg (fR h) (Q i) m) ∧ w = prd h Q e
theorem spl_1 (h : prm p) {w : Px p} {m : Nat} (hw : dg (fR h) w m) (hm : 1 ≤ m) : spl h w 1 (fun _ => w) := ⟨fun i _ => ⟨⟨_, hw.2⟩, m, hm, hw⟩, by
  letI := pR h
  show w = 1 * w
  grind⟩
theorem spl_up (h : prm p) {w a b : Px p} {e i ma mb : Nat} {Q : Nat → Px p} (s : spl h w e Q) (hi : i < e) (eq : Q i = zmul (fR h) a b) (ha : dg (fR h) a ma) (hb : dg (fR h) b mb) (ha1 : 1 ≤ ma) (hb1 : 1 ≤ mb) : spl h w (e + 1) (upQ (upQ Q i a) e b) := by
  letI := pR h
  refine ⟨fun j hj => ?_, ?_⟩
  · by_cases z : j = e
    · have e1 : upQ (upQ Q i a) e b j = b := if_pos z
      rw [e1]; exact ⟨⟨_, hb.2⟩, mb, hb1, hb⟩
    · have e1 : upQ (upQ Q i a) e b j = upQ Q i a j := if_neg z
      rw [e1]
      by_cases y : j = i
      · have e2 : upQ Q i a j = a := if_pos y
        rw [e2]; exact ⟨⟨_, ha.2⟩, ma, ha1, ha⟩
      · have e2 : upQ Q i a j = Q j := if_neg y
        rw [e2]; exact s.1 j (by omega)
  · show w = prd h (upQ (upQ Q i a) e b) e * upQ (upQ Q i a) e b e
    have e1 : upQ (upQ Q i a) e b e = b := if_pos rfl
    have e2 : prd h (upQ (upQ Q i a) e b) e = prd h (upQ Q i a) e := prd_cg h e (fun j hj => if_neg (by omega))
    rw [e1, e2, prd_up h eq e hi]
    exact s.2
theorem spl_dv (h : prm p) {w : Px p} {e i : Nat} {Q : Nat → Px p} (s : spl h w e Q) (hi : i < e) : dv (fR h) (Q i) w := by
  obtain ⟨k, k1, k2, _⟩ := prd_at h e (fun j hj => (s.1 j hj).1) i hi
  rw [s.2, k2]; exact dv_l k1
/-- no more parts than free columns -/
theorem spl_le (h : prm p) {w : Px p} {n e q : Nat} {Q : Nat → Px p} (hw : dg (fR h) w n) (hsq : sqf h w) (s : spl h w e Q) {pv : Nat → Option Nat} {M : Nat → Nat → Fp p} (hR : RR (fR h) n n q pv M) (hk : ∀ v, dl (fR h) v n → (ker h w v ↔ krn (fR h) n M v)) : e ≤ nFr pv n := by
  letI := fR h
  letI := pR h
  rcases Nat.lt_or_ge (nFr pv n) e with z | z
  · exfalso
    obtain ⟨φ, hφ⟩ := fr_enum pv n
    have H : ∀ i, ∃ x : Px p × Px p × Px p, i ≤ nFr pv n → po (fR h) x.1 ∧ po (fR h) x.2.1 ∧ po (fR h) x.2.2 ∧ w = zmul (fR h) (Q i) x.1 ∧ x.2.1 * Q i + x.2.2 * x.1 = 1 ∧ ∀ j, j ≤ nFr pv n → j ≠ i → dv (fR h) (Q j) x.1 := fun i => by
      by_cases y : i ≤ nFr pv n
      · obtain ⟨k, k1, k2, k3⟩ := prd_at h e (fun j hj => (s.1 j hj).1) i (by omega)
        have ew : w = zmul (fR h) (Q i) k := s.2.trans k2
        obtain ⟨u, t, u1, t1, ut⟩ := sq_cop h (s.1 i (by omega)).1 k1 (by rw [← ew]; exact hw) (by rw [← ew]; exact hsq)
        exact ⟨(k, u, t), fun _ => ⟨k1, u1, t1, ew, ut, fun j hj hne => k3 j (by omega) hne⟩⟩
      · exact ⟨(0, 0, 0), fun q => absurd q y⟩
    obtain ⟨K, hK⟩ : ∃ K : Nat → Px p × Px p × Px p, ∀ i, i ≤ nFr pv n → po (fR h) (K i).1 ∧ po (fR h) (K i).2.1 ∧ po (fR h) (K i).2.2 ∧ w = zmul (fR h) (Q i) (K i).1 ∧ (K i).2.1 * Q i + (K i).2.2 * (K i).1 = 1 ∧ ∀ j, j ≤ nFr pv n → j ≠ i → dv (fR h) (Q j) (K i).1 := ⟨fun i => Classical.choose (H i), fun i => Classical.choose_spec (H i)⟩
    refine count_le h hw Q (fun i => (K i).1) (fun i => (K i).2.1) (fun i => (K i).2.2) (fun i hi => (s.1 i (by omega)).1) (fun i hi => (hK i hi).1) (fun i hi => (hK i hi).2.1) (fun i hi => (hK i hi).2.2.1) (fun i hi => (hK i hi).2.2.2.1) (fun i hi => (hK i hi).2.2.2.2.1) (fun i hi => (s.1 i (by omega)).2) (fun i j hi hj hne => (hK i hi).2.2.2.2.2 j hj (fun q => hne q.symm)) φ (fun v hv hl hz => ?_)
    have hs := bpv_sum h hR hl ((hk v hl).mp hv)
    rw [hs]
    refine sm_zero (pR h) (fun f hf => ?_)
    by_cases y : pv f = none
    · rw [if_pos y]
      obtain ⟨j, j1, j2⟩ := hφ f hf y
      have e0 : v f = 0 := by rw [← j2]; exact hz j j1
      rw [e0]
      have e1 : cz h (0 : Fp p) = 0 := cz_0 h
      rw [e1]; grind
    · rw [if_neg y]
  · exact z
theorem spl_irr (h : prm p) {w : Px p} {n e q : Nat} {Q : Nat → Px p} (hw : dg (fR h) w n) (hsq : sqf h w) (s : spl h w e Q) {pv : Nat → Option Nat} {M : Nat → Nat → Fp p} (hR : RR (fR h) n n q pv M) (hk : ∀ v, dl (fR h) v n → (ker h w v ↔ krn (fR h) n M v)) (he : nFr pv n ≤ e) {i : Nat} (hi : i < e) : irr (fR h) (Q i) := by
  letI := pR h
  have hF := fld_p h
  refine ⟨(s.1 i hi).1, (s.1 i hi).2, fun a b ha hb eq => ?_⟩
  obtain ⟨m, m1, m2⟩ := (s.1 i hi).2
  rcases po_dg ha with za | ⟨ma, hma⟩
  · exfalso
    have : Q i = 0 := by rw [eq, za]; show (0 : Px p) * b = 0; grind
    exact dg_ne m2 this
  · rcases po_dg hb with zb | ⟨mb, hmb⟩
    · exfalso
      have : Q i = 0 := by rw [eq, zb]; show a * (0 : Px p) = 0; grind
      exact dg_ne m2 this
    · rcases Nat.eq_zero_or_pos ma with y | y
      · rw [y] at hma; exact Or.inl hma
      · rcases Nat.eq_zero_or_pos mb with x | x
        · rw [x] at hmb; exact Or.inr hmb
        · exfalso
          have := spl_le h hw hsq (spl_up h s hi eq hma hmb y x) hR hk
          omega
end
