/-! Gauss' and Jordan's way to a kernel -/
section
variable {K : Type}
/-- v is sent to 0 by the first n rows -/
def krn (R : Lean.Grind.CommRing K) (n : Nat) (M : Nat → Nat → K) (v : Nat → K) : Prop := letI := R; ∀ i, i < n → sm R n (fun k => M i k * v k) = 0
/-- rows a and r change; the new r is multiplied by c -/
def rsR (R : Lean.Grind.CommRing K) (M : Nat → Nat → K) (a r : Nat) (c : K) : Nat → Nat → K := letI := R; fun i k => if i = r then M a k * c else if i = a then M r k else M i k
/-- the other rows lose their number in column c -/
def clR (R : Lean.Grind.CommRing K) (M : Nat → Nat → K) (r c : Nat) : Nat → Nat → K := letI := R; fun i k => if i = r then M i k else M i k - M i c * M r k
theorem krn_rs (R : Lean.Grind.CommRing K) {n : Nat} {M : Nat → Nat → K} {v : Nat → K} {a r : Nat} {c d : K} (ha : a < n) (hr : r < n) (hc : letI := R; c * d = 1) : krn R n (rsR R M a r c) v ↔ krn R n M v := by
  letI := R
  have e1 : sm R n (fun k => rsR R M a r c r k * v k) = c * sm R n (fun k => M a k * v k) := by
    rw [← sm_mul R]
    exact sm_congr R (fun k _ => by
      show (if r = r then M a k * c else _) * v k = _
      rw [if_pos rfl]; grind)
  have e2 : ∀ i, i ≠ r → sm R n (fun k => rsR R M a r c i k * v k) = sm R n (fun k => M (if i = a then r else i) k * v k) := fun i hi => sm_congr R (fun k _ => by
    show (if i = r then M a k * c else if i = a then M r k else M i k) * v k = _
    rw [if_neg hi]
    by_cases z : i = a
    · rw [if_pos z, if_pos z]
    · rw [if_neg z, if_neg z])
  constructor
  · intro w i hi
    have wr := w r hr
    rw [e1] at wr
    have ea : sm R n (fun k => M a k * v k) = 0 := by
      have : sm R n (fun k => M a k * v k) = d * (c * sm R n (fun k => M a k * v k)) := by
        generalize sm R n (fun k => M a k * v k) = x
        grind
      rw [this, wr]; grind
    by_cases z : i = a
    · rw [z]; exact ea
    · by_cases y : i = r
      · have wa := w a ha
        rw [e2 a (fun q => z (by rw [y, q])), if_pos rfl] at wa
        rw [y]; exact wa
      · have wi := w i hi
        rw [e2 i y, if_neg z] at wi
        exact wi
  · intro w i hi
    by_cases y : i = r
    · rw [y, e1, w a ha]; grind
    · rw [e2 i y]
      by_cases z : i = a
      · rw [if_pos z]; exact w r hr
      · rw [if_neg z]; exact w i hi
theorem krn_cl (R : Lean.Grind.CommRing K) {n : Nat} {M : Nat → Nat → K} {v : Nat → K} {r c : Nat} (hr : r < n) : krn R n (clR R M r c) v ↔ krn R n M v := by
  letI := R
  have e1 : sm R n (fun k => clR R M r c r k * v k) = sm R n (fun k => M r k * v k) := sm_congr R (fun k _ => by
    show (if r = r then M r k else _) * v k = _
    rw [if_pos rfl])
  have e2 : ∀ i, i ≠ r → sm R n (fun k => clR R M r c i k * v k) = sm R n (fun k => M i k * v k) - M i c * sm R n (fun k => M r k * v k) := fun i hi => by
    rw [← sm_mul R, ← sm_sub R]
    exact sm_congr R (fun k _ => by
      show (if i = r then M i k else M i k - M i c * M r k) * v k = _
      rw [if_neg hi]; grind)
  constructor
  · intro w i hi
    have wr := w r hr
    rw [e1] at wr
    by_cases z : i = r
    · rw [z]; exact wr
    · have wi := w i hi
      rw [e2 i z, wr] at wi
      generalize sm R n (fun k => M i k * v k) = x at wi ⊢
      grind
  · intro w i hi
    by_cases z : i = r
    · rw [z, e1]; exact w r hr
    · rw [e2 i z, w i hi, w r hr]; grind
/-- how many of the first c columns are free -/
def nFr (pv : Nat → Option Nat) : Nat → Nat
  | 0 => 0
  | c + 1 => nFr pv c + (if pv c = none then 1 else 0)
theorem nFr_cg {pv qv : Nat → Option Nat} : ∀ c, (∀ k, k < c → pv k = qv k) → nFr pv c = nFr qv c
  | 0, _ => rfl
  | c + 1, h => by
    show nFr pv c + (if pv c = none then 1 else 0) = nFr qv c + (if qv c = none then 1 else 0)
    rw [nFr_cg c (fun k hk => h k (by omega)), h c (by omega)]
/-- the first c columns are done: their pivots' rows are 0 .. q - 1 -/
def RR (R : Lean.Grind.CommRing K) (n c q : Nat) (pv : Nat → Option Nat) (M : Nat → Nat → K) : Prop := letI := R; (∀ k r, k < c → pv k = some r → r < q ∧ ∀ i, i < n → M i k = if i = r then 1 else 0) ∧ (∀ k, k < c → pv k = none → ∀ i, q ≤ i → i < n → M i k = 0) ∧ (∀ r, r < q → ∃ k, k < c ∧ pv k = some r) ∧ (∀ k l r, k < c → l < c → pv k = some r → pv l = some r → k = l) ∧ q ≤ n ∧ nFr pv c + q = c
def pvp (pv : Nat → Option Nat) (c : Nat) (x : Option Nat) : Nat → Option Nat := fun k => if k = c then x else pv k
theorem RR_0 (R : Lean.Grind.CommRing K) (n : Nat) (pv : Nat → Option Nat) (M : Nat → Nat → K) : RR R n 0 0 pv M := ⟨fun k r hk => absurd hk (by omega), fun k hk => absurd hk (by omega), fun r hr => absurd hr (by omega), fun k l r hk => absurd hk (by omega), by omega, rfl⟩
/-- in a column without a number below, nothing is done -/
theorem RR_free (R : Lean.Grind.CommRing K) {n c q : Nat} {pv : Nat → Option Nat} {M : Nat → Nat → K} (w : RR R n c q pv M) (hz : letI := R; ∀ i, q ≤ i → i < n → M i c = 0) : RR R n (c + 1) q (pvp pv c none) M := by
  letI := R
  obtain ⟨w1, w2, w3, w4, w5, w6⟩ := w
  have ne : ∀ {k}, k < c → pvp pv c none k = pv k := fun {k} hk => if_neg (by omega)
  have at_c : pvp pv c none c = none := if_pos rfl
  have lt : ∀ {k}, k < c + 1 → k ≠ c → k < c := fun {k} h1 h2 => by omega
  refine ⟨fun k r hk hp => ?_, fun k hk hp i i0 i1 => ?_, fun r hr => ?_, fun k l r hk hl h1 h2 => ?_, w5, ?_⟩
  · by_cases z : k = c
    · rw [z, at_c] at hp; exact absurd hp (by simp)
    · rw [ne (lt hk z)] at hp; exact w1 k r (lt hk z) hp
  · by_cases z : k = c
    · rw [z]; exact hz i i0 i1
    · rw [ne (lt hk z)] at hp; exact w2 k (lt hk z) hp i i0 i1
  · obtain ⟨k, k1, k2⟩ := w3 r hr
    exact ⟨k, by omega, by rw [ne k1]; exact k2⟩
  · by_cases z : k = c
    · rw [z, at_c] at h1; exact absurd h1 (by simp)
    · by_cases y : l = c
      · rw [y, at_c] at h2; exact absurd h2 (by simp)
      · rw [ne (lt hk z)] at h1; rw [ne (lt hl y)] at h2
        exact w4 k l r (lt hk z) (lt hl y) h1 h2
  · show nFr (pvp pv c none) c + (if pvp pv c none c = none then 1 else 0) + q = c + 1
    rw [at_c, if_pos rfl, nFr_cg (qv := pv) c (fun k hk => ne hk)]; omega
/-- a row from q on has no number before column c -/
theorem RR_low (R : Lean.Grind.CommRing K) {n c q : Nat} {pv : Nat → Option Nat} {M : Nat → Nat → K} (w : RR R n c q pv M) {i k : Nat} (i0 : q ≤ i) (i1 : i < n) (k1 : k < c) : letI := R; M i k = 0 := by
  letI := R
  cases hp : pv k with
  | none => exact w.2.1 k k1 hp i i0 i1
  | some r =>
    have := w.1 k r k1 hp
    rw [this.2 i i1, if_neg (by omega)]
theorem RR_step (R : Lean.Grind.CommRing K) {n c q : Nat} {pv : Nat → Option Nat} {M : Nat → Nat → K} (w : RR R n c q pv M) {a : Nat} {d : K} (a0 : q ≤ a) (a1 : a < n) (hd : letI := R; M a c * d = 1) : RR R n (c + 1) (q + 1) (pvp pv c (some q)) (clR R (rsR R M a q d) q c) := by
  letI := R
  have low := fun {i k : Nat} (i0 : q ≤ i) (i1 : i < n) (k1 : k < c) => RR_low R w i0 i1 k1
  obtain ⟨w1, w2, w3, w4, w5, w6⟩ := w
  have ne : ∀ {k}, k < c → pvp pv c (some q) k = pv k := fun {k} hk => if_neg (by omega)
  have at_c : pvp pv c (some q) c = some q := if_pos rfl
  have lt : ∀ {k}, k < c + 1 → k ≠ c → k < c := fun {k} h1 h2 => by omega
  have rq : ∀ k, rsR R M a q d q k = M a k * d := fun k => if_pos rfl
  have ri : ∀ i k, i ≠ q → rsR R M a q d i k = M (if i = a then q else i) k := fun i k hi => by
    show (if i = q then _ else if i = a then M q k else M i k) = _
    rw [if_neg hi]
    by_cases z : i = a
    · rw [if_pos z, if_pos z]
    · rw [if_neg z, if_neg z]
  have cq : ∀ k, clR R (rsR R M a q d) q c q k = M a k * d := fun k => by
    show (if q = q then rsR R M a q d q k else _) = _
    rw [if_pos rfl, rq]
  have ci : ∀ i k, i ≠ q → clR R (rsR R M a q d) q c i k = M (if i = a then q else i) k - M (if i = a then q else i) c * (M a k * d) := fun i k hi => by
    show (if i = q then rsR R M a q d i k else rsR R M a q d i k - rsR R M a q d i c * rsR R M a q d q k) = _
    rw [if_neg hi, rq, ri i k hi, ri i c hi]
  -- columns before c stand
  have old : ∀ i k, i < n → k < c → clR R (rsR R M a q d) q c i k = M i k := fun i k hi hk => by
    by_cases z : i = q
    · rw [z, cq, low a0 a1 hk, low (Nat.le_refl q) (by omega) hk]; grind
    · rw [ci i k z, low a0 a1 hk]
      by_cases y : i = a
      · rw [if_pos y, low (Nat.le_refl q) (by omega) hk, y, low a0 a1 hk]; grind
      · rw [if_neg y]; grind
  refine ⟨fun k r hk hp => ?_, fun k hk hp i i0 i1 => ?_, fun r hr => ?_, fun k l r hk hl h1 h2 => ?_, by omega, ?_⟩
  · by_cases z : k = c
    · rw [z, at_c] at hp
      have er := Option.some.inj hp
      subst er
      refine ⟨by omega, fun i hi => ?_⟩
      rw [z]
      by_cases y : i = q
      · rw [if_pos y, y, cq]; exact hd
      · rw [if_neg y, ci i c y, hd]; grind
    · rw [ne (lt hk z)] at hp
      have := w1 k r (lt hk z) hp
      exact ⟨by omega, fun i hi => by rw [old i k hi (lt hk z)]; exact this.2 i hi⟩
  · by_cases z : k = c
    · rw [z, at_c] at hp; exact absurd hp (by simp)
    · rw [ne (lt hk z)] at hp
      rw [old i k i1 (lt hk z)]
      exact w2 k (lt hk z) hp i (by omega) i1
  · by_cases z : r = q
    · exact ⟨c, by omega, by rw [at_c, z]⟩
    · obtain ⟨k, k1, k2⟩ := w3 r (by omega)
      exact ⟨k, by omega, by rw [ne k1]; exact k2⟩
  · by_cases z : k = c
    · by_cases y : l = c
      · omega
      · rw [z, at_c] at h1; rw [ne (lt hl y)] at h2
        have := (w1 l r (lt hl y) h2).1
        have := Option.some.inj h1
        omega
    · by_cases y : l = c
      · rw [y, at_c] at h2; rw [ne (lt hk z)] at h1
        have := (w1 k r (lt hk z) h1).1
        have := Option.some.inj h2
        omega
      · rw [ne (lt hk z)] at h1; rw [ne (lt hl y)] at h2
        exact w4 k l r (lt hk z) (lt hl y) h1 h2
  · show nFr (pvp pv c (some q)) c + (if pvp pv c (some q) c = none then 1 else 0) + (q + 1) = c + 1
    rw [at_c, if_neg (by simp), nFr_cg (qv := pv) c (fun k hk => ne hk)]; omega
/-- the vector that a free column gives -/
def bas (R : Lean.Grind.CommRing K) (pv : Nat → Option Nat) (M : Nat → Nat → K) (f k : Nat) : K := letI := R; if k = f then 1 else match pv k with
  | none => 0
  | some r => - M r f
theorem bas_in (R : Lean.Grind.CommRing K) {n q : Nat} {pv : Nat → Option Nat} {M : Nat → Nat → K} (w : RR R n n q pv M) {f : Nat} (hf : f < n) (hp : pv f = none) : krn R n M (bas R pv M f) := by
  letI := R
  intro i hi
  rcases Nat.lt_or_ge i q with z | z
  · obtain ⟨k0, k1, k2⟩ := w.2.2.1 i z
    have hk0 : k0 ≠ f := fun e => by rw [e, hp] at k2; exact absurd k2 (by simp)
    have e : sm R n (fun k => M i k * bas R pv M f k) = sm R n (fun k => (if k = k0 then - M i f else 0) + (if k = f then M i f else 0)) := sm_congr R (fun k hk => by
      show M i k * (if k = f then 1 else match pv k with
        | none => 0
        | some r => - M r f) = _
      by_cases y : k = f
      · rw [if_pos y, if_neg (by omega), if_pos y, y]; grind
      · rw [if_neg y, if_neg y]
        by_cases x : k = k0
        · rw [if_pos x, x, k2, (w.1 k0 i k1 k2).2 i hi, if_pos rfl]
          show 1 * - M i f = _
          grind
        · rw [if_neg x]
          cases hv : pv k with
          | none => show M i k * 0 = _; grind
          | some r =>
            have hri : i ≠ r := fun e => x (w.2.2.2.1 k k0 i hk k1 (by rw [hv, e]) k2)
            rw [(w.1 k r hk hv).2 i hi, if_neg hri]
            show 0 * - M r f = _
            grind)
    rw [e, sm_add R, sm_one R (j := k0) k1 (fun j _ hj => if_neg hj), sm_one R (j := f) hf (fun j _ hj => if_neg hj), if_pos rfl, if_pos rfl]
    grind
  · exact sm_zero R (fun k hk => by rw [RR_low R w z hi hk]; grind)
/-- and they give all -/
theorem bas_all (R : Lean.Grind.CommRing K) {n q : Nat} {pv : Nat → Option Nat} {M : Nat → Nat → K} (w : RR R n n q pv M) {v : Nat → K} (hv : krn R n M v) {k : Nat} (hk : k < n) : letI := R; v k = sm R n (fun f => if pv f = none then v f * bas R pv M f k else 0) := by
  letI := R
  cases hp : pv k with
  | none =>
    rw [sm_one R (j := k) hk (fun j _ hj => by
      show (if pv j = none then v j * bas R pv M j k else 0) = 0
      have e : bas R pv M j k = 0 := by
        show (if k = j then 1 else match pv k with
          | none => 0
          | some r => - M r j) = 0
        rw [if_neg (fun e => hj e.symm), hp]
      rw [e]
      split <;> grind), if_pos hp]
    have e : bas R pv M k k = 1 := if_pos rfl
    rw [e]; grind
  | some r =>
    have hr := w.1 k r hk hp
    have h0 := hv r (by have := w.2.2.2.2.1; omega)
    have e : sm R n (fun j => M r j * v j) = sm R n (fun j => (if j = k then v k else 0) - (if pv j = none then v j * bas R pv M j k else 0)) := sm_congr R (fun j hj => by
      by_cases y : j = k
      · rw [if_pos y, y, hr.2 r (by have := w.2.2.2.2.1; omega), if_pos rfl, hp, if_neg (by simp)]; grind
      · rw [if_neg y]
        cases hj2 : pv j with
        | none =>
          rw [if_pos rfl]
          have e2 : bas R pv M j k = - M r j := by
            show (if k = j then 1 else match pv k with
              | none => 0
              | some r => - M r j) = _
            rw [if_neg (fun e => y e.symm), hp]
          rw [e2]; grind
        | some t =>
          rw [if_neg (by simp)]
          have hrt : r ≠ t := fun e => y (w.2.2.2.1 j k r hj hk (by rw [hj2, e]) hp)
          rw [(w.1 j t hj hj2).2 r (by have := w.2.2.2.2.1; omega), if_neg hrt]; grind)
    rw [e, sm_sub R, sm_one R (j := k) hk (fun j _ hj => if_neg hj), if_pos rfl] at h0
    generalize sm R n (fun j => if pv j = none then v j * bas R pv M j k else 0) = x at h0 ⊢
    grind
end
