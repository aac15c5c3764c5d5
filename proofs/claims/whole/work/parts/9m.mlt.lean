/-! multiplicities; the order is total; what a search keeps -/
section
variable {p : Nat}
theorem mul_ml (h : prm p) {g f k : Px p} {e : Nat} (hg : irr (fR h) g) (w : mul_e h g f k e) : mlt h g f = e := by
  have key : ∀ a, isMl h g f a → a = e := fun a ⟨a1, a2⟩ => by
    have b1 := (mul_dv h hg w (a := a)).mp a1
    rcases Nat.lt_or_ge a e with z | z
    · exact absurd ((mul_dv h hg w (a := a + 1)).mpr (by omega)) a2
    · omega
  have e0 : isMl h g f e := ⟨(mul_dv h hg w).mpr (Nat.le_refl _), fun q => by have := (mul_dv h hg w (a := e + 1)).mp q; omega⟩
  exact key _ (Classical.epsilon_spec (p := isMl h g f) ⟨e, e0⟩)
theorem ml_ex (h : prm p) {g f : Px p} {n : Nat} (hg : irr (fR h) g) (hf : dg (fR h) f n) : ∃ k, mul_e h g f k (mlt h g f) := by
  obtain ⟨e, k, w⟩ := mul_ex h hg n n f (Nat.le_refl _) hf
  exact ⟨k, by rw [mul_ml h hg w]; exact w⟩
theorem pw_1 (h : prm p) (g : Px p) : letI := pR h; g ^ (1 : Nat) = g := by
  letI := pR h
  show g ^ (0 + 1) = g
  rw [pw_s (pR h), pw_0 (pR h)]; grind
theorem ml_pwdv (h : prm p) {g f : Px p} {n a : Nat} (hg : irr (fR h) g) (hf : dg (fR h) f n) : letI := pR h; dv (fR h) (g ^ a) f ↔ a ≤ mlt h g f := by
  obtain ⟨k, w⟩ := ml_ex h hg hf
  exact mul_dv h hg w
theorem ml_dv (h : prm p) {g f : Px p} {n : Nat} (hg : irr (fR h) g) (hf : dg (fR h) f n) : dv (fR h) g f ↔ 1 ≤ mlt h g f := by
  letI := pR h
  have := ml_pwdv h (a := 1) hg hf
  rw [pw_1 h] at this
  exact this
theorem pw_ad (h : prm p) (g : Px p) (a b : Nat) : letI := pR h; g ^ (a + b) = g ^ a * g ^ b := by
  letI := pR h
  induction b with
  | zero => rw [pw_0 (pR h)]; show g ^ a = _; grind
  | succ b ih =>
    show g ^ (a + b + 1) = _
    rw [pw_s (pR h), pw_s (pR h), ih]
    generalize g ^ a = x
    generalize g ^ b = y
    grind
theorem ml_mul (h : prm p) {g a b : Px p} {n m : Nat} (hg : irr (fR h) g) (ha : dg (fR h) a n) (hb : dg (fR h) b m) : mlt h g (zmul (fR h) a b) = mlt h g a + mlt h g b := by
  letI := pR h
  obtain ⟨k1, w1⟩ := ml_ex h hg ha
  obtain ⟨k2, w2⟩ := ml_ex h hg hb
  refine mul_ml h hg (k := zmul (fR h) k1 k2) ⟨mul_po w1.1 w2.1, ?_, fun q => ?_⟩
  · show a * b = g ^ (mlt h g a + mlt h g b) * (k1 * k2)
    rw [pw_ad h]
    have e1 := w1.2.1
    have e2 := w2.2.1
    have e3 : a * b = (g ^ mlt h g a * k1) * (g ^ mlt h g b * k2) := by rw [← e1, ← e2]
    rw [e3]
    generalize g ^ mlt h g a = x
    generalize g ^ mlt h g b = y
    grind
  · rcases irr_prime (fld_p h) hg w1.1 w2.1 q with z | z
    · exact w1.2.2 z
    · exact w2.2.2 z
theorem irr_n1 (h : prm p) {g : Px p} (hg : irr (fR h) g) : letI := pR h; ¬ dv (fR h) g (1 : Px p) := fun q => by
  obtain ⟨d, d1, d2⟩ := hg.2.1
  have := dv_deg (fld_p h) d2 (one_dg (fld_p h)) q
  omega
theorem ml_1 (h : prm p) {g : Px p} (hg : irr (fR h) g) : letI := pR h; mlt h g (1 : Px p) = 0 := by
  letI := pR h
  refine mul_ml h hg (k := 1) ⟨one_po (fR h), ?_, irr_n1 h hg⟩
  rw [pw_0 (pR h)]; grind
theorem ml_pw (h : prm p) {g a : Px p} {n : Nat} (hg : irr (fR h) g) (ha : dg (fR h) a n) (q : Nat) : letI := pR h; mlt h g (a ^ q) = q * mlt h g a := by
  letI := pR h
  induction q with
  | zero => rw [pw_0 (pR h), ml_1 h hg]; omega
  | succ q ih =>
    rw [pw_s (pR h)]
    have e := ml_mul h hg (pw_dg h ha q) ha
    have e2 : mlt h g (a ^ q * a) = mlt h g (a ^ q) + mlt h g a := e
    rw [e2, ih, Nat.succ_mul]
theorem ml_self (h : prm p) {g : Px p} (hg : irr (fR h) g) : mlt h g g = 1 := by
  letI := pR h
  refine mul_ml h hg (k := 1) ⟨one_po (fR h), ?_, irr_n1 h hg⟩
  rw [pw_1 h]; grind
theorem irr_eq (h : prm p) {g g2 : Px p} (hg : irr (fR h) g) (hg2 : irr (fR h) g2) (m1 : mnc h g) (m2 : mnc h g2) (hd : dv (fR h) g g2) : g = g2 := by
  obtain ⟨q, hq, e⟩ := hd
  obtain ⟨d, d1, d2⟩ := hg.2.1
  rcases hg2.2.2 q g hq hg.1 e with z | z
  · refine dv_dv h hg.1 hg2.1 ⟨q, hq, e⟩ ?_ m1 m2
    letI := pR h
    obtain ⟨u, hu, eu⟩ := unit_of (fld_p h) z
    refine ⟨u, hu, ?_⟩
    show g = u * g2
    have eu2 : (1 : Px p) = u * q := eu
    have e2 : g2 = q * g := e
    rw [e2]
    have e3 : u * (q * g) = (u * q) * g := by grind
    rw [e3, ← eu2]; grind
  · have := dg_un d2 z; omega
theorem ml_ne (h : prm p) {g g2 : Px p} (hg : irr (fR h) g) (hg2 : irr (fR h) g2) (m1 : mnc h g) (m2 : mnc h g2) (hne : g ≠ g2) : mlt h g g2 = 0 := by
  obtain ⟨d, d1, d2⟩ := hg2.2.1
  rcases Nat.eq_zero_or_pos (mlt h g g2) with z | z
  · exact z
  · exact absurd (irr_eq h hg hg2 m1 m2 ((ml_dv h hg d2).mpr z)) hne
theorem ml_c0 (h : prm p) {g f : Px p} (hg : irr (fR h) g) (hf : dg (fR h) f 0) : mlt h g f = 0 := by
  rcases Nat.eq_zero_or_pos (mlt h g f) with z | z
  · exact z
  · obtain ⟨d, d1, d2⟩ := hg.2.1
    have := dv_deg (fld_p h) d2 hf ((ml_dv h hg hf).mpr z)
    omega
theorem ml_deg (h : prm p) {g f : Px p} {n m : Nat} (hg : irr (fR h) g) (hm : dg (fR h) g m) (hf : dg (fR h) f n) : m * mlt h g f ≤ n := by
  letI := pR h
  have h1 := (ml_pwdv h (a := mlt h g f) hg hf).mpr (Nat.le_refl _)
  exact dv_deg (fld_p h) (pw_dg h hm _) hf h1
theorem dv_monL (h : prm p) {x f : Px p} (hf : po (fR h) f) : dv (fR h) x (mon h f) ↔ dv (fR h) x f := ⟨fun q => dv_tr q (mon_dv h hf), fun q => dv_tr q (dv_mon h)⟩
theorem mon_ml (h : prm p) (g : Px p) {f : Px p} (hf : po (fR h) f) : mlt h g (mon h f) = mlt h g f := by
  have e : isMl h g (mon h f) = isMl h g f := funext fun e => propext (by
    unfold isMl
    rw [dv_monL h hf, dv_monL h hf])
  unfold mlt
  rw [e]
theorem mon_fc (h : prm p) (g : Px p) {f : Px p} (hf : po (fR h) f) : isFc h (mon h f) g ↔ isFc h f g := by
  unfold isFc
  rw [dv_monL h hf]
/-- the order is total -/
theorem ltP_tri (h : prm p) {f g : Px p} (hf : po (fR h) f) (hg : po (fR h) g) (hne : f ≠ g) : ltP h f g ∨ ltP h g f := by
  rcases Int.lt_trichotomy (dgi h f) (dgi h g) with z | z | z
  · exact Or.inl (Or.inl z)
  · have key : ∀ n : Nat, (∀ m : Int, (n : Int) ≤ m → cf f m = cf g m) → ltP h f g ∨ ltP h g f := fun n => by
      induction n with
      | zero =>
        intro e
        exfalso
        refine hne (funext fun k => ?_)
        rw [← cf_zi h f k, ← cf_zi h g k, e k (by omega)]
      | succ n ih =>
        intro e
        rcases Int.lt_trichotomy (cf f n) (cf g n) with y | y | y
        · exact Or.inl (Or.inr ⟨z, n, by omega, y, fun m hm => e m (by omega)⟩)
        · refine ih (fun m hm => ?_)
          rcases Int.lt_or_le (n : Int) m with x | x
          · exact e m (by omega)
          · rw [show m = n by omega]; exact y
        · exact Or.inr (Or.inr ⟨z.symm, n, by omega, y, fun m hm => (e m (by omega)).symm⟩)
    have h1 := dgi_ge h hf
    refine key (dgi h f + 1).toNat (fun m hm => ?_)
    rw [cf_hi h hf (by omega), cf_hi h hg (by omega)]
  · exact Or.inr (Or.inl z)
theorem ltP_as (h : prm p) {f g : Px p} (a : ltP h f g) (b : ltP h g f) : False := ltP_ir h f (ltP_tr h f g f a b)
/-- the search: rows found, and a rest -/
def fiv (h : prm p) (F R : Px p) (q : Nat) (n : Int) (Q : Int → Px p) (t : Int → Int) : Prop := (∀ i : Int, 0 ≤ i → i < n → irr (fR h) (Q i) ∧ mnc h (Q i) ∧ t i = mlt h (Q i) F ∧ 1 ≤ t i ∧ ¬ dv (fR h) (Q i) R) ∧ (∀ i j : Int, 0 ≤ i → i < j → j < n → Q i ≠ Q j) ∧ ∀ g, irr (fR h) g → mnc h g → (∀ i : Int, 0 ≤ i → i < n → Q i ≠ g) → mlt h g F = q * mlt h g R
theorem fiv_0 (h : prm p) (F : Px p) (Q : Int → Px p) (t : Int → Int) : fiv h F F 1 0 Q t := ⟨fun i i0 i1 => by omega, fun i j i0 i1 i2 => by omega, fun g _ _ _ => by omega⟩
theorem fiv_root (h : prm p) {F S : Px p} {q d : Nat} {n : Int} {Q : Int → Px p} {t : Int → Int} (hS : dg (fR h) S d) (w : letI := pR h; fiv h F (S ^ p) q n Q t) : fiv h F S (q * p) n Q t := by
  letI := pR h
  have hp := h.1
  obtain ⟨w1, w2, w3⟩ := w
  have hSp : po (fR h) S := ⟨_, hS.2⟩
  refine ⟨fun i i0 i1 => ?_, w2, fun g hg hm hn => ?_⟩
  · obtain ⟨a, b, c, d, e⟩ := w1 i i0 i1
    refine ⟨a, b, c, d, fun z => e ?_⟩
    have h1 := (ml_dv h a hS).mp z
    refine (ml_dv h a (pw_dg h hS p)).mpr ?_
    rw [ml_pw h a hS]
    exact Nat.le_trans h1 (Nat.le_mul_of_pos_left _ (by omega))
  · rw [w3 g hg hm hn, ml_pw h hg hS, Nat.mul_assoc]
theorem fiv_div (h : prm p) {F R R1 : Px p} {q m d : Nat} {n : Int} {Q : Int → Px p} {t t2 : Int → Int} (hn0 : 0 ≤ n) (hR1 : dg (fR h) R1 d) (hq : 1 ≤ q) (hm1 : 1 ≤ m) (hg : irr (fR h) (Q n)) (hm : mnc h (Q n)) (hne : ∀ i : Int, 0 ≤ i → i < n → Q i ≠ Q n) (hs : mul_e h (Q n) R R1 m) (ht : ∀ i : Int, 0 ≤ i → i < n → t2 i = t i) (htn : t2 n = (q : Int) * m) (w : fiv h F R q n Q t) : fiv h F R1 q (n + 1) Q t2 := by
  letI := pR h
  obtain ⟨w1, w2, w3⟩ := w
  obtain ⟨dn, dn1, dn2⟩ := hg.2.1
  have eR : R = zmul (fR h) (Q n ^ m) R1 := hs.2.1
  have hF := w3 (Q n) hg hm hne
  rw [mul_ml h hg hs] at hF
  have hR1R : dv (fR h) R1 R := ⟨_, pw_po h hg.1 m, eR⟩
  refine ⟨fun i i0 i1 => ?_, fun i j i0 i1 i2 => ?_, fun g hgg hgm hgn => ?_⟩
  · rcases Int.lt_or_le i n with z | z
    · obtain ⟨a, b, c, d, e⟩ := w1 i i0 z
      exact ⟨a, b, by rw [ht i i0 z]; exact c, by rw [ht i i0 z]; exact d, fun y => e (dv_tr y hR1R)⟩
    · have : i = n := by omega
      subst this
      refine ⟨hg, hm, by rw [htn, hF, Int.natCast_mul], ?_, hs.2.2⟩
      rw [htn, ← Int.natCast_mul]
      have := Nat.mul_le_mul hq hm1
      omega
  · rcases Int.lt_or_le j n with z | z
    · exact w2 i j i0 i1 z
    · rw [show j = n by omega]; exact hne i i0 (by omega)
  · rw [w3 g hgg hgm (fun i i0 i1 => hgn i i0 (by omega)), eR, ml_mul h hgg (pw_dg h dn2 m) hR1, ml_pw h hgg dn2, ml_ne h hgg hg hgm hm (fun e => hgn n hn0 (by omega) e.symm), Nat.mul_zero, Nat.zero_add]
/-- a full list of the factors -/
def fcl (h : prm p) (f : Px p) (n : Int) (Q : Int → Px p) (t : Int → Int) : Prop := (∀ i : Int, 0 ≤ i → i < n → isFc h f (Q i) ∧ t i = mlt h (Q i) f ∧ 1 ≤ t i) ∧ (∀ i j : Int, 0 ≤ i → i < j → j < n → Q i ≠ Q j) ∧ ∀ g, isFc h f g → ∃ i : Int, 0 ≤ i ∧ i < n ∧ Q i = g
theorem fiv_fcl (h : prm p) {F R : Px p} {q d : Nat} {n : Int} {Q : Int → Px p} {t : Int → Int} (hF : dg (fR h) F d) (hR : dg (fR h) R 0) (w : fiv h F R q n Q t) : fcl h F n Q t := by
  obtain ⟨w1, w2, w3⟩ := w
  refine ⟨fun i i0 i1 => ?_, w2, fun g hg => ?_⟩
  · obtain ⟨a, b, c, d, e⟩ := w1 i i0 i1
    exact ⟨⟨a, b, (ml_dv h a hF).mpr (by omega)⟩, c, d⟩
  · refine Classical.byContradiction fun z => ?_
    have h1 := w3 g hg.1 hg.2.1 (fun i i0 i1 e => z ⟨i, i0, i1, e⟩)
    rw [ml_c0 h hg.1 hR] at h1
    have := (ml_dv h hg.1 hF).mp hg.2.2
    omega
theorem fcl_mon (h : prm p) {f : Px p} {n : Int} {Q : Int → Px p} {t : Int → Int} (hf : po (fR h) f) (w : fcl h (mon h f) n Q t) : fcl h f n Q t := by
  refine ⟨fun i i0 i1 => ?_, w.2.1, fun g hg => w.2.2 g ((mon_fc h g hf).mpr hg)⟩
  obtain ⟨a, b, c⟩ := w.1 i i0 i1
  exact ⟨(mon_fc h _ hf).mp a, by rw [b, mon_ml h _ hf], c⟩
/-- sorted, it is the list of factors -/
theorem fcl_so (h : prm p) {f : Px p} {n : Int} {Q : Int → Px p} {t : Int → Int} (hn : 0 ≤ n) (w : fcl h f n Q t) (hs : ∀ i : Int, 0 ≤ i → i + 1 < n → ltP h (Q i) (Q (i + 1))) : (fN h f : Int) = n ∧ ∀ i : Int, 0 ≤ i → i < n → fP h f i = Q i ∧ fE h f i = t i := by
  have so : isSo (ltP h) (isFc h f) n.toNat (fun i => Q i) := ⟨fun i hi => (w.1 i (by omega) (by omega)).1, fun g hg => by
    obtain ⟨i, i0, i1, e⟩ := w.2.2 g hg
    exact ⟨i.toNat, by omega, by dsimp only; rw [show ((i.toNat : Nat) : Int) = i by omega]; exact e⟩, fun i hi => by
    have := hs i (by omega) (by omega)
    dsimp only
    rw [show ((i + 1 : Nat) : Int) = (i : Int) + 1 by omega]; exact this⟩
  have u := soX_un (x := (letI := pR h; (0 : Px p))) (ltP_ir h) (ltP_tr h) so
  have e1 : fN h f = n.toNat := u.1.symm
  refine ⟨by rw [e1]; omega, fun i i0 i1 => ?_⟩
  have e2 : fP h f i = Q i := by
    have := u.2 i.toNat (by omega)
    rw [show ((i.toNat : Nat) : Int) = i by omega] at this
    exact this.symm
  exact ⟨e2, by unfold fE; rw [e2]; exact (w.1 i i0 i1).2.1.symm⟩
end
