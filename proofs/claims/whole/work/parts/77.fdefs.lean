/-! sorted rows; factors, square-free parts, roots -/
section
variable {α : Type}
def isSo (lt : α → α → Prop) (S : α → Prop) (n : Nat) (P : Nat → α) : Prop := (∀ i, i < n → S (P i)) ∧ (∀ x, S x → ∃ i, i < n ∧ P i = x) ∧ ∀ i, i + 1 < n → lt (P i) (P (i + 1))
theorem so_lt {lt : α → α → Prop} {S : α → Prop} {n : Nat} {P : Nat → α} (tr : ∀ a b c, lt a b → lt b c → lt a c) (h : isSo lt S n P) : ∀ d i, i + d + 1 < n → lt (P i) (P (i + d + 1))
  | 0, i, hi => h.2.2 i hi
  | d + 1, i, hi => tr _ _ _ (so_lt tr h d i (by omega)) (h.2.2 (i + d + 1) (by omega))
theorem so_lt2 {lt : α → α → Prop} {S : α → Prop} {n : Nat} {P : Nat → α} (tr : ∀ a b c, lt a b → lt b c → lt a c) (h : isSo lt S n P) {i j : Nat} (hij : i < j) (hj : j < n) : lt (P i) (P j) := by
  have := so_lt tr h (j - i - 1) i (by omega)
  rw [show i + (j - i - 1) + 1 = j by omega] at this
  exact this
theorem so_step {lt : α → α → Prop} {S : α → Prop} {n m : Nat} {P Q : Nat → α} (ir : ∀ a, ¬ lt a a) (tr : ∀ a b c, lt a b → lt b c → lt a c) (h : isSo lt S n P) (k : isSo lt S m Q) : ∀ i, i < n → i < m ∧ P i = Q i := by
  intro i
  induction i using Nat.strongRecOn with
  | ind i ih =>
    intro hi
    obtain ⟨j, hj, ej⟩ := k.2.1 _ (h.1 i hi)
    have hji : i ≤ j := by
      rcases Nat.lt_or_ge j i with z | z
      · exfalso
        have e := (ih j z (by omega)).2
        have l := so_lt2 tr h z hi
        rw [e, ej] at l
        exact ir _ l
      · exact z
    refine ⟨by omega, ?_⟩
    obtain ⟨l, hl, el⟩ := h.2.1 _ (k.1 i (by omega))
    have hli : i ≤ l := by
      rcases Nat.lt_or_ge l i with z | z
      · exfalso
        have e := (ih l z (by omega)).2
        have q := so_lt2 tr k z (show i < m by omega)
        rw [← e, el] at q
        exact ir _ q
      · exact z
    rcases Nat.lt_or_eq_of_le hji with z | z
    · exfalso
      have q := so_lt2 tr k z hj
      rw [ej] at q
      rcases Nat.lt_or_eq_of_le hli with y | y
      · have q2 := so_lt2 tr h y hl
        rw [el] at q2
        exact ir _ (tr _ _ _ q q2)
      · subst y
        rw [el] at q
        exact ir _ q
    · subst z; exact ej.symm
theorem so_un {lt : α → α → Prop} {S : α → Prop} {n m : Nat} {P Q : Nat → α} (ir : ∀ a, ¬ lt a a) (tr : ∀ a b c, lt a b → lt b c → lt a c) (h : isSo lt S n P) (k : isSo lt S m Q) : n = m ∧ ∀ i, i < n → P i = Q i := by
  have a := so_step ir tr h k
  have b := so_step ir tr k h
  refine ⟨?_, fun i hi => (a i hi).2⟩
  rcases Nat.lt_trichotomy n m with z | z | z
  · have := (b n z).1; omega
  · exact z
  · have := (a m z).1; omega
noncomputable def soX (x : α) (lt : α → α → Prop) (S : α → Prop) : Nat × (Nat → α) := @Classical.epsilon (Nat × (Nat → α)) ⟨(0, fun _ => x)⟩ (fun z => isSo lt S z.1 z.2)
theorem soX_un {x : α} {lt : α → α → Prop} {S : α → Prop} {n : Nat} {P : Nat → α} (ir : ∀ a, ¬ lt a a) (tr : ∀ a b c, lt a b → lt b c → lt a c) (h : isSo lt S n P) : n = (soX x lt S).1 ∧ ∀ i, i < n → P i = (soX x lt S).2 i :=
  so_un ir tr h (@Classical.epsilon_spec (Nat × (Nat → α)) (fun z => isSo lt S z.1 z.2) ⟨(n, P), h⟩)
end
section
variable {p : Nat}
/-- lesser degrees first, then by numbers from the greatest power down -/
def ltP (h : prm p) (f g : Px p) : Prop := dgi h f < dgi h g ∨ (dgi h f = dgi h g ∧ ∃ k : Int, 0 ≤ k ∧ cf f k < cf g k ∧ ∀ m, k < m → cf f m = cf g m)
theorem ltP_ir (h : prm p) (f : Px p) : ¬ ltP h f f := by
  rintro (z | ⟨_, k, _, z, _⟩) <;> omega
theorem ltP_tr (h : prm p) (f g e : Px p) (a : ltP h f g) (b : ltP h g e) : ltP h f e := by
  rcases a with a | ⟨a1, k, a2, a3, a4⟩
  · rcases b with b | ⟨b1, _⟩
    · exact Or.inl (by omega)
    · exact Or.inl (by omega)
  · rcases b with b | ⟨b1, m, b2, b3, b4⟩
    · exact Or.inl (by omega)
    · refine Or.inr ⟨by omega, ?_⟩
      rcases Int.lt_trichotomy k m with z | z | z
      · exact ⟨m, b2, by rw [a4 m z]; exact b3, fun q hq => (a4 q (by omega)).trans (b4 q hq)⟩
      · exact ⟨k, a2, by rw [← z] at b3; omega, fun q hq => (a4 q hq).trans (b4 q (by omega))⟩
      · exact ⟨k, a2, by rw [← b4 k z]; exact a3, fun q hq => (a4 q hq).trans (b4 q (by omega))⟩
/-- a factor of f -/
def isFc (h : prm p) (f g : Px p) : Prop := irr (fR h) g ∧ mnc h g ∧ dv (fR h) g f
noncomputable def fX (h : prm p) (f : Px p) : Nat × (Nat → Px p) := soX (letI := pR h; (0 : Px p)) (ltP h) (isFc h f)
noncomputable def fN (h : prm p) (f : Px p) : Nat := (fX h f).1
noncomputable def fP (h : prm p) (f : Px p) (i : Int) : Px p := (fX h f).2 i.toNat
/-- how often g divides f -/
def isMl (h : prm p) (g f : Px p) (e : Nat) : Prop := dv (fR h) (pwp h g e) f ∧ ¬ dv (fR h) (pwp h g (e + 1)) f
noncomputable def mlt (h : prm p) (g f : Px p) : Nat := Classical.epsilon (isMl h g f)
noncomputable def fE (h : prm p) (f : Px p) (i : Int) : Int := mlt h (fP h f i) f
/-- how often together -/
noncomputable def fS (h : prm p) (f : Px p) : Nat → Int
  | 0 => 0
  | n + 1 => fS h f n + fE h f n
/-- the product of the first n factors that divide k times -/
noncomputable def fQ (h : prm p) (f : Px p) (k : Int) : Nat → Px p
  | 0 => cz h (zi h 1)
  | n + 1 => if fE h f n = k then pml h (fQ h f k n) (fP h f n) else fQ h f k n
def isKf (h : prm p) (f : Px p) (k : Int) : Prop := ∃ i : Nat, i < fN h f ∧ fE h f i = k
noncomputable def kX (h : prm p) (f : Px p) : Nat × (Nat → Int) := soX (0 : Int) (fun a b => a < b) (isKf h f)
noncomputable def kN (h : prm p) (f : Px p) : Nat := (kX h f).1
noncomputable def kK (h : prm p) (f : Px p) (i : Int) : Int := (kX h f).2 i.toNat
noncomputable def kQ (h : prm p) (f : Px p) (i : Int) : Px p := fQ h f (kK h f i) (fN h f)
def isRf (h : prm p) (f : Px p) (r : Int) : Prop := ∃ i : Nat, i < fN h f ∧ dgi h (fP h f i) = 1 ∧ r = (p - cf (fP h f i) 0) % p
noncomputable def rX (h : prm p) (f : Px p) : Nat × (Nat → Int) := soX (0 : Int) (fun a b => a < b) (isRf h f)
noncomputable def rN (h : prm p) (f : Px p) : Nat := (rX h f).1
noncomputable def rR (h : prm p) (f : Px p) (i : Int) : Int := (rX h f).2 i.toNat
/-! what calls answer of the latest factor() -/
noncomputable def aFo (h : prm p) (fo : Option (Px p)) (i w : Int) : Int := match fo with
  | some f => if 0 ≤ i ∧ i < fN h f ∧ 0 ≤ w ∧ w ≤ 1 then (if w = 0 then fE h f i else dgi h (fP h f i)) else -1
  | none => -1
noncomputable def aFa (h : prm p) (fo : Option (Px p)) (i k : Int) : Int := match fo with
  | some f => if 0 ≤ i ∧ i < fN h f ∧ 0 ≤ k ∧ k ≤ 40 then cf (fP h f i) k else -1
  | none => -1
noncomputable def rTk (h : prm p) (fo : Option (Px p)) (i : Int) : Rs p := match fo with
  | some f => if 0 ≤ i ∧ i < fN h f then kR h (fP h f i) else .inl (-1)
  | none => .inl (-1)
noncomputable def aTo (h : prm p) (fo : Option (Px p)) (w : Int) : Int := match fo with
  | some f => if w = 0 then ld h f else if w = 1 then kN h f else if w = 2 then rN h f else if w = 3 then fS h f (fN h f) else -1
  | none => -1
noncomputable def aPa (h : prm p) (fo : Option (Px p)) (i w : Int) : Int := match fo with
  | some f => if 0 ≤ i ∧ i < kN h f ∧ 0 ≤ w ∧ w ≤ 42 then (if w = 0 then kK h f i else if w = 1 then dgi h (kQ h f i) else cf (kQ h f i) (w - 2)) else -1
  | none => -1
noncomputable def aRo (h : prm p) (fo : Option (Px p)) (i : Int) : Int := match fo with
  | some f => if 0 ≤ i ∧ i < rN h f then rR h f i else -1
  | none => -1
/-- the reference's tables of the latest factor() -/
def MFx (hp : prm p) (B : Nat) (h : GH) (fo : Option (Px p)) (hf le fc pn rn : Int) : Prop := ∃ g9 g10 g11 g12 g13 g14 g15 : Int → Int, h.2 (B + 9) = some (aI 41 g9) ∧ h.2 (B + 10) = some (aI 41 g10) ∧ h.2 (B + 11) = some (aI 1681 g11) ∧ h.2 (B + 12) = some (aI 41 g12) ∧ h.2 (B + 13) = some (aI 41 g13) ∧ h.2 (B + 14) = some (aI 1681 g14) ∧ h.2 (B + 15) = some (aI 41 g15) ∧ (match fo with
  | none => hf = 0 ∧ fc = 0 ∧ pn = 0 ∧ rn = 0
  | some f => hf = 1 ∧ le = ld hp f ∧ fc = fN hp f ∧ pn = kN hp f ∧ rn = rN hp f ∧ (fN hp f ≤ 40 ∧ kN hp f ≤ 40 ∧ rN hp f ≤ 40) ∧ (∀ i : Int, 0 ≤ i → i < fN hp f → po (fR hp) (fP hp f i) ∧ dgi hp (fP hp f i) ≤ 40 ∧ g9 i = dgi hp (fP hp f i) ∧ g10 i = fE hp f i ∧ ∀ k : Int, 0 ≤ k → k ≤ 40 → g11 (41 * i + k) = cf (fP hp f i) k) ∧ (∀ i : Int, 0 ≤ i → i < kN hp f → g12 i = kK hp f i ∧ g13 i = dgi hp (kQ hp f i) ∧ ∀ k : Int, 0 ≤ k → k ≤ 40 → g14 (41 * i + k) = cf (kQ hp f i) k) ∧ ∀ i : Int, 0 ≤ i → i < rN hp f → g15 i = rR hp f i)
end
