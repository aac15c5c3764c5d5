/-! polynomials in x and y: pictures -/
/-- F j: the numbers at y^j, as a polynomial in x -/
abbrev Pxy (p : Nat) : Type := Nat → Px p
section
variable {p : Nat}
/-- the number at x^i y^j -/
def cy (F : Pxy p) (j i : Int) : Int := if 0 ≤ j then cf (F j.toNat) i else 0
theorem cy_in (h : prm p) (F : Pxy p) (j i : Int) : 0 ≤ cy F j i ∧ cy F j i < p := by
  have := h.1
  unfold cy
  split
  · exact cf_in _ h _
  · omega
theorem cy_zi (h : prm p) (F : Pxy p) (j i : Nat) : zi h (cy F j i) = F j i := by
  unfold cy
  rw [if_pos (by omega), Int.toNat_natCast, cf_zi]
theorem cy_0 (h : prm p) {F : Pxy p} {j i : Int} (h0 : 0 ≤ j) (h1 : 0 ≤ i) : cy F j i = 0 ↔ (letI := fR h; F j.toNat i.toNat = 0) := by
  letI := fR h
  obtain ⟨j, rfl⟩ := Int.eq_ofNat_of_zero_le h0
  obtain ⟨i, rfl⟩ := Int.eq_ofNat_of_zero_le h1
  rw [Int.toNat_natCast, Int.toNat_natCast]
  constructor
  · intro e
    rw [← cy_zi h F j i, e]; exact zi_0 h
  · intro e
    unfold cy cf
    rw [if_pos (by omega), if_pos (by omega), Int.toNat_natCast, Int.toNat_natCast, e]
    exact f_zero h
/-- nothing beyond x^40 or y^6 -/
def PB (h : prm p) (F : Pxy p) : Prop := letI := fR h; ∀ j i, (6 < j ∨ 40 < i) → F j i = 0
/-- a number table that stands for F -/
def NM (F : Pxy p) (g : Int → Int) : Prop := ∀ j i : Int, 0 ≤ j → j ≤ 6 → 0 ≤ i → i ≤ 40 → g (j * 41 + i) = cy F j i
def fF (h : prm p) (g : Int → Int) : Pxy p := fun j i => letI := fR h; if j ≤ 6 ∧ i ≤ 40 then zi h (g ((j : Int) * 41 + i)) else 0
theorem fF_PB (h : prm p) (g : Int → Int) : PB h (fF h g) := fun j i hji => by
  letI := fR h
  show (if j ≤ 6 ∧ i ≤ 40 then zi h (g ((j : Int) * 41 + i)) else 0) = 0
  rw [if_neg (by omega)]
theorem fF_NM (h : prm p) {g : Int → Int} (hb : ∀ k, 0 ≤ k → k < 287 → 0 ≤ g k ∧ g k < p) : NM (fF h g) g := fun j i j0 j1 i0 i1 => by
  obtain ⟨j, rfl⟩ := Int.eq_ofNat_of_zero_le j0
  obtain ⟨i, rfl⟩ := Int.eq_ofNat_of_zero_le i0
  unfold cy cf
  rw [if_pos j0, if_pos i0, Int.toNat_natCast, Int.toNat_natCast]
  letI := fR h
  show _ = ((fv (if j ≤ 6 ∧ i ≤ 40 then zi h (g ((j : Int) * 41 + i)) else 0) : Nat) : Int)
  rw [if_pos (by omega)]
  have := hb ((j : Int) * 41 + i) (by omega) (by omega)
  rw [zi_lt h this.1 this.2]
theorem fF_of (h : prm p) {F : Pxy p} {g : Int → Int} (hb : PB h F) (hn : ∀ j i : Nat, j ≤ 6 → i ≤ 40 → zi h (g ((j : Int) * 41 + i)) = F j i) : fF h g = F := funext fun j => funext fun i => by
  letI := fR h
  show (if j ≤ 6 ∧ i ≤ 40 then zi h (g ((j : Int) * 41 + i)) else 0) = F j i
  by_cases z : j ≤ 6 ∧ i ≤ 40
  · rw [if_pos z]; exact hn j i z.1 z.2
  · rw [if_neg z]; exact (hb j i (by omega)).symm
theorem NM.bd {h : prm p} {F : Pxy p} {g : Int → Int} (w : NM F g) (hp : prm p) {k : Int} (h0 : 0 ≤ k) (h1 : k < 287) : 0 ≤ g k ∧ g k < p := by
  have e : k = k / 41 * 41 + k % 41 := by omega
  rw [e, w (k / 41) (k % 41) (by omega) (by omega) (by omega) (by omega)]
  exact cy_in hp F _ _
theorem NM.zi {F : Pxy p} {g : Int → Int} (w : NM F g) (h : prm p) {j i : Nat} (hj : j ≤ 6) (hi : i ≤ 40) : zi h (g ((j : Int) * 41 + i)) = F j i := by
  rw [w j i (by omega) (by omega) (by omega) (by omega), cy_zi]
/-- the degrees -/
def isX (h : prm p) (F : Pxy p) (d : Int) : Prop := letI := fR h; (∀ j i, F j i ≠ 0 → (i : Int) ≤ d) ∧ (d = -1 ∨ ∃ j i, F j i ≠ 0 ∧ d = i)
def isY (h : prm p) (F : Pxy p) (d : Int) : Prop := letI := fR h; (∀ j i, F j i ≠ 0 → (j : Int) ≤ d) ∧ (d = -1 ∨ ∃ j i, F j i ≠ 0 ∧ d = j)
noncomputable def dX (h : prm p) (F : Pxy p) : Int := Classical.epsilon (isX h F)
noncomputable def dY (h : prm p) (F : Pxy p) : Int := Classical.epsilon (isY h F)
theorem isX_un (h : prm p) {F : Pxy p} {d e : Int} (a : isX h F d) (b : isX h F e) : d = e := by
  obtain ⟨a1, a2⟩ := a
  obtain ⟨b1, b2⟩ := b
  rcases a2 with a2 | ⟨j, i, a2, a3⟩ <;> rcases b2 with b2 | ⟨k, l, b2, b3⟩
  · omega
  · have := a1 k l b2; omega
  · have := b1 j i a2; omega
  · have := a1 k l b2; have := b1 j i a2; omega
theorem isY_un (h : prm p) {F : Pxy p} {d e : Int} (a : isY h F d) (b : isY h F e) : d = e := by
  obtain ⟨a1, a2⟩ := a
  obtain ⟨b1, b2⟩ := b
  rcases a2 with a2 | ⟨j, i, a2, a3⟩ <;> rcases b2 with b2 | ⟨k, l, b2, b3⟩
  · omega
  · have := a1 k l b2; omega
  · have := b1 j i a2; omega
  · have := a1 k l b2; have := b1 j i a2; omega
theorem dX_un (h : prm p) {F : Pxy p} {d : Int} (a : isX h F d) : dX h F = d := isX_un h (Classical.epsilon_spec (p := isX h F) ⟨d, a⟩) a
theorem dY_un (h : prm p) {F : Pxy p} {d : Int} (a : isY h F d) : dY h F = d := isY_un h (Classical.epsilon_spec (p := isY h F) ⟨d, a⟩) a
/-- what measure knows of the first t numbers -/
def mI (g : Int → Int) (t dx dy : Int) : Prop := (∀ b a : Int, 0 ≤ b → 0 ≤ a → a ≤ 40 → b * 41 + a < t → g (b * 41 + a) ≠ 0 → a ≤ dx ∧ b ≤ dy) ∧ (dx = -1 ∨ ∃ b, 0 ≤ b ∧ 0 ≤ dx ∧ dx ≤ 40 ∧ b * 41 + dx < t ∧ g (b * 41 + dx) ≠ 0) ∧ (dy = -1 ∨ ∃ a, 0 ≤ dy ∧ 0 ≤ a ∧ a ≤ 40 ∧ dy * 41 + a < t ∧ g (dy * 41 + a) ≠ 0)
theorem mI_0 (g : Int → Int) : mI g 0 (-1) (-1) := ⟨fun b a h0 h1 h2 h3 => by omega, Or.inl rfl, Or.inl rfl⟩
theorem mI_z {g : Int → Int} {j i dx dy : Int} (h : mI g (j * 41 + i) dx dy) (hi : 0 ≤ i) (hi2 : i ≤ 40) (hz : g (j * 41 + i) = 0) : mI g (j * 41 + (i + 1)) dx dy := by
  obtain ⟨h1, h2, h3⟩ := h
  refine ⟨fun b a b0 a0 a1 hl hg => ?_, ?_, ?_⟩
  · rcases Int.lt_or_le (b * 41 + a) (j * 41 + i) with z | z
    · exact h1 b a b0 a0 a1 z hg
    · rw [show b * 41 + a = j * 41 + i by omega] at hg
      exact absurd hz hg
  · rcases h2 with z | ⟨b, z0, z1, z2, z3, z4⟩
    · exact Or.inl z
    · exact Or.inr ⟨b, z0, z1, z2, by omega, z4⟩
  · rcases h3 with z | ⟨a, z0, z1, z2, z3, z4⟩
    · exact Or.inl z
    · exact Or.inr ⟨a, z0, z1, z2, by omega, z4⟩
theorem mI_s {g : Int → Int} {j i dx dy : Int} (h : mI g (j * 41 + i) dx dy) (hj : 0 ≤ j) (hi : 0 ≤ i) (hi2 : i ≤ 40) (hz : g (j * 41 + i) ≠ 0) : mI g (j * 41 + (i + 1)) (if dx < i then i else dx) j := by
  obtain ⟨h1, h2, h3⟩ := h
  refine ⟨fun b a b0 a0 a1 hl hg => ?_, ?_, Or.inr ⟨i, hj, hi, hi2, by omega, hz⟩⟩
  · rcases Int.lt_or_le (b * 41 + a) (j * 41 + i) with z | z
    · have := h1 b a b0 a0 a1 z hg
      refine ⟨?_, by omega⟩
      split <;> omega
    · have e1 : b = j := by omega
      have e2 : a = i := by omega
      refine ⟨?_, by omega⟩
      split <;> omega
  · split
    · exact Or.inr ⟨j, hj, hi, hi2, by omega, hz⟩
    · rename_i y
      rcases h2 with z | ⟨b, z0, z1, z2, z3, z4⟩
      · omega
      · exact Or.inr ⟨b, z0, z1, z2, by omega, z4⟩
theorem mI_in {g : Int → Int} {t dx dy : Int} (h : mI g t dx dy) (ht : t ≤ 287) : (-1 ≤ dx ∧ dx ≤ 40) ∧ (-1 ≤ dy ∧ dy ≤ 6) := by
  obtain ⟨h1, h2, h3⟩ := h
  refine ⟨?_, ?_⟩
  · rcases h2 with z | ⟨b, z0, z1, z2, z3, z4⟩ <;> omega
  · rcases h3 with z | ⟨a, z0, z1, z2, z3, z4⟩ <;> omega
theorem mI_e (h : prm p) {F : Pxy p} {g : Int → Int} {dx dy : Int} (w : mI g 287 dx dy) (hn : NM F g) (hb : PB h F) : dX h F = dx ∧ dY h F = dy := by
  letI := fR h
  obtain ⟨h1, h2, h3⟩ := w
  have key : ∀ j i : Nat, F j i ≠ 0 → j ≤ 6 ∧ i ≤ 40 ∧ g ((j : Int) * 41 + i) ≠ 0 := fun j i hji => by
    have z1 : j ≤ 6 := by
      rcases Nat.lt_or_ge 6 j with z | z
      · exact absurd (hb j i (Or.inl z)) hji
      · exact z
    have z2 : i ≤ 40 := by
      rcases Nat.lt_or_ge 40 i with z | z
      · exact absurd (hb j i (Or.inr z)) hji
      · exact z
    refine ⟨z1, z2, fun e => hji ?_⟩
    rw [← hn.zi h z1 z2, e]; exact zi_0 h
  have yek : ∀ j i : Int, 0 ≤ j → j ≤ 6 → 0 ≤ i → i ≤ 40 → g (j * 41 + i) ≠ 0 → F j.toNat i.toNat ≠ 0 := fun j i a b c d e f => e (by
    rw [hn j i a b c d]; exact (cy_0 h a c).mpr f)
  refine ⟨dX_un h ⟨fun j i hji => ?_, ?_⟩, dY_un h ⟨fun j i hji => ?_, ?_⟩⟩
  · obtain ⟨a, b, c⟩ := key j i hji
    exact (h1 j i (by omega) (by omega) (by omega) (by omega) c).1
  · rcases h2 with z | ⟨b, z0, z1, z2, z3, z4⟩
    · exact Or.inl z
    · exact Or.inr ⟨_, _, yek b dx z0 (by omega) z1 z2 z4, by omega⟩
  · obtain ⟨a, b, c⟩ := key j i hji
    exact (h1 j i (by omega) (by omega) (by omega) (by omega) c).2
  · rcases h3 with z | ⟨a, z0, z1, z2, z3, z4⟩
    · exact Or.inl z
    · exact Or.inr ⟨_, _, yek dy a z0 (by omega) z1 z2 z4, by omega⟩
/-- a Poly's object and table -/
def PC (h : GH) (a : Nat) (dx dy : Int) (g : Int → Int) : Prop := h.2 a = some (oB 4 [.ref (a + 1), .int (gI dx), .int (gI dy)]) ∧ h.2 (a + 1) = some (aJ 287 g) ∧ ∀ j, gX (g j)
/-- it holds F -/
def PP (h : prm p) (hh : GH) (a : Nat) (F : Pxy p) : Prop := ∃ g, PC hh a (dX h F) (dY h F) g ∧ NM F g ∧ PB h F
/-- it holds anything -/
def PA (hh : GH) (a : Nat) : Prop := ∃ dx dy g, PC hh a dx dy g
theorem PC.fr {L : List Nat} {h h1 : GH} {r : Nat} {dx dy : Int} {g : Int → Int} (w : PC h r dx dy g) (f : Fr L h h1) (a : Ai r L) : PC h1 r dx dy g :=
  ⟨(f.2 r (fun x hx => ⟨(a x hx).n00, (a x hx).n01⟩)).trans w.1, (f.2 (r + 1) (fun x hx => ⟨(a x hx).n10, (a x hx).n11⟩)).trans w.2.1, w.2.2⟩
theorem PP.fr {h : prm p} {L : List Nat} {hh h1 : GH} {r : Nat} {F : Pxy p} (w : PP h hh r F) (fr : Fr L hh h1) (a : Ai r L) : PP h h1 r F := by
  obtain ⟨g, b, c⟩ := w
  exact ⟨g, b.fr fr a, c⟩
theorem PA.fr {L : List Nat} {hh h1 : GH} {r : Nat} (w : PA hh r) (fr : Fr L hh h1) (a : Ai r L) : PA h1 r := by
  obtain ⟨dx, dy, g, b⟩ := w
  exact ⟨dx, dy, g, b.fr fr a⟩
theorem PP.ra {h : prm p} {hh : GH} {r : Nat} {F : Pxy p} (w : PP h hh r F) : PA hh r := by
  obtain ⟨g, b, c⟩ := w
  exact ⟨_, _, g, b⟩
theorem PP.o {h : prm p} {hh : GH} {r : Nat} {F : Pxy p} (w : PP h hh r F) : hh.2 r = some (oB 4 [.ref (r + 1), .int (gI (dX h F)), .int (gI (dY h F))]) := by
  obtain ⟨g, b, c⟩ := w
  exact b.1
theorem PA.o {hh : GH} {r : Nat} (w : PA hh r) : ∃ x : Int × Int, hh.2 r = some (oB 4 [.ref (r + 1), .int (gI x.1), .int (gI x.2)]) := by
  obtain ⟨dx, dy, g, b⟩ := w
  exact ⟨(dx, dy), b.1⟩
theorem PP.pb {h : prm p} {hh : GH} {r : Nat} {F : Pxy p} (w : PP h hh r F) : PB h F := by
  obtain ⟨g, b, c⟩ := w
  exact c.2
/-- each F within the bounds has its degrees -/
theorem PB.dg {h : prm p} {F : Pxy p} (w : PB h F) : isX h F (dX h F) ∧ isY h F (dY h F) ∧ (-1 ≤ dX h F ∧ dX h F ≤ 40) ∧ (-1 ≤ dY h F ∧ dY h F ≤ 6) := by
  letI := fR h
  have ex : ∀ n : Nat, ∃ d : Int, -1 ≤ d ∧ d < n ∧ (∀ j i, i < n → F j i ≠ 0 → (i : Int) ≤ d) ∧ (d = -1 ∨ ∃ j i, F j i ≠ 0 ∧ d = i) := fun n => by
    induction n with
    | zero => exact ⟨-1, by omega, by omega, fun j i hi => by omega, Or.inl rfl⟩
    | succ n ih =>
      by_cases z : ∃ j, F j n ≠ 0
      · obtain ⟨j, hj⟩ := z
        exact ⟨n, by omega, by omega, fun j i hi _ => by omega, Or.inr ⟨j, n, hj, rfl⟩⟩
      · obtain ⟨d, d0, d1, d2, d3⟩ := ih
        refine ⟨d, d0, by omega, fun j i hi hji => ?_, d3⟩
        rcases Nat.lt_or_ge i n with y | y
        · exact d2 j i y hji
        · exact absurd ⟨j, by rw [show n = i by omega]; exact hji⟩ z
  have ey : ∀ n : Nat, ∃ d : Int, -1 ≤ d ∧ d < n ∧ (∀ j i, j < n → F j i ≠ 0 → (j : Int) ≤ d) ∧ (d = -1 ∨ ∃ j i, F j i ≠ 0 ∧ d = j) := fun n => by
    induction n with
    | zero => exact ⟨-1, by omega, by omega, fun j i hi => by omega, Or.inl rfl⟩
    | succ n ih =>
      by_cases z : ∃ i, F n i ≠ 0
      · obtain ⟨i, hi⟩ := z
        exact ⟨n, by omega, by omega, fun j i hi _ => by omega, Or.inr ⟨n, i, hi, rfl⟩⟩
      · obtain ⟨d, d0, d1, d2, d3⟩ := ih
        refine ⟨d, d0, by omega, fun j i hi hji => ?_, d3⟩
        rcases Nat.lt_or_ge j n with y | y
        · exact d2 j i y hji
        · exact absurd ⟨i, by rw [show n = j by omega]; exact hji⟩ z
  obtain ⟨d, d0, d1, d2, d3⟩ := ex 41
  obtain ⟨e, e0, e1, e2, e3⟩ := ey 7
  have ix : isX h F d := ⟨fun j i hji => by
    rcases Nat.lt_or_ge i 41 with y | y
    · exact d2 j i y hji
    · exact absurd (w j i (by omega)) hji, d3⟩
  have iy : isY h F e := ⟨fun j i hji => by
    rcases Nat.lt_or_ge j 7 with y | y
    · exact e2 j i y hji
    · exact absurd (w j i (by omega)) hji, e3⟩
  rw [dX_un h ix, dY_un h iy]
  exact ⟨ix, iy, by omega, by omega⟩
theorem PP.dg {h : prm p} {hh : GH} {r : Nat} {F : Pxy p} (w : PP h hh r F) : (-1 ≤ dX h F ∧ dX h F ≤ 40) ∧ (-1 ≤ dY h F ∧ dY h F ≤ 6) := w.pb.dg.2.2
theorem PP.mk {h : prm p} {hh : GH} {r : Nat} {F : Pxy p} {g : Int → Int} (hp : p ≤ 65536) (a : hh.2 r = some (oB 4 [.ref (r + 1), .int (gI (dX h F)), .int (gI (dY h F))])) (b : hh.2 (r + 1) = some (aJ 287 g)) (hn : NM F g) (hb : PB h F) : PP h hh r F := by
  refine ⟨fun j => (gJ (g j)).toInt, ⟨a, by rw [b]; rw [← aJ_nf], fun j => gJ_in _⟩, fun j i j0 j1 i0 i1 => ?_, hb⟩
  have := hn j i j0 j1 i0 i1
  have := cy_in h F j i
  show (gJ (g (j * 41 + i))).toInt = _
  rw [gJ_id (by unfold gX; omega)]
  assumption
/-- 0 -/
def zF (h : prm p) : Pxy p := fun _ _ => letI := fR h; 0
theorem zF_PB (h : prm p) : PB h (zF h) := fun _ _ _ => rfl
theorem zF_X (h : prm p) : dX h (zF h) = -1 := dX_un h ⟨fun j i hji => absurd rfl hji, Or.inl rfl⟩
theorem zF_Y (h : prm p) : dY h (zF h) = -1 := dY_un h ⟨fun j i hji => absurd rfl hji, Or.inl rfl⟩
theorem zF_cy (h : prm p) (j i : Int) : cy (zF h) j i = 0 := by
  unfold cy cf
  split
  · split
    · exact f_zero h
    · rfl
  · rfl
/-- a polynomial in x alone -/
def pF (h : prm p) (f : Px p) : Pxy p := fun j => letI := pR h; if j = 0 then f else 0
theorem pF_PB (h : prm p) {f : Px p} (hf : po (fR h) f) (hd : dgi h f ≤ 40) : PB h (pF h f) := fun j i hji => by
  letI := pR h
  show (if j = 0 then f else 0) i = _
  by_cases z : j = 0
  · rw [if_pos z]
    exact dgi_dl h hf i (by have := dgi_ge h hf; omega)
  · rw [if_neg z]; exact zero_k _ _
theorem pF_X (h : prm p) {f : Px p} (hf : po (fR h) f) : dX h (pF h f) = dgi h f := by
  letI := pR h
  refine dX_un h ⟨fun j i hji => ?_, ?_⟩
  · have e : pF h f j = if j = 0 then f else 0 := rfl
    rw [e] at hji
    by_cases z : j = 0
    · rw [if_pos z] at hji
      rcases Int.lt_or_le (dgi h f) i with y | y
      · exact absurd (dgi_dl h hf i (by have := dgi_ge h hf; omega)) hji
      · exact y
    · rw [if_neg z] at hji; exact absurd (zero_k _ _) hji
  · rcases dgi_sp h hf with ⟨a, b⟩ | ⟨a, b⟩
    · exact Or.inr ⟨0, _, by show (if 0 = 0 then f else 0) _ ≠ _; rw [if_pos rfl]; exact b.1, by omega⟩
    · exact Or.inl a
theorem pF_Y (h : prm p) {f : Px p} (hf : po (fR h) f) : dY h (pF h f) = if dgi h f < 0 then -1 else 0 := by
  letI := pR h
  refine dY_un h ⟨fun j i hji => ?_, ?_⟩
  · have e : pF h f j = if j = 0 then f else 0 := rfl
    rw [e] at hji
    by_cases z : j = 0
    · rw [if_pos z] at hji
      split
      · rename_i y
        rw [dgi_z h hf y] at hji
        exact absurd (zero_k _ _) hji
      · omega
    · rw [if_neg z] at hji; exact absurd (zero_k _ _) hji
  · rcases dgi_sp h hf with ⟨a, b⟩ | ⟨a, b⟩
    · refine Or.inr ⟨0, _, by show (if 0 = 0 then f else 0) _ ≠ _; rw [if_pos rfl]; exact b.1, ?_⟩
      rw [if_neg (by omega)]; rfl
    · exact Or.inl (by rw [if_pos (by omega)])
/-- plain: nothing at y -/
theorem plain_eq (h : prm p) {F : Pxy p} (hb : PB h F) (hy : dY h F < 1) : F = pF h (F 0) := funext fun j => by
  letI := pR h
  show F j = if j = 0 then F 0 else 0
  by_cases z : j = 0
  · rw [if_pos z, z]
  · rw [if_neg z]
    refine funext fun i => ?_
    rw [zero_k]
    letI := fR h
    by_cases y : F j i = 0
    · exact y
    · have := hb.dg.2.1.1 j i y
      omega
theorem row_po (h : prm p) {F : Pxy p} (hb : PB h F) (j : Nat) : po (fR h) (F j) ∧ dgi h (F j) ≤ 40 := by
  have : dl (fR h) (F j) 41 := fun i hi => hb j i (by omega)
  exact ⟨⟨41, this⟩, by have := dgi_le h this; omega⟩
end
