/-! pictures of rows: a row holds a polynomial; what a call leaves as it was -/
theorem Go.ind {F : Nat → Prop} (hs : ∀ k, (∀ m, m < k → F m) → F k) : ∀ k, F k := fun k => Nat.strongRecOn k (fun k ih => hs k ih)
/-- two addresses, different (kept from omega) -/
def NE (a b : Nat) : Prop := a ≠ b
theorem NE.s {a b : Nat} (h : NE a b) : NE b a := fun e => h e.symm
theorem hset_N (h : GH) {a b : Nat} (e : GE) (n : NE b a) : (hset h a e).2 b = h.2 b := hset_n h e n
/-- two rows (object and array behind it), apart -/
def AP (a b : Nat) : Prop := a + 2 ≤ b ∨ b + 2 ≤ a
theorem AP.s {a b : Nat} (h : AP a b) : AP b a := h.symm
theorem AP.n00 {a b : Nat} (h : AP a b) : NE a b := by unfold AP at h; unfold NE; omega
theorem AP.n01 {a b : Nat} (h : AP a b) : NE a (b + 1) := by unfold AP at h; unfold NE; omega
theorem AP.n10 {a b : Nat} (h : AP a b) : NE (a + 1) b := by unfold AP at h; unfold NE; omega
theorem AP.n11 {a b : Nat} (h : AP a b) : NE (a + 1) (b + 1) := by unfold AP at h; unfold NE; omega
/-- nothing but these rows has changed -/
def Fr (L : List Nat) (h h1 : GH) : Prop := h1.1 = h.1 ∧ ∀ a, (∀ x ∈ L, NE a x ∧ NE a (x + 1)) → h1.2 a = h.2 a
theorem Fr.rf (L : List Nat) (h : GH) : Fr L h h := ⟨rfl, fun _ _ => rfl⟩
theorem Fr.tr {L : List Nat} {h h1 h2 : GH} (a : Fr L h h1) (b : Fr L h1 h2) : Fr L h h2 := ⟨b.1.trans a.1, fun x hx => (b.2 x hx).trans (a.2 x hx)⟩
theorem Fr.mo {L L2 : List Nat} {h h1 : GH} (a : Fr L h h1) (hs : ∀ x, x ∈ L → x ∈ L2) : Fr L2 h h1 := ⟨a.1, fun x hx => a.2 x (fun y hy => hx y (hs y hy))⟩
theorem Fr.nil {h h1 : GH} (e : h1 = h) (L : List Nat) : Fr L h h1 := e ▸ Fr.rf L h
theorem Fr.s0 {L : List Nat} {h : GH} {r : Nat} (hr : r ∈ L) (e : GE) : Fr L h (hset h r e) := ⟨rfl, fun a ha => hset_N h e (ha r hr).1⟩
theorem Fr.s1 {L : List Nat} {h : GH} {r : Nat} (hr : r ∈ L) (e : GE) : Fr L h (hset h (r + 1) e) := ⟨rfl, fun a ha => hset_N h e (ha r hr).2⟩
/-- of an address: it lies in none of these rows -/
def Ni (a : Nat) (L : List Nat) : Prop := ∀ x ∈ L, NE a x ∧ NE a (x + 1)
theorem Fr.w0 {L : List Nat} {h h1 h2 : GH} {r : Nat} {e : GE} (f : Fr L h h1) (hr : r ∈ L) (E : h2 = hset h1 r e) : Fr L h h2 := E ▸ f.tr (Fr.s0 hr e)
theorem Fr.w1 {L : List Nat} {h h1 h2 : GH} {r : Nat} {e : GE} (f : Fr L h h1) (hr : r ∈ L) (E : h2 = hset h1 (r + 1) e) : Fr L h h2 := E ▸ f.tr (Fr.s1 hr e)
theorem hs_s {h h1 : GH} {a : Nat} {e : GE} (E : h1 = hset h a e) : h1.2 a = some e := E ▸ hset_s h a e
theorem hs_n {h h1 : GH} {a b : Nat} {e c : GE} (E : h1 = hset h a e) (n : NE b a) (f : h.2 b = some c) : h1.2 b = some c := E ▸ (hset_N h e n).trans f
theorem Ni.n (a : Nat) : Ni a [] := fun _ h => absurd h (List.not_mem_nil)
theorem Ni.c {a b : Nat} {L : List Nat} (h : NE a b ∧ NE a (b + 1)) (hl : Ni a L) : Ni a (b :: L) := fun x hx => by
  rcases List.mem_cons.mp hx with z | z
  · subst z; exact h
  · exact hl x z
/-- of a row: it lies apart from these -/
def Ai (a : Nat) (L : List Nat) : Prop := ∀ x ∈ L, AP a x
theorem Ai.n (a : Nat) : Ai a [] := fun _ h => absurd h (List.not_mem_nil)
theorem Ai.c {a b : Nat} {L : List Nat} (h : AP a b) (hl : Ai a L) : Ai a (b :: L) := fun x hx => by
  rcases List.mem_cons.mp hx with z | z
  · subst z; exact h
  · exact hl x z
theorem Fr.at0 {L : List Nat} {h h1 : GH} {a : Nat} {e : GE} (f : Fr L h h1) (n : Ni a L) (he : h.2 a = some e) : h1.2 a = some e := (f.2 a n).trans he
/-- a row: its cells -/
def RW (n : Nat) (h : GH) (r : Nat) (d : Int) (g : Int → Int) : Prop := h.2 r = some (oB 5 [.ref (r + 1), .int (gI d)]) ∧ h.2 (r + 1) = some (aJ n g) ∧ (∀ j, gX (g j)) ∧ -1 ≤ d ∧ d < n ∧ 1 ≤ n ∧ n ≤ 1000
theorem RW.fr {n : Nat} {L : List Nat} {h h1 : GH} {r : Nat} {d : Int} {g : Int → Int} (w : RW n h r d g) (f : Fr L h h1) (a : Ai r L) : RW n h1 r d g :=
  ⟨(f.2 r (fun x hx => ⟨(a x hx).n00, (a x hx).n01⟩)).trans w.1, (f.2 (r + 1) (fun x hx => ⟨(a x hx).n10, (a x hx).n11⟩)).trans w.2.1, w.2.2⟩
theorem gJ_in (a : Int) : gX (gJ a).toInt := gX_t _
theorem gJ_id {a : Int} (h : gX a) : (gJ a).toInt = a := by
  unfold gX at h
  exact Int64.toInt_ofInt_of_le h.1 h.2
/-- any numbers, brought into the range of a long -/
theorem aJ_nf (n : Nat) (g : Int → Int) : aJ n g = aJ n (fun j => (gJ (g j)).toInt) := by
  unfold aJ
  congr 3
  funext j
  rw [gJ_rt]
section
variable {p : Nat}
/-- a polynomial's degree, -1 of 0 -/
noncomputable def dgi (h : prm p) (f : Px p) : Int := Classical.epsilon (fun d : Int => letI := pR h; (0 ≤ d ∧ dg (fR h) f d.toNat) ∨ (d = -1 ∧ f = 0))
theorem dgi_sp (h : prm p) {f : Px p} (hf : po (fR h) f) : letI := pR h; (0 ≤ dgi h f ∧ dg (fR h) f (dgi h f).toNat) ∨ (dgi h f = -1 ∧ f = 0) := by
  letI := pR h
  refine Classical.epsilon_spec (p := fun d : Int => (0 ≤ d ∧ dg (fR h) f d.toNat) ∨ (d = -1 ∧ f = 0)) ?_
  rcases po_dg hf with z | ⟨n, hn⟩
  · exact ⟨-1, Or.inr ⟨rfl, z⟩⟩
  · exact ⟨n, Or.inl ⟨by omega, by rw [Int.toNat_natCast]; exact hn⟩⟩
theorem dg_po {K : Type} {R : Lean.Grind.CommRing K} {f : Nat → K} {n : Nat} (h : dg R f n) : po R f := ⟨_, h.2⟩
theorem dgi_of (h : prm p) {f : Px p} {n : Nat} (hn : dg (fR h) f n) : dgi h f = n := by
  rcases dgi_sp h (dg_po hn) with ⟨a, b⟩ | ⟨_, b⟩
  · have := dg_un b hn
    omega
  · exact absurd b (dg_ne hn)
theorem dgi_0 (h : prm p) : letI := pR h; dgi h (0 : Px p) = -1 := by
  letI := pR h
  rcases dgi_sp h (zero_po (fR h)) with ⟨a, b⟩ | ⟨a, _⟩
  · exact absurd rfl (dg_ne b)
  · exact a
theorem dgi_ge (h : prm p) {f : Px p} (hf : po (fR h) f) : -1 ≤ dgi h f := by
  rcases dgi_sp h hf with ⟨a, _⟩ | ⟨a, _⟩ <;> omega
theorem dgi_z (h : prm p) {f : Px p} (hf : po (fR h) f) (hd : dgi h f < 0) : letI := pR h; f = 0 := by
  letI := pR h
  rcases dgi_sp h hf with ⟨a, _⟩ | ⟨_, b⟩
  · omega
  · exact b
theorem dgi_nz (h : prm p) {f : Px p} (hf : po (fR h) f) (hd : letI := pR h; f ≠ 0) : 0 ≤ dgi h f := by
  letI := pR h
  rcases dgi_sp h hf with ⟨a, _⟩ | ⟨_, b⟩
  · exact a
  · exact absurd b hd
theorem dgi_dg (h : prm p) {f : Px p} (hf : po (fR h) f) (hd : 0 ≤ dgi h f) : dg (fR h) f (dgi h f).toNat := by
  rcases dgi_sp h hf with ⟨_, b⟩ | ⟨a, _⟩
  · exact b
  · omega
theorem dgi_dl (h : prm p) {f : Px p} (hf : po (fR h) f) : dl (fR h) f (dgi h f + 1).toNat := by
  rcases dgi_sp h hf with ⟨a, b⟩ | ⟨a, b⟩
  · rw [show (dgi h f + 1).toNat = (dgi h f).toNat + 1 by omega]; exact b.2
  · intro k hk
    rw [b]
    exact zero_k (fR h) k
theorem dgi_le (h : prm p) {f : Px p} {n : Nat} (hf : dl (fR h) f n) : dgi h f < n := by
  rcases dgi_sp h ⟨n, hf⟩ with ⟨a, b⟩ | ⟨a, _⟩
  · rcases Nat.lt_or_ge (dgi h f).toNat n with z | z
    · omega
    · exact absurd (hf _ z) b.1
  · omega
/-- the numbers 0 .. d of g are a polynomial's -/
def PO (h : prm p) (d : Int) (g : Int → Int) (f : Px p) : Prop := -1 ≤ d ∧ (∀ k, 0 ≤ k → k ≤ d → 0 ≤ g k ∧ g k < p) ∧ (0 ≤ d → g d ≠ 0) ∧ f = ph h g d
theorem PO.dgi {h : prm p} {d : Int} {g : Int → Int} {f : Px p} (w : PO h d g f) : dgi h f = d := by
  obtain ⟨a, b, c, rfl⟩ := w
  rcases Int.lt_or_le d 0 with z | z
  · have e : letI := pR h; ph h g d = 0 := funext fun k => by
      letI := fR h
      rw [zero_k]
      show (if (k : Int) ≤ d then zi h (g k) else 0) = 0
      rw [if_neg (by omega)]
    rw [e, dgi_0]
    omega
  · have e : dg (fR h) (ph h g d) d.toNat := by
      letI := fR h
      refine ⟨?_, fun k hk => ?_⟩
      · show (if ((d.toNat : Nat) : Int) ≤ d then zi h (g ((d.toNat : Nat) : Int)) else 0) ≠ 0
        rw [if_pos (by omega), show ((d.toNat : Nat) : Int) = d by omega]
        have := b d z (Int.le_refl _)
        have := c z
        exact zi_ne h (by omega) (by omega)
      · show (if (k : Int) ≤ d then zi h (g k) else 0) = 0
        rw [if_neg (by omega)]
    rw [dgi_of h e]
    omega
theorem PO.po {h : prm p} {d : Int} {g : Int → Int} {f : Px p} (w : PO h d g f) : po (fR h) f := by
  rw [w.2.2.2]; exact ph_po h g d
theorem PO.at {h : prm p} {d : Int} {g : Int → Int} {f : Px p} (w : PO h d g f) {k : Nat} (hk : (k : Int) ≤ d) : g k = fv (f k) := by
  obtain ⟨a, b, c, rfl⟩ := w
  show g k = fv (if (k : Int) ≤ d then zi h (g k) else _)
  rw [if_pos hk]
  have := b k (by omega) hk
  rw [zi_lt h this.1 this.2]
theorem PO.cg {h : prm p} {d : Int} {g g2 : Int → Int} {f : Px p} (w : PO h d g f) (e : ∀ k, 0 ≤ k → k ≤ d → g2 k = g k) : PO h d g2 f := by
  obtain ⟨a, b, c, rfl⟩ := w
  refine ⟨a, fun k k0 k1 => by rw [e k k0 k1]; exact b k k0 k1, fun z => by rw [e d z (Int.le_refl _)]; exact c z, funext fun k => ?_⟩
  letI := fR h
  show (if (k : Int) ≤ d then zi h (g k) else 0) = (if (k : Int) ≤ d then zi h (g2 k) else 0)
  by_cases z : (k : Int) ≤ d
  · rw [if_pos z, if_pos z, e k (by omega) z]
  · rw [if_neg z, if_neg z]
/-- numbers that stand for a polynomial, the zeros at its top looked through -/
theorem PO.td {h : prm p} {g : Int → Int} {m : Nat} {t : Int} (ht : t = m - 1) (hb : ∀ k, 0 ≤ k → k ≤ t → 0 ≤ g k ∧ g k < p) : PO h (tdg g m) g (ph h g t) := by
  have h1 := tdg_in g m
  refine ⟨h1.1, fun k k0 k1 => hb k k0 (by omega), fun z => tdg_ne g m z, funext fun k => ?_⟩
  letI := fR h
  show (if (k : Int) ≤ t then zi h (g k) else 0) = (if (k : Int) ≤ tdg g m then zi h (g k) else 0)
  by_cases z : (k : Int) ≤ tdg g m
  · rw [if_pos (by omega), if_pos z]
  · by_cases y : (k : Int) ≤ t
    · rw [if_pos y, if_neg z, tdg_z g m k (by omega) (by omega), zi_0 h]
    · rw [if_neg y, if_neg z]
/-- a row holds a polynomial -/
def RP (h : prm p) (n : Nat) (hh : GH) (r : Nat) (f : Px p) : Prop := ∃ g, RW n hh r (dgi h f) g ∧ PO h (dgi h f) g f
/-- a row holds a polynomial in numbers not yet modulo p -/
def RU (h : prm p) (n : Nat) (hh : GH) (r : Nat) (d U : Int) (f : Px p) : Prop := ∃ g, RW n hh r d g ∧ (∀ k, 0 ≤ k → k ≤ d → 0 ≤ g k ∧ g k ≤ U) ∧ f = ph h g d
/-- a row that holds anything -/
def RA (n : Nat) (hh : GH) (r : Nat) : Prop := ∃ d g, RW n hh r d g
theorem RP.mk {h : prm p} {n : Nat} {hh : GH} {r : Nat} {f : Px p} {d : Int} {g : Int → Int} (a : hh.2 r = some (oB 5 [.ref (r + 1), .int (gI d)])) (b : hh.2 (r + 1) = some (aJ n g)) (hd : d < n ∧ 1 ≤ n ∧ n ≤ 1000) (c : PO h d g f) (hp : p ≤ 65536) : RP h n hh r f := by
  refine ⟨fun j => (gJ (g j)).toInt, ?_⟩
  rw [c.dgi]
  refine ⟨⟨a, by rw [b]; rw [← aJ_nf], fun j => gJ_in _, c.1, hd⟩, c.cg (fun k k0 k1 => gJ_id ?_)⟩
  have := c.2.1 k k0 k1
  unfold gX
  omega
theorem RP.fr {h : prm p} {n : Nat} {L : List Nat} {hh h1 : GH} {r : Nat} {f : Px p} (w : RP h n hh r f) (fr : Fr L hh h1) (a : Ai r L) : RP h n h1 r f := by
  obtain ⟨g, b, c⟩ := w
  exact ⟨g, b.fr fr a, c⟩
theorem RU.fr {h : prm p} {n : Nat} {L : List Nat} {hh h1 : GH} {r : Nat} {d U : Int} {f : Px p} (w : RU h n hh r d U f) (fr : Fr L hh h1) (a : Ai r L) : RU h n h1 r d U f := by
  obtain ⟨g, b, c⟩ := w
  exact ⟨g, b.fr fr a, c⟩
theorem RA.fr {n : Nat} {L : List Nat} {hh h1 : GH} {r : Nat} (w : RA n hh r) (fr : Fr L hh h1) (a : Ai r L) : RA n h1 r := by
  obtain ⟨d, g, b⟩ := w
  exact ⟨d, g, b.fr fr a⟩
theorem RP.ra {h : prm p} {n : Nat} {hh : GH} {r : Nat} {f : Px p} (w : RP h n hh r f) : RA n hh r := by
  obtain ⟨g, b, _⟩ := w
  exact ⟨_, _, b⟩
theorem RU.ra {h : prm p} {n : Nat} {hh : GH} {r : Nat} {d U : Int} {f : Px p} (w : RU h n hh r d U f) : RA n hh r := by
  obtain ⟨g, b, _⟩ := w
  exact ⟨_, _, b⟩
theorem RP.ru {h : prm p} {n : Nat} {hh : GH} {r : Nat} {f : Px p} (w : RP h n hh r f) : RU h n hh r (dgi h f) p f := by
  obtain ⟨g, b, c⟩ := w
  exact ⟨g, b, fun k k0 k1 => by have := c.2.1 k k0 k1; omega, c.2.2.2⟩
theorem RP.o {h : prm p} {n : Nat} {hh : GH} {r : Nat} {f : Px p} (w : RP h n hh r f) : hh.2 r = some (oB 5 [.ref (r + 1), .int (gI (dgi h f))]) := by
  obtain ⟨g, b, c⟩ := w
  exact b.1
theorem RP.po {h : prm p} {n : Nat} {hh : GH} {r : Nat} {f : Px p} (w : RP h n hh r f) : po (fR h) f := by
  obtain ⟨g, b, c⟩ := w
  exact c.po
theorem RP.lt {h : prm p} {n : Nat} {hh : GH} {r : Nat} {f : Px p} (w : RP h n hh r f) : -1 ≤ dgi h f ∧ dgi h f < n ∧ 1 ≤ n ∧ n ≤ 1000 := by
  obtain ⟨g, b, c⟩ := w
  exact ⟨c.1, b.2.2.2.2.1, b.2.2.2.2.2⟩
/-- quotient and rest -/
noncomputable def qt (h : prm p) (f g : Px p) : Px p := (@Classical.epsilon (Px p × Px p) ⟨(fun _ => zi h 0, fun _ => zi h 0)⟩ (fun z : Px p × Px p => letI := pR h; po (fR h) z.1 ∧ f = z.1 * g + z.2 ∧ dl (fR h) z.2 (dgi h g).toNat)).1
noncomputable def rm (h : prm p) (f g : Px p) : Px p := (@Classical.epsilon (Px p × Px p) ⟨(fun _ => zi h 0, fun _ => zi h 0)⟩ (fun z : Px p × Px p => letI := pR h; po (fR h) z.1 ∧ f = z.1 * g + z.2 ∧ dl (fR h) z.2 (dgi h g).toNat)).2
theorem qr_sp (h : prm p) {f g : Px p} (hf : po (fR h) f) (hg : po (fR h) g) (hd : 0 ≤ dgi h g) : letI := pR h; po (fR h) (qt h f g) ∧ f = qt h f g * g + rm h f g ∧ dl (fR h) (rm h f g) (dgi h g).toNat := by
  letI := pR h
  refine Classical.epsilon_spec (p := fun z : Px p × Px p => po (fR h) z.1 ∧ f = z.1 * g + z.2 ∧ dl (fR h) z.2 (dgi h g).toNat) ?_
  obtain ⟨n, hn⟩ := hf
  obtain ⟨q, r, a, b, c⟩ := div_ex (fld_p h) (dgi_dg h hg hd) n f hn
  exact ⟨(q, r), a, b, c⟩
theorem qr_un (h : prm p) {f g q r : Px p} (hf : po (fR h) f) (hg : po (fR h) g) (hd : 0 ≤ dgi h g) (hq : po (fR h) q) (e : letI := pR h; f = q * g + r) (hr : dl (fR h) r (dgi h g).toNat) : q = qt h f g ∧ r = rm h f g := by
  letI := pR h
  obtain ⟨a, b, c⟩ := qr_sp h hf hg hd
  exact div_un (fld_p h) (dgi_dg h hg hd) hq a hr c (e.symm.trans b)
theorem rm_po (h : prm p) {f g : Px p} (hf : po (fR h) f) (hg : po (fR h) g) (hd : 0 ≤ dgi h g) : po (fR h) (rm h f g) := ⟨_, (qr_sp h hf hg hd).2.2⟩
theorem rm_lt (h : prm p) {f g : Px p} (hf : po (fR h) f) (hg : po (fR h) g) (hd : 0 ≤ dgi h g) : dgi h (rm h f g) < dgi h g := by
  have := dgi_le h (qr_sp h hf hg hd).2.2
  omega
end
