/-! the reference: its object, its registers -/
/-- the reference's object -/
abbrev mO (B : Nat) (p hf le fc pn rn hn qn : Int) : GE := oB 10 [.int (gI p), .ref (B + 1), .ref (B + 2), .ref (B + 3), .ref (B + 4), .ref (B + 5), .ref (B + 6), .ref (B + 7), .ref (B + 8), .int (gI hf), .int (gI le), .int (gI fc), .ref (B + 9), .ref (B + 10), .ref (B + 11), .int (gI pn), .ref (B + 12), .ref (B + 13), .ref (B + 14), .int (gI rn), .ref (B + 15), .int (gI hn), .ref (B + 16), .ref (B + 17), .ref (B + 18), .ref (B + 19), .ref (B + 20), .int (gI qn), .ref (B + 21), .ref (B + 22)]
/-- a table of rows of 200 -/
def ar (R : Int → Int → Int) : Int → Int := fun m => R (m / 200) (m % 200)
theorem ar_r (R : Int → Int → Int) {r i : Int} (h0 : 0 ≤ i) (h1 : i < 200) : ar R (200 * r + i) = R r i := by
  unfold ar
  rw [show (200 * r + i) / 200 = r by omega, show (200 * r + i) % 200 = i by omega]
theorem ar_r0 (R : Int → Int → Int) (r : Int) : ar R (200 * r) = R r 0 := by
  have := ar_r R (r := r) (i := 0) (by omega) (by omega)
  rw [Int.add_zero] at this
  exact this
theorem ar_w (R : Int → Int → Int) {r i : Int} (h0 : 0 ≤ i) (h1 : i < 200) (v : Int) : gup (ar R) (200 * r + i) v = ar (gup R r (gup (R r) i v)) := funext fun m => by
  by_cases z : m = 200 * r + i
  · rw [z, gup_s, ar_r _ h0 h1, gup_s, gup_s]
  · rw [gup_n _ _ z]
    show R (m / 200) (m % 200) = gup R r (gup (R r) i v) (m / 200) (m % 200)
    by_cases y : m / 200 = r
    · rw [y, gup_s, gup_n _ _ (by omega)]
    · rw [gup_n _ _ y]
theorem ar_nf (g : Int → Int) : g = ar (fun r i => g (200 * r + i)) := funext fun m => by
  show g m = g (200 * (m / 200) + m % 200)
  rw [show 200 * (m / 200) + m % 200 = m by omega]
theorem gup_gup {α : Type} (R : Int → α) (r : Int) (x y : α) : gup (gup R r x) r y = gup R r y := funext fun m => by
  unfold gup
  by_cases z : m = r
  · rw [if_pos z, if_pos z]
  · rw [if_neg z, if_neg z, if_neg z]
theorem gup_id {α : Type} (R : Int → α) (r : Int) : gup R r (R r) = R := funext fun m => by
  unfold gup
  by_cases z : m = r
  · rw [if_pos z, z]
  · rw [if_neg z]
theorem aI_nf (n : Nat) (g : Int → Int) : aI n g = aI n (fun j => (gI (g j)).toInt) := by
  unfold aI
  congr 3
  funext j
  rw [gI_rt]
/-- what stands in an int table is told up to the range of an int -/
theorem aI_at {n : Nat} {g g2 : Int → Int} (e : aI n g = aI n g2) {j : Int} (h0 : 0 ≤ j) : gI (g j) = gI (g2 j) := by
  unfold aI at e
  have e2 := Sum.inl.inj e
  have e3 := congrArg (fun x : FieldType × Nat × (Nat → Value) => x.2.2 j.toNat) e2
  have e4 : Value.int (gI (g ((j.toNat : Nat) : Int))) = Value.int (gI (g2 ((j.toNat : Nat) : Int))) := e3
  rw [show ((j.toNat : Nat) : Int) = j by omega] at e4
  exact Value.int.inj e4
theorem gI_inj {a b : Int} (ha : gW a) (hb : gW b) (e : gI a = gI b) : a = b := (gI_eq ha hb).mp e
theorem aI_un {n : Nat} {g g2 : Int → Int} (e : aI n g = aI n g2) (h1 : ∀ j, gW (g j)) (h2 : ∀ j, gW (g2 j)) {j : Int} (h0 : 0 ≤ j) : g j = g2 j := gI_inj (h1 j) (h2 j) (aI_at e h0)
theorem gI_id {a : Int} (h : gW a) : (gI a).toInt = a := gI_to h
theorem ar_gW {R : Int → Int → Int} (h : ∀ r i, gW (R r i)) (m : Int) : gW (ar R m) := h _ _
/-- the registers stand -/
def MA (B : Nat) (h : GH) : Prop := ∃ (R : Int → Int → Int) (d : Int → Int), (∀ r i, gW (R r i)) ∧ (∀ r, gW (d r)) ∧ h.2 (B + 5) = some (aI 8000 (ar R)) ∧ h.2 (B + 6) = some (aI 40 d)
theorem MA.of {B : Nat} {h : GH} {g d : Int → Int} (h1 : h.2 (B + 5) = some (aI 8000 g)) (h2 : h.2 (B + 6) = some (aI 40 d)) : MA B h :=
  ⟨fun r i => (gI (g (200 * r + i))).toInt, fun r => (gI (d r)).toInt, fun _ _ => gW_t _, fun _ => gW_t _, by rw [h1, aI_nf]; exact congrArg (fun z => some (aI 8000 z)) (ar_nf _), by rw [h2, ← aI_nf]⟩
section
variable {p : Nat}
/-- register r holds f -/
def MG (hp : prm p) (B : Nat) (h : GH) (r : Int) (f : Px p) : Prop := (0 ≤ r ∧ r < 40) ∧ po (fR hp) f ∧ dgi hp f < 200 ∧ ∃ (R : Int → Int → Int) (d : Int → Int), (∀ r i, gW (R r i)) ∧ (∀ r, gW (d r)) ∧ h.2 (B + 5) = some (aI 8000 (ar R)) ∧ h.2 (B + 6) = some (aI 40 d) ∧ d r = dgi hp f ∧ ∀ i, 0 ≤ i → i < 200 → R r i = cf f i
theorem MG.po {hp : prm p} {B : Nat} {h : GH} {r : Int} {f : Px p} (w : MG hp B h r f) : po (fR hp) f := w.2.1
theorem MG.lt {hp : prm p} {B : Nat} {h : GH} {r : Int} {f : Px p} (w : MG hp B h r f) : -1 ≤ dgi hp f ∧ dgi hp f < 200 := ⟨dgi_ge hp w.2.1, w.2.2.1⟩
theorem MG.in {hp : prm p} {B : Nat} {h : GH} {r : Int} {f : Px p} (w : MG hp B h r f) : 0 ≤ r ∧ r < 40 := w.1
theorem MG.get {hp : prm p} {B : Nat} {h : GH} {r : Int} {f : Px p} (w : MG hp B h r f) : ∃ d, h.2 (B + 6) = some (aI 40 d) ∧ d r = dgi hp f := by
  obtain ⟨_, _, _, R, d, _, _, a, b, c, e⟩ := w
  exact ⟨d, b, c⟩
theorem MG.num {hp : prm p} {B : Nat} {h : GH} {r : Int} {f : Px p} (w : MG hp B h r f) : ∃ R, h.2 (B + 5) = some (aI 8000 (ar R)) ∧ ∀ i, 0 ≤ i → i < 200 → R r i = cf f i := by
  obtain ⟨_, _, _, R, d, _, _, a, b, c, e⟩ := w
  exact ⟨R, a, e⟩
theorem MG.ma {hp : prm p} {B : Nat} {h : GH} {r : Int} {f : Px p} (w : MG hp B h r f) : MA B h := by
  obtain ⟨_, _, _, R, d, u, v, a, b, c, e⟩ := w
  exact ⟨R, d, u, v, a, b⟩
/-- what a register holds, in tables that are told otherwise -/
theorem MG.at {hp : prm p} {B : Nat} {h : GH} {r : Int} {f : Px p} (w : MG hp B h r f) {R : Int → Int → Int} {d : Int → Int} (u : ∀ r i, gW (R r i)) (v : ∀ r, gW (d r)) (a : h.2 (B + 5) = some (aI 8000 (ar R))) (b : h.2 (B + 6) = some (aI 40 d)) : d r = dgi hp f ∧ ∀ i, 0 ≤ i → i < 200 → R r i = cf f i := by
  obtain ⟨w1, w2, w3, R3, d3, u3, v3, a3, b3, c3, e3⟩ := w
  refine ⟨?_, fun i i0 i1 => ?_⟩
  · rw [← c3]; exact aI_un (Option.some.inj (b.symm.trans b3)) v v3 w1.1
  · rw [← e3 i i0 i1]
    have := aI_un (Option.some.inj (a.symm.trans a3)) (ar_gW u) (ar_gW u3) (show 0 ≤ 200 * r + i by omega)
    rw [ar_r _ i0 i1, ar_r _ i0 i1] at this
    exact this
theorem cf_gW (hp : prm p) (h2 : p ≤ 65536) (f : Px p) (k : Int) : gW (cf f k) := by
  have := cf_in f hp k
  unfold gW
  omega
/-- registers that keep what they hold, and these cells alone have changed -/
def MF (B : Nat) (A : List Nat) (L : List Int) (h h1 : GH) : Prop := Fr ((B + 5) :: A) h h1 ∧ MA B h1 ∧ ∀ (p : Nat) (hp : prm p) (r : Int) (f : Px p), p ≤ 65536 → (∀ x ∈ L, r ≠ x) → MG hp B h r f → MG hp B h1 r f
theorem MF.rf {B : Nat} {h : GH} (A : List Nat) (L : List Int) (m : MA B h) : MF B A L h h := ⟨Fr.rf _ _, m, fun _ _ _ _ _ _ w => w⟩
theorem MF.tr {B : Nat} {A : List Nat} {L : List Int} {h h1 h2 : GH} (a : MF B A L h h1) (b : MF B A L h1 h2) : MF B A L h h2 := ⟨a.1.tr b.1, b.2.1, fun p hp r f h2 hl w => b.2.2 p hp r f h2 hl (a.2.2 p hp r f h2 hl w)⟩
theorem MF.mo {B : Nat} {A A2 : List Nat} {L L2 : List Int} {h h1 : GH} (a : MF B A L h h1) (hA : ∀ x, x ∈ A → x ∈ A2) (hL : ∀ x, x ∈ L → x ∈ L2) : MF B A2 L2 h h1 := ⟨a.1.mo (fun x hx => by
    rcases List.mem_cons.mp hx with z | z
    · rw [z]; exact List.Mem.head _
    · exact List.Mem.tail _ (hA x z)), a.2.1, fun p hp r f h2 hl w => a.2.2 p hp r f h2 (fun x hx => hl x (hL x hx)) w⟩
/-- a change of other cells keeps the registers -/
theorem MF.of {B : Nat} {A : List Nat} {h h1 : GH} (f : Fr A h h1) (m : MA B h) (n5 : Ni (B + 5) A) (n6 : Ni (B + 6) A) (L : List Int) : MF B A L h h1 := by
  refine ⟨f.mo (fun x hx => List.Mem.tail _ hx), ?_, fun p hp r g hp2 _ w => ?_⟩
  · obtain ⟨R, d, u, v, a, b⟩ := m
    exact ⟨R, d, u, v, f.at0 n5 a, f.at0 n6 b⟩
  · obtain ⟨h0, h1, h2, R, d, u, v, a, b, c⟩ := w
    exact ⟨h0, h1, h2, R, d, u, v, f.at0 n5 a, f.at0 n6 b, c⟩
/-- of a register: it isn't among these -/
theorem Nr.n {r : Int} : ∀ x ∈ ([] : List Int), r ≠ x := fun _ h => absurd h (List.not_mem_nil)
theorem Nr.c {r a : Int} {L : List Int} (h : r ≠ a) (t : ∀ x ∈ L, r ≠ x) : ∀ x ∈ a :: L, r ≠ x := fun x hx => by
  rcases List.mem_cons.mp hx with z | z
  · subst z; exact h
  · exact t x z
theorem MG.fr {hp : prm p} (h2 : p ≤ 65536) {B : Nat} {A : List Nat} {L : List Int} {h h1 : GH} {r : Int} {f : Px p} (w : MG hp B h r f) (m : MF B A L h h1) (n : ∀ x ∈ L, r ≠ x) : MG hp B h1 r f := m.2.2 p hp r f h2 n w
/-- one register has changed -/
theorem MF.one {B : Nat} {h h1 : GH} {R R2 : Int → Int → Int} {d d2 : Int → Int} {r : Int} (fr : Fr [B + 5] h h1) (u : ∀ r i, gW (R r i)) (v : ∀ r, gW (d r)) (a : h.2 (B + 5) = some (aI 8000 (ar R))) (b : h.2 (B + 6) = some (aI 40 d)) (a2 : h1.2 (B + 5) = some (aI 8000 (ar R2))) (b2 : h1.2 (B + 6) = some (aI 40 d2)) (eR : ∀ s, s ≠ r → R2 s = R s) (ed : ∀ s, s ≠ r → d2 s = d s) : MF B [] [r] h h1 := by
  refine ⟨fr, MA.of a2 b2, fun p hp s f hp2 hs w => ?_⟩
  have hsr : s ≠ r := hs r (List.Mem.head _)
  have hw := w.at u v a b
  obtain ⟨w1, w2, w3, _⟩ := w
  refine ⟨w1, w2, w3, fun r i => (gI (R2 r i)).toInt, fun r => (gI (d2 r)).toInt, fun _ _ => gW_t _, fun _ => gW_t _, ?_, by rw [b2, ← aI_nf], ?_, fun i i0 i1 => ?_⟩
  · rw [a2, aI_nf]; rfl
  · show (gI (d2 s)).toInt = _
    rw [ed s hsr, gI_id (v s)]; exact hw.1
  · show (gI (R2 s i)).toInt = _
    rw [eR s hsr, gI_id (u s i)]; exact hw.2 i i0 i1
theorem MG.mk {hp : prm p} (hp2 : p ≤ 65536) {B : Nat} {h : GH} {R : Int → Int → Int} {d : Int → Int} {r e : Int} {f : Px p} (hr : 0 ≤ r ∧ r < 40) (a : h.2 (B + 5) = some (aI 8000 (ar R))) (b : h.2 (B + 6) = some (aI 40 d)) (hd : d r = e) (he : e < 200) (hP : PO hp e (R r) f) (hz : ∀ k, e < k → k < 200 → R r k = 0) : MG hp B h r f := by
  have key : ∀ i, 0 ≤ i → i < 200 → R r i = cf f i := fun i i0 i1 => by
    rcases Int.lt_or_le e i with z | z
    · rw [hz i z i1, cf_hi hp hP.po (by rw [hP.dgi]; exact z)]
    · exact PO_cf hP i0 z
  have h1 := hP.1
  refine ⟨hr, hP.po, by rw [hP.dgi]; exact he, fun r i => (gI (R r i)).toInt, fun r => (gI (d r)).toInt, fun _ _ => gW_t _, fun _ => gW_t _, by rw [a, aI_nf]; rfl, by rw [b, ← aI_nf], ?_, fun i i0 i1 => ?_⟩
  · show (gI (d r)).toInt = _
    rw [hd, gI_id (by unfold gW; omega), hP.dgi]
  · show (gI (R r i)).toInt = _
    rw [key i i0 i1, gI_id (cf_gW hp hp2 f i)]
/-- numbers whose zeros at the top are told -/
theorem PO_top {hp : prm p} {g : Int → Int} {e t : Int} {f : Px p} (h1 : -1 ≤ e) (het : e ≤ t) (hz : ∀ k, e < k → k ≤ t → g k = 0) (hn : 0 ≤ e → g e ≠ 0) (hb : ∀ k, 0 ≤ k → k ≤ t → 0 ≤ g k ∧ g k < p) (hf : f = ph hp g t) : PO hp e g f := by
  refine ⟨h1, fun k k0 k1 => hb k k0 (by omega), hn, hf.trans (funext fun k => ?_)⟩
  letI := fR hp
  show (if (k : Int) ≤ t then zi hp (g k) else 0) = (if (k : Int) ≤ e then zi hp (g k) else 0)
  by_cases z : (k : Int) ≤ e
  · rw [if_pos (by omega), if_pos z]
  · rw [if_neg z]
    by_cases y : (k : Int) ≤ t
    · rw [if_pos y, hz k (by omega) y, zi_0 hp]
    · rw [if_neg y]
theorem ar_wg (R : Int → Int → Int) (L : Int → Int) {r i : Int} (h0 : 0 ≤ i) (h1 : i < 200) (v : Int) : gup (ar (gup R r L)) (200 * r + i) v = ar (gup R r (gup L i v)) := by
  rw [ar_w _ h0 h1, gup_s, gup_gup]
theorem ar_wg0 (R : Int → Int → Int) (L : Int → Int) (r v : Int) : gup (ar (gup R r L)) (200 * r) v = ar (gup R r (gup L 0 v)) := by
  have := ar_wg R L (r := r) (i := 0) (by omega) (by omega) v
  rw [Int.add_zero] at this
  exact this
end
