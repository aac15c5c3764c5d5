/-! cells of Factors that change; changed rows -/
section
variable {p : Nat}
theorem FW.t2 {hp : prm p} {B f : Nat} {h0 : GH} {gr0 gp0 : Int → Option Nat} {h : GH} {gr gp : Int → Option Nat} {gt gq gR : Int → Int} {n pn rn tg le sz e : Int} {Q : Int → Px p} (w : FW hp B f h0 gr0 gp0 h gr gp gt gq gR n pn rn tg le sz e Q) : h.2 (f + 2) = some (aI 40 gt) := w.1.2.2.2.2.1
theorem FW.t3 {hp : prm p} {B f : Nat} {h0 : GH} {gr0 gp0 : Int → Option Nat} {h : GH} {gr gp : Int → Option Nat} {gt gq gR : Int → Int} {n pn rn tg le sz e : Int} {Q : Int → Px p} (w : FW hp B f h0 gr0 gp0 h gr gp gt gq gR n pn rn tg le sz e Q) : RLi 8 (f + 21) h (f + 3) gp := w.1.2.2.2.2.2.1
theorem FW.t4 {hp : prm p} {B f : Nat} {h0 : GH} {gr0 gp0 : Int → Option Nat} {h : GH} {gr gp : Int → Option Nat} {gt gq gR : Int → Int} {n pn rn tg le sz e : Int} {Q : Int → Px p} (w : FW hp B f h0 gr0 gp0 h gr gp gt gq gR n pn rn tg le sz e Q) : h.2 (f + 4) = some (aI 8 gq) := w.1.2.2.2.2.2.2.1
theorem FW.t5 {hp : prm p} {B f : Nat} {h0 : GH} {gr0 gp0 : Int → Option Nat} {h : GH} {gr gp : Int → Option Nat} {gt gq gR : Int → Int} {n pn rn tg le sz e : Int} {Q : Int → Px p} (w : FW hp B f h0 gr0 gp0 h gr gp gt gq gR n pn rn tg le sz e Q) : h.2 (f + 5) = some (aJ 40 gR) := w.1.2.2.2.2.2.2.2.1
theorem FW.cell {hp : prm p} {B f : Nat} {h0 : GH} {gr0 gp0 : Int → Option Nat} {h h1 : GH} {gr gp : Int → Option Nat} {gt gq gR gt1 gq1 gR1 : Int → Int} {n pn rn tg le n1 pn1 rn1 tg1 le1 sz e : Int} {Q : Int → Px p} (w : FW hp B f h0 gr0 gp0 h gr gp gt gq gR n pn rn tg le sz e Q) (hn : h1.1 = h.1) (un : ∀ x, x ≠ f → x ≠ f + 2 → x ≠ f + 4 → x ≠ f + 5 → h1.2 x = h.2 x) (c0 : h1.2 f = some (fO B f n1 pn1 rn1 tg1 le1)) (c2 : h1.2 (f + 2) = some (aI 40 gt1)) (c4 : h1.2 (f + 4) = some (aI 8 gq1)) (c5 : h1.2 (f + 5) = some (aJ 40 gR1)) : FW hp B f h0 gr0 gp0 h1 gr gp gt1 gq1 gR1 n1 pn1 rn1 tg1 le1 sz e Q := by
  obtain ⟨⟨w1, w2, w3, w4, w5, w6, w7, w8, w9, w10, ⟨gg, w11⟩, ⟨gv, w12⟩, w13⟩, we, wQ, wF, wf⟩ := w
  have k1 : ∀ (x : Nat) (e : GE), (x = f + 1 ∨ x = f + 3 ∨ f + 6 ≤ x) → h.2 x = some e → h1.2 x = some e := fun x e hx he => by rw [un x (by omega) (by omega) (by omega) (by omega)]; exact he
  refine ⟨⟨w1, by omega, c0, w4.of1 (fun e he => k1 _ _ (by omega) he) (fun t u x e hu hx he => k1 x e (by have := (w4.2.1 t u hu).1; omega) he), c2, w6.of1 (fun e he => k1 _ _ (by omega) he) (fun t u x e hu hx he => k1 x e (by have := (w6.2.1 t u hu).1; omega) he), c4, c5, fun k hk => (w9 k hk).of1 (fun x e hx he => k1 x e (by omega) he), k1 _ _ (by omega) w10, ⟨gg, k1 _ _ (by omega) w11⟩, ⟨gv, k1 _ _ (by omega) w12⟩, w13⟩, we, fun a a0 a1 => ?_, FQ.tr wf wF ⟨by omega, fun x e hx hn hb => ?_, fun x hx => Or.inl hx⟩, wf⟩
  · obtain ⟨u, hu, hR⟩ := wQ a a0 a1
    have := (w4.2.1 a u hu).1
    exact ⟨u, hu, hR.of1 (fun x e hx he => k1 x e (by omega) he)⟩
  · rw [un x (fun z => hn (Or.inl (by omega))) (fun z => hn (Or.inl (by omega))) (fun z => hn (Or.inl (by omega))) (fun z => hn (Or.inl (by omega)))]
    exact hx
def swI {α : Type} (g : Int → α) (l : Int) : Int → α := fun i => if i = l then g (l - 1) else if i = l - 1 then g l else g i
theorem swI_g {α : Type} {g : Int → α} {l : Int} {a b : α} (ha : g l = a) (hb : g (l - 1) = b) : gup (gup g l b) (l - 1) a = swI g l := funext fun i => by
  unfold gup swI
  by_cases z : i = l
  · rw [if_neg (by omega), if_pos z, if_pos z, hb]
  · rw [if_neg z, if_neg z]
    by_cases y : i = l - 1
    · rw [if_pos y, if_pos y, ha]
    · rw [if_neg y, if_neg y]
theorem swI_src {α : Type} (g : Int → α) (l i : Int) : ∃ j : Int, swI g l i = g j ∧ j = (if i = l then l - 1 else if i = l - 1 then l else i) := by
  unfold swI
  by_cases z : i = l
  · exact ⟨l - 1, by rw [if_pos z], by rw [if_pos z]⟩
  · by_cases y : i = l - 1
    · exact ⟨l, by rw [if_neg z, if_pos y], by rw [if_neg z, if_pos y]⟩
    · exact ⟨i, by rw [if_neg z, if_neg y], by rw [if_neg z, if_neg y]⟩
theorem FW.swap {hp : prm p} {B f : Nat} {h0 : GH} {gr0 gp0 : Int → Option Nat} {h h1 : GH} {gr gp : Int → Option Nat} {gt gq gR : Int → Int} {n pn rn tg le sz e l : Int} {Q : Int → Px p} (w : FW hp B f h0 gr0 gp0 h gr gp gt gq gR n pn rn tg le sz e Q) (hl : 1 ≤ l ∧ l < e) (hn : h1.1 = h.1) (un : ∀ x, x ≠ f + 1 → x ≠ f + 2 → h1.2 x = h.2 x) (c1 : h1.2 (f + 1) = some (aR "PolyWork$Row" 40 (swI gr l))) (c2 : h1.2 (f + 2) = some (aI 40 (swI gt l))) : FW hp B f h0 gr0 gp0 h1 (swI gr l) gp (swI gt l) gq gR n pn rn tg le sz e (swI Q l) := by
  obtain ⟨⟨w1, w2, w3, w4, w5, w6, w7, w8, w9, w10, ⟨gg, w11⟩, ⟨gv, w12⟩, w13⟩, we, wQ, wF, wf⟩ := w
  have k1 : ∀ (x : Nat) (e : GE), (x ≠ f + 1 ∧ x ≠ f + 2) → h.2 x = some e → h1.2 x = some e := fun x e hx he => by rw [un x hx.1 hx.2]; exact he
  have kr : ∀ (t : Int) (r : Nat), gr t = some r → RA 84 h1 r := fun t r hr => (w4.2.1 t r hr).2.of1 (fun x e hx he => k1 x e (by have := (w4.2.1 t r hr).1; omega) he)
  refine ⟨⟨w1, by omega, k1 _ _ (by omega) w3, ⟨c1, fun i r hr => ?_, fun i j r s hij hr hs => ?_⟩, c2, w6.of1 (fun e he => k1 _ _ (by omega) he) (fun t u x e hu hx he => k1 x e (by have := (w6.2.1 t u hu).1; omega) he), k1 _ _ (by omega) w7, k1 _ _ (by omega) w8, fun k hk => (w9 k hk).of1 (fun x e hx he => k1 x e (by omega) he), k1 _ _ (by omega) w10, ⟨gg, k1 _ _ (by omega) w11⟩, ⟨gv, k1 _ _ (by omega) w12⟩, fun a b u t hu ht => ?_⟩, we, fun a a0 a1 => ?_, FQ.tr wf wF ⟨by omega, fun x e hx hn hb => k1 x e ⟨fun z => hn (Or.inl (by omega)), fun z => hn (Or.inl (by omega))⟩ hx, fun x hx => Or.inl ?_⟩, wf⟩
  · obtain ⟨j, ej, _⟩ := swI_src gr l i
    rw [ej] at hr
    exact ⟨(w4.2.1 j r hr).1, kr j r hr⟩
  · obtain ⟨a, ea, za⟩ := swI_src gr l i
    obtain ⟨b, eb, zb⟩ := swI_src gr l j
    rw [ea] at hr
    rw [eb] at hs
    refine w4.2.2 a b r s ?_ hr hs
    rw [za, zb]
    split <;> split <;> (try split) <;> (try split) <;> omega
  · obtain ⟨j, ej, _⟩ := swI_src gr l a
    rw [ej] at hu
    exact w13 j b u t hu ht
  · obtain ⟨j, ej, zj⟩ := swI_src gr l a
    obtain ⟨j2, ej2, zj2⟩ := swI_src Q l a
    have : j = j2 := zj.trans zj2.symm
    subst this
    have hj : 0 ≤ j ∧ j < e := by
      rw [zj]
      split <;> (try split) <;> omega
    obtain ⟨u, hu, hR⟩ := wQ j hj.1 hj.2
    have := (w4.2.1 j u hu).1
    exact ⟨u, ej.trans hu, by rw [ej2]; exact hR.of1 (fun x e hx he => k1 x e (by omega) he)⟩
  · rcases hx with z | ⟨t, r, hr, hx⟩
    · exact Or.inl z
    · rcases hr with hr | hr
      · obtain ⟨j, ej, _⟩ := swI_src gr l t
        rw [ej] at hr
        exact Or.inr ⟨j, r, Or.inl hr, hx⟩
      · exact Or.inr ⟨t, r, Or.inr hr, hx⟩
theorem PW.hs {B a : Nat} {h h1 : GH} {c : GE} (w : PW p B h) (ha : B + 58 ≤ a) (e : h1 = hset h a c) : PW p B h1 := by
  have un : ∀ x, x ≠ a → h1.2 x = h.2 x := fun x hx => by rw [e, hset_n _ _ hx]
  exact ⟨(un _ (by omega)).trans w.1, (un _ (by omega)).trans w.2.1, fun x hx => (w.2.2 x hx).of (fun y hy => un y (by have := pl_in hx; omega))⟩
theorem KP.hs {f a : Nat} {h h1 h2 : GH} {c : GE} (w : KP f h h1) (ha : a < f + 6 ∨ f + 12 ≤ a) (e : h2 = hset h1 a c) : KP f h h2 := fun x e2 x0 x1 he => by rw [e, hset_n _ _ (by omega)]; exact w x e2 x0 x1 he
/-- sorted but for the place l -/
def so1 (h : prm p) (Q : Int → Px p) (k l : Int) : Prop := (∀ i : Int, 0 ≤ i → i < k → i + 1 ≠ l → ltP h (Q i) (Q (i + 1))) ∧ (1 ≤ l → l < k → ltP h (Q (l - 1)) (Q (l + 1)))
theorem so1_sw (h : prm p) {Q : Int → Px p} {k l : Int} (w : so1 h Q k l) (hl : 1 ≤ l ∧ l ≤ k) (hlt : ltP h (Q l) (Q (l - 1))) : so1 h (swI Q l) k (l - 1) := by
  refine ⟨fun i i0 i1 i2 => ?_, fun l0 l1 => ?_⟩
  · unfold swI
    by_cases z : i = l
    · rw [if_pos z, if_neg (by omega), if_neg (by omega), z]
      exact w.2 hl.1 (by omega)
    · rw [if_neg z]
      by_cases y : i = l - 1
      · rw [if_pos y, if_pos (by omega)]
        exact hlt
      · rw [if_neg y, if_neg (by omega), if_neg (by omega)]
        exact w.1 i i0 i1 (by omega)
  · unfold swI
    rw [if_neg (by omega), if_neg (by omega), if_pos (by omega)]
    have := w.1 (l - 1 - 1) (by omega) (by omega) (by omega)
    rw [show l - 1 - 1 + 1 = l - 1 by omega] at this
    exact this
theorem so1_e (h : prm p) {Q : Int → Px p} {k l : Int} (w : so1 h Q k l) (hl : l = 0 ∨ ltP h (Q (l - 1)) (Q l)) : ∀ i : Int, 0 ≤ i → i < k → ltP h (Q i) (Q (i + 1)) := fun i i0 i1 => by
  by_cases z : i + 1 = l
  · rcases hl with y | y
    · omega
    · rw [show i = l - 1 by omega, show l - 1 + 1 = l by omega]; exact y
  · exact w.1 i i0 i1 z
theorem fcl_sw (h : prm p) {f : Px p} {n l : Int} {Q : Int → Px p} {t : Int → Int} (hl : 1 ≤ l ∧ l < n) (w : fcl h f n Q t) : fcl h f n (swI Q l) (swI t l) := by
  have inj : ∀ i j : Int, 0 ≤ i → i < n → 0 ≤ j → j < n → Q i = Q j → i = j := fun i j i0 i1 j0 j1 e => by
    rcases Int.lt_trichotomy i j with z | z | z
    · exact absurd e (w.2.1 i j i0 z j1)
    · exact z
    · exact absurd e.symm (w.2.1 j i j0 z i1)
  refine ⟨fun i i0 i1 => ?_, fun i j i0 i1 j1 e => ?_, fun g hg => ?_⟩
  · obtain ⟨j, ej, zj⟩ := swI_src Q l i
    obtain ⟨j2, ej2, zj2⟩ := swI_src t l i
    have : j = j2 := zj.trans zj2.symm
    subst this
    rw [ej, ej2]
    exact w.1 j (by rw [zj]; split <;> (try split) <;> omega) (by rw [zj]; split <;> (try split) <;> omega)
  · obtain ⟨a, ea, za⟩ := swI_src Q l i
    obtain ⟨b, eb, zb⟩ := swI_src Q l j
    rw [ea, eb] at e
    have := inj a b (by rw [za]; split <;> (try split) <;> omega) (by rw [za]; split <;> (try split) <;> omega) (by rw [zb]; split <;> (try split) <;> omega) (by rw [zb]; split <;> (try split) <;> omega) e
    rw [za, zb] at this
    revert this
    split <;> split <;> (try split) <;> (try split) <;> omega
  · obtain ⟨i, i0, i1, e⟩ := w.2.2 g hg
    refine ⟨if i = l then l - 1 else if i = l - 1 then l else i, by split <;> (try split) <;> omega, by split <;> (try split) <;> omega, ?_⟩
    unfold swI
    by_cases z : i = l
    · rw [if_pos z, if_neg (by omega), if_pos rfl, ← z]; exact e
    · rw [if_neg z]
      by_cases y : i = l - 1
      · rw [if_pos y, if_pos rfl, ← y]; exact e
      · rw [if_neg y, if_neg z, if_neg y]; exact e
theorem sI_sw {t : Int → Int} {l : Nat} : ∀ n : Nat, l + 2 ≤ n → sI (swI t ((l : Int) + 1)) n = sI t n := fun n => by
  induction n with
  | zero => intro h; omega
  | succ n ih =>
    intro h
    show sI (swI t ((l : Int) + 1)) n + swI t ((l : Int) + 1) n = sI t n + t n
    rcases Nat.lt_or_ge n (l + 2) with z | z
    · have e : n = l + 1 := by omega
      subst e
      show sI (swI t ((l : Int) + 1)) l + swI t ((l : Int) + 1) l + swI t ((l : Int) + 1) ((l + 1 : Nat) : Int) = sI t l + t l + t ((l + 1 : Nat) : Int)
      rw [sI_cg l (t2 := t) (fun i i0 i1 => by unfold swI; rw [if_neg (by omega), if_neg (by omega)])]
      unfold swI
      rw [if_neg (show ¬ (l : Int) = (l : Int) + 1 by omega), if_pos (show (l : Int) = (l : Int) + 1 - 1 by omega), if_pos (show ((l + 1 : Nat) : Int) = (l : Int) + 1 by omega), show (l : Int) + 1 - 1 = l by omega, show ((l + 1 : Nat) : Int) = (l : Int) + 1 by omega]
      omega
    · rw [ih z]
      unfold swI
      rw [if_neg (by omega), if_neg (by omega)]
end
