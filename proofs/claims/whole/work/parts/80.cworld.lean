/-! the class's world -/
def FK (P : Nat → GE → Prop) (h h1 : GH) : Prop := h.1 ≤ h1.1 ∧ ∀ (a : Nat) (e : GE), h.2 a = some e → P a e → h1.2 a = some e
theorem FK.rf (P : Nat → GE → Prop) (h : GH) : FK P h h := ⟨Nat.le_refl _, fun _ _ a _ => a⟩
theorem FK.tr {P : Nat → GE → Prop} {h h1 h2 : GH} (a : FK P h h1) (b : FK P h1 h2) : FK P h h2 := ⟨Nat.le_trans a.1 b.1, fun x e q k => b.2 x e (a.2 x e q k) k⟩
theorem FK.mo {P P2 : Nat → GE → Prop} {h h1 : GH} (a : FK P h h1) (w : ∀ x e, h.2 x = some e → P2 x e → P x e) : FK P2 h h1 := ⟨a.1, fun x e q k => a.2 x e q (w x e q k)⟩
theorem FK.fr {P : Nat → GE → Prop} {L : List Nat} {h h1 : GH} (f : Fr L h h1) (w : ∀ x e, h.2 x = some e → P x e → Ni x L) : FK P h h1 := ⟨Nat.le_of_eq f.1.symm, fun x e q k => f.at0 (w x e q k) q⟩
/-- no cell of a Poly -/
def npc (e : GE) : Prop := (∀ fs, e ≠ oB 4 fs) ∧ ∀ g, e ≠ aJ 287 g
/-- what keep leaves alone, what any call but factor() and the resultant by y does -/
def kpK (B a : Nat) (e : GE) : Prop := a ≠ B + 2 ∧ a ≠ B + 3 ∧ (a < B + 58 ∨ npc e)
def pK (B a : Nat) (e : GE) : Prop := B + 35 ≤ a ∧ (a < B + 58 ∨ npc e)
theorem kpK_pK {B a : Nat} {e : GE} (h : pK B a e) : kpK B a e := ⟨by have := h.1; omega, by have := h.1; omega, h.2⟩
abbrev cO (B : Nat) (fa sy : Value) : GE := oB 9 [.ref (B + 1), .ref (B + 2), .ref (B + 3), .ref (B + 4), .ref (B + 7), .ref (B + 24), .ref (B + 27), .ref (B + 29), .ref (B + 31), .ref (B + 33), fa, sy]
section
variable {p : Nat}
/-- the places -/
def CP (hp : prm p) (B : Nat) (h : GH) (T : PT p) : Prop := ∃ (gp : Int → Option Nat) (gt : Int → Int), h.2 (B + 2) = some (aR "PolyWork$Poly" 100 gp) ∧ h.2 (B + 3) = some (aZ 100 gt) ∧ (∀ k : Int, 0 ≤ k → k < 100 → ((T k.toNat = none ∧ gt k = 0) ∨ ∃ F q, T k.toNat = some F ∧ gt k = 1 ∧ gp k = some q ∧ PP hp h q F)) ∧ (∀ (k : Int) (q : Nat), gp k = some q → B + 58 ≤ q ∧ PA h q) ∧ ∀ (k l : Int) (q r : Nat), k ≠ l → gp k = some q → gp l = some r → AP q r
theorem Ai_lo {q B : Nat} {L : List Nat} (hq : B + 58 ≤ q) (hL : ∀ x ∈ L, x + 2 ≤ B + 58) : Ai q L := fun x hx => by
  have := hL x hx
  unfold AP
  omega
theorem CP.fr {hp : prm p} {B : Nat} {L : List Nat} {h h1 : GH} {T : PT p} (w : CP hp B h T) (f : Fr L h h1) (n2 : Ni (B + 2) L) (n3 : Ni (B + 3) L) (hL : ∀ x ∈ L, x + 2 ≤ B + 58) : CP hp B h1 T := by
  obtain ⟨gp, gt, a, b, c, d, e⟩ := w
  refine ⟨gp, gt, f.at0 n2 a, f.at0 n3 b, fun k k0 k1 => ?_, fun k q hq => ⟨(d k q hq).1, (d k q hq).2.fr f (Ai_lo (d k q hq).1 hL)⟩, e⟩
  rcases c k k0 k1 with z | ⟨F, q, z1, z2, z3, z4⟩
  · exact Or.inl z
  · exact Or.inr ⟨F, q, z1, z2, z3, z4.fr f (Ai_lo (d k q z3).1 hL)⟩
theorem CP.at {hp : prm p} {B : Nat} {h : GH} {T : PT p} (w : CP hp B h T) {a : Int} {F : Pxy p} (e : gT T a = some F) : ∃ q, B + 58 ≤ q ∧ PP hp h q F := by
  unfold gT at e
  split at e
  · rename_i z
    obtain ⟨gp, gt, _, _, c, d, _⟩ := w
    rcases c a z.1 z.2 with y | ⟨G, q, y1, y2, y3, y4⟩
    · rw [e] at y; exact absurd y.1 (by simp)
    · rw [e] at y1
      have := Option.some.inj y1
      subst this
      exact ⟨q, (d a q y3).1, y4⟩
  · exact absurd e (by simp)
/-- the points -/
def CPt (p B : Nat) (h : GH) (c : Int) (X V : Int → Int) : Prop := ∃ gx gv : Int → Int, h.2 (B + 24) = some (oB 3 [.ref (B + 1), .ref (B + 25), .ref (B + 26), .int (gI c)]) ∧ h.2 (B + 25) = some (aJ 41 gx) ∧ h.2 (B + 26) = some (aJ 41 gv) ∧ (0 ≤ c ∧ c ≤ 41) ∧ ∀ k, 0 ≤ k → k < c → gx k = X k ∧ gv k = V k ∧ (0 ≤ X k ∧ X k < p) ∧ (0 ≤ V k ∧ V k < p)
theorem CPt.fr {B : Nat} {L : List Nat} {h h1 : GH} {c : Int} {X V : Int → Int} (w : CPt p B h c X V) (f : Fr L h h1) (n1 : Ni (B + 24) L) (n2 : Ni (B + 25) L) (n3 : Ni (B + 26) L) : CPt p B h1 c X V := by
  obtain ⟨gx, gv, a, b, d, e⟩ := w
  exact ⟨gx, gv, f.at0 n1 a, f.at0 n2 b, f.at0 n3 d, e⟩
theorem PW.fr2 {B : Nat} {L : List Nat} {h h1 : GH} (w : PW p B h) (f : Fr L h h1) (hb : ∀ x ∈ L, (B + 2 ≤ x ∧ x + 2 ≤ B + 7) ∨ B + 24 ≤ x) : PW p B h1 := by
  refine ⟨f.at0 (fun x hx => ?_) w.1, f.at0 (fun x hx => ?_) w.2.1, fun x hx => (w.2.2 x hx).fr f (fun y hy => ?_)⟩
  · have := hb x hx; unfold NE; omega
  · have := hb x hx; unfold NE; omega
  · have := hb y hy
    have := pl_in hx
    unfold AP; omega
/-- all but the places -/
def CSt (p B : Nat) (h : GH) (c : Int) (X V : Int → Int) (fa sy : Value) : Prop := h.2 B = some (cO B fa sy) ∧ PW p B h ∧ h.2 (B + 4) = some (oB 8 [.ref (B + 1), .ref (B + 5)]) ∧ PA h (B + 5) ∧ PA h (B + 27) ∧ RA 84 h (B + 29) ∧ RA 84 h (B + 31) ∧ RA 84 h (B + 33) ∧ CPt p B h c X V ∧ B + 58 ≤ h.1
theorem RA.fk {P : Nat → GE → Prop} {n : Nat} {h h1 : GH} {r : Nat} (w : RA n h r) (f : FK P h h1) (k0 : ∀ e, P r e) (k1 : ∀ e, P (r + 1) e) : RA n h1 r := by
  obtain ⟨d, g, a, b, c⟩ := w
  exact ⟨d, g, f.2 _ _ a (k0 _), f.2 _ _ b (k1 _), c⟩
theorem PA.fk {P : Nat → GE → Prop} {h h1 : GH} {r : Nat} (w : PA h r) (f : FK P h h1) (k0 : ∀ e, P r e) (k1 : ∀ e, P (r + 1) e) : PA h1 r := by
  obtain ⟨d, e, g, a, b, c⟩ := w
  exact ⟨d, e, g, f.2 _ _ a (k0 _), f.2 _ _ b (k1 _), c⟩
theorem CSt.fk {B : Nat} {h h1 : GH} {c : Int} {X V : Int → Int} {fa sy : Value} (w : CSt p B h c X V fa sy) (f : FK (kpK B) h h1) : CSt p B h1 c X V fa sy := by
  have key : ∀ (a : Nat) (e : GE), a ≠ B + 2 → a ≠ B + 3 → a < B + 58 → kpK B a e := fun a e h1 h2 h3 => ⟨h1, h2, Or.inl h3⟩
  obtain ⟨w1, w2, w3, w4, w5, w6, w7, w8, ⟨gx, gv, w9, w10, w11, w12⟩, w13⟩ := w
  refine ⟨f.2 _ _ w1 (key _ _ (by omega) (by omega) (by omega)), ⟨f.2 _ _ w2.1 (key _ _ (by omega) (by omega) (by omega)), f.2 _ _ w2.2.1 (key _ _ (by omega) (by omega) (by omega)), fun x hx => ?_⟩, f.2 _ _ w3 (key _ _ (by omega) (by omega) (by omega)), w4.fk f (fun e => key _ _ (by omega) (by omega) (by omega)) (fun e => key _ _ (by omega) (by omega) (by omega)), w5.fk f (fun e => key _ _ (by omega) (by omega) (by omega)) (fun e => key _ _ (by omega) (by omega) (by omega)), w6.fk f (fun e => key _ _ (by omega) (by omega) (by omega)) (fun e => key _ _ (by omega) (by omega) (by omega)), w7.fk f (fun e => key _ _ (by omega) (by omega) (by omega)) (fun e => key _ _ (by omega) (by omega) (by omega)), w8.fk f (fun e => key _ _ (by omega) (by omega) (by omega)) (fun e => key _ _ (by omega) (by omega) (by omega)), ⟨gx, gv, f.2 _ _ w9 (key _ _ (by omega) (by omega) (by omega)), f.2 _ _ w10 (key _ _ (by omega) (by omega) (by omega)), f.2 _ _ w11 (key _ _ (by omega) (by omega) (by omega)), w12⟩, Nat.le_trans w13 f.1⟩
  have := pl_in hx
  exact (w2.2.2 x hx).fk f (fun e => key _ _ (by omega) (by omega) (by omega)) (fun e => key _ _ (by omega) (by omega) (by omega))
theorem gp_S {hp : prm p} {h h1 : GH} {q r : Nat} {F : Pxy p} (w : PP hp h r F) (f : ∀ x, x = r ∨ x = r + 1 → h1.2 x = h.2 x) : PP hp h1 r F := by
  obtain ⟨g, ⟨a, b, c⟩, d⟩ := w
  exact ⟨g, ⟨(f _ (Or.inl rfl)).trans a, (f _ (Or.inr rfl)).trans b, c⟩, d⟩
theorem gp_A {h h1 : GH} {r : Nat} (w : PA h r) (f : ∀ x, x = r ∨ x = r + 1 → h1.2 x = h.2 x) : PA h1 r := by
  obtain ⟨d, e, g, a, b, c⟩ := w
  exact ⟨d, e, g, (f _ (Or.inl rfl)).trans a, (f _ (Or.inr rfl)).trans b, c⟩
theorem PA.lt {h : GH} {r : Nat} (w : PA h r) (wf : ∀ (a : Nat) (e : GE), h.2 a = some e → a < h.1) : r + 1 < h.1 := by
  obtain ⟨d, e, g, a, b, c⟩ := w
  exact wf _ _ b
theorem oB_ne {c d : Nat} {f g : List Value} (h : c ≠ d) : oB c f ≠ oB d g := fun e => h (congrArg Prod.fst (Sum.inr.inj e))
theorem oB_aJ {c n : Nat} {f : List Value} {g : Int → Int} : oB c f ≠ aJ n g := fun e => by cases e
theorem aJ_ne {n m : Nat} {f g : Int → Int} (h : n ≠ m) : aJ n f ≠ aJ m g := fun e => h (congrArg (fun x => x.2.1) (Sum.inl.inj e))
/-- the place k gets F: its Poly q is there already, or new; hA: the heap before taken[k] is set -/
theorem CP.put {hp : prm p} {B : Nat} {h h1 : GH} {T : PT p} {F : Pxy p} {gp gp2 : Int → Option Nat} {gt : Int → Int} {k : Int} {q : Nat} (wf : ∀ (a : Nat) (e : GE), h.2 a = some e → a < h.1) (c : ∀ k : Int, 0 ≤ k → k < 100 → ((T k.toNat = none ∧ gt k = 0) ∨ ∃ F q, T k.toNat = some F ∧ gt k = 1 ∧ gp k = some q ∧ PP hp h q F)) (d : ∀ (k : Int) (q : Nat), gp k = some q → B + 58 ≤ q ∧ PA h q) (e : ∀ (k l : Int) (q r : Nat), k ≠ l → gp k = some q → gp l = some r → AP q r) (k0 : 0 ≤ k) (k1 : k < 100) (hT : T k.toNat = none)
    (hq : (gp k = some q ∧ gp2 = gp) ∨ (gp k = none ∧ q = h.1 ∧ gp2 = gup gp k (some q))) (hB : B + 58 ≤ q) (hP : PP hp h1 q F) (hle : h.1 ≤ h1.1) (a2 : h1.2 (B + 2) = some (aR "PolyWork$Poly" 100 gp2)) (a3 : h1.2 (B + 3) = some (aZ 100 (gup gt k 1))) (un : ∀ x, x < h.1 → x ≠ B + 2 → x ≠ B + 3 → x ≠ q → x ≠ q + 1 → h1.2 x = h.2 x) : CP hp B h1 (putT T k F) ∧ FK (kpK B) h h1 := by
  have hap : ∀ (l : Int) (r : Nat), l ≠ k → gp l = some r → AP r q := fun l r hl hr => by
    rcases hq with ⟨z1, _⟩ | ⟨_, z2, _⟩
    · exact e l k r q hl hr z1
    · have := (d l r hr).2.lt wf
      unfold AP; omega
  have hkeep : ∀ (l : Int) (r : Nat), l ≠ k → gp l = some r → ∀ x, x = r ∨ x = r + 1 → h1.2 x = h.2 x := fun l r hl hr x hx => by
    have h9 := hap l r hl hr
    have h8 := (d l r hr).1
    have h7 := (d l r hr).2.lt wf
    unfold AP at h9
    exact un x (by omega) (by omega) (by omega) (by omega) (by omega)
  have g2 : ∀ (l : Int), l ≠ k → gp2 l = gp l := fun l hl => by
    rcases hq with ⟨_, z2⟩ | ⟨_, _, z2⟩
    · rw [z2]
    · rw [z2, gup_n _ _ hl]
  have g2k : gp2 k = some q := by
    rcases hq with ⟨z1, z2⟩ | ⟨_, _, z2⟩
    · rw [z2]; exact z1
    · rw [z2, gup_s]
  refine ⟨⟨gp2, _, a2, a3, fun l l0 l1 => ?_, fun l r hr => ?_, fun l m r s hlm hr hs => ?_⟩, hle, fun x y hx hk => ?_⟩
  · by_cases z : l = k
    · refine Or.inr ⟨F, q, if_pos (by omega), by rw [z, gup_s], by rw [z]; exact g2k, hP⟩
    · rw [gup_n _ _ z, show putT T k F l.toNat = T l.toNat from if_neg (by omega), g2 l z]
      rcases c l l0 l1 with y | ⟨G, r, y1, y2, y3, y4⟩
      · exact Or.inl y
      · exact Or.inr ⟨G, r, y1, y2, y3, gp_S (q := 0) y4 (hkeep l r z y3)⟩
  · by_cases z : l = k
    · rw [z, g2k] at hr
      have := Option.some.inj hr
      subst this
      exact ⟨hB, hP.ra⟩
    · rw [g2 l z] at hr
      exact ⟨(d l r hr).1, gp_A (d l r hr).2 (hkeep l r z hr)⟩
  · by_cases z : l = k
    · rw [z, g2k] at hr
      have := Option.some.inj hr
      subst this
      rw [g2 m (by omega)] at hs
      exact (hap m s (by omega) hs).s
    · rw [g2 l z] at hr
      by_cases y : m = k
      · rw [y, g2k] at hs
        have := Option.some.inj hs
        subst this
        exact hap l r z hr
      · rw [g2 m y] at hs
        exact e l m r s hlm hr hs
  · obtain ⟨u1, u2, u3⟩ := hk
    have h9 := wf x y hx
    have key : x ≠ q ∧ x ≠ q + 1 := by
      rcases hq with ⟨z1, _⟩ | ⟨_, z2, _⟩
      · obtain ⟨i, j, g, pa, pb, _⟩ := (d k q z1).2
        have hqB := (d k q z1).1
        refine ⟨fun ex => ?_, fun ex => ?_⟩
        · rw [ex, pa] at hx
          rcases u3 with u | u
          · omega
          · exact u.1 _ (Option.some.inj hx).symm
        · rw [ex, pb] at hx
          rcases u3 with u | u
          · omega
          · exact u.2 _ (Option.some.inj hx).symm
      · constructor <;> omega
    rw [un x h9 u1 u2 key.1 key.2]
    exact hx
end
