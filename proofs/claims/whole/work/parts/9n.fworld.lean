/-! the world of a search -/
section
variable {p : Nat}
/-- what Factors' methods leave alone -/
def FQ (B f : Nat) (h : GH) (gr gp : Int → Option Nat) (h1 : GH) (gr1 gp1 : Int → Option Nat) : Prop := h.1 ≤ h1.1 ∧ (∀ (x : Nat) (e : GE), h.2 x = some e → ¬ FF f gr gp x → (x < B + 8 ∨ B + 24 ≤ x) → h1.2 x = some e) ∧ ∀ x, FF f gr1 gp1 x → FF f gr gp x ∨ h.1 ≤ x
theorem FQ.rf (B f : Nat) (h : GH) (gr gp : Int → Option Nat) : FQ B f h gr gp h gr gp := ⟨Nat.le_refl _, fun _ _ a _ _ => a, fun _ a => Or.inl a⟩
theorem FQ.tr {B f : Nat} {h h1 h2 : GH} {gr gp gr1 gp1 gr2 gp2 : Int → Option Nat} (wf : ∀ (a : Nat) (e : GE), h.2 a = some e → a < h.1) (a : FQ B f h gr gp h1 gr1 gp1) (b : FQ B f h1 gr1 gp1 h2 gr2 gp2) : FQ B f h gr gp h2 gr2 gp2 := by
  refine ⟨Nat.le_trans a.1 b.1, fun x e hx hn hb => b.2.1 x e (a.2.1 x e hx hn hb) (fun q => ?_) hb, fun x hx => ?_⟩
  · rcases a.2.2 x q with z | z
    · exact hn z
    · have := wf x e hx; omega
  · rcases b.2.2 x hx with z | z
    · exact a.2.2 x z
    · have := a.1; exact Or.inr (by omega)
theorem FQ.of {B f : Nat} {L : List Nat} {h h1 : GH} {gr gp : Int → Option Nat} (fr : Fr L h h1) (hL : ∀ x ∈ L, (f ≤ x ∧ x + 2 ≤ f + 21) ∨ (B + 8 ≤ x ∧ x + 2 ≤ B + 24) ∨ (∃ t, gr t = some x) ∨ ∃ t, gp t = some x) : FQ B f h gr gp h1 gr gp := by
  refine ⟨Nat.le_of_eq fr.1.symm, fun x e hx hn hb => fr.at0 (fun y hy => ?_) hx, fun _ a => Or.inl a⟩
  rcases hL y hy with z | z | ⟨t, z⟩ | ⟨t, z⟩
  · exact ⟨fun e => hn (Or.inl (by omega)), fun e => hn (Or.inl (by omega))⟩
  · constructor <;> (unfold NE; omega)
  · exact ⟨fun e => hn (Or.inr ⟨t, y, Or.inl z, Or.inl e⟩), fun e => hn (Or.inr ⟨t, y, Or.inl z, Or.inr e⟩)⟩
  · exact ⟨fun e => hn (Or.inr ⟨t, y, Or.inr z, Or.inl e⟩), fun e => hn (Or.inr ⟨t, y, Or.inr z, Or.inr e⟩)⟩
def FW (hp : prm p) (B f : Nat) (h0 : GH) (gr0 gp0 : Int → Option Nat) (h : GH) (gr gp : Int → Option Nat) (gt gq gR : Int → Int) (n pn rn tg le sz e : Int) (Q : Int → Px p) : Prop := FAs B h f gr gp gt gq gR n pn rn tg le sz ∧ (0 ≤ e ∧ e ≤ 40) ∧ (∀ i : Int, 0 ≤ i → i < e → ∃ r, gr i = some r ∧ RP hp 84 h r (Q i)) ∧ FQ B f h0 gr0 gp0 h gr gp ∧ ∀ (a : Nat) (e : GE), h0.2 a = some e → a < h0.1
theorem FW.gen {hp : prm p} {B f : Nat} {h0 : GH} {gr0 gp0 : Int → Option Nat} {h h1 : GH} {gr gp : Int → Option Nat} {gt gq gR : Int → Int} {n pn rn tg le sz e sz1 e1 : Int} {Q Q1 : Int → Px p} {L : List Nat} (w : FW hp B f h0 gr0 gp0 h gr gp gt gq gR n pn rn tg le sz e Q) (fr : Fr L h h1) (hL : ∀ x ∈ L, (f + 6 ≤ x ∧ x + 2 ≤ f + 21) ∨ (B + 8 ≤ x ∧ x + 2 ≤ B + 24) ∨ (∃ t, gr t = some x) ∨ ∃ t, gp t = some x)
    (hra : ∀ k : Nat, k = 6 ∨ k = 8 ∨ k = 10 ∨ k = 15 ∨ k = 17 ∨ k = 19 → Ai (f + k) L ∨ RA 84 h1 (f + k)) (hsp : (Ni (f + 12) L ∧ sz1 = sz) ∨ h1.2 (f + 12) = some (spO B f sz1)) (h13 : Ni (f + 13) L ∨ ∃ gg, h1.2 (f + 13) = some (aJ 1600 gg)) (h14 : Ni (f + 14) L ∨ ∃ gv, h1.2 (f + 14) = some (aI 40 gv)) (hrr : ∀ (t : Int) (r : Nat), gr t = some r → Ai r L ∨ RA 84 h1 r) (hrp : ∀ (t : Int) (r : Nat), gp t = some r → Ai r L ∨ RA 84 h1 r) (he : 0 ≤ e1 ∧ e1 ≤ 40) (hQ : ∀ i : Int, 0 ≤ i → i < e1 → ∃ r, gr i = some r ∧ RP hp 84 h1 r (Q1 i)) : FW hp B f h0 gr0 gp0 h1 gr gp gt gq gR n pn rn tg le sz1 e1 Q1 := by
  obtain ⟨⟨w1, w2, w3, w4, w5, w6, w7, w8, w9, w10, ⟨gg, w11⟩, ⟨gv, w12⟩, w13⟩, we, wQ, wF, wf⟩ := w
  have n0 : ∀ x, f ≤ x → x < f + 6 → Ni x L := fun x x0 x1 y hy => by
    have := hL y hy
    rcases this with z | z | ⟨t, z⟩ | ⟨t, z⟩
    · constructor <;> (unfold NE; omega)
    · constructor <;> (unfold NE; omega)
    · have := (w4.2.1 t y z).1
      constructor <;> (unfold NE; omega)
    · have := (w6.2.1 t y z).1
      constructor <;> (unfold NE; omega)
  refine ⟨⟨w1, by rw [fr.1]; exact w2, fr.at0 (n0 f (by omega) (by omega)) w3, w4.fr fr (n0 _ (by omega) (by omega)) hrr, fr.at0 (n0 _ (by omega) (by omega)) w5, w6.fr fr (n0 _ (by omega) (by omega)) hrp, fr.at0 (n0 _ (by omega) (by omega)) w7, fr.at0 (n0 _ (by omega) (by omega)) w8, fun k hk => ?_, ?_, ?_, ?_, w13⟩, he, hQ, FQ.tr wf wF (FQ.of fr (fun x hx => ?_)), wf⟩
  · rcases hra k hk with z | z
    · exact (w9 k hk).fr fr z
    · exact z
  · rcases hsp with z | z
    · rw [z.2]; exact fr.at0 z.1 w10
    · exact z
  · rcases h13 with z | z
    · exact ⟨gg, fr.at0 z w11⟩
    · exact z
  · rcases h14 with z | z
    · exact ⟨gv, fr.at0 z w12⟩
    · exact z
  · rcases hL x hx with z | z | z | z
    · exact Or.inl (by omega)
    · exact Or.inr (Or.inl z)
    · exact Or.inr (Or.inr (Or.inl z))
    · exact Or.inr (Or.inr (Or.inr z))
theorem six {P : Nat → Prop} (h6 : P 6) (h8 : P 8) (h10 : P 10) (h15 : P 15) (h17 : P 17) (h19 : P 19) : ∀ k : Nat, k = 6 ∨ k = 8 ∨ k = 10 ∨ k = 15 ∨ k = 17 ∨ k = 19 → P k := fun k hk => by
  rcases hk with z | z | z | z | z | z <;> subst z <;> assumption
theorem FW.lr {hp : prm p} {B f : Nat} {h0 : GH} {gr0 gp0 : Int → Option Nat} {h : GH} {gr gp : Int → Option Nat} {gt gq gR : Int → Int} {n pn rn tg le sz e : Int} {Q : Int → Px p} (w : FW hp B f h0 gr0 gp0 h gr gp gt gq gR n pn rn tg le sz e Q) {t : Int} {r : Nat} (hr : gr t = some r) : f + 21 ≤ r := (w.1.2.2.2.1.2.1 t r hr).1
theorem FW.lp {hp : prm p} {B f : Nat} {h0 : GH} {gr0 gp0 : Int → Option Nat} {h : GH} {gr gp : Int → Option Nat} {gt gq gR : Int → Int} {n pn rn tg le sz e : Int} {Q : Int → Px p} (w : FW hp B f h0 gr0 gp0 h gr gp gt gq gR n pn rn tg le sz e Q) {t : Int} {r : Nat} (hr : gp t = some r) : f + 21 ≤ r := (w.1.2.2.2.2.2.1.2.1 t r hr).1
/-- its own rows have changed -/
theorem FW.pr {hp : prm p} {B f : Nat} {h0 : GH} {gr0 gp0 : Int → Option Nat} {h h1 : GH} {gr gp : Int → Option Nat} {gt gq gR : Int → Int} {n pn rn tg le sz e sz1 : Int} {Q : Int → Px p} {L : List Nat} (w : FW hp B f h0 gr0 gp0 h gr gp gt gq gR n pn rn tg le sz e Q) (fr : Fr L h h1) (hL : ∀ x ∈ L, (f + 6 ≤ x ∧ x + 2 ≤ f + 21) ∨ (B + 8 ≤ x ∧ x + 2 ≤ B + 24))
    (hra : ∀ k : Nat, k = 6 ∨ k = 8 ∨ k = 10 ∨ k = 15 ∨ k = 17 ∨ k = 19 → Ai (f + k) L ∨ RA 84 h1 (f + k)) (hsp : (Ni (f + 12) L ∧ sz1 = sz) ∨ h1.2 (f + 12) = some (spO B f sz1)) (h13 : Ni (f + 13) L ∨ ∃ gg, h1.2 (f + 13) = some (aJ 1600 gg)) (h14 : Ni (f + 14) L ∨ ∃ gv, h1.2 (f + 14) = some (aI 40 gv)) : FW hp B f h0 gr0 gp0 h1 gr gp gt gq gR n pn rn tg le sz1 e Q := by
  have hf := w.1.1
  have ai : ∀ r, f + 21 ≤ r → Ai r L := fun r hr x hx => by
    have := hL x hx
    unfold AP; omega
  refine FW.gen w fr (fun x hx => ?_) hra hsp h13 h14 (fun t r hr => Or.inl (ai r (w.lr hr))) (fun t r hr => Or.inl (ai r (w.lp hr))) w.2.1 (fun i i0 i1 => ?_)
  · rcases hL x hx with z | z
    · exact Or.inl z
    · exact Or.inr (Or.inl z)
  · obtain ⟨r, hr, hR⟩ := w.2.2.1 i i0 i1
    exact ⟨r, hr, hR.fr fr (ai r (w.lr hr))⟩
/-- rows k and o of the list have changed, and own ones -/
theorem FW.r2 {hp : prm p} {B f r o : Nat} {h0 : GH} {gr0 gp0 : Int → Option Nat} {h h1 : GH} {gr gp : Int → Option Nat} {gt gq gR : Int → Int} {n pn rn tg le sz e e1 k l : Int} {Q Q1 : Int → Px p} {L : List Nat} (w : FW hp B f h0 gr0 gp0 h gr gp gt gq gR n pn rn tg le sz e Q) (hk : gr k = some r) (hl : gr l = some o) (fr : Fr ((f + 19) :: r :: o :: pl B) h h1) (h19 : RA 84 h1 (f + 19)) (hr1 : RA 84 h1 r) (ho1 : RA 84 h1 o) (he : 0 ≤ e1 ∧ e1 ≤ 40) (hQ : ∀ i : Int, 0 ≤ i → i < e1 → (i ≠ k ∧ i ≠ l ∧ i < e ∧ Q1 i = Q i) ∨ ∃ r, gr i = some r ∧ RP hp 84 h1 r (Q1 i)) : FW hp B f h0 gr0 gp0 h1 gr gp gt gq gR n pn rn tg le sz e1 Q1 := by
  have hf := w.1.1
  have lr := w.lr hk
  have lo := w.lr hl
  have ai : ∀ x, (B + 24 ≤ x) → AP x (f + 19) → AP x r → AP x o → Ai x ((f + 19) :: r :: o :: pl B) := fun x hx a b c => Ai.c a (Ai.c b (Ai.c c (Ai_pl (by omega))))
  have ni : ∀ x, f ≤ x → x < f + 19 → Ni x ((f + 19) :: r :: o :: pl B) := fun x hx hy => Ni.c ⟨by unfold NE; omega, by unfold NE; omega⟩ (Ni.c ⟨by unfold NE; omega, by unfold NE; omega⟩ (Ni.c ⟨by unfold NE; omega, by unfold NE; omega⟩ (Ni_pl (by omega))))
  have own : ∀ k : Nat, f + 6 ≤ k → k + 2 ≤ f + 19 → Ai k ((f + 19) :: r :: o :: pl B) := fun k h6 h7 => ai k (by omega) (by unfold AP; omega) (by unfold AP; omega) (by unfold AP; omega)
  have hrr : ∀ (t : Int) (u : Nat), gr t = some u → t ≠ k → t ≠ l → Ai u ((f + 19) :: r :: o :: pl B) := fun t u hu h1 h2 => by
    have := w.lr hu
    exact ai u (by omega) (by unfold AP; omega) (w.1.2.2.2.1.2.2 t k u r h1 hu hk) (w.1.2.2.2.1.2.2 t l u o h2 hu hl)
  refine FW.gen w fr (fun x hx => ?_) (six (Or.inl (own _ (by omega) (by omega))) (Or.inl (own _ (by omega) (by omega))) (Or.inl (own _ (by omega) (by omega))) (Or.inl (own _ (by omega) (by omega))) (Or.inl (own _ (by omega) (by omega))) (Or.inr h19)) (Or.inl ⟨ni _ (by omega) (by omega), rfl⟩) (Or.inl (ni _ (by omega) (by omega))) (Or.inl (ni _ (by omega) (by omega))) (fun t u hu => ?_) (fun t u hu => ?_) he (fun i i0 i1 => ?_)
  · rcases List.mem_cons.mp hx with z | hx
    · exact Or.inl (by omega)
    · rcases List.mem_cons.mp hx with z | hx
      · exact Or.inr (Or.inr (Or.inl ⟨k, by rw [z]; exact hk⟩))
      · rcases List.mem_cons.mp hx with z | hx
        · exact Or.inr (Or.inr (Or.inl ⟨l, by rw [z]; exact hl⟩))
        · have := pl_in hx
          exact Or.inr (Or.inl (by omega))
  · by_cases z : t = k
    · rw [z, hk] at hu
      have := Option.some.inj hu
      subst this
      exact Or.inr hr1
    · by_cases y : t = l
      · rw [y, hl] at hu
        have := Option.some.inj hu
        subst this
        exact Or.inr ho1
      · exact Or.inl (hrr t u hu z y)
  · have := w.lp hu
    exact Or.inl (ai u (by omega) (by unfold AP; omega) ((w.1.2.2.2.2.2.2.2.2.2.2.2.2 k t r u hk hu).s) ((w.1.2.2.2.2.2.2.2.2.2.2.2.2 l t o u hl hu).s))
  · rcases hQ i i0 i1 with ⟨a, b, c, d⟩ | z
    · obtain ⟨u, hu, hR⟩ := w.2.2.1 i i0 c
      exact ⟨u, hu, by rw [d]; exact hR.fr fr (hrr i u hu a b)⟩
    · exact z
/-- a row of the list, made where it is wanted -/
theorem sW_in (N : GN) (h : GH) (hp : prm p) (B f : Nat) (h0 : GH) (gr0 gp0 gr gp : Int → Option Nat) (gt gq gR : Int → Int) (n pn rn tg le sz e : Int) (Q : Int → Px p) (i : Int) (hi : e ≤ i ∧ i < 40) (wfh : ∀ (a : Nat) (e : GE), h.2 a = some e → a < h.1) (w : FW hp B f h0 gr0 gp0 h gr gp gt gq gR n pn rn tg le sz e Q) : Sp N yX5_in mX5_in 2 86 [.ref (f + 1), .int (gI (i))] h (fun v h1 => ∃ r gr1, v = some (.ref r) ∧ gr1 i = some r ∧ f + 21 ≤ r ∧ RA 84 h1 r ∧ (∀ j, j ≠ i → gr1 j = gr j) ∧ FK (fun x _ => x ≠ f + 1) h h1 ∧ FW hp B f h0 gr0 gp0 h1 gr1 gp gt gq gR n pn rn tg le sz e Q) := by
  have w' := w
  obtain ⟨⟨w1, w2, w3, w4, w5, w6, w7, w8, w9, w10, ⟨gg, w11⟩, ⟨gv, w12⟩, w13⟩, we, wQ, wF, wf⟩ := w'
  refine Sp.imp (sL_in N h (f + 1) 40 (f + 21) gr i ⟨by omega, by omega⟩ (by omega) w2 w4) ?_
  rintro v h1 ⟨r, g2, hv, hg2, hj, hc, hl, fk⟩
  have k1 : ∀ (x : Nat) (e : GE), x ≠ f + 1 → h.2 x = some e → h1.2 x = some e := fun x e hx he => fk.2 x e he hx
  have hlr := (hl.2.1 i r hg2).1
  refine ⟨r, g2, hv, hg2, hlr, (hl.2.1 i r hg2).2, hj, fk, ⟨w1, Nat.le_trans w2 fk.1, k1 _ _ (by omega) w3, hl, k1 _ _ (by omega) w5, w6.of1 (fun e he => k1 _ _ (by omega) he) (fun t u x e hu hx he => k1 x e (by have := (w6.2.1 t u hu).1; omega) he), k1 _ _ (by omega) w7, k1 _ _ (by omega) w8, fun k hk => (w9 k hk).of1 (fun x e hx he => k1 x e (by omega) he), k1 _ _ (by omega) w10, ⟨gg, k1 _ _ (by omega) w11⟩, ⟨gv, k1 _ _ (by omega) w12⟩, fun a b u t hu ht => ?_⟩, we, fun a a0 a1 => ?_, FQ.tr wf wF ⟨fk.1, fun x e hx hn hb => k1 x e (fun z => hn (Or.inl (by omega))) hx, fun x hx => ?_⟩, wf⟩
  · by_cases z : a = i
    · rw [z, hg2] at hu
      have := Option.some.inj hu
      subst this
      rcases hc with ⟨c1, c2, c3⟩ | ⟨c1, c2, c3⟩
      · exact w13 i b r t c1 ht
      · have h8 := (w6.2.1 b t ht).2.lt2 wfh
        rw [c2]
        unfold AP; omega
    · rw [hj a z] at hu
      exact w13 a b u t hu ht
  · obtain ⟨u, hu, hR⟩ := wQ a a0 a1
    have := (w4.2.1 a u hu).1
    exact ⟨u, by rw [hj a (by omega)]; exact hu, hR.of1 (fun x e hx he => k1 x e (by omega) he)⟩
  · rcases hx with z | ⟨t, u, hu, hx⟩
    · exact Or.inl (Or.inl z)
    · rcases hu with hu | hu
      · by_cases z : t = i
        · rw [z, hg2] at hu
          have := Option.some.inj hu
          subst this
          rcases hc with ⟨c1, c2, c3⟩ | ⟨c1, c2, c3⟩
          · exact Or.inl (Or.inr ⟨i, r, Or.inl c1, hx⟩)
          · refine Or.inr ?_
            rw [c2] at hx
            omega
        · rw [hj t z] at hu
          exact Or.inl (Or.inr ⟨t, u, Or.inl hu, hx⟩)
      · exact Or.inl (Or.inr ⟨t, u, Or.inr hu, hx⟩)
end
section
variable {p : Nat}
/-- a new row behind the list's end -/
theorem FW.put {hp : prm p} {B f r : Nat} {h0 : GH} {gr0 gp0 : Int → Option Nat} {h h1 : GH} {gr gp : Int → Option Nat} {gt gq gR : Int → Int} {n pn rn tg le sz e : Int} {Q : Int → Px p} {q : Px p} (w : FW hp B f h0 gr0 gp0 h gr gp gt gq gR n pn rn tg le sz e Q) (hk : gr e = some r) (he : e < 40) (fr : Fr [r] h h1) (hr1 : RP hp 84 h1 r q) : FW hp B f h0 gr0 gp0 h1 gr gp gt gq gR n pn rn tg le sz (e + 1) (fun t => if t = e then q else Q t) := by
  have hf := w.1.1
  have lr := w.lr hk
  have own : ∀ k : Nat, f + 6 ≤ k → k + 2 ≤ f + 21 → Ai k [r] := fun k h6 h7 => Ai.c (by unfold AP; omega) (Ai.n _)
  have ni : ∀ x, f ≤ x → x < f + 21 → Ni x [r] := fun x hx hy => Ni.c ⟨by unfold NE; omega, by unfold NE; omega⟩ (Ni.n _)
  have he0 := w.2.1
  refine FW.gen w fr (fun x hx => ?_) (fun k hk => Or.inl (own _ (by omega) (by omega))) (Or.inl ⟨ni _ (by omega) (by omega), rfl⟩) (Or.inl (ni _ (by omega) (by omega))) (Or.inl (ni _ (by omega) (by omega))) (fun t u hu => ?_) (fun t u hu => Or.inl (Ai.c (w.1.2.2.2.2.2.2.2.2.2.2.2.2 e t r u hk hu).s (Ai.n _))) (by omega) (fun i i0 i1 => ?_)
  · rcases List.mem_cons.mp hx with z | hx
    · exact Or.inr (Or.inr (Or.inl ⟨e, by rw [z]; exact hk⟩))
    · exact absurd hx (List.not_mem_nil)
  · by_cases z : t = e
    · rw [z, hk] at hu
      have := Option.some.inj hu
      subst this
      exact Or.inr hr1.ra
    · exact Or.inl (Ai.c (w.1.2.2.2.1.2.2 t e u r z hu hk) (Ai.n _))
  · by_cases z : i = e
    · rw [if_pos z]; exact ⟨r, by rw [z]; exact hk, hr1⟩
    · rw [if_neg z]
      obtain ⟨u, hu, hR⟩ := w.2.2.1 i i0 (by omega)
      exact ⟨u, hu, hR.fr fr (Ai.c (w.1.2.2.2.1.2.2 i e u r z hu hk) (Ai.n _))⟩
theorem FW.ra {hp : prm p} {B f : Nat} {h0 : GH} {gr0 gp0 : Int → Option Nat} {h : GH} {gr gp : Int → Option Nat} {gt gq gR : Int → Int} {n pn rn tg le sz e : Int} {Q : Int → Px p} (w : FW hp B f h0 gr0 gp0 h gr gp gt gq gR n pn rn tg le sz e Q) : ∀ k : Nat, k = 6 ∨ k = 8 ∨ k = 10 ∨ k = 15 ∨ k = 17 ∨ k = 19 → RA 84 h (f + k) := w.1.2.2.2.2.2.2.2.2.1
theorem FW.sp {hp : prm p} {B f : Nat} {h0 : GH} {gr0 gp0 : Int → Option Nat} {h : GH} {gr gp : Int → Option Nat} {gt gq gR : Int → Int} {n pn rn tg le sz e : Int} {Q : Int → Px p} (w : FW hp B f h0 gr0 gp0 h gr gp gt gq gR n pn rn tg le sz e Q) : h.2 (f + 12) = some (spO B f sz) := w.1.2.2.2.2.2.2.2.2.2.1
theorem FW.ob {hp : prm p} {B f : Nat} {h0 : GH} {gr0 gp0 : Int → Option Nat} {h : GH} {gr gp : Int → Option Nat} {gt gq gR : Int → Int} {n pn rn tg le sz e : Int} {Q : Int → Px p} (w : FW hp B f h0 gr0 gp0 h gr gp gt gq gR n pn rn tg le sz e Q) : h.2 f = some (fO B f n pn rn tg le) := w.1.2.2.1
theorem FW.ls {hp : prm p} {B f : Nat} {h0 : GH} {gr0 gp0 : Int → Option Nat} {h : GH} {gr gp : Int → Option Nat} {gt gq gR : Int → Int} {n pn rn tg le sz e : Int} {Q : Int → Px p} (w : FW hp B f h0 gr0 gp0 h gr gp gt gq gR n pn rn tg le sz e Q) : h.2 (f + 1) = some (aR "PolyWork$Row" 40 gr) := w.1.2.2.2.1.1
/-- rest, work and single stay as they are -/
def KP (f : Nat) (h h1 : GH) : Prop := ∀ (x : Nat) (e : GE), f + 6 ≤ x → x < f + 12 → h.2 x = some e → h1.2 x = some e
theorem KP.rf (f : Nat) (h : GH) : KP f h h := fun _ _ _ _ a => a
theorem KP.fr {f : Nat} {h h1 h2 : GH} {L : List Nat} (w : KP f h h1) (fr : Fr L h1 h2) (hL : ∀ x ∈ L, x + 2 ≤ f + 6 ∨ f + 12 ≤ x) : KP f h h2 := fun x e x0 x1 he => fr.at0 (fun y hy => by have := hL y hy; constructor <;> (unfold NE; omega)) (w x e x0 x1 he)
theorem KP.fk {f : Nat} {h h1 h2 : GH} (w : KP f h h1) (fk : FK (fun x _ => x ≠ f + 1) h1 h2) : KP f h h2 := fun x e x0 x1 he => fk.2 x e (w x e x0 x1 he) (by omega)
theorem kp_n {f : Nat} : ∀ x ∈ ([] : List Nat), x + 2 ≤ f + 6 ∨ f + 12 ≤ x := fun _ h => absurd h (List.not_mem_nil)
theorem kp_c {f a : Nat} {L : List Nat} (h : a + 2 ≤ f + 6 ∨ f + 12 ≤ a) (t : ∀ x ∈ L, x + 2 ≤ f + 6 ∨ f + 12 ≤ x) : ∀ x ∈ a :: L, x + 2 ≤ f + 6 ∨ f + 12 ≤ x := fun x hx => by
  rcases List.mem_cons.mp hx with z | z
  · rw [z]; exact h
  · exact t x z
theorem kp_pl {f B : Nat} (h : B + 58 ≤ f) : ∀ x ∈ pl B, x + 2 ≤ f + 6 ∨ f + 12 ≤ x := fun x hx => by
  have := pl_in hx
  omega
theorem fw_n {B f : Nat} : ∀ x ∈ ([] : List Nat), (f + 6 ≤ x ∧ x + 2 ≤ f + 21) ∨ (B + 8 ≤ x ∧ x + 2 ≤ B + 24) := fun _ h => absurd h (List.not_mem_nil)
theorem fw_c {B f a : Nat} {L : List Nat} (h : (f + 6 ≤ a ∧ a + 2 ≤ f + 21) ∨ (B + 8 ≤ a ∧ a + 2 ≤ B + 24)) (t : ∀ x ∈ L, (f + 6 ≤ x ∧ x + 2 ≤ f + 21) ∨ (B + 8 ≤ x ∧ x + 2 ≤ B + 24)) : ∀ x ∈ a :: L, (f + 6 ≤ x ∧ x + 2 ≤ f + 21) ∨ (B + 8 ≤ x ∧ x + 2 ≤ B + 24) := fun x hx => by
  rcases List.mem_cons.mp hx with z | z
  · rw [z]; exact h
  · exact t x z
theorem fw_pl {B f : Nat} : ∀ x ∈ pl B, (f + 6 ≤ x ∧ x + 2 ≤ f + 21) ∨ (B + 8 ≤ x ∧ x + 2 ≤ B + 24) := fun x hx => by
  have := pl_in hx
  omega
theorem PW.fk1 {B f : Nat} {h h1 : GH} (w : PW p B h) (hf : B + 58 ≤ f) (fk : FK (fun x _ => x ≠ f + 1) h h1) : PW p B h1 := ⟨fk.2 _ _ w.1 (by omega), fk.2 _ _ w.2.1 (by omega), fun x hx => (w.2.2 x hx).of1 (fun y e hy he => fk.2 y e he (by have := pl_in hx; omega))⟩
end
