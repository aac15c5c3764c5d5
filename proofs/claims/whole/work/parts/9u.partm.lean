/-! square-free parts: mathematics and world -/
section
variable {p : Nat}
/-- the product of the rows before j that divide k times -/
noncomputable def pQ (h : prm p) (Q : Int → Px p) (t : Int → Int) (k : Int) : Nat → Px p
  | 0 => cz h (zi h 1)
  | j + 1 => if t j = k then pml h (pQ h Q t k j) (Q j) else pQ h Q t k j
theorem pQ_fQ (h : prm p) {f : Px p} {n : Int} {Q : Int → Px p} {t : Int → Int} (k : Int) (e : ∀ i : Int, 0 ≤ i → i < n → fP h f i = Q i ∧ fE h f i = t i) : ∀ j : Nat, (j : Int) ≤ n → fQ h f k j = pQ h Q t k j
  | 0, _ => rfl
  | j + 1, hj => by
    show (if fE h f j = k then pml h (fQ h f k j) (fP h f j) else fQ h f k j) = (if t j = k then pml h (pQ h Q t k j) (Q j) else pQ h Q t k j)
    rw [(e j (by omega) (by omega)).1, (e j (by omega) (by omega)).2, pQ_fQ h k e j (by omega)]
theorem pQ_ok (h : prm p) {f : Px p} {n : Int} {d : Nat} {Q : Int → Px p} {t : Int → Int} (hf : dg (fR h) f d) (w : fcl h f n Q t) (k : Int) : ∀ j : Nat, (j : Int) ≤ n → po (fR h) (pQ h Q t k j) ∧ 0 ≤ dgi h (pQ h Q t k j) ∧ dv (fR h) (pQ h Q t k j) f ∧ (∀ i : Int, j ≤ i → i < n → mlt h (Q i) (pQ h Q t k j) = 0) ∧ (0 < dgi h (pQ h Q t k j) ↔ ∃ i : Int, 0 ≤ i ∧ i < j ∧ t i = k)
  | 0, _ => by
    letI := pR h
    have e : pQ h Q t k 0 = 1 := cz_z1 h
    rw [e, dgi_1 h]
    refine ⟨one_po (fR h), by omega, ⟨f, ⟨_, hf.2⟩, ?_⟩, fun i i0 i1 => ml_1 h (w.1 i i0 i1).1.1, ⟨fun z => by omega, fun ⟨i, a, b, c⟩ => by omega⟩⟩
    show f = f * 1
    grind
  | j + 1, hj => by
    obtain ⟨a1, a2, a3, a4, a5⟩ := pQ_ok h hf w k j (by omega)
    by_cases z : t j = k
    · have e : pQ h Q t k (j + 1) = zmul (fR h) (pQ h Q t k j) (Q j) := if_pos z
      rw [e]
      obtain ⟨⟨b1, b2, b3⟩, b4, b5⟩ := w.1 j (by omega) (by omega)
      obtain ⟨m, m1, m2⟩ := b1.2.1
      have hP := dgi_dg h a1 a2
      have hd := mul_dg (fld_p h) hP m2
      have hdd : dgi h (zmul (fR h) (pQ h Q t k j) (Q j)) = dgi h (pQ h Q t k j) + m := by
        rw [dgi_of h hd]; omega
      refine ⟨mul_po a1 b1.1, by omega, ?_, fun i i0 i1 => ?_, ⟨fun _ => ⟨j, by omega, by omega, z⟩, fun _ => by omega⟩⟩
      · obtain ⟨K, hK, eK⟩ := a3
        have eK2 : f = zmul (fR h) (pQ h Q t k j) K := by rw [eK]; exact zmul_comm _ _ _
        have hKd : ∃ c, dg (fR h) K c := by
          rcases po_dg hK with y | y
          · exfalso
            letI := pR h
            have e9 : f = K * pQ h Q t k j := eK
            rw [y] at e9
            exact dg_ne hf (e9.trans (by grind))
          · exact y
        obtain ⟨c, hc⟩ := hKd
        have h1 := (ml_dv h b1 hf).mp b3
        rw [eK2, ml_mul h b1 hP hc, a4 j (by omega) (by omega), Nat.zero_add] at h1
        obtain ⟨u, hu, eu⟩ := (ml_dv h b1 hc).mpr h1
        refine ⟨u, hu, ?_⟩
        rw [eK2, eu]
        letI := pR h
        show pQ h Q t k j * (u * Q j) = u * (pQ h Q t k j * Q j)
        generalize pQ h Q t k j = x
        generalize Q j = y
        grind
      · obtain ⟨⟨c1, c2, c3⟩, c4, c5⟩ := w.1 i (by omega) i1
        rw [ml_mul h c1 hP m2, a4 i (by omega) i1, ml_ne h c1 b1 c2 b2 (fun e9 => w.2.1 j i (by omega) (by omega) i1 e9.symm)]
    · have e : pQ h Q t k (j + 1) = pQ h Q t k j := if_neg z
      rw [e]
      refine ⟨a1, a2, a3, fun i i0 i1 => a4 i (by omega) i1, a5.trans ⟨fun ⟨i, x, y, u⟩ => ⟨i, x, by omega, u⟩, fun ⟨i, x, y, u⟩ => ⟨i, x, ?_, u⟩⟩⟩
      rcases Int.lt_or_le i j with v | v
      · exact v
      · exact absurd (show t j = k by rw [← u, show i = (j : Int) by omega]) z
theorem pQ_le (h : prm p) {f : Px p} {n : Int} {Q : Int → Px p} {t : Int → Int} (hf : po (fR h) f) (h0 : 0 ≤ dgi h f) (w : fcl h f n Q t) (k : Int) (j : Nat) (hj : (j : Int) ≤ n) : dgi h (pQ h Q t k j) ≤ dgi h f := by
  obtain ⟨a1, a2, a3, a4, a5⟩ := pQ_ok h (dgi_dg h hf h0) w k j hj
  have := dv_deg (fld_p h) (dgi_dg h a1 a2) (dgi_dg h hf h0) a3
  omega
theorem fcl_le (h : prm p) {f : Px p} {n : Int} {Q : Int → Px p} {t : Int → Int} (hf : po (fR h) f) (h0 : 0 ≤ dgi h f) (w : fcl h f n Q t) {i : Int} (i0 : 0 ≤ i) (i1 : i < n) : po (fR h) (Q i) ∧ 1 ≤ dgi h (Q i) ∧ dgi h (Q i) ≤ dgi h f ∧ t i ≤ dgi h f := by
  obtain ⟨⟨b1, b2, b3⟩, b4, b5⟩ := w.1 i i0 i1
  obtain ⟨m, m1, m2⟩ := b1.2.1
  have hF := dgi_dg h hf h0
  have h1 := dv_deg (fld_p h) m2 hF b3
  have h2 := ml_deg h b1 m2 hF
  have h3 : 1 * mlt h (Q i) f ≤ m * mlt h (Q i) f := Nat.mul_le_mul_right _ m1
  rw [dgi_of h m2]
  exact ⟨b1.1, by omega, by omega, by omega⟩
/-- those below o -/
def sB (t : Int → Int) (o : Int) : Nat → Int
  | 0 => 0
  | n + 1 => sB t o n + (if t n < o then t n else 0)
theorem sB_mono {t : Int → Int} (o : Int) : ∀ n : Nat, (∀ i : Int, 0 ≤ i → i < n → 0 ≤ t i) → 0 ≤ sB t o n ∧ sB t o n ≤ sB t (o + 1) n ∧ sB t o n ≤ sI t n
  | 0, _ => ⟨Int.le_refl _, Int.le_refl _, Int.le_refl _⟩
  | n + 1, h => by
    have h1 := sB_mono o n (fun i i0 i1 => h i i0 (by omega))
    have h2 := h n (by omega) (by omega)
    show 0 ≤ sB t o n + (if t n < o then t n else 0) ∧ sB t o n + (if t n < o then t n else 0) ≤ sB t (o + 1) n + (if t n < o + 1 then t n else 0) ∧ sB t o n + (if t n < o then t n else 0) ≤ sI t n + t n
    split <;> split <;> omega
theorem sB_step {t : Int → Int} (o : Int) (ho : 0 ≤ o) : ∀ n : Nat, (∀ i : Int, 0 ≤ i → i < n → 0 ≤ t i) → (∃ i : Int, 0 ≤ i ∧ i < n ∧ t i = o) → sB t o n + o ≤ sB t (o + 1) n
  | 0, _, ⟨i, a, b, _⟩ => by omega
  | n + 1, h, ⟨i, a, b, c⟩ => by
    have h1 := sB_mono o n (fun i i0 i1 => h i i0 (by omega))
    have h2 := h n (by omega) (by omega)
    show sB t o n + (if t n < o then t n else 0) + o ≤ sB t (o + 1) n + (if t n < o + 1 then t n else 0)
    by_cases z : i = n
    · rw [z] at c
      rw [if_neg (by omega), if_pos (by omega)]; omega
    · have h3 := sB_step o ho n (fun i i0 i1 => h i i0 (by omega)) ⟨i, a, by omega, c⟩
      split <;> split <;> omega
theorem sB_top {t : Int → Int} (o : Int) (ho : 0 ≤ o) : ∀ n : Nat, (∀ i : Int, 0 ≤ i → i < n → 0 ≤ t i) → (∃ i : Int, 0 ≤ i ∧ i < n ∧ o ≤ t i) → sB t o n + o ≤ sI t n
  | 0, _, ⟨i, a, b, _⟩ => by omega
  | n + 1, h, ⟨i, a, b, c⟩ => by
    have h1 := sB_mono o n (fun i i0 i1 => h i i0 (by omega))
    have h2 := h n (by omega) (by omega)
    show sB t o n + (if t n < o then t n else 0) + o ≤ sI t n + t n
    by_cases z : i = n
    · rw [z] at c
      rw [if_neg (by omega)]; omega
    · have h3 := sB_top o ho n (fun i i0 i1 => h i i0 (by omega)) ⟨i, a, by omega, c⟩
      split <;> omega
/-- the parts found: the multiplicities before o -/
def ptI (t : Int → Int) (n o c : Int) (K : Int → Int) : Prop := (0 ≤ c ∧ c < o) ∧ (∀ i : Int, 0 ≤ i → i < c → 1 ≤ K i ∧ K i < o ∧ ∃ j : Int, 0 ≤ j ∧ j < n ∧ t j = K i) ∧ (∀ i : Int, 0 ≤ i → i + 1 < c → K i < K (i + 1)) ∧ (∀ j : Int, 0 ≤ j → j < n → t j < o → ∃ i : Int, 0 ≤ i ∧ i < c ∧ K i = t j) ∧ c * (c + 1) ≤ 2 * sB t o n.toNat
theorem ptI_0 (t : Int → Int) (n : Int) (K : Int → Int) (ht : ∀ i : Int, 0 ≤ i → i < n → 1 ≤ t i) : ptI t n 1 0 K := ⟨by omega, fun i i0 i1 => by omega, fun i i0 i1 => by omega, fun j j0 j1 j2 => by have := ht j j0 j1; omega, by
  have := (sB_mono 1 n.toNat (fun i i0 i1 => by have := ht i i0 (by omega); omega) : 0 ≤ sB t 1 n.toNat ∧ _).1
  omega⟩
theorem ptI_n {t : Int → Int} {n o c : Int} {K : Int → Int} (ht : ∀ i : Int, 0 ≤ i → i < n → 1 ≤ t i) (w : ptI t n o c K) (hn : ¬ ∃ i : Int, 0 ≤ i ∧ i < n ∧ t i = o) : ptI t n (o + 1) c K := by
  obtain ⟨w1, w2, w3, w4, w5⟩ := w
  have h1 := sB_mono (t := t) o n.toNat (fun i i0 i1 => by have := ht i i0 (by omega); omega)
  refine ⟨by omega, fun i i0 i1 => ⟨(w2 i i0 i1).1, by have := (w2 i i0 i1).2.1; omega, (w2 i i0 i1).2.2⟩, w3, fun j j0 j1 j2 => w4 j j0 j1 ?_, by omega⟩
  rcases Int.lt_or_le (t j) o with z | z
  · exact z
  · exact absurd ⟨j, j0, j1, by omega⟩ hn
theorem ptI_s {t : Int → Int} {n o c : Int} {K : Int → Int} (ht : ∀ i : Int, 0 ≤ i → i < n → 1 ≤ t i) (ho : 1 ≤ o) (w : ptI t n o c K) (hn : ∃ i : Int, 0 ≤ i ∧ i < n ∧ t i = o) : ptI t n (o + 1) (c + 1) (gup K c o) := by
  obtain ⟨w1, w2, w3, w4, w5⟩ := w
  have h1 := sB_step (t := t) o (by omega) n.toNat (fun i i0 i1 => by have := ht i i0 (by omega); omega) (by
    obtain ⟨i, a, b, e⟩ := hn
    exact ⟨i, a, by omega, e⟩)
  have e1 : (c + 1) * (c + 1 + 1) = c * (c + 1) + 2 * (c + 1) := by grind
  refine ⟨by omega, fun i i0 i1 => ?_, fun i i0 i1 => ?_, fun j j0 j1 j2 => ?_, by rw [e1]; omega⟩
  · unfold gup
    by_cases z : i = c
    · rw [if_pos z]; exact ⟨ho, by omega, hn⟩
    · rw [if_neg z]
      exact ⟨(w2 i i0 (by omega)).1, by have := (w2 i i0 (by omega)).2.1; omega, (w2 i i0 (by omega)).2.2⟩
  · unfold gup
    by_cases z : i + 1 = c
    · rw [if_neg (by omega), if_pos z]; exact (w2 i i0 (by omega)).2.1
    · rw [if_neg (by omega), if_neg z]; exact w3 i i0 (by omega)
  · rcases Int.lt_or_le (t j) o with z | z
    · obtain ⟨i, a, b, e⟩ := w4 j j0 j1 z
      exact ⟨i, a, by omega, by unfold gup; rw [if_neg (by omega)]; exact e⟩
    · exact ⟨c, by omega, by omega, by unfold gup; rw [if_pos rfl]; omega⟩
/-- all of them -/
theorem ptI_e {t : Int → Int} {n o c tg : Int} {K : Int → Int} (ht : ∀ i : Int, 0 ≤ i → i < n → 1 ≤ t i) (h40 : ∀ i : Int, 0 ≤ i → i < n → t i ≤ 40) (hs : sI t n.toNat ≤ 40) (w : ptI t n o c K) (hx : 40 < o ∨ 8 ≤ c) : (∀ j : Int, 0 ≤ j → j < n → t j < o) ∧ c ≤ 8 := by
  obtain ⟨w1, w2, w3, w4, w5⟩ := w
  have hm := sB_mono (t := t) o n.toNat (fun i i0 i1 => by have := ht i i0 (by omega); omega)
  have hc8 : c ≤ 8 := by
    rcases Int.lt_or_le 8 c with z | z
    · exfalso
      have : 9 * (8 + 2) ≤ c * (c + 1) := Int.mul_le_mul (by omega) (by omega) (by omega) (by omega)
      omega
    · exact z
  refine ⟨fun j j0 j1 => ?_, hc8⟩
  rcases hx with z | z
  · have := h40 j j0 j1; omega
  · rcases Int.lt_or_le (t j) o with y | y
    · exact y
    · exfalso
      have h2 := sB_top (t := t) o (by omega) n.toNat (fun i i0 i1 => by have := ht i i0 (by omega); omega) ⟨j, j0, by omega, y⟩
      have e : c = 8 := by omega
      rw [e] at w5
      omega
/-- they are the document's -/
theorem ptI_k (h : prm p) {f : Px p} {t : Int → Int} {n o c : Int} {K : Int → Int} (hn : (fN h f : Int) = n) (e : ∀ i : Int, 0 ≤ i → i < n → fE h f i = t i) (w : ptI t n o c K) (hall : ∀ j : Int, 0 ≤ j → j < n → t j < o) : (kN h f : Int) = c ∧ ∀ i : Int, 0 ≤ i → i < c → kK h f i = K i := by
  obtain ⟨w1, w2, w3, w4, w5⟩ := w
  have so : isSo (fun a b : Int => a < b) (isKf h f) c.toNat (fun i => K i) := ⟨fun i hi => by
      obtain ⟨a, b, j, j0, j1, ej⟩ := w2 i (by omega) (by omega)
      exact ⟨j.toNat, by omega, by rw [show ((j.toNat : Nat) : Int) = j by omega, e j j0 j1]; exact ej⟩, fun x hx => by
      obtain ⟨j, j1, ej⟩ := hx
      rw [e j (by omega) (by omega)] at ej
      obtain ⟨i, i0, i1, ei⟩ := w4 j (by omega) (by omega) (hall j (by omega) (by omega))
      exact ⟨i.toNat, by omega, by dsimp only; rw [show ((i.toNat : Nat) : Int) = i by omega, ei]; exact ej⟩, fun i hi => by
      have := w3 i (by omega) (by omega)
      dsimp only
      rw [show ((i + 1 : Nat) : Int) = (i : Int) + 1 by omega]; exact this⟩
  have u := soX_un (x := (0 : Int)) (fun a => Int.lt_irrefl a) (fun a b c => Int.lt_trans) so
  have e1 : kN h f = c.toNat := u.1.symm
  refine ⟨by rw [e1]; omega, fun i i0 i1 => ?_⟩
  have := u.2 i.toNat (by omega)
  rw [show ((i.toNat : Nat) : Int) = i by omega] at this
  exact this.symm
/-- the parts' rows -/
def GPc (hp : prm p) (h : GH) (gp : Int → Option Nat) (c : Int) (P : Int → Px p) : Prop := ∀ i : Int, 0 ≤ i → i < c → ∃ r, gp i = some r ∧ RP hp 84 h r (P i)
theorem FW.gp {hp : prm p} {B f : Nat} {h0 : GH} {gr0 gp0 : Int → Option Nat} {h h1 : GH} {gr gp : Int → Option Nat} {gt gq gR : Int → Int} {n pn rn tg le sz e c : Int} {Q P : Int → Px p} (w : FW hp B f h0 gr0 gp0 h gr gp gt gq gR n pn rn tg le sz e Q) (g : GPc hp h gp c P) (k : ∀ (x : Nat) (e : GE), f + 21 ≤ x → h.2 x = some e → h1.2 x = some e) : GPc hp h1 gp c P := fun i i0 i1 => by
  obtain ⟨r, hr, hR⟩ := g i i0 i1
  have := w.lp hr
  exact ⟨r, hr, hR.of1 (fun x e hx he => k x e (by omega) he)⟩
theorem sW_inP (N : GN) (h : GH) (hp : prm p) (B f : Nat) (h0 : GH) (gr0 gp0 gr gp : Int → Option Nat) (gt gq gR : Int → Int) (n pn rn tg le sz e : Int) (Q : Int → Px p) (i : Int) (hi : 0 ≤ i ∧ i < 8) (wfh : ∀ (a : Nat) (e : GE), h.2 a = some e → a < h.1) (w : FW hp B f h0 gr0 gp0 h gr gp gt gq gR n pn rn tg le sz e Q) : Sp N yX5_in mX5_in 2 86 [.ref (f + 3), .int (gI (i))] h (fun v h1 => ∃ r gp1, v = some (.ref r) ∧ gp1 i = some r ∧ f + 21 ≤ r ∧ RA 84 h1 r ∧ (∀ j, j ≠ i → gp1 j = gp j) ∧ FK (fun x _ => x ≠ f + 3) h h1 ∧ FW hp B f h0 gr0 gp0 h1 gr gp1 gt gq gR n pn rn tg le sz e Q) := by
  have w' := w
  obtain ⟨⟨w1, w2, w3, w4, w5, w6, w7, w8, w9, w10, ⟨gg, w11⟩, ⟨gv, w12⟩, w13⟩, we, wQ, wF, wf⟩ := w'
  refine Sp.imp (sL_in N h (f + 3) 8 (f + 21) gp i ⟨by omega, by omega⟩ (by omega) w2 w6) ?_
  rintro v h1 ⟨r, g2, hv, hg2, hj, hc, hl, fk⟩
  have k1 : ∀ (x : Nat) (e : GE), x ≠ f + 3 → h.2 x = some e → h1.2 x = some e := fun x e hx he => fk.2 x e he hx
  have hlr := (hl.2.1 i r hg2).1
  refine ⟨r, g2, hv, hg2, hlr, (hl.2.1 i r hg2).2, hj, fk, ⟨w1, Nat.le_trans w2 fk.1, k1 _ _ (by omega) w3, w4.of1 (fun e he => k1 _ _ (by omega) he) (fun t u x e hu hx he => k1 x e (by have := (w4.2.1 t u hu).1; omega) he), k1 _ _ (by omega) w5, hl, k1 _ _ (by omega) w7, k1 _ _ (by omega) w8, fun k hk => (w9 k hk).of1 (fun x e hx he => k1 x e (by omega) he), k1 _ _ (by omega) w10, ⟨gg, k1 _ _ (by omega) w11⟩, ⟨gv, k1 _ _ (by omega) w12⟩, fun a b u t hu ht => ?_⟩, we, fun a a0 a1 => ?_, FQ.tr wf wF ⟨fk.1, fun x e hx hn hb => k1 x e (fun z => hn (Or.inl (by omega))) hx, fun x hx => ?_⟩, wf⟩
  · by_cases z : b = i
    · rw [z, hg2] at ht
      have := Option.some.inj ht
      subst this
      rcases hc with ⟨c1, c2, c3⟩ | ⟨c1, c2, c3⟩
      · exact w13 a i u r hu c1
      · have h8 := (w4.2.1 a u hu).2.lt2 wfh
        rw [c2]
        unfold AP; omega
    · rw [hj b z] at ht
      exact w13 a b u t hu ht
  · obtain ⟨u, hu, hR⟩ := wQ a a0 a1
    have := (w4.2.1 a u hu).1
    exact ⟨u, hu, hR.of1 (fun x e hx he => k1 x e (by omega) he)⟩
  · rcases hx with z | ⟨t, u, hu, hx⟩
    · exact Or.inl (Or.inl z)
    · rcases hu with hu | hu
      · exact Or.inl (Or.inr ⟨t, u, Or.inl hu, hx⟩)
      · by_cases z : t = i
        · rw [z, hg2] at hu
          have := Option.some.inj hu
          subst this
          rcases hc with ⟨c1, c2, c3⟩ | ⟨c1, c2, c3⟩
          · exact Or.inl (Or.inr ⟨i, r, Or.inr c1, hx⟩)
          · refine Or.inr ?_
            rw [c2] at hx
            omega
        · rw [hj t z] at hu
          exact Or.inl (Or.inr ⟨t, u, Or.inr hu, hx⟩)
theorem FW.putP {hp : prm p} {B f r : Nat} {h0 : GH} {gr0 gp0 : Int → Option Nat} {h h1 : GH} {gr gp : Int → Option Nat} {gt gq gR : Int → Int} {n pn rn tg le sz e c : Int} {Q P : Int → Px p} {q : Px p} (w : FW hp B f h0 gr0 gp0 h gr gp gt gq gR n pn rn tg le sz e Q) (g : GPc hp h gp c P) (hk : gp c = some r) (fr : Fr [r] h h1) (hr1 : RP hp 84 h1 r q) : FW hp B f h0 gr0 gp0 h1 gr gp gt gq gR n pn rn tg le sz e Q ∧ GPc hp h1 gp (c + 1) (fun t => if t = c then q else P t) := by
  have hf := w.1.1
  have lr := w.lp hk
  have own : ∀ k : Nat, f + 6 ≤ k → k + 2 ≤ f + 21 → Ai k [r] := fun k h6 h7 => Ai.c (by unfold AP; omega) (Ai.n _)
  have ni : ∀ x, f ≤ x → x < f + 21 → Ni x [r] := fun x hx hy => Ni.c ⟨by unfold NE; omega, by unfold NE; omega⟩ (Ni.n _)
  refine ⟨FW.gen w fr (fun x hx => ?_) (fun k hk => Or.inl (own _ (by omega) (by omega))) (Or.inl ⟨ni _ (by omega) (by omega), rfl⟩) (Or.inl (ni _ (by omega) (by omega))) (Or.inl (ni _ (by omega) (by omega))) (fun t u hu => Or.inl (Ai.c (w.1.2.2.2.2.2.2.2.2.2.2.2.2 t c u r hu hk) (Ai.n _))) (fun t u hu => ?_) w.2.1 (fun i i0 i1 => ?_), fun i i0 i1 => ?_⟩
  · rcases List.mem_cons.mp hx with z | hx
    · exact Or.inr (Or.inr (Or.inr ⟨c, by rw [z]; exact hk⟩))
    · exact absurd hx (List.not_mem_nil)
  · by_cases z : t = c
    · rw [z, hk] at hu
      have := Option.some.inj hu
      subst this
      exact Or.inr hr1.ra
    · exact Or.inl (Ai.c (w.t3.2.2 t c u r z hu hk) (Ai.n _))
  · obtain ⟨u, hu, hR⟩ := w.2.2.1 i i0 i1
    exact ⟨u, hu, hR.fr fr (Ai.c (w.1.2.2.2.2.2.2.2.2.2.2.2.2 i c u r hu hk) (Ai.n _))⟩
  · dsimp only
    by_cases z : i = c
    · rw [if_pos z]; exact ⟨r, by rw [z]; exact hk, hr1⟩
    · rw [if_neg z]
      obtain ⟨u, hu, hR⟩ := g i i0 (by omega)
      exact ⟨u, hu, hR.fr fr (Ai.c (w.t3.2.2 i c u r z hu hk) (Ai.n _))⟩
end
