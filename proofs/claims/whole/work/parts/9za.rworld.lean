section
/-- factor() changes these alone -/
def RQ (B : Nat) (h h1 : GH) : Prop := h1.1 = h.1 ∧ ∀ x, ¬ (x = B ∨ (B + 5 ≤ x ∧ x ≤ B + 20)) → h1.2 x = h.2 x
theorem RQ.rf (B : Nat) (h : GH) : RQ B h h := ⟨rfl, fun _ _ => rfl⟩
theorem RQ.tr {B : Nat} {h h1 h2 : GH} (a : RQ B h h1) (b : RQ B h1 h2) : RQ B h h2 := ⟨b.1.trans a.1, fun x hx => (b.2 x hx).trans (a.2 x hx)⟩
def RD (B : Nat) (h0 h : GH) (pp hf le fc pn rn hn qn : Int) (g9 g10 g11 g12 g13 g14 g15 g16 g17 g18 g19 g20 : Int → Int) : Prop := h.2 B = some (mO B pp hf le fc pn rn hn qn) ∧ MA B h ∧ (∃ g, h.2 (B + 7) = some (aJ 6400 g)) ∧ (∃ g, h.2 (B + 8) = some (aI 11520 g)) ∧ h.2 (B + 9) = some (aI 41 g9) ∧ h.2 (B + 10) = some (aI 41 g10) ∧ h.2 (B + 11) = some (aI 1681 g11) ∧ h.2 (B + 12) = some (aI 41 g12) ∧ h.2 (B + 13) = some (aI 41 g13) ∧ h.2 (B + 14) = some (aI 1681 g14) ∧ h.2 (B + 15) = some (aI 41 g15) ∧ h.2 (B + 16) = some (aI 100 g16) ∧ h.2 (B + 17) = some (aI 4100 g17) ∧ h.2 (B + 18) = some (aI 1681 g18) ∧ h.2 (B + 19) = some (aI 41 g19) ∧ h.2 (B + 20) = some (aI 1681 g20) ∧ RQ B h0 h
theorem RD.o {B : Nat} {h0 h : GH} {pp hf le fc pn rn hn qn : Int} {g9 g10 g11 g12 g13 g14 g15 g16 g17 g18 g19 g20 : Int → Int} (w : RD B h0 h pp hf le fc pn rn hn qn g9 g10 g11 g12 g13 g14 g15 g16 g17 g18 g19 g20) : h.2 B = some (mO B pp hf le fc pn rn hn qn) := w.1
theorem RD.ma {B : Nat} {h0 h : GH} {pp hf le fc pn rn hn qn : Int} {g9 g10 g11 g12 g13 g14 g15 g16 g17 g18 g19 g20 : Int → Int} (w : RD B h0 h pp hf le fc pn rn hn qn g9 g10 g11 g12 g13 g14 g15 g16 g17 g18 g19 g20) : MA B h := w.2.1
theorem RD.t9 {B : Nat} {h0 h : GH} {pp hf le fc pn rn hn qn : Int} {g9 g10 g11 g12 g13 g14 g15 g16 g17 g18 g19 g20 : Int → Int} (w : RD B h0 h pp hf le fc pn rn hn qn g9 g10 g11 g12 g13 g14 g15 g16 g17 g18 g19 g20) : h.2 (B + 9) = some (aI 41 g9) := w.2.2.2.2.1
theorem RD.t10 {B : Nat} {h0 h : GH} {pp hf le fc pn rn hn qn : Int} {g9 g10 g11 g12 g13 g14 g15 g16 g17 g18 g19 g20 : Int → Int} (w : RD B h0 h pp hf le fc pn rn hn qn g9 g10 g11 g12 g13 g14 g15 g16 g17 g18 g19 g20) : h.2 (B + 10) = some (aI 41 g10) := w.2.2.2.2.2.1
theorem RD.t11 {B : Nat} {h0 h : GH} {pp hf le fc pn rn hn qn : Int} {g9 g10 g11 g12 g13 g14 g15 g16 g17 g18 g19 g20 : Int → Int} (w : RD B h0 h pp hf le fc pn rn hn qn g9 g10 g11 g12 g13 g14 g15 g16 g17 g18 g19 g20) : h.2 (B + 11) = some (aI 1681 g11) := w.2.2.2.2.2.2.1
theorem RD.t12 {B : Nat} {h0 h : GH} {pp hf le fc pn rn hn qn : Int} {g9 g10 g11 g12 g13 g14 g15 g16 g17 g18 g19 g20 : Int → Int} (w : RD B h0 h pp hf le fc pn rn hn qn g9 g10 g11 g12 g13 g14 g15 g16 g17 g18 g19 g20) : h.2 (B + 12) = some (aI 41 g12) := w.2.2.2.2.2.2.2.1
theorem RD.t13 {B : Nat} {h0 h : GH} {pp hf le fc pn rn hn qn : Int} {g9 g10 g11 g12 g13 g14 g15 g16 g17 g18 g19 g20 : Int → Int} (w : RD B h0 h pp hf le fc pn rn hn qn g9 g10 g11 g12 g13 g14 g15 g16 g17 g18 g19 g20) : h.2 (B + 13) = some (aI 41 g13) := w.2.2.2.2.2.2.2.2.1
theorem RD.t14 {B : Nat} {h0 h : GH} {pp hf le fc pn rn hn qn : Int} {g9 g10 g11 g12 g13 g14 g15 g16 g17 g18 g19 g20 : Int → Int} (w : RD B h0 h pp hf le fc pn rn hn qn g9 g10 g11 g12 g13 g14 g15 g16 g17 g18 g19 g20) : h.2 (B + 14) = some (aI 1681 g14) := w.2.2.2.2.2.2.2.2.2.1
theorem RD.t15 {B : Nat} {h0 h : GH} {pp hf le fc pn rn hn qn : Int} {g9 g10 g11 g12 g13 g14 g15 g16 g17 g18 g19 g20 : Int → Int} (w : RD B h0 h pp hf le fc pn rn hn qn g9 g10 g11 g12 g13 g14 g15 g16 g17 g18 g19 g20) : h.2 (B + 15) = some (aI 41 g15) := w.2.2.2.2.2.2.2.2.2.2.1
theorem RD.t16 {B : Nat} {h0 h : GH} {pp hf le fc pn rn hn qn : Int} {g9 g10 g11 g12 g13 g14 g15 g16 g17 g18 g19 g20 : Int → Int} (w : RD B h0 h pp hf le fc pn rn hn qn g9 g10 g11 g12 g13 g14 g15 g16 g17 g18 g19 g20) : h.2 (B + 16) = some (aI 100 g16) := w.2.2.2.2.2.2.2.2.2.2.2.1
theorem RD.t17 {B : Nat} {h0 h : GH} {pp hf le fc pn rn hn qn : Int} {g9 g10 g11 g12 g13 g14 g15 g16 g17 g18 g19 g20 : Int → Int} (w : RD B h0 h pp hf le fc pn rn hn qn g9 g10 g11 g12 g13 g14 g15 g16 g17 g18 g19 g20) : h.2 (B + 17) = some (aI 4100 g17) := w.2.2.2.2.2.2.2.2.2.2.2.2.1
theorem RD.t18 {B : Nat} {h0 h : GH} {pp hf le fc pn rn hn qn : Int} {g9 g10 g11 g12 g13 g14 g15 g16 g17 g18 g19 g20 : Int → Int} (w : RD B h0 h pp hf le fc pn rn hn qn g9 g10 g11 g12 g13 g14 g15 g16 g17 g18 g19 g20) : h.2 (B + 18) = some (aI 1681 g18) := w.2.2.2.2.2.2.2.2.2.2.2.2.2.1
theorem RD.t19 {B : Nat} {h0 h : GH} {pp hf le fc pn rn hn qn : Int} {g9 g10 g11 g12 g13 g14 g15 g16 g17 g18 g19 g20 : Int → Int} (w : RD B h0 h pp hf le fc pn rn hn qn g9 g10 g11 g12 g13 g14 g15 g16 g17 g18 g19 g20) : h.2 (B + 19) = some (aI 41 g19) := w.2.2.2.2.2.2.2.2.2.2.2.2.2.2.1
theorem RD.t20 {B : Nat} {h0 h : GH} {pp hf le fc pn rn hn qn : Int} {g9 g10 g11 g12 g13 g14 g15 g16 g17 g18 g19 g20 : Int → Int} (w : RD B h0 h pp hf le fc pn rn hn qn g9 g10 g11 g12 g13 g14 g15 g16 g17 g18 g19 g20) : h.2 (B + 20) = some (aI 1681 g20) := w.2.2.2.2.2.2.2.2.2.2.2.2.2.2.2.1
theorem RD.q {B : Nat} {h0 h : GH} {pp hf le fc pn rn hn qn : Int} {g9 g10 g11 g12 g13 g14 g15 g16 g17 g18 g19 g20 : Int → Int} (w : RD B h0 h pp hf le fc pn rn hn qn g9 g10 g11 g12 g13 g14 g15 g16 g17 g18 g19 g20) : RQ B h0 h := w.2.2.2.2.2.2.2.2.2.2.2.2.2.2.2.2
theorem RD.mf {B : Nat} {h0 h : GH} {pp hf le fc pn rn hn qn : Int} {g9 g10 g11 g12 g13 g14 g15 g16 g17 g18 g19 g20 : Int → Int} {L : List Int} {h1 : GH} (w : RD B h0 h pp hf le fc pn rn hn qn g9 g10 g11 g12 g13 g14 g15 g16 g17 g18 g19 g20) (m : MF B [] L h h1) : RD B h0 h1 pp hf le fc pn rn hn qn g9 g10 g11 g12 g13 g14 g15 g16 g17 g18 g19 g20 := by
  have u : ∀ x, x ≠ B + 5 → x ≠ B + 6 → h1.2 x = h.2 x := fun x a b => m.1.2 x (Ni.c ⟨by unfold NE; omega, by unfold NE; omega⟩ (Ni.n _))
  obtain ⟨a, b, ⟨g7, c⟩, ⟨g8, d⟩, t9, t10, t11, t12, t13, t14, t15, t16, t17, t18, t19, t20, q⟩ := w
  exact ⟨(u _ (by omega) (by omega)).trans a, m.2.1, ⟨g7, (u _ (by omega) (by omega)).trans c⟩, ⟨g8, (u _ (by omega) (by omega)).trans d⟩, (u _ (by omega) (by omega)).trans t9, (u _ (by omega) (by omega)).trans t10, (u _ (by omega) (by omega)).trans t11, (u _ (by omega) (by omega)).trans t12, (u _ (by omega) (by omega)).trans t13, (u _ (by omega) (by omega)).trans t14, (u _ (by omega) (by omega)).trans t15, (u _ (by omega) (by omega)).trans t16, (u _ (by omega) (by omega)).trans t17, (u _ (by omega) (by omega)).trans t18, (u _ (by omega) (by omega)).trans t19, (u _ (by omega) (by omega)).trans t20, q.tr ⟨m.1.1, fun x hx => u x (by omega) (by omega)⟩⟩
theorem RD.cell {B : Nat} {h0 h : GH} {pp hf le fc pn rn hn qn : Int} {g9 g10 g11 g12 g13 g14 g15 g16 g17 g18 g19 g20 : Int → Int} {k1 k2 k3 k4 k5 k6 k7 : Int} {k9 k10 k11 k12 k13 k14 k15 k16 k17 k18 k19 k20 : Int → Int} {h1 : GH} (w : RD B h0 h pp hf le fc pn rn hn qn g9 g10 g11 g12 g13 g14 g15 g16 g17 g18 g19 g20) (hn1 : h1.1 = h.1) (un : ∀ x, ¬ (x = B ∨ (B + 9 ≤ x ∧ x ≤ B + 20)) → h1.2 x = h.2 x) (c0 : h1.2 B = some (mO B pp k1 k2 k3 k4 k5 k6 k7)) (c9 : h1.2 (B + 9) = some (aI 41 k9)) (c10 : h1.2 (B + 10) = some (aI 41 k10)) (c11 : h1.2 (B + 11) = some (aI 1681 k11)) (c12 : h1.2 (B + 12) = some (aI 41 k12)) (c13 : h1.2 (B + 13) = some (aI 41 k13)) (c14 : h1.2 (B + 14) = some (aI 1681 k14)) (c15 : h1.2 (B + 15) = some (aI 41 k15)) (c16 : h1.2 (B + 16) = some (aI 100 k16)) (c17 : h1.2 (B + 17) = some (aI 4100 k17)) (c18 : h1.2 (B + 18) = some (aI 1681 k18)) (c19 : h1.2 (B + 19) = some (aI 41 k19)) (c20 : h1.2 (B + 20) = some (aI 1681 k20)) : RD B h0 h1 pp k1 k2 k3 k4 k5 k6 k7 k9 k10 k11 k12 k13 k14 k15 k16 k17 k18 k19 k20 := by
  obtain ⟨a, ⟨R, d0, b1, b2, b3, b4⟩, ⟨g7, c⟩, ⟨g8, d⟩, _, _, _, _, _, _, _, _, _, _, _, _, q⟩ := w
  exact ⟨c0, ⟨R, d0, b1, b2, (un _ (by omega)).trans b3, (un _ (by omega)).trans b4⟩, ⟨g7, (un _ (by omega)).trans c⟩, ⟨g8, (un _ (by omega)).trans d⟩, c9, c10, c11, c12, c13, c14, c15, c16, c17, c18, c19, c20, q.tr ⟨hn1, fun x hx => un x (by omega)⟩⟩
end
section
variable {p : Nat}
theorem MG.of5 {hp : prm p} {B : Nat} {h h1 : GH} {r : Int} {f : Px p} (w : MG hp B h r f) (e5 : h1.2 (B + 5) = h.2 (B + 5)) (e6 : h1.2 (B + 6) = h.2 (B + 6)) : MG hp B h1 r f := by
  obtain ⟨a, b, c, R, d, u, v, x, y, z⟩ := w
  exact ⟨a, b, c, R, d, u, v, e5.trans x, e6.trans y, z⟩
/-- a table of rows of 41 -/
def TB (h : prm p) (D G : Int → Int) (n : Int) (Q : Int → Px p) : Prop := ∀ i : Int, 0 ≤ i → i < n → po (fR h) (Q i) ∧ dgi h (Q i) ≤ 40 ∧ D i = dgi h (Q i) ∧ ∀ k : Int, 0 ≤ k → k ≤ 40 → G (41 * i + k) = cf (Q i) k
/-- a row is being written -/
def wT (G : Int → Int) (n : Int) (f : Px p) (c : Int) : Int → Int := fun m => if 41 * n ≤ m ∧ m < 41 * n + c then cf f (m - 41 * n) else G m
theorem wT_0 (G : Int → Int) (n : Int) (f : Px p) : wT G n f 0 = G := funext fun m => by unfold wT; rw [if_neg (by omega)]
theorem wT_s (G : Int → Int) (n : Int) (f : Px p) {c : Int} (hc : 0 ≤ c) : gup (wT G n f c) (41 * n + c) (cf f c) = wT G n f (c + 1) := funext fun m => by
  unfold gup wT
  by_cases z : m = 41 * n + c
  · rw [if_pos z, if_pos (by omega), z]; congr 1; omega
  · rw [if_neg z]
    by_cases y : 41 * n ≤ m ∧ m < 41 * n + c
    · rw [if_pos y, if_pos (by omega)]
    · rw [if_neg y, if_neg (by omega)]
theorem TB.put {h : prm p} {D G : Int → Int} {n e : Int} {Q : Int → Px p} {f : Px p} (w : TB h D G n Q) (he : 0 ≤ e) (hen : e ≤ n) (hf : po (fR h) f) (hd : dgi h f ≤ 40) {m : Int} (hm : m = n ∨ (m = n + 1 ∧ e = n) ) (hme : e < m) : TB h (gup D e (dgi h f)) (wT G e f 41) m (fun t => if t = e then f else Q t) := fun i i0 i1 => by
  dsimp only
  unfold gup
  by_cases z : i = e
  · rw [if_pos z, if_pos z]
    refine ⟨hf, hd, rfl, fun k k0 k1 => ?_⟩
    unfold wT
    rw [z, if_pos (by omega)]; congr 1; omega
  · rw [if_neg z, if_neg z]
    obtain ⟨a, b, c, d⟩ := w i i0 (by omega)
    refine ⟨a, b, c, fun k k0 k1 => ?_⟩
    unfold wT
    rw [if_neg (by omega)]
    exact d k k0 k1
end
