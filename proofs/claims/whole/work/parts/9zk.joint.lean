/-! the law's world: the class and the reference side by side -/
section
variable {p : Nat}
def CWo (hp : prm p) (B : Nat) (h : GH) (T : PT p) (fo : Option (Px p)) (c : Int) (X V : Int → Int) : Prop := ∃ (fa sy : Value) (U1 U2 : Nat → Prop), CSt p B h c X V fa sy ∧ CP hp B h T ∧ FA hp B h fa fo U1 ∧ SY B h sy U2 ∧ ∀ x, U1 x → U2 x → False
def MX (B : Nat) (h : GH) : Prop := (∃ g, h.2 (B + 16) = some (aI 100 g)) ∧ (∃ g, h.2 (B + 17) = some (aI 4100 g)) ∧ (∃ g, h.2 (B + 18) = some (aI 1681 g)) ∧ (∃ g, h.2 (B + 19) = some (aI 41 g)) ∧ ∃ g, h.2 (B + 20) = some (aI 1681 g)
def RWo (hp : prm p) (B : Nat) (h : GH) (T : PT p) (fo : Option (Px p)) (c : Int) (X V : Int → Int) : Prop := ∃ hf le fc pn rn hn : Int, h.2 B = some (mO B p hf le fc pn rn hn c) ∧ MP hp B h T ∧ MS B h ∧ MX B h ∧ h.2 (B + 21) = some (aI 41 X) ∧ h.2 (B + 22) = some (aI 41 V) ∧ MFx hp B h fo hf le fc pn rn ∧ (0 ≤ c ∧ c ≤ 41) ∧ ∀ k : Int, 0 ≤ k → k < c → (0 ≤ X k ∧ X k < p) ∧ (0 ≤ V k ∧ V k < p)
theorem fa_bd {hp : prm p} {B : Nat} {h : GH} {fa : Value} {fo : Option (Px p)} {U : Nat → Prop} (wf : ∀ (a : Nat) (e : GE), h.2 a = some e → a < h.1) (w : FA hp B h fa fo U) : FA hp B h fa fo (fun x => U x ∧ B + 58 ≤ x ∧ x < h.1) := by
  rcases w with z | ⟨f, gr, gp, gt, gq, gR, n, pn, rn, tg, le, sz, z1, z2, z3, z4⟩
  · exact Or.inl z
  · refine Or.inr ⟨f, gr, gp, gt, gq, gR, n, pn, rn, tg, le, sz, z1, z2, z3, fun x hx => ⟨z4 x hx, ?_⟩⟩
    have h1 := z2.1
    have h2 := z2.2.1
    rcases hx with y | ⟨t, r, hr, y⟩
    · omega
    · rcases hr with hr | hr
      · have a := z2.2.2.2.1.2.1 t r hr
        have b := a.2.lt2 wf
        have c := a.1
        omega
      · have a := z2.2.2.2.2.2.1.2.1 t r hr
        have b := a.2.lt2 wf
        have c := a.1
        omega
theorem sy_bd {B : Nat} {h : GH} {sy : Value} {U : Nat → Prop} (wf : ∀ (a : Nat) (e : GE), h.2 a = some e → a < h.1) (w : SY B h sy U) : SY B h sy (fun x => U x ∧ B + 58 ≤ x ∧ x < h.1) := by
  rcases w with z | ⟨s, g, sz, z1, z2, z3⟩
  · exact Or.inl z
  · refine Or.inr ⟨s, g, sz, z1, z2, fun x hx => ⟨z3 x hx, ?_⟩⟩
    have h1 := z2.1
    have h2 := z2.2.1
    rcases hx with (y | ⟨t, r, hr, y⟩) | y
    · omega
    · have a := z2.2.2.2.1.2.1 t r hr
      have b := a.2.lt2 wf
      have c := a.1
      omega
    · omega
theorem CWo.bd {hp : prm p} {B : Nat} {h : GH} {T : PT p} {fo : Option (Px p)} {c : Int} {X V : Int → Int} (wf : ∀ (a : Nat) (e : GE), h.2 a = some e → a < h.1) (w : CWo hp B h T fo c X V) : ∃ (fa sy : Value) (U1 U2 : Nat → Prop), CSt p B h c X V fa sy ∧ CP hp B h T ∧ FA hp B h fa fo U1 ∧ SY B h sy U2 ∧ (∀ x, U1 x → U2 x → False) ∧ (∀ x, U1 x → B + 58 ≤ x ∧ x < h.1) ∧ ∀ x, U2 x → B + 58 ≤ x ∧ x < h.1 := by
  obtain ⟨fa, sy, U1, U2, a, b, c, d, e⟩ := w
  exact ⟨fa, sy, _, _, a, b, fa_bd wf c, sy_bd wf d, fun x x1 x2 => e x x1.1 x2.1, fun x hx => hx.2, fun x hx => hx.2⟩
/-- after a class's call of the common kind -/
theorem CWo.fk {hp : prm p} {B : Nat} {h h1 : GH} {T1 : PT p} {fo : Option (Px p)} {c1 : Int} {X1 V1 : Int → Int} {fa sy : Value} {U1 U2 : Nat → Prop} (hX : FA hp B h fa fo U1) (hy : SY B h sy U2) (hd : ∀ x, U1 x → U2 x → False) (fk : FK (pK B) h h1) (cs : CSt p B h1 c1 X1 V1 fa sy) (cp : CP hp B h1 T1) : CWo hp B h1 T1 fo c1 X1 V1 := ⟨fa, sy, U1, U2, cs, cp, hX.fk fk (fun x e hx hn _ => ⟨by omega, Or.inr hn⟩), hy.fk fk (fun x e hx hn => ⟨by omega, Or.inr hn⟩), hd⟩
theorem CWo.un {hp : prm p} {B : Nat} {h h1 : GH} {T : PT p} {fo : Option (Px p)} {c : Int} {X V : Int → Int} (w : CWo hp B h T fo c X V) (hn : h1.1 = h.1) (un : ∀ x, ¬ (B + 35 ≤ x ∧ x < B + 58) → h1.2 x = h.2 x) : CWo hp B h1 T fo c X V := by
  obtain ⟨fa, sy, U1, U2, ⟨w1, w2, w3, w4, w5, w6, w7, w8, ⟨gx, gv, w9, w10, w11, w12⟩, w13⟩, b, c, d, e⟩ := w
  have k1 : ∀ (x : Nat) (e : GE), x < B + 35 → h.2 x = some e → h1.2 x = some e := fun x e hx he => by rw [un x (by omega)]; exact he
  have fk : FK (fun x _ => B + 58 ≤ x) h h1 := ⟨by omega, fun x e hx hk => by rw [un x (by omega)]; exact hx⟩
  refine ⟨fa, sy, U1, U2, ⟨k1 _ _ (by omega) w1, ⟨k1 _ _ (by omega) w2.1, k1 _ _ (by omega) w2.2.1, fun x hx => (w2.2.2 x hx).of1 (fun y e hy he => k1 y e (by have := pl_in hx; omega) he)⟩, k1 _ _ (by omega) w3, w4.of1 (fun x e hx he => k1 x e (by omega) he), w5.of1 (fun x e hx he => k1 x e (by omega) he), w6.of1 (fun x e hx he => k1 x e (by omega) he), w7.of1 (fun x e hx he => k1 x e (by omega) he), w8.of1 (fun x e hx he => k1 x e (by omega) he), ⟨gx, gv, k1 _ _ (by omega) w9, k1 _ _ (by omega) w10, k1 _ _ (by omega) w11, w12⟩, by omega⟩, CP.of1 b (fun x e hx hk => by rw [un x (by omega)]; exact hx), c.fk fk (fun x e hx _ _ => hx), d.fk fk (fun x e hx _ => hx), e⟩
theorem MA.k {B : Nat} {h h1 : GH} (w : MA B h) (k : ∀ (x : Nat) (e : GE), B ≤ x → x ≤ B + 22 → h.2 x = some e → h1.2 x = some e) : MA B h1 := by
  obtain ⟨R, d, a, b, c, e⟩ := w
  exact ⟨R, d, a, b, k _ _ (by omega) (by omega) c, k _ _ (by omega) (by omega) e⟩
theorem RWo.k {hp : prm p} {B : Nat} {h h1 : GH} {T : PT p} {fo : Option (Px p)} {c : Int} {X V : Int → Int} (w : RWo hp B h T fo c X V) (k : ∀ (x : Nat) (e : GE), B ≤ x → x ≤ B + 22 → h.2 x = some e → h1.2 x = some e) : RWo hp B h1 T fo c X V := by
  obtain ⟨hf, le, fc, pn, rn, hn, w1, ⟨gt, gn, m1, m2, m3⟩, ⟨a1, ⟨gw, a2⟩, ⟨g4, a3⟩, ⟨g7, a4⟩, ⟨g8, a5⟩⟩, ⟨⟨b6, b1⟩, ⟨b7, b2⟩, ⟨b8, b3⟩, ⟨b9, b4⟩, ⟨b0, b5⟩⟩, c1, c2, ⟨g9, g10, g11, g12, g13, g14, g15, x9, x10, x11, x12, x13, x14, x15, xe⟩, d1, d2⟩ := w
  exact ⟨hf, le, fc, pn, rn, hn, k _ _ (by omega) (by omega) w1, ⟨gt, gn, k _ _ (by omega) (by omega) m1, k _ _ (by omega) (by omega) m2, m3⟩, ⟨a1.k k, ⟨gw, k _ _ (by omega) (by omega) a2⟩, ⟨g4, k _ _ (by omega) (by omega) a3⟩, ⟨g7, k _ _ (by omega) (by omega) a4⟩, ⟨g8, k _ _ (by omega) (by omega) a5⟩⟩, ⟨⟨b6, k _ _ (by omega) (by omega) b1⟩, ⟨b7, k _ _ (by omega) (by omega) b2⟩, ⟨b8, k _ _ (by omega) (by omega) b3⟩, ⟨b9, k _ _ (by omega) (by omega) b4⟩, ⟨b0, k _ _ (by omega) (by omega) b5⟩⟩, k _ _ (by omega) (by omega) c1, k _ _ (by omega) (by omega) c2, ⟨g9, g10, g11, g12, g13, g14, g15, k _ _ (by omega) (by omega) x9, k _ _ (by omega) (by omega) x10, k _ _ (by omega) (by omega) x11, k _ _ (by omega) (by omega) x12, k _ _ (by omega) (by omega) x13, k _ _ (by omega) (by omega) x14, k _ _ (by omega) (by omega) x15, xe⟩, d1, d2⟩
theorem RWo.fk {hp : prm p} {B : Nat} {h h1 : GH} {T : PT p} {fo : Option (Px p)} {c : Int} {X V : Int → Int} (w : RWo hp (B + 35) h T fo c X V) (f : FK (pK B) h h1) : RWo hp (B + 35) h1 T fo c X V := w.k (fun x e x0 x1 he => f.2 x e he ⟨by omega, Or.inl (by omega)⟩)
theorem RWo.fkU {hp : prm p} {B : Nat} {h h1 : GH} {T : PT p} {fo : Option (Px p)} {c : Int} {X V : Int → Int} {U : Nat → Prop} (w : RWo hp (B + 35) h T fo c X V) (hU : ∀ x, U x → B + 58 ≤ x ∧ x < h.1) (f : FK (fun x e => pK B x e ∧ ¬ U x) h h1) : RWo hp (B + 35) h1 T fo c X V := w.k (fun x e x0 x1 he => f.2 x e he ⟨⟨by omega, Or.inl (by omega)⟩, fun q => by have := (hU x q).1; omega⟩)
/-- after a reference's call of the common kind -/
theorem RWo.up {hp : prm p} {B : Nat} {h h1 : GH} {T T2 : PT p} {fo : Option (Px p)} {c hf le fc pn rn hn : Int} {X V : Int → Int} (ho : h.2 B = some (mO B p hf le fc pn rn hn c)) (hx : MX B h) (h21 : h.2 (B + 21) = some (aI 41 X)) (h22 : h.2 (B + 22) = some (aI 41 V)) (hX : MFx hp B h fo hf le fc pn rn) (hc : 0 ≤ c ∧ c ≤ 41) (hb : ∀ k : Int, 0 ≤ k → k < c → (0 ≤ X k ∧ X k < p) ∧ (0 ≤ V k ∧ V k < p)) (f : Fr [B + 1, B + 3, B + 5, B + 7] h h1) (ms : MS B h1) (mp : MP hp B h1 T2) : RWo hp B h1 T2 fo c X V := by
  have k : ∀ (x : Nat) (e : GE), (x = B ∨ B + 9 ≤ x) → h.2 x = some e → h1.2 x = some e := fun x e hx he => f.at0 (Ni.c ⟨by unfold NE; omega, by unfold NE; omega⟩ (Ni.c ⟨by unfold NE; omega, by unfold NE; omega⟩ (Ni.c ⟨by unfold NE; omega, by unfold NE; omega⟩ (Ni.c ⟨by unfold NE; omega, by unfold NE; omega⟩ (Ni.n _))))) he
  obtain ⟨⟨b6, b1⟩, ⟨b7, b2⟩, ⟨b8, b3⟩, ⟨b9, b4⟩, ⟨b0, b5⟩⟩ := hx
  obtain ⟨g9, g10, g11, g12, g13, g14, g15, x9, x10, x11, x12, x13, x14, x15, xe⟩ := hX
  exact ⟨hf, le, fc, pn, rn, hn, k _ _ (by omega) ho, mp, ms, ⟨⟨b6, k _ _ (by omega) b1⟩, ⟨b7, k _ _ (by omega) b2⟩, ⟨b8, k _ _ (by omega) b3⟩, ⟨b9, k _ _ (by omega) b4⟩, ⟨b0, k _ _ (by omega) b5⟩⟩, k _ _ (by omega) h21, k _ _ (by omega) h22, ⟨g9, g10, g11, g12, g13, g14, g15, k _ _ (by omega) x9, k _ _ (by omega) x10, k _ _ (by omega) x11, k _ _ (by omega) x12, k _ _ (by omega) x13, k _ _ (by omega) x14, k _ _ (by omega) x15, xe⟩, hc, hb⟩
theorem fr_un {B : Nat} {h h1 : GH} {L : List Nat} (f : Fr L h h1) (hL : ∀ x ∈ L, B + 35 ≤ x ∧ x + 2 ≤ B + 58) : h1.1 = h.1 ∧ ∀ x, ¬ (B + 35 ≤ x ∧ x < B + 58) → h1.2 x = h.2 x := ⟨f.1, fun x hx => f.2 x (fun y hy => by have := hL y hy; constructor <;> (unfold NE; omega))⟩
theorem fr4_in {B : Nat} : ∀ x ∈ [B + 35 + 1, B + 35 + 3, B + 35 + 5, B + 35 + 7], B + 35 ≤ x ∧ x + 2 ≤ B + 58 := fun x hx => by
  simp only [List.mem_cons, List.not_mem_nil, or_false] at hx
  omega
theorem fr5_in {B : Nat} : ∀ x ∈ [B + 35, B + 35 + 1, B + 35 + 3, B + 35 + 5, B + 35 + 7], B + 35 ≤ x ∧ x + 2 ≤ B + 58 := fun x hx => by
  simp only [List.mem_cons, List.not_mem_nil, or_false] at hx
  omega
theorem fr2_in {B : Nat} : ∀ x ∈ [B + 35, B + 35 + 21], B + 35 ≤ x ∧ x + 2 ≤ B + 58 := fun x hx => by
  simp only [List.mem_cons, List.not_mem_nil, or_false] at hx
  omega
theorem fr1_in {B : Nat} : ∀ x ∈ [B + 35], B + 35 ≤ x ∧ x + 2 ≤ B + 58 := fun x hx => by
  simp only [List.mem_cons, List.not_mem_nil, or_false] at hx
  omega
theorem fr1b_in {B : Nat} : ∀ x ∈ [B + 35 + 1], B + 35 ≤ x ∧ x + 2 ≤ B + 58 := fun x hx => by
  simp only [List.mem_cons, List.not_mem_nil, or_false] at hx
  omega
end
/-- both in one state -/
def JJ (B : Nat) (h : GH) : Prop := ∃ (p : Nat) (hp : prm p) (T : PT p) (fo : Option (Px p)) (c : Int) (X V : Int → Int), p ≤ 65536 ∧ CWo hp B h T fo c X V ∧ RWo hp (B + 35) h T fo c X V
/-- the class has answered, the reference not yet -/
def JM (B : Nat) (h : GH) {p : Nat} (hp : prm p) (T : PT p) (fo : Option (Px p)) (c : Int) (X V : Int → Int) (T1 : PT p) (fo1 : Option (Px p)) (c1 : Int) (X1 V1 : Int → Int) : Prop := CWo hp B h T1 fo1 c1 X1 V1 ∧ RWo hp (B + 35) h T fo c X V
theorem JJ.of {B : Nat} {h h1 : GH} {p : Nat} {hp : prm p} {T1 : PT p} {fo : Option (Px p)} {c : Int} {X V : Int → Int} (h2 : p ≤ 65536) (w : CWo hp B h T1 fo c X V) (u : h1.1 = h.1 ∧ ∀ x, ¬ (B + 35 ≤ x ∧ x < B + 58) → h1.2 x = h.2 x) (r : RWo hp (B + 35) h1 T1 fo c X V) : JJ B h1 := ⟨p, hp, T1, fo, c, X, V, h2, w.un u.1 u.2, r⟩
section
variable {p : Nat}
theorem sM_factor (N : GN) (h : GH) (B p : Nat) (hp : prm p) (hp2 : p ≤ 65536) (T : PT p) (fo : Option (Px p)) (c : Int) (X V : Int → Int) (a : Int) (gW_a : gW a) (w : RWo hp B h T fo c X V) : Sp N yX10_factor mX10_factor 0 0 [.ref (B), .int (gI (a))] h (fun v h1 => v = some (.int (gI (aFc hp T a))) ∧ RQ B h h1 ∧ RWo hp B h1 T (foF hp T fo a) c X V) := by
  obtain ⟨hf, le, fc, pn, rn, hn, w1, mp, ⟨a1, ⟨gw, a2⟩, ⟨g4, a3⟩, a4, a5⟩, ⟨⟨b6, b1⟩, ⟨b7, b2⟩, ⟨b8, b3⟩, ⟨b9, b4⟩, ⟨b0, b5⟩⟩, c1, c2, hX, d1, d2⟩ := w
  have hX' := hX
  obtain ⟨g9, g10, g11, g12, g13, g14, g15, x9, x10, x11, x12, x13, x14, x15, xe⟩ := hX'
  have rd : RD B h h p hf le fc pn rn hn c g9 g10 g11 g12 g13 g14 g15 b6 b7 b8 b9 b0 := ⟨w1, a1, a4, a5, x9, x10, x11, x12, x13, x14, x15, b1, b2, b3, b4, b5, RQ.rf B h⟩
  refine Sp.imp (sM_facD N h B p hp hp2 h hf le fc pn rn hn c g9 g10 g11 g12 g13 g14 g15 b6 b7 b8 b9 b0 T fo a gW_a rd mp) ?_
  intro v h1 q
  have low : ∀ (h1 : GH), RQ B h h1 → MP hp B h1 T ∧ (∃ g, h1.2 (B + 3) = some (aI 1500 g)) ∧ (∃ g, h1.2 (B + 4) = some (aI 1500 g)) ∧ h1.2 (B + 21) = some (aI 41 X) ∧ h1.2 (B + 22) = some (aI 41 V) := fun h1 rq => by
    obtain ⟨gt, gn, m1, m2, m3⟩ := mp
    exact ⟨⟨gt, gn, (rq.2 _ (by omega)).trans m1, (rq.2 _ (by omega)).trans m2, m3⟩, ⟨gw, (rq.2 _ (by omega)).trans a2⟩, ⟨g4, (rq.2 _ (by omega)).trans a3⟩, (rq.2 _ (by omega)).trans c1, (rq.2 _ (by omega)).trans c2⟩
  rcases q with ⟨e1, e2, r⟩ | ⟨f, e1, e2, le1, fc1, pn1, rn1, hn1, y9, y10, y11, y12, y13, y14, y15, y16, y17, y18, y19, y20, r, hX2⟩
  · have rq := RD.q r
    obtain ⟨l1, l2, l3, l4, l5⟩ := low h1 rq
    refine ⟨e2, rq, hf, le, fc, pn, rn, hn, RD.o r, l1, ⟨RD.ma r, l2, l3, r.2.2.1, r.2.2.2.1⟩, ⟨⟨_, RD.t16 r⟩, ⟨_, RD.t17 r⟩, ⟨_, RD.t18 r⟩, ⟨_, RD.t19 r⟩, ⟨_, RD.t20 r⟩⟩, l4, l5, ?_, d1, d2⟩
    rw [e1]
    exact ⟨g9, g10, g11, g12, g13, g14, g15, RD.t9 r, RD.t10 r, RD.t11 r, RD.t12 r, RD.t13 r, RD.t14 r, RD.t15 r, xe⟩
  · have rq := RD.q r
    obtain ⟨l1, l2, l3, l4, l5⟩ := low h1 rq
    refine ⟨e2, rq, 1, le1, fc1, pn1, rn1, hn1, RD.o r, l1, ⟨RD.ma r, l2, l3, r.2.2.1, r.2.2.2.1⟩, ⟨⟨_, RD.t16 r⟩, ⟨_, RD.t17 r⟩, ⟨_, RD.t18 r⟩, ⟨_, RD.t19 r⟩, ⟨_, RD.t20 r⟩⟩, l4, l5, ?_, d1, d2⟩
    rw [e1]; exact hX2
end
