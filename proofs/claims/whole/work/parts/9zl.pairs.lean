/-! a call of the class and the same call of the reference, method by method -/
/-- the class has answered; the reference will answer the same -/
def JO (N : GN) (B : Nat) (y2 : MethodName) (M2 : GM) (As : List Value) (v : Option Value) (h1 : GH) : Prop := (∃ fs : List Value, h1.2 (B + 35) = some (oB 10 fs)) ∧ ∃ w : Int, gW w ∧ v = some (.int (gI w)) ∧ Sp N y2 M2 0 0 (.ref (B + 35) :: As) h1 (fun v2 h2 => v2 = some (.int (gI w)) ∧ JJ B h2)
/-- both calls, one after the other -/
def JQ (N : GN) (B : Nat) (y1 : MethodName) (M1 : GM) (y2 : MethodName) (M2 : GM) (As : List Value) (h : GH) : Prop := (∃ fs : List Value, h.2 B = some (oB 9 fs)) ∧ ∃ nc ns : Nat, nc ≤ 1680 ∧ ns ≤ 73700 ∧ Sp N y1 M1 nc ns (.ref B :: As) h (JO N B y2 M2 As)
theorem JO.of {N : GN} {B : Nat} {y2 : MethodName} {M2 : GM} {As : List Value} {v : Option Value} {h1 : GH} (x : Int) (o : ∃ fs : List Value, h1.2 (B + 35) = some (oB 10 fs)) (hv : v = some (.int (gI x))) (s : Sp N y2 M2 0 0 (.ref (B + 35) :: As) h1 (fun v2 h2 => v2 = some (.int (gI x)) ∧ JJ B h2)) : JO N B y2 M2 As v h1 := ⟨o, (gI x).toInt, gW_t _, by rw [gI_rt]; exact hv, by rw [gI_rt]; exact s⟩
section
variable {p : Nat}
theorem jA {N : GN} {B : Nat} {h : GH} {y1 y2 : MethodName} {M1 M2 : GM} {As : List Value} {hp : prm p} (hp2 : p ≤ 65536) {T : PT p} {fo : Option (Px p)} {c : Int} {X V : Int → Int} (nc ns : Nat) (b1 : nc ≤ 1680) (b2 : ns ≤ 73700) (wf : ∀ (a : Nat) (e : GE), h.2 a = some e → a < h.1) (hC : CWo hp B h T fo c X V) (hR : RWo hp (B + 35) h T fo c X V) (r : Rs p)
    (sc : ∀ (fa sy : Value) (U : Nat → Prop), CSt p B h c X V fa sy → CP hp B h T → FA hp B h fa fo U → Sp N y1 M1 nc ns (.ref B :: As) h (fun v h1 => FK (pK B) h h1 ∧ ∃ w T2, Ou T r w T2 ∧ v = some (.int (gI w)) ∧ CSt p B h1 c X V fa sy ∧ CP hp B h1 T2))
    (sm : ∀ (h1 : GH) (hf le fc pn rn hn : Int), h1.2 (B + 35) = some (mO (B + 35) p hf le fc pn rn hn c) → MP hp (B + 35) h1 T → MS (B + 35) h1 → MFx hp (B + 35) h1 fo hf le fc pn rn → Sp N y2 M2 0 0 (.ref (B + 35) :: As) h1 (fun v h2 => Fr [B + 35 + 1, B + 35 + 3, B + 35 + 5, B + 35 + 7] h1 h2 ∧ MS (B + 35) h2 ∧ ∃ w T2, Ou T r w T2 ∧ v = some (.int (gI w)) ∧ MP hp (B + 35) h2 T2)) : JQ N B y1 M1 y2 M2 As h := by
  obtain ⟨fa, sy, U1, U2, hcs, hT, hX, hy, hdj, hU1, hU2⟩ := hC.bd wf
  refine ⟨⟨_, hcs.1⟩, nc, ns, b1, b2, Sp.imp (sc fa sy U1 hcs hT hX) ?_⟩
  rintro v h1 ⟨fk, w, T2, ou, hv, cs1, cp1⟩
  have hC1 := CWo.fk hX hy hdj fk cs1 cp1
  obtain ⟨hf, le, fc, pn, rn, hn, w1, mp, ms, mx, x1, x2, mf, d1, d2⟩ := hR.fk fk
  refine JO.of w ⟨_, w1⟩ hv (Sp.imp (sm h1 hf le fc pn rn hn w1 mp ms mf) ?_)
  rintro v2 h2 ⟨fr, ms2, w', T2', ou', hv', mp2⟩
  obtain ⟨e1, e2⟩ := Ou_un ou ou'
  subst e1; subst e2
  exact ⟨hv', JJ.of hp2 hC1 (fr_un fr fr4_in) (RWo.up (T := T) w1 mx x1 x2 mf d1 d2 fr ms2 mp2)⟩
theorem jB {N : GN} {B : Nat} {h : GH} {y1 y2 : MethodName} {M1 M2 : GM} {As : List Value} {hp : prm p} (hp2 : p ≤ 65536) {T : PT p} {fo : Option (Px p)} {c : Int} {X V : Int → Int} (hC : CWo hp B h T fo c X V) (hR : RWo hp (B + 35) h T fo c X V) (x : Int)
    (sc : ∀ (fa sy : Value) (U : Nat → Prop), CSt p B h c X V fa sy → CP hp B h T → FA hp B h fa fo U → Sp N y1 M1 0 0 (.ref B :: As) h (fun v h1 => h1 = h ∧ v = some (.int (gI x))))
    (sm : ∀ (hf le fc pn rn hn : Int), h.2 (B + 35) = some (mO (B + 35) p hf le fc pn rn hn c) → MP hp (B + 35) h T → MFx hp (B + 35) h fo hf le fc pn rn → Sp N y2 M2 0 0 (.ref (B + 35) :: As) h (fun v h1 => h1 = h ∧ v = some (.int (gI x)))) : JQ N B y1 M1 y2 M2 As h := by
  obtain ⟨fa, sy, U1, U2, hcs, hT, hX, hy, hdj⟩ := hC
  refine ⟨⟨_, hcs.1⟩, 0, 0, Nat.zero_le _, Nat.zero_le _, Sp.imp (sc fa sy U1 hcs hT hX) ?_⟩
  rintro v h1 ⟨rfl, hv⟩
  have hR' := hR
  obtain ⟨hf, le, fc, pn, rn, hn, w1, mp, ms, mx, x1, x2, mf, d1, d2⟩ := hR'
  refine JO.of x ⟨_, w1⟩ hv (Sp.imp (sm hf le fc pn rn hn w1 mp mf) ?_)
  rintro v2 h2 ⟨rfl, hv'⟩
  exact ⟨hv', p, hp, T, fo, c, X, V, hp2, ⟨fa, sy, U1, U2, hcs, hT, hX, hy, hdj⟩, hR⟩
theorem MFx.k {hp : prm p} {B : Nat} {h h1 : GH} {fo : Option (Px p)} {hf le fc pn rn : Int} (w : MFx hp B h fo hf le fc pn rn) (k : ∀ (x : Nat) (e : GE), B + 9 ≤ x → x ≤ B + 15 → h.2 x = some e → h1.2 x = some e) : MFx hp B h1 fo hf le fc pn rn := by
  obtain ⟨g9, g10, g11, g12, g13, g14, g15, x9, x10, x11, x12, x13, x14, x15, xe⟩ := w
  exact ⟨g9, g10, g11, g12, g13, g14, g15, k _ _ (by omega) (by omega) x9, k _ _ (by omega) (by omega) x10, k _ _ (by omega) (by omega) x11, k _ _ (by omega) (by omega) x12, k _ _ (by omega) (by omega) x13, k _ _ (by omega) (by omega) x14, k _ _ (by omega) (by omega) x15, xe⟩
theorem MFx.no {hp : prm p} {q : Nat} (hq : prm q) {B : Nat} {h h1 : GH} {fo : Option (Px p)} {hf le fc pn rn : Int} (le2 : Int) (w : MFx hp B h fo hf le fc pn rn) (k : ∀ (x : Nat) (e : GE), B + 9 ≤ x → x ≤ B + 15 → h.2 x = some e → h1.2 x = some e) : MFx hq B h1 none 0 le2 0 0 0 := by
  obtain ⟨g9, g10, g11, g12, g13, g14, g15, x9, x10, x11, x12, x13, x14, x15, xe⟩ := w
  exact ⟨g9, g10, g11, g12, g13, g14, g15, k _ _ (by omega) (by omega) x9, k _ _ (by omega) (by omega) x10, k _ _ (by omega) (by omega) x11, k _ _ (by omega) (by omega) x12, k _ _ (by omega) (by omega) x13, k _ _ (by omega) (by omega) x14, k _ _ (by omega) (by omega) x15, rfl, rfl, rfl, rfl⟩
theorem MS.k {B : Nat} {h h1 : GH} (w : MS B h) (k : ∀ (x : Nat) (e : GE), B + 3 ≤ x → x ≤ B + 8 → h.2 x = some e → h1.2 x = some e) : MS B h1 := by
  obtain ⟨⟨R, d, a, b, c, e⟩, ⟨gw, a2⟩, ⟨g4, a3⟩, ⟨g7, a4⟩, ⟨g8, a5⟩⟩ := w
  exact ⟨⟨R, d, a, b, k _ _ (by omega) (by omega) c, k _ _ (by omega) (by omega) e⟩, ⟨gw, k _ _ (by omega) (by omega) a2⟩, ⟨g4, k _ _ (by omega) (by omega) a3⟩, ⟨g7, k _ _ (by omega) (by omega) a4⟩, ⟨g8, k _ _ (by omega) (by omega) a5⟩⟩
theorem MX.k {B : Nat} {h h1 : GH} (w : MX B h) (k : ∀ (x : Nat) (e : GE), B + 16 ≤ x → x ≤ B + 20 → h.2 x = some e → h1.2 x = some e) : MX B h1 := by
  obtain ⟨⟨b6, b1⟩, ⟨b7, b2⟩, ⟨b8, b3⟩, ⟨b9, b4⟩, ⟨b0, b5⟩⟩ := w
  exact ⟨⟨b6, k _ _ (by omega) (by omega) b1⟩, ⟨b7, k _ _ (by omega) (by omega) b2⟩, ⟨b8, k _ _ (by omega) (by omega) b3⟩, ⟨b9, k _ _ (by omega) (by omega) b4⟩, ⟨b0, k _ _ (by omega) (by omega) b5⟩⟩
theorem fr_k {L : List Nat} {h h1 : GH} (f : Fr L h h1) {x : Nat} {e : GE} (hx : ∀ y ∈ L, NE x y ∧ NE x (y + 1)) (he : h.2 x = some e) : h1.2 x = some e := (f.2 x hx).trans he
end

theorem jp_constant (N : GN) (B : Nat) (h : GH) (hJ : JJ B h) (wf : ∀ (a : Nat) (e : GE), h.2 a = some e → a < h.1) (a : Int) (g_a : gX a) : JQ N B yX9_constant mX9_constant yX10_constant mX10_constant [.long (gJ a)] h := by
  obtain ⟨p, hp, T, fo, c, X, V, hp2, hC, hR⟩ := hJ
  exact jA hp2 2 290 (by omega) (by omega) wf hC hR _ (fun fa sy U hcs hT hX => sC_constant N h B p hp hp2 c X V fa sy T a g_a hcs hT) (fun h1 hf le fc pn rn hn hm hT ms hX => sM_constant N h1 (B + 35) p hp hp2 hf le fc pn rn hn c T a g_a hm hT ms)
theorem jp_variable (N : GN) (B : Nat) (h : GH) (hJ : JJ B h) (wf : ∀ (a : Nat) (e : GE), h.2 a = some e → a < h.1) (u : Int) (g_u : gW u) : JQ N B yX9_variable mX9_variable yX10_variable mX10_variable [.int (gI u)] h := by
  obtain ⟨p, hp, T, fo, c, X, V, hp2, hC, hR⟩ := hJ
  exact jA hp2 2 290 (by omega) (by omega) wf hC hR _ (fun fa sy U hcs hT hX => sC_variable N h B p hp hp2 c X V fa sy T u g_u hcs hT) (fun h1 hf le fc pn rn hn hm hT ms hX => sM_variable N h1 (B + 35) p hp hp2 hf le fc pn rn hn c T u g_u hm hT ms)
theorem jp_plus (N : GN) (B : Nat) (h : GH) (hJ : JJ B h) (wf : ∀ (a : Nat) (e : GE), h.2 a = some e → a < h.1) (a : Int) (g_a : gW a) (e : Int) (g_e : gX e) (i : Int) (g_i : gW i) (j : Int) (g_j : gW j) : JQ N B yX9_plus mX9_plus yX10_plus mX10_plus [.int (gI a), .long (gJ e), .int (gI i), .int (gI j)] h := by
  obtain ⟨p, hp, T, fo, c, X, V, hp2, hC, hR⟩ := hJ
  exact jA hp2 2 290 (by omega) (by omega) wf hC hR _ (fun fa sy U hcs hT hX => sC_plus N h B p hp hp2 c X V fa sy T a e i j g_a g_e g_i g_j hcs hT) (fun h1 hf le fc pn rn hn hm hT ms hX => sM_plus N h1 (B + 35) p hp hp2 hf le fc pn rn hn c T a e i j g_a g_e g_i g_j hm hT ms)
theorem jp_power (N : GN) (B : Nat) (h : GH) (hJ : JJ B h) (wf : ∀ (a : Nat) (e : GE), h.2 a = some e → a < h.1) (a : Int) (g_a : gW a) (n : Int) (g_n : gX n) (m : Int) (g_m : gW m) : JQ N B yX9_power mX9_power yX10_power mX10_power [.int (gI a), .long (gJ n), .int (gI m)] h := by
  obtain ⟨p, hp, T, fo, c, X, V, hp2, hC, hR⟩ := hJ
  exact jA hp2 2 290 (by omega) (by omega) wf hC hR _ (fun fa sy U hcs hT hX => sC_power N h B p hp hp2 c X V fa sy T a m n g_a g_m g_n hcs hT) (fun h1 hf le fc pn rn hn hm hT ms hX => sM_power N h1 (B + 35) p hp hp2 hf le fc pn rn hn c T a m n g_a g_m g_n hm hT ms)
theorem jp_take (N : GN) (B : Nat) (h : GH) (hJ : JJ B h) (wf : ∀ (a : Nat) (e : GE), h.2 a = some e → a < h.1) (i : Int) (g_i : gW i) : JQ N B yX9_take mX9_take yX10_take mX10_take [.int (gI i)] h := by
  obtain ⟨p, hp, T, fo, c, X, V, hp2, hC, hR⟩ := hJ
  exact jA hp2 2 290 (by omega) (by omega) wf hC hR _ (fun fa sy U hcs hT hX => sC_take N h B p hp hp2 c X V fa sy T fo U i g_i hcs hT hX) (fun h1 hf le fc pn rn hn hm hT ms hX => sM_take N h1 (B + 35) p hp hp2 hf le fc pn rn hn c T fo i g_i hm hT ms hX)
theorem jp_at (N : GN) (B : Nat) (h : GH) (hJ : JJ B h) (wf : ∀ (a : Nat) (e : GE), h.2 a = some e → a < h.1) (a : Int) (g_a : gW a) (i : Int) (g_i : gW i) (j : Int) (g_j : gW j) : JQ N B yX9_at mX9_at yX10_at mX10_at [.int (gI a), .int (gI i), .int (gI j)] h := by
  obtain ⟨p, hp, T, fo, c, X, V, hp2, hC, hR⟩ := hJ
  exact jB hp2 hC hR _ (fun fa sy U hcs hT hX => sC_at N h B p hp hp2 c X V fa sy T a i j g_a g_i g_j hcs hT) (fun hf le fc pn rn hn hm hT hX => sM_at N h (B + 35) p hp hp2 hf le fc pn rn hn c T a i j g_a g_i g_j hm hT)
theorem jp_degree (N : GN) (B : Nat) (h : GH) (hJ : JJ B h) (wf : ∀ (a : Nat) (e : GE), h.2 a = some e → a < h.1) (a : Int) (g_a : gW a) (w : Int) (g_w : gW w) : JQ N B yX9_degree mX9_degree yX10_degree mX10_degree [.int (gI a), .int (gI w)] h := by
  obtain ⟨p, hp, T, fo, c, X, V, hp2, hC, hR⟩ := hJ
  exact jB hp2 hC hR _ (fun fa sy U hcs hT hX => sC_degree N h B p hp hp2 c X V fa sy T a w g_a g_w hcs hT) (fun hf le fc pn rn hn hm hT hX => sM_degree N h (B + 35) p hp hp2 hf le fc pn rn hn c T a w g_a g_w hm hT)
theorem jp_value (N : GN) (B : Nat) (h : GH) (hJ : JJ B h) (wf : ∀ (a : Nat) (e : GE), h.2 a = some e → a < h.1) (a : Int) (g_a : gW a) (x : Int) (g_x : gX x) (y : Int) (g_y : gX y) : JQ N B yX9_value mX9_value yX10_value mX10_value [.int (gI a), .long (gJ x), .long (gJ y)] h := by
  obtain ⟨p, hp, T, fo, c, X, V, hp2, hC, hR⟩ := hJ
  exact jB hp2 hC hR _ (fun fa sy U hcs hT hX => sC_value N h B p hp hp2 c X V fa sy T a x y g_a g_x g_y hcs hT) (fun hf le fc pn rn hn hm hT hX => sM_value N h (B + 35) p hp hp2 hf le fc pn rn hn c T a x y g_a g_x g_y hm hT)
theorem jp_same (N : GN) (B : Nat) (h : GH) (hJ : JJ B h) (wf : ∀ (a : Nat) (e : GE), h.2 a = some e → a < h.1) (a : Int) (g_a : gW a) (b : Int) (g_b : gW b) : JQ N B yX9_same mX9_same yX10_same mX10_same [.int (gI a), .int (gI b)] h := by
  obtain ⟨p, hp, T, fo, c, X, V, hp2, hC, hR⟩ := hJ
  exact jB hp2 hC hR _ (fun fa sy U hcs hT hX => sC_same N h B p hp hp2 c X V fa sy T a b g_a g_b hcs hT) (fun hf le fc pn rn hn hm hT hX => sM_same N h (B + 35) p hp hp2 hf le fc pn rn hn c T a b g_a g_b hm hT)
theorem jp_factorOf (N : GN) (B : Nat) (h : GH) (hJ : JJ B h) (wf : ∀ (a : Nat) (e : GE), h.2 a = some e → a < h.1) (i : Int) (g_i : gW i) (w : Int) (g_w : gW w) : JQ N B yX9_factorOf mX9_factorOf yX10_factorOf mX10_factorOf [.int (gI i), .int (gI w)] h := by
  obtain ⟨p, hp, T, fo, c, X, V, hp2, hC, hR⟩ := hJ
  exact jB hp2 hC hR _ (fun fa sy U hcs hT hX => sC_factorOf N h B p hp hp2 sy fa fo U i w g_i g_w hcs.1 hX) (fun hf le fc pn rn hn hm hT hX => sM_factorOf N h (B + 35) p hp hp2 hf le fc pn rn hn c fo i w g_i g_w hm hX)
theorem jp_factorAt (N : GN) (B : Nat) (h : GH) (hJ : JJ B h) (wf : ∀ (a : Nat) (e : GE), h.2 a = some e → a < h.1) (i : Int) (g_i : gW i) (k : Int) (g_k : gW k) : JQ N B yX9_factorAt mX9_factorAt yX10_factorAt mX10_factorAt [.int (gI i), .int (gI k)] h := by
  obtain ⟨p, hp, T, fo, c, X, V, hp2, hC, hR⟩ := hJ
  exact jB hp2 hC hR _ (fun fa sy U hcs hT hX => sC_factorAt N h B p hp hp2 sy fa fo U i k g_i g_k hcs.1 hX) (fun hf le fc pn rn hn hm hT hX => sM_factorAt N h (B + 35) p hp hp2 hf le fc pn rn hn c fo i k g_i g_k hm hX)
theorem jp_part (N : GN) (B : Nat) (h : GH) (hJ : JJ B h) (wf : ∀ (a : Nat) (e : GE), h.2 a = some e → a < h.1) (i : Int) (g_i : gW i) (w : Int) (g_w : gW w) : JQ N B yX9_part mX9_part yX10_part_ mX10_part_ [.int (gI i), .int (gI w)] h := by
  obtain ⟨p, hp, T, fo, c, X, V, hp2, hC, hR⟩ := hJ
  exact jB hp2 hC hR _ (fun fa sy U hcs hT hX => sC_part N h B p hp hp2 sy fa fo U i w g_i g_w hcs.1 hX) (fun hf le fc pn rn hn hm hT hX => sM_part N h (B + 35) p hp hp2 hf le fc pn rn hn c fo i w g_i g_w hm hX)
theorem jp_root (N : GN) (B : Nat) (h : GH) (hJ : JJ B h) (wf : ∀ (a : Nat) (e : GE), h.2 a = some e → a < h.1) (i : Int) (g_i : gW i) : JQ N B yX9_root mX9_root yX10_root mX10_root [.int (gI i)] h := by
  obtain ⟨p, hp, T, fo, c, X, V, hp2, hC, hR⟩ := hJ
  exact jB hp2 hC hR _ (fun fa sy U hcs hT hX => sC_root N h B p hp hp2 sy fa fo U i g_i hcs.1 hX) (fun hf le fc pn rn hn hm hT hX => sM_root N h (B + 35) p hp hp2 hf le fc pn rn hn c fo i g_i hm hX)
theorem jp_told (N : GN) (B : Nat) (h : GH) (hJ : JJ B h) (wf : ∀ (a : Nat) (e : GE), h.2 a = some e → a < h.1) (w : Int) (g_w : gW w) : JQ N B yX9_told mX9_told yX10_told mX10_told [.int (gI w)] h := by
  obtain ⟨p, hp, T, fo, c, X, V, hp2, hC, hR⟩ := hJ
  exact jB hp2 hC hR _ (fun fa sy U hcs hT hX => sC_told N h B p hp hp2 sy fa fo U w g_w hcs.1 hX) (fun hf le fc pn rn hn hm hT hX => sM_told N h (B + 35) p hp hp2 hf le fc pn rn hn c fo w g_w hm hX)
theorem jp_drop (N : GN) (B : Nat) (h : GH) (hJ : JJ B h) (wf : ∀ (a : Nat) (e : GE), h.2 a = some e → a < h.1) (a : Int) (g_a : gW a) : JQ N B yX9_drop mX9_drop yX10_drop mX10_drop [.int (gI a)] h := by
  obtain ⟨p, hp, T, fo, c, X, V, hp2, hC, hR⟩ := hJ
  obtain ⟨fa, sy, U1, U2, hcs, hT, hX, hy, hdj, hU1, hU2⟩ := hC.bd wf
  refine ⟨⟨_, hcs.1⟩, 0, 0, Nat.zero_le _, Nat.zero_le _, Sp.imp (sC_drop N h B p hp hp2 c X V fa sy T a g_a hcs hT) ?_⟩
  rintro v h1 ⟨fk, cs1, q⟩
  obtain ⟨hf, le, fc, pn, rn, hn, w1, mp, ms, mx, x1, x2, mf, d1, d2⟩ := hR.fk fk
  have gen : ∀ (h2 : GH) (T1 : PT p), CP hp B h1 T1 → Fr [B + 35 + 1] h1 h2 → MP hp (B + 35) h2 T1 → JJ B h2 := fun h2 T1 cp1 fr mp2 => by
    have k : ∀ (x : Nat) (e : GE), (x = B + 35 ∨ B + 35 + 3 ≤ x) → h1.2 x = some e → h2.2 x = some e := fun x e hx he => fr_k fr (fun y hy => by simp only [List.mem_cons, List.not_mem_nil, or_false] at hy; constructor <;> (unfold NE; omega)) he
    exact JJ.of hp2 (CWo.fk hX hy hdj fk cs1 cp1) (fr_un fr fr1b_in) ⟨hf, le, fc, pn, rn, hn, k _ _ (by omega) w1, mp2, ms.k (fun x e a b => k x e (by omega)), mx.k (fun x e a b => k x e (by omega)), k _ _ (by omega) x1, k _ _ (by omega) x2, mf.k (fun x e a b => k x e (by omega)), d1, d2⟩
  rcases q with ⟨⟨F, e⟩, hv, cp1⟩ | ⟨e, hv, cp1⟩
  · refine JO.of 1 ⟨_, w1⟩ hv (Sp.imp (sM_drop N h1 (B + 35) p hp hp2 hf le fc pn rn hn c T a g_a w1 mp) ?_)
    rintro v2 h2 ⟨fr, ⟨e2, hv2, mp2⟩ | ⟨e2, hv2, mp2⟩⟩
    · exact ⟨hv2, gen h2 _ cp1 fr mp2⟩
    · rw [e] at e2; cases e2
  · refine JO.of 0 ⟨_, w1⟩ hv (Sp.imp (sM_drop N h1 (B + 35) p hp hp2 hf le fc pn rn hn c T a g_a w1 mp) ?_)
    rintro v2 h2 ⟨fr, ⟨⟨F, e2⟩, hv2, mp2⟩ | ⟨e2, hv2, mp2⟩⟩
    · rw [e] at e2; cases e2
    · exact ⟨hv2, gen h2 _ cp1 fr mp2⟩
theorem jp_point (N : GN) (B : Nat) (h : GH) (hJ : JJ B h) (wf : ∀ (a : Nat) (e : GE), h.2 a = some e → a < h.1) (x : Int) (g_x : gX x) (y : Int) (g_y : gX y) : JQ N B yX9_point mX9_point yX10_point mX10_point [.long (gJ x), .long (gJ y)] h := by
  obtain ⟨p, hp, T, fo, c, X, V, hp2, hC, hR⟩ := hJ
  obtain ⟨fa, sy, U1, U2, hcs, hT, hX, hy, hdj, hU1, hU2⟩ := hC.bd wf
  refine ⟨⟨_, hcs.1⟩, 0, 0, Nat.zero_le _, Nat.zero_le _, Sp.imp (sC_point N h B p hp hp2 c X V fa sy T x y g_x g_y hcs hT) ?_⟩
  rintro v h1 ⟨fk, cp1, q⟩
  obtain ⟨hf, le, fc, pn, rn, hn, w1, mp, ms, mx, x1, x2, mf, d1, d2⟩ := hR.fk fk
  obtain ⟨gt, gn, m1, m2, m3⟩ := mp
  have hp1 := hp.1
  have gen : ∀ (h2 : GH) (c1 : Int) (X1 V1 : Int → Int), CSt p B h1 c1 X1 V1 fa sy → Fr [B + 35, B + 35 + 21] h1 h2 → h2.2 (B + 35 + 1) = h1.2 (B + 35 + 1) → h2.2 (B + 35) = some (mO (B + 35) p hf le fc pn rn hn c1) → h2.2 (B + 35 + 21) = some (aI 41 X1) → h2.2 (B + 35 + 22) = some (aI 41 V1) → (0 ≤ c1 ∧ c1 ≤ 41) → (∀ k : Int, 0 ≤ k → k < c1 → (0 ≤ X1 k ∧ X1 k < p) ∧ (0 ≤ V1 k ∧ V1 k < p)) → JJ B h2 := fun h2 c1 X1 V1 cs1 fr f1 ho y1 y2 b1 b2 => by
    have k : ∀ (x : Nat) (e : GE), (B + 35 + 2 ≤ x ∧ x ≤ B + 35 + 20) → h1.2 x = some e → h2.2 x = some e := fun x e hx he => fr_k fr (fun y hy => by simp only [List.mem_cons, List.not_mem_nil, or_false] at hy; constructor <;> (unfold NE; omega)) he
    exact JJ.of hp2 (CWo.fk hX hy hdj fk cs1 cp1) (fr_un fr fr2_in) ⟨hf, le, fc, pn, rn, hn, ho, ⟨gt, gn, f1.trans m1, k _ _ (by omega) m2, m3⟩, ms.k (fun x e a b => k x e (by omega)), mx.k (fun x e a b => k x e (by omega)), y1, y2, mf.k (fun x e a b => k x e (by omega)), b1, b2⟩
  rcases q with ⟨e, hv, cs1⟩ | ⟨e, e', hv, cs1⟩
  · refine JO.of (-1) ⟨_, w1⟩ hv (Sp.imp (sM_point N h1 (B + 35) p hp hp2 hf le fc pn rn hn c x y g_x g_y X V gt w1 m1 x1 x2 d1 (fun k a b => (d2 k a b).1)) ?_)
    rintro v2 h2 ⟨fr, f1, ⟨e2, hv2, ho, y1, y2⟩ | ⟨e2, e3, hv2, ho, y1, y2⟩⟩
    · exact ⟨hv2, gen h2 c X V cs1 fr f1 ho y1 y2 d1 d2⟩
    · rcases e with e | ⟨k, k0, k1, k2⟩
      · omega
      · exact absurd k2 (e3 k k0 k1)
  · refine JO.of (c + 1) ⟨_, w1⟩ hv (Sp.imp (sM_point N h1 (B + 35) p hp hp2 hf le fc pn rn hn c x y g_x g_y X V gt w1 m1 x1 x2 d1 (fun k a b => (d2 k a b).1)) ?_)
    rintro v2 h2 ⟨fr, f1, ⟨e2, hv2, ho, y1, y2⟩ | ⟨e2, e3, hv2, ho, y1, y2⟩⟩
    · rcases e2 with e2 | ⟨k, k0, k1, k2⟩
      · omega
      · exact absurd k2 (e' k k0 k1)
    · refine ⟨hv2, gen h2 (c + 1) _ _ cs1 fr f1 ho y1 y2 ⟨by omega, by omega⟩ (fun k k0 k1 => ?_)⟩
      have z1 := Int.emod_nonneg x (show (p : Int) ≠ 0 by omega)
      have z2 := Int.emod_lt_of_pos x (show (0 : Int) < p by omega)
      have z3 := Int.emod_nonneg y (show (p : Int) ≠ 0 by omega)
      have z4 := Int.emod_lt_of_pos y (show (0 : Int) < p by omega)
      by_cases kc : k = c
      · rw [kc, gup_s, gup_s]; exact ⟨⟨z1, z2⟩, z3, z4⟩
      · rw [gup_n _ _ kc, gup_n _ _ kc]; exact d2 k k0 (by omega)
theorem jp_interpolate (N : GN) (B : Nat) (h : GH) (hJ : JJ B h) (wf : ∀ (a : Nat) (e : GE), h.2 a = some e → a < h.1) : JQ N B yX9_interpolate mX9_interpolate yX10_interpolate mX10_interpolate [] h := by
  obtain ⟨p, hp, T, fo, c, X, V, hp2, hC, hR⟩ := hJ
  obtain ⟨fa, sy, U1, U2, hcs, hT, hX, hy, hdj, hU1, hU2⟩ := hC.bd wf
  refine ⟨⟨_, hcs.1⟩, 2, 290, by omega, by omega, Sp.imp (sC_interpolate N h B p hp hp2 c X V fa sy T hcs hT) ?_⟩
  rintro v h1 ⟨fk, w, T2, ou, hv, cs1, cp1⟩
  obtain ⟨hf, le, fc, pn, rn, hn, w1, mp, ms, mx, x1, x2, mf, d1, d2⟩ := hR.fk fk
  refine JO.of w ⟨_, w1⟩ hv (Sp.imp (sM_interpolate N h1 (B + 35) p hp hp2 hf le fc pn rn hn c T X V w1 mp ms x1 x2 d1 (fun k a b => (d2 k a b).1) (fun k a b => (d2 k a b).2)) ?_)
  rintro v2 h2 ⟨fr, ho, ms2, w', T2', ou', hv', mp2⟩
  obtain ⟨e1, e2⟩ := Ou_un ou ou'
  subst e1; subst e2
  have k : ∀ (x : Nat) (e : GE), B + 35 + 9 ≤ x → h1.2 x = some e → h2.2 x = some e := fun x e hx he => fr_k fr (fun y hy => by simp only [List.mem_cons, List.not_mem_nil, or_false] at hy; constructor <;> (unfold NE; omega)) he
  exact ⟨hv', JJ.of hp2 (CWo.fk hX hy hdj fk cs1 cp1) (fr_un fr fr5_in) ⟨hf, le, fc, pn, rn, hn, ho, mp2, ms2, mx.k (fun x e a b => k x e (by omega)), k _ _ (by omega) x1, k _ _ (by omega) x2, mf.k (fun x e a b => k x e (by omega)), by omega, fun k a b => by omega⟩⟩
theorem jp_prime (N : GN) (B : Nat) (h : GH) (hJ : JJ B h) (wf : ∀ (a : Nat) (e : GE), h.2 a = some e → a < h.1) (q : Int) (g_q : gW q) : JQ N B yX9_prime mX9_prime yX10_prime mX10_prime [.int (gI q)] h := by
  obtain ⟨p, hp, T, fo, c, X, V, hp2, hC, hR⟩ := hJ
  obtain ⟨fa, sy, U1, U2, hcs, hT, hX, hy, hdj, hU1, hU2⟩ := hC.bd wf
  refine ⟨⟨_, hcs.1⟩, 0, 0, Nat.zero_le _, Nat.zero_le _, Sp.imp (sC_prime N h B p hp hp2 c X V fa sy T fo U1 q g_q hcs hT hX) ?_⟩
  rintro v h1 (⟨nq, hv, rfl⟩ | ⟨gq, hv, fk, cont⟩)
  · obtain ⟨hf, le, fc, pn, rn, hn, w1, mp, ms, mx, x1, x2, mf, d1, d2⟩ := hR
    refine JO.of 0 ⟨_, w1⟩ hv (Sp.imp (sM_prime N h1 (B + 35) p hp hp2 hf le fc pn rn hn c T q g_q w1 mp) ?_)
    rintro v2 h2 (⟨gq, _⟩ | ⟨_, hv2, fr, ho, mp2⟩)
    · exact absurd gq nq
    · have k : ∀ (x : Nat) (e : GE), B + 35 + 2 ≤ x → h1.2 x = some e → h2.2 x = some e := fun x e hx he => fr_k fr (fun y hy => by simp only [List.mem_cons, List.not_mem_nil, or_false] at hy; constructor <;> (unfold NE; omega)) he
      exact ⟨hv2, JJ.of hp2 hC (fr_un fr fr1_in) ⟨hf, le, fc, pn, rn, hn, ho, mp2, ms.k (fun x e a b => k x e (by omega)), mx.k (fun x e a b => k x e (by omega)), k _ _ (by omega) x1, k _ _ (by omega) x2, mf.k (fun x e a b => k x e (by omega)), d1, d2⟩⟩
  · have hq := prm_of gq
    obtain ⟨cs1, cp1, fa1⟩ := cont hq
    have hC1 : CWo hq B h1 (fun _ => none) none 0 X V := ⟨fa, sy, U1, U2, cs1, cp1, fa1, sy_fk2 hy fk (fun x e hx hn hu => ⟨⟨by omega, Or.inr hn⟩, fun u1 => hdj x u1 hu⟩), hdj⟩
    obtain ⟨hf, le, fc, pn, rn, hn, w1, mp, ms, mx, x1, x2, mf, d1, d2⟩ := hR.fkU hU1 fk
    have q1 := gq.1
    have q2 := gq.2.1
    have eq : ((q.toNat : Nat) : Int) = q := Int.toNat_of_nonneg (by omega)
    refine JO.of 1 ⟨_, w1⟩ hv (Sp.imp (sM_prime N h1 (B + 35) p hp hp2 hf le fc pn rn hn c T q g_q w1 mp) ?_)
    rintro v2 h2 (⟨_, hv2, fr, ho, mp2⟩ | ⟨nq, _⟩)
    · have k : ∀ (x : Nat) (e : GE), B + 35 + 2 ≤ x → h1.2 x = some e → h2.2 x = some e := fun x e hx he => fr_k fr (fun y hy => by simp only [List.mem_cons, List.not_mem_nil, or_false] at hy; constructor <;> (unfold NE; omega)) he
      exact ⟨hv2, JJ.of (by omega) hC1 (fr_un fr fr1_in) ⟨0, le, 0, 0, 0, hn, by rw [eq]; exact ho, mp2 hq, ms.k (fun x e a b => k x e (by omega)), mx.k (fun x e a b => k x e (by omega)), k _ _ (by omega) x1, k _ _ (by omega) x2, mf.no hq le (fun x e a b => k x e (by omega)), by omega, fun k a b => by omega⟩⟩
    · exact absurd gq nq
theorem jp_factor (N : GN) (B : Nat) (h : GH) (hJ : JJ B h) (wf : ∀ (a : Nat) (e : GE), h.2 a = some e → a < h.1) (a : Int) (g_a : gW a) : JQ N B yX9_factor mX9_factor yX10_factor mX10_factor [.int (gI a)] h := by
  obtain ⟨p, hp, T, fo, c, X, V, hp2, hC, hR⟩ := hJ
  obtain ⟨fa, sy, U1, U2, hcs, hT, hX, hy, hdj, hU1, hU2⟩ := hC.bd wf
  refine ⟨⟨_, hcs.1⟩, 1680, 73700, Nat.le_refl _, Nat.le_refl _, Sp.imp (sC_factor N h B p hp hp2 c X V fa sy T fo U1 a g_a hcs hT hX) ?_⟩
  rintro v h1 ⟨fa1, fk, hfa, cs1, cp1, hv⟩
  have hC1 : CWo hp B h1 T (foF hp T fo a) c X V := ⟨fa1, sy, _, U2, cs1, cp1, hfa, sy_fk2 hy fk (fun x e hx hn hu => ⟨⟨by omega, Or.inr hn⟩, fun u1 => hdj x u1 hu⟩), fun x hx hu => by
    rcases hx with hx | hx
    · exact hdj x hx hu
    · have := (hU2 x hu).2; omega⟩
  have hR1 := hR.fkU hU1 fk
  have hR2 := hR1
  obtain ⟨hf, le, fc, pn, rn, hn, w1, mp, ms, mx, x1, x2, mf, d1, d2⟩ := hR2
  refine JO.of _ ⟨_, w1⟩ hv (Sp.imp (sM_factor N h1 (B + 35) p hp hp2 T fo c X V a g_a hR1) ?_)
  rintro v2 h2 ⟨hv2, rq, rw2⟩
  exact ⟨hv2, JJ.of hp2 hC1 ⟨rq.1, fun x hx => rq.2 x (by omega)⟩ rw2⟩
theorem jp_apply12 (N : GN) (B : Nat) (h : GH) (hJ : JJ B h) (wf : ∀ (a : Nat) (e : GE), h.2 a = some e → a < h.1) (a b : Int) (g_a : gW a) (g_b : gW b) : JQ N B yX9_apply mX9_apply yX10_apply mX10_apply [.int (gI 12), .int (gI a), .int (gI b)] h := by
  obtain ⟨p, hp, T, fo, c, X, V, hp2, hC, hR⟩ := hJ
  obtain ⟨fa, sy, U1, U2, hcs, hT, hX, hy, hdj, hU1, hU2⟩ := hC.bd wf
  refine ⟨⟨_, hcs.1⟩, 298, 13159, by omega, by omega, Sp.imp (sC_apply12 N h B p hp hp2 c X V fa sy T U2 a b g_a g_b hcs hT hy) ?_⟩
  rintro v h1 ⟨sy1, fk, hsy, w, T2, ou, hv, cs1, cp1⟩
  have hC1 : CWo hp B h1 T2 fo c X V := ⟨fa, sy1, U1, _, cs1, cp1, hX.fk fk (fun x e hx hn hu => ⟨⟨by omega, Or.inr hn⟩, fun u2 => hdj x hu u2⟩), hsy, fun x hu hx => by
    rcases hx with hx | hx
    · exact hdj x hu hx
    · have := (hU1 x hu).2; omega⟩
  obtain ⟨hf, le, fc, pn, rn, hn, w1, mp, ms, mx, x1, x2, mf, d1, d2⟩ := hR.fkU hU2 fk
  refine JO.of w ⟨_, w1⟩ hv (Sp.imp (sM_apply12 N h1 (B + 35) p hp hp2 hf le fc pn rn hn c T a b g_a g_b w1 mp ms) ?_)
  rintro v2 h2 ⟨fr, ms2, w', T2', ou', hv', mp2⟩
  obtain ⟨e1, e2⟩ := Ou_un ou ou'
  subst e1; subst e2
  exact ⟨hv', JJ.of hp2 hC1 (fr_un fr fr4_in) (RWo.up (T := T) w1 mx x1 x2 mf d1 d2 fr ms2 mp2)⟩
theorem jp_apply (N : GN) (B : Nat) (h : GH) (hJ : JJ B h) (wf : ∀ (a : Nat) (e : GE), h.2 a = some e → a < h.1) (k : Int) (g_k : gW k) (a : Int) (g_a : gW a) (b : Int) (g_b : gW b) : JQ N B yX9_apply mX9_apply yX10_apply mX10_apply [.int (gI k), .int (gI a), .int (gI b)] h := by
  rcases (show k = 0 ∨ k = 1 ∨ k = 2 ∨ k = 3 ∨ k = 4 ∨ k = 5 ∨ k = 6 ∨ k = 7 ∨ k = 8 ∨ k = 9 ∨ k = 10 ∨ k = 11 ∨ k = 12 ∨ k = 13 ∨ (k < 0 ∨ 13 < k) by omega) with rfl | rfl | rfl | rfl | rfl | rfl | rfl | rfl | rfl | rfl | rfl | rfl | rfl | rfl | hk
  · obtain ⟨p, hp, T, fo, c, X, V, hp2, hC, hR⟩ := hJ
    exact jA hp2 2 290 (by omega) (by omega) wf hC hR _ (fun fa sy U hcs hT hX => sC_apply0 N h B p hp hp2 c X V fa sy T a b g_a g_b hcs hT) (fun h1 hf le fc pn rn hn hm hT ms hX => sM_apply0 N h1 (B + 35) p hp hp2 hf le fc pn rn hn c T a b g_a g_b hm hT ms)
  · obtain ⟨p, hp, T, fo, c, X, V, hp2, hC, hR⟩ := hJ
    exact jA hp2 2 290 (by omega) (by omega) wf hC hR _ (fun fa sy U hcs hT hX => sC_apply1 N h B p hp hp2 c X V fa sy T a b g_a g_b hcs hT) (fun h1 hf le fc pn rn hn hm hT ms hX => sM_apply1 N h1 (B + 35) p hp hp2 hf le fc pn rn hn c T a b g_a g_b hm hT ms)
  · obtain ⟨p, hp, T, fo, c, X, V, hp2, hC, hR⟩ := hJ
    exact jA hp2 2 290 (by omega) (by omega) wf hC hR _ (fun fa sy U hcs hT hX => sC_apply2 N h B p hp hp2 c X V fa sy T a b g_a g_b hcs hT) (fun h1 hf le fc pn rn hn hm hT ms hX => sM_apply2 N h1 (B + 35) p hp hp2 hf le fc pn rn hn c T a b g_a g_b hm hT ms)
  · obtain ⟨p, hp, T, fo, c, X, V, hp2, hC, hR⟩ := hJ
    exact jA hp2 2 290 (by omega) (by omega) wf hC hR _ (fun fa sy U hcs hT hX => sC_apply3 N h B p hp hp2 c X V fa sy T a b g_a g_b hcs hT) (fun h1 hf le fc pn rn hn hm hT ms hX => sM_apply3 N h1 (B + 35) p hp hp2 hf le fc pn rn hn c T a b g_a g_b hm hT ms)
  · obtain ⟨p, hp, T, fo, c, X, V, hp2, hC, hR⟩ := hJ
    exact jA hp2 2 290 (by omega) (by omega) wf hC hR _ (fun fa sy U hcs hT hX => sC_apply4 N h B p hp hp2 c X V fa sy T a b g_a g_b hcs hT) (fun h1 hf le fc pn rn hn hm hT ms hX => sM_apply4 N h1 (B + 35) p hp hp2 hf le fc pn rn hn c T a b g_a g_b hm hT ms)
  · obtain ⟨p, hp, T, fo, c, X, V, hp2, hC, hR⟩ := hJ
    exact jA hp2 2 290 (by omega) (by omega) wf hC hR _ (fun fa sy U hcs hT hX => sC_apply5 N h B p hp hp2 c X V fa sy T a b g_a g_b hcs hT) (fun h1 hf le fc pn rn hn hm hT ms hX => sM_apply5 N h1 (B + 35) p hp hp2 hf le fc pn rn hn c T a b g_a g_b hm hT ms)
  · obtain ⟨p, hp, T, fo, c, X, V, hp2, hC, hR⟩ := hJ
    exact jA hp2 2 290 (by omega) (by omega) wf hC hR _ (fun fa sy U hcs hT hX => sC_apply6 N h B p hp hp2 c X V fa sy T a b g_a g_b hcs hT) (fun h1 hf le fc pn rn hn hm hT ms hX => sM_apply6 N h1 (B + 35) p hp hp2 hf le fc pn rn hn c T a b g_a g_b hm hT ms)
  · obtain ⟨p, hp, T, fo, c, X, V, hp2, hC, hR⟩ := hJ
    exact jA hp2 2 290 (by omega) (by omega) wf hC hR _ (fun fa sy U hcs hT hX => sC_apply7 N h B p hp hp2 c X V fa sy T a b g_a g_b hcs hT) (fun h1 hf le fc pn rn hn hm hT ms hX => sM_apply7 N h1 (B + 35) p hp hp2 hf le fc pn rn hn c T a b g_a g_b hm hT ms)
  · obtain ⟨p, hp, T, fo, c, X, V, hp2, hC, hR⟩ := hJ
    exact jA hp2 2 290 (by omega) (by omega) wf hC hR _ (fun fa sy U hcs hT hX => sC_apply8 N h B p hp hp2 c X V fa sy T a b g_a g_b hcs hT) (fun h1 hf le fc pn rn hn hm hT ms hX => sM_apply8 N h1 (B + 35) p hp hp2 hf le fc pn rn hn c T a b g_a g_b hm hT ms)
  · obtain ⟨p, hp, T, fo, c, X, V, hp2, hC, hR⟩ := hJ
    exact jA hp2 2 290 (by omega) (by omega) wf hC hR _ (fun fa sy U hcs hT hX => sC_apply9 N h B p hp hp2 c X V fa sy T a b g_a g_b hcs hT) (fun h1 hf le fc pn rn hn hm hT ms hX => sM_apply9 N h1 (B + 35) p hp hp2 hf le fc pn rn hn c T a b g_a g_b hm hT ms)
  · obtain ⟨p, hp, T, fo, c, X, V, hp2, hC, hR⟩ := hJ
    exact jA hp2 2 290 (by omega) (by omega) wf hC hR _ (fun fa sy U hcs hT hX => sC_apply10 N h B p hp hp2 c X V fa sy T a b g_a g_b hcs hT) (fun h1 hf le fc pn rn hn hm hT ms hX => sM_apply10 N h1 (B + 35) p hp hp2 hf le fc pn rn hn c T a b g_a g_b hm hT ms)
  · obtain ⟨p, hp, T, fo, c, X, V, hp2, hC, hR⟩ := hJ
    exact jA hp2 2 290 (by omega) (by omega) wf hC hR _ (fun fa sy U hcs hT hX => sC_apply11 N h B p hp hp2 c X V fa sy T a b g_a g_b hcs hT) (fun h1 hf le fc pn rn hn hm hT ms hX => sM_apply11 N h1 (B + 35) p hp hp2 hf le fc pn rn hn c T a b g_a g_b hm hT ms)
  · exact jp_apply12 N B h hJ wf a b g_a g_b
  · obtain ⟨p, hp, T, fo, c, X, V, hp2, hC, hR⟩ := hJ
    exact jA hp2 2 290 (by omega) (by omega) wf hC hR _ (fun fa sy U hcs hT hX => sC_apply13 N h B p hp hp2 c X V fa sy T a b g_a g_b hcs hT) (fun h1 hf le fc pn rn hn hm hT ms hX => sM_apply13 N h1 (B + 35) p hp hp2 hf le fc pn rn hn c T a b g_a g_b hm hT ms)
  · obtain ⟨p, hp, T, fo, c, X, V, hp2, hC, hR⟩ := hJ
    exact jA hp2 2 290 (by omega) (by omega) wf hC hR _ (fun fa sy U hcs hT hX => sC_applyB N h B p hp hp2 c X V fa sy T k a b g_k hk hcs hT) (fun h1 hf le fc pn rn hn hm hT ms hX => sM_applyB N h1 (B + 35) p hp hp2 hf le fc pn rn hn c T k a b g_k hk hm hT ms)
