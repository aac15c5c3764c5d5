section
variable {p : Nat}
theorem mwS (h : prm p) {F G : Pxy p} {gw g2 gb : Int → Int} {c i j : Int} (bF : PB h F) (bG : PB h G) (hG : NW G gb) (i0 : 0 ≤ i) (j0 : 0 ≤ j) (j1 : j ≤ 6) (hc : c = cy F j i) (hy : dY h F + dY h G ≤ 6) (H : mwI h F G (7 * i + j) gw) (hV : ∀ k, 0 ≤ k → k < 1500 → 0 ≤ gw k ∧ gw k < p) (hd : (c = 0 ∧ g2 = gw) ∨ (c ≠ 0 ∧ g2 = atL p gw gb c (7 * i + j) 287)) : mwI h F G (7 * i + j + 1) g2 ∧ ∀ k, 0 ≤ k → k < 1500 → 0 ≤ g2 k ∧ g2 k < p := by
  obtain ⟨j, rfl⟩ := Int.eq_ofNat_of_zero_le j0
  obtain ⟨i, rfl⟩ := Int.eq_ofNat_of_zero_le i0
  rcases hd with ⟨z, rfl⟩ | ⟨z, rfl⟩
  · refine ⟨mwI_z h (by omega) ?_ H, hV⟩
    rw [hc] at z
    have := (cy_0 h (by omega) (by omega)).mp z
    rw [Int.toNat_natCast, Int.toNat_natCast] at this
    exact this
  · refine ⟨mwI_st h (by omega) ?_, fun k k0 k1 => ?_⟩
    · have hn : letI := fR h; F j i ≠ 0 := fun e => z (by
        rw [hc]
        refine (cy_0 h (by omega) (by omega)).mpr ?_
        rw [Int.toNat_natCast, Int.toNat_natCast]; exact e)
      have hjd := bF.dg.2.1.1 j i hn
      have := atL_NW h (c := c) (j := j) (i := i) H hG bG (by omega)
      rw [hc, cy_zi] at this
      rw [hc]
      exact this
    · unfold atL
      split
      · exact em_in h _
      · exact hV k k0 k1
theorem mw_end (h : prm p) {F G : Pxy p} {g : Int → Int} (bF : PB h F) (H : mwI h F G 287 g) : NW (yml h F G) g := by
  unfold mwI at H
  rw [trw_e h bF] at H
  exact H
/-- degrees of a table in the reference's order, as far as t -/
def wI (g : Int → Int) (t dx dy : Int) : Prop := (∀ m, 0 ≤ m → m < t → g m ≠ 0 → m / 7 ≤ dx ∧ m % 7 ≤ dy) ∧ (dx = -1 ∨ ∃ m, 0 ≤ m ∧ m < t ∧ g m ≠ 0 ∧ m / 7 = dx) ∧ (dy = -1 ∨ ∃ m, 0 ≤ m ∧ m < t ∧ g m ≠ 0 ∧ m % 7 = dy)
theorem wI_0 (g : Int → Int) : wI g 0 (-1) (-1) := ⟨fun m m0 m1 => by omega, Or.inl rfl, Or.inl rfl⟩
theorem wI_z {g : Int → Int} {t dx dy : Int} (h : wI g t dx dy) (hz : g t = 0) : wI g (t + 1) dx dy := by
  obtain ⟨h1, h2, h3⟩ := h
  refine ⟨fun m m0 m1 hm => ?_, ?_, ?_⟩
  · rcases Int.lt_or_le m t with z | z
    · exact h1 m m0 z hm
    · exact absurd (by rw [show m = t by omega]; exact hz) hm
  · rcases h2 with z | ⟨m, m0, m1, m2⟩
    · exact Or.inl z
    · exact Or.inr ⟨m, m0, by omega, m2⟩
  · rcases h3 with z | ⟨m, m0, m1, m2⟩
    · exact Or.inl z
    · exact Or.inr ⟨m, m0, by omega, m2⟩
theorem wI_s {g : Int → Int} {t dx dy : Int} (h : wI g t dx dy) (ht : 0 ≤ t) (hz : g t ≠ 0) : wI g (t + 1) (if dx < t / 7 then t / 7 else dx) (if dy < t % 7 then t % 7 else dy) := by
  obtain ⟨h1, h2, h3⟩ := h
  refine ⟨fun m m0 m1 hm => ?_, ?_, ?_⟩
  · rcases Int.lt_or_le m t with z | z
    · have := h1 m m0 z hm
      constructor <;> split <;> omega
    · rw [show m = t by omega]
      constructor <;> split <;> omega
  · split
    · exact Or.inr ⟨t, ht, by omega, hz, rfl⟩
    · rcases h2 with z | ⟨m, m0, m1, m2⟩
      · omega
      · exact Or.inr ⟨m, m0, by omega, m2⟩
  · split
    · exact Or.inr ⟨t, ht, by omega, hz, rfl⟩
    · rcases h3 with z | ⟨m, m0, m1, m2⟩
      · omega
      · exact Or.inr ⟨m, m0, by omega, m2⟩
theorem wI_in {g : Int → Int} {t dx dy : Int} (h : wI g t dx dy) (ht : t ≤ 287) : (-1 ≤ dx ∧ dx ≤ 40) ∧ (-1 ≤ dy ∧ dy ≤ 6) := by
  obtain ⟨h1, h2, h3⟩ := h
  refine ⟨?_, ?_⟩
  · rcases h2 with z | ⟨m, m0, m1, m2⟩ <;> omega
  · rcases h3 with z | ⟨m, m0, m1, m2⟩ <;> omega
theorem wI_e (h : prm p) {F : Pxy p} {g : Int → Int} {dx dy : Int} (w : wI g 287 dx dy) (hn : NW F g) (hb : PB h F) : dX h F = dx ∧ dY h F = dy := by
  letI := fR h
  obtain ⟨h1, h2, h3⟩ := w
  have key : ∀ j i : Nat, F j i ≠ 0 → j ≤ 6 ∧ i ≤ 40 ∧ g (7 * (i : Int) + j) ≠ 0 := fun j i hji => by
    have z1 : j ≤ 6 := by
      rcases Nat.lt_or_ge 6 j with z | z
      · exact absurd (hb j i (Or.inl z)) hji
      · exact z
    have z2 : i ≤ 40 := by
      rcases Nat.lt_or_ge 40 i with z | z
      · exact absurd (hb j i (Or.inr z)) hji
      · exact z
    refine ⟨z1, z2, fun e => hji ?_⟩
    rw [← hn.zi h z1 z2, e]; exact zi_0 h
  have yek : ∀ m : Int, 0 ≤ m → m < 287 → g m ≠ 0 → F (m % 7).toNat (m / 7).toNat ≠ 0 := fun m a b e f => e (by
    rw [show m = 7 * (m / 7) + m % 7 by omega, hn (m % 7) (m / 7) (by omega) (by omega) (by omega) (by omega)]
    exact (cy_0 h (by omega) (by omega)).mpr f)
  refine ⟨dX_un h ⟨fun j i hji => ?_, ?_⟩, dY_un h ⟨fun j i hji => ?_, ?_⟩⟩
  · obtain ⟨a, b, c⟩ := key j i hji
    have := (h1 _ (by omega) (by omega) c).1
    omega
  · rcases h2 with z | ⟨m, m0, m1, m2, m3⟩
    · exact Or.inl z
    · exact Or.inr ⟨_, _, yek m m0 m1 m2, by omega⟩
  · obtain ⟨a, b, c⟩ := key j i hji
    have := (h1 _ (by omega) (by omega) c).2
    omega
  · rcases h3 with z | ⟨m, m0, m1, m2, m3⟩
    · exact Or.inl z
    · exact Or.inr ⟨_, _, yek m m0 m1 m2, by omega⟩
/-- slices in the reference's order -/
def wX (p : Nat) (g f : Int → Int) (n : Int) : Int → Int := fun m => if 0 ≤ m ∧ m < n then (g m + f m) % p else g m
theorem wX_0 (g f : Int → Int) : wX p g f 0 = g := funext fun m => by unfold wX; rw [if_neg (by omega)]
theorem wX_at (g f : Int → Int) (n : Int) : wX p g f n n = g n := by unfold wX; rw [if_neg (by omega)]
theorem wX_s (g f : Int → Int) {n : Int} (hn : 0 ≤ n) : gup (wX p g f n) n ((g n + f n) % p) = wX p g f (n + 1) := funext fun m => by
  unfold gup wX
  by_cases z : m = n
  · subst z; rw [if_pos rfl, if_pos (by omega)]
  · rw [if_neg z]
    by_cases y : 0 ≤ m ∧ m < n
    · rw [if_pos y, if_pos (by omega)]
    · rw [if_neg y, if_neg (by omega)]
theorem wX_NW (h : prm p) {A H : Pxy p} {g gn : Int → Int} {k : Int} (k0 : 0 ≤ k) (k1 : k ≤ 40) (hA : NW A gn) (hH : NW H g) (bA : PB h A) : NW (slx h A H k.toNat) (wX p g (fun m => gn (7 * k + m)) 7) := by
  refine NW_of h (fun m m0 m1 => ?_) (fun j i hj hi => ?_)
  · unfold wX
    split
    · exact em_in h _
    · exact hH.bd h m0 m1
  · unfold wX
    letI := fR h
    show _ = H j i + (if i = 0 then A j k.toNat else 0)
    by_cases z : i = 0
    · rw [if_pos (by omega), if_pos z, zi_mod, zi_add, hH.zi h hj hi, z]
      show H j 0 + zi h (gn (7 * k + (7 * ((0 : Nat) : Int) + j))) = _
      rw [show 7 * k + (7 * ((0 : Nat) : Int) + j) = 7 * ((k.toNat : Nat) : Int) + j by omega, hA.zi h hj (by omega)]
    · rw [if_neg (by omega), if_neg z, hH.zi h hj hi]; grind
def wY (p : Nat) (g f : Int → Int) (n : Int) : Int → Int := fun m => if 0 ≤ m ∧ m < 7 * n ∧ m % 7 = 0 then (g m + f m) % p else g m
theorem wY_0 (g f : Int → Int) : wY p g f 0 = g := funext fun m => by unfold wY; rw [if_neg (by omega)]
theorem wY_at (g f : Int → Int) (n : Int) : wY p g f n (7 * n) = g (7 * n) := by unfold wY; rw [if_neg (by omega)]
theorem wY_s (g f : Int → Int) {n : Int} (hn : 0 ≤ n) : gup (wY p g f n) (7 * n) ((g (7 * n) + f (7 * n)) % p) = wY p g f (n + 1) := funext fun m => by
  unfold gup wY
  by_cases z : m = 7 * n
  · subst z; rw [if_pos rfl, if_pos (by omega)]
  · rw [if_neg z]
    by_cases y : 0 ≤ m ∧ m < 7 * n ∧ m % 7 = 0
    · rw [if_pos y, if_pos (by omega)]
    · rw [if_neg y, if_neg (by omega)]
theorem wY_NW (h : prm p) {A H : Pxy p} {g gn : Int → Int} {k : Int} (k0 : 0 ≤ k) (k1 : k ≤ 6) (hA : NW A gn) (hH : NW H g) (bA : PB h A) : NW (sly h A H k.toNat) (wY p g (fun m => gn (m + k)) 41) := by
  refine NW_of h (fun m m0 m1 => ?_) (fun j i hj hi => ?_)
  · unfold wY
    split
    · exact em_in h _
    · exact hH.bd h m0 m1
  · unfold wY
    letI := fR h
    show _ = H j i + (if j = 0 then A k.toNat i else 0)
    by_cases z : j = 0
    · rw [if_pos (by omega), if_pos z, zi_mod, zi_add, hH.zi h hj hi, z]
      show H 0 i + zi h (gn (7 * (i : Int) + ((0 : Nat) : Int) + k)) = _
      rw [show 7 * (i : Int) + ((0 : Nat) : Int) + k = 7 * (i : Int) + ((k.toNat : Nat) : Int) by omega, hA.zi h (by omega) hi]
    · rw [if_neg (by omega), if_neg z, hH.zi h hj hi]; grind
/-- what derivative leaves -/
def wD (p : Nat) (f : Int → Int) (fx : Bool) (g : Int → Int) (t : Int) : Int → Int := fun m => if fx then (if 0 ≤ m ∧ m + 7 < t then ((m + 7) / 7) * f (m + 7) % p else g m) else (if 0 ≤ m ∧ m + 1 < t ∧ (m + 1) % 7 ≠ 0 then ((m + 1) % 7) * f (m + 1) % p else g m)
theorem wD_0 (f g : Int → Int) (fx : Bool) : wD p f fx g 0 = g := funext fun m => by
  unfold wD
  split
  · rw [if_neg (by omega)]
  · rw [if_neg (by omega)]
theorem wD_x (f g : Int → Int) {i j : Int} (hi : 0 < i) (hj : 0 ≤ j) (hj2 : j < 7) : gup (wD p f true g (7 * i + j)) (7 * (i - 1) + j) (i * f (7 * i + j) % p) = wD p f true g (7 * i + (j + 1)) := funext fun m => by
  unfold gup wD
  rw [if_pos rfl, if_pos rfl]
  by_cases z : m = 7 * (i - 1) + j
  · subst z; rw [if_pos rfl, if_pos (by omega), show 7 * (i - 1) + j + 7 = 7 * i + j by omega, show (7 * i + j) / 7 = i by omega]
  · rw [if_neg z]
    by_cases y : 0 ≤ m ∧ m + 7 < 7 * i + j
    · rw [if_pos y, if_pos (by omega)]
    · rw [if_neg y, if_neg (by omega)]
theorem wD_x0 (f g : Int → Int) {i j : Int} (hi : i = 0) (hj : 0 ≤ j) (hj2 : j < 7) : wD p f true g (7 * i + j) = wD p f true g (7 * i + (j + 1)) := funext fun m => by
  unfold wD
  rw [if_pos rfl, if_pos rfl, if_neg (by omega), if_neg (by omega)]
theorem wD_y (f g : Int → Int) {i j : Int} (hi : 0 ≤ i) (hj : 0 < j) (hj2 : j < 7) : gup (wD p f false g (7 * i + j)) (7 * i + j - 1) (j * f (7 * i + j) % p) = wD p f false g (7 * i + (j + 1)) := funext fun m => by
  unfold gup wD
  have ff : ¬ (false = true) := by decide
  rw [if_neg ff, if_neg ff]
  by_cases z : m = 7 * i + j - 1
  · subst z; rw [if_pos rfl, if_pos (by omega), show 7 * i + j - 1 + 1 = 7 * i + j by omega, show (7 * i + j) % 7 = j by omega]
  · rw [if_neg z]
    by_cases y : 0 ≤ m ∧ m + 1 < 7 * i + j ∧ (m + 1) % 7 ≠ 0
    · rw [if_pos y, if_pos (by omega)]
    · rw [if_neg y, if_neg (by omega)]
theorem wD_y0 (f g : Int → Int) {i j : Int} (hi : 0 ≤ i) (hj : j = 0) : wD p f false g (7 * i + j) = wD p f false g (7 * i + (j + 1)) := funext fun m => by
  unfold wD
  have ff : ¬ (false = true) := by decide
  rw [if_neg ff, if_neg ff]
  by_cases y : 0 ≤ m ∧ m + 1 < 7 * i + j ∧ (m + 1) % 7 ≠ 0
  · rw [if_pos y, if_pos (by omega)]
  · rw [if_neg y, if_neg (by omega)]
theorem wD_NWx (h : prm p) {F : Pxy p} {f g : Int → Int} (hF : NW F f) (bF : PB h F) (hg : NW (zF h) g) : NW (dvx h F) (wD p f true g 287) := by
  refine NW_of h (fun k k0 k1 => ?_) (fun j i hj hi => ?_)
  · unfold wD
    rw [if_pos rfl]
    split
    · exact em_in h _
    · exact hg.bd h k0 k1
  · unfold wD
    rw [if_pos rfl]
    letI := fR h
    show _ = zi h ((i : Int) + 1) * F j (i + 1)
    by_cases z : 7 * (i : Int) + j + 7 < 287
    · rw [if_pos ⟨by omega, z⟩, zi_mod, zi_mul, show (7 * (i : Int) + j + 7) / 7 = (i : Int) + 1 by omega, show 7 * (i : Int) + j + 7 = 7 * ((i + 1 : Nat) : Int) + j by omega, hF.zi h hj (by omega)]
    · rw [if_neg (by omega), hg.zi h hj hi, bF j (i + 1) (by omega)]
      show (0 : Fp p) = _
      grind
theorem wD_NWy (h : prm p) {F : Pxy p} {f g : Int → Int} (hF : NW F f) (bF : PB h F) (hg : NW (zF h) g) : NW (dvy h F) (wD p f false g 287) := by
  refine NW_of h (fun k k0 k1 => ?_) (fun j i hj hi => ?_)
  · unfold wD
    rw [if_neg (show ¬ (false = true) by decide)]
    split
    · exact em_in h _
    · exact hg.bd h k0 k1
  · unfold wD
    rw [if_neg (show ¬ (false = true) by decide)]
    letI := fR h
    show _ = zi h ((j : Int) + 1) * F (j + 1) i
    by_cases z : j = 6
    · rw [if_neg (by omega), hg.zi h hj hi, bF (j + 1) i (by omega)]
      show (0 : Fp p) = _
      grind
    · rw [if_pos (by omega), zi_mod, zi_mul, show (7 * (i : Int) + j + 1) % 7 = (j : Int) + 1 by omega, show 7 * (i : Int) + j + 1 = 7 * (i : Int) + ((j + 1 : Nat) : Int) by omega, hF.zi h (by omega) hi]
end
theorem MP_at {p : Nat} {hp : prm p} {T : PT p} {gt gn : Int → Int} (w3 : ∀ k : Int, 0 ≤ k → k < 100 → (T k.toNat = none ∧ gt k = 0) ∨ (∃ F, T k.toNat = some F ∧ gt k = 1 ∧ PB hp F ∧ NW F (fun m => gn (287 * k + m)))) {a : Int} (h0 : 0 ≤ a) (h1 : a < 100) {F : Pxy p} (e : T a.toNat = some F) : PB hp F ∧ NW F (fun m => gn (287 * a + m)) := by
  rcases w3 a h0 h1 with ⟨z, _⟩ | ⟨G, z1, _, z2, z3⟩
  · rw [e] at z; exact absurd z (by simp)
  · rw [e] at z1
    have := Option.some.inj z1
    subst this
    exact ⟨z2, z3⟩
set_option maxHeartbeats 4000000 in
set_option maxRecDepth 100000 in
theorem sM_times (N : GN) (h : GH) (B p : Nat) (hp : prm p) (hp2 : p ≤ 65536) (hf le fc pn rn hn qn : Int) (T : PT p) (F G : Pxy p) (a b : Int) (a0 : 0 ≤ a) (a1 : a < 100) (ha : T a.toNat = some F) (b0 : 0 ≤ b) (b1 : b < 100) (hb : T b.toNat = some G) (hm : h.2 B = some (mO B p hf le fc pn rn hn qn)) (gm : Int → Int) (hT : MP hp B h T) (hw : MWA B h) (h4 : h.2 (B + 4) = some (aI 1500 gm)) : Sp N yX10_times mX10_times 0 0 [.ref (B), .int (gI (a)), .int (gI (b))] h (fun v h1 => Fr [B + 1, B + 3] h h1 ∧ h1.2 (B + 4) = some (aI 1500 gm) ∧ MWA B h1 ∧ ((mulC hp F G = none ∧ v = some (.int (gI (-4))) ∧ MP hp B h1 T) ∨ (∃ H w, mulC hp F G = some H ∧ isK T w ∧ v = some (.int (gI w)) ∧ MP hp B h1 (putT T w H)))) := by
  refine Sp.of (by decide) rfl rfl (Nat.le_of_ble_eq_true rfl) ?_
  show Go N mX10_times _ 0 0 h 0 [(0, .ref (B)), (1, .int (gI (a))), (2, .int (gI (b)))] []
  have hp1 := hp.1
  have ne0 : NE (B) (B + 1) := by unfold NE; omega
  have ne1 : NE (B) (B + 2) := by unfold NE; omega
  have ne2 : NE (B) (B + 3) := by unfold NE; omega
  have ne3 : NE (B) (B + 4) := by unfold NE; omega
  have ne4 : NE (B + 1) (B + 2) := by unfold NE; omega
  have ne5 : NE (B + 1) (B + 3) := by unfold NE; omega
  have ne6 : NE (B + 1) (B + 4) := by unfold NE; omega
  have ne7 : NE (B + 2) (B + 3) := by unfold NE; omega
  have ne8 : NE (B + 2) (B + 4) := by unfold NE; omega
  have ne9 : NE (B + 3) (B + 4) := by unfold NE; omega
  have hT0 := hT
  obtain ⟨gt, gn, w1, w2, w3⟩ := hT0
  obtain ⟨hB, hN⟩ := MP_at w3 a0 a1 ha
  obtain ⟨hC, hNb⟩ := MP_at w3 b0 b1 hb
  have hdF := hB.dg.2.2
  have hdG := hC.dg.2.2
  refine g_aload_n 0 dX10_times_0 rfl ?_
  refine g_callV (nc2 := 0) (ns2 := 0) (ci := 10) (As := []) (st := []) rfl dX10_times_1 okX10_clear lX10_107 itX10_clear seX10_clear rfl hm (by decide) (by decide) rfl (Nat.le_of_ble_eq_true rfl) (sM_clear N _ B p hp hp2 hf le fc pn rn hn qn (gm) hm hw h4) (by omega) (by omega) (fun v1 hc1 q1 => ?_)
  obtain ⟨rfl, frc2, rn2_0, rn2_1⟩ := q1
  have fk3_0 : hc1.2 (B) = some (mO B ((p : Int)) (hf) (le) (fc) (pn) (rn) (hn) (qn)) := Fr.at0 frc2 (Ni.c ⟨ne2, ne3⟩ (Ni.n _)) hm
  have fk3_1 : hc1.2 (B + 2) = some (aI 28700 (gn)) := Fr.at0 frc2 (Ni.c ⟨ne7, ne8⟩ (Ni.n _)) w2
  have rk3_0 : MP hp B hc1 (T) := (hT).fr frc2 (Ni.c ⟨ne5, ne6⟩ (Ni.n _)) (Ni.c ⟨ne7, ne8⟩ (Ni.n _))
  have fr3 : Fr [B + 1, B + 3] h hc1 := ((Fr.rf [B + 1, B + 3] h)).tr ((frc2).mo (sub_c (List.Mem.tail _ (List.Mem.head _)) sub_n))
  refine Go.nf (h' := hc1) (st' := []) rfl rfl (Nat.le_refl _) (Nat.le_refl _) ?_
  refine g_aload_n 0 dX10_times_4 rfl ?_
  refine g_iload_n 1 dX10_times_5 rfl ?_
  refine g_callV (nc2 := 0) (ns2 := 0) (ci := 10) (As := [.int (gI (a))]) (st := []) rfl dX10_times_6 okX10_isNought lX10_157 itX10_isNought seX10_isNought rfl fk3_0 (by decide) (by decide) rfl (Nat.le_of_ble_eq_true rfl) (sM_isNought N _ B p hp hp2 hf le fc pn rn hn qn T F a a0 a1 ha fk3_0 rk3_0) (by omega) (by omega) (fun v4 hc4 q4 => ?_)
  obtain ⟨hq5, rfl⟩ := q4
  refine Go.nf (h' := hc1) (st' := [.int (gI (if dX hp F < 0 then 1 else 0))]) hq5 rfl (Nat.le_refl _) (Nat.le_refl _) ?_
  refine g_if_ne (tgt := 105) dX10_times_9 rfl (by first | (unfold gW; omega) | (unfold gW; split <;> omega)) (fun c6 => ?_) (fun c6 => ?_)
  · skip
    have hnF : dX hp F < 0 := by
      by_cases z : dX hp F < 0
      · exact z
      · rw [if_neg z] at c6; omega
    clear c6
    refine g_aload_n 0 dX10_times_105 rfl ?_
    refine g_callV (nc2 := 0) (ns2 := 0) (ci := 10) (As := []) (st := []) rfl dX10_times_106 okX10_keep lX10_114 itX10_keep seX10_keep rfl fk3_0 (by decide) (by decide) rfl (Nat.le_of_ble_eq_true rfl) (sM_keep N _ B p hp hp2 hf le fc pn rn hn qn T (zF hp) fk3_0 rk3_0 rn2_1) (by omega) (by omega) (fun v7 hc7 q7 => ?_)
    obtain ⟨frc8, w8, hK8, rfl, mp8⟩ := q7
    have fk9_0 : hc7.2 (B) = some (mO B ((p : Int)) (hf) (le) (fc) (pn) (rn) (hn) (qn)) := Fr.at0 frc8 (Ni.c ⟨ne0, ne1⟩ (Ni.n _)) fk3_0
    have fk9_2 : hc7.2 (B + 4) = some (aI 1500 (gm)) := Fr.at0 frc8 (Ni.c ⟨(ne6).s, (ne8).s⟩ (Ni.n _)) rn2_0
    have rk9_1 : MW hp B hc7 (zF hp) := (rn2_1).fr frc8 (Ni.c ⟨(ne5).s, (ne7).s⟩ (Ni.n _))
    have fr9 : Fr [B + 1, B + 3] h hc7 := (fr3).tr ((frc8).mo (sub_c (List.Mem.head _) sub_n))
    refine Go.nf (h' := hc7) (st' := [.int (gI (w8))]) rfl rfl (Nat.le_refl _) (Nat.le_refl _) ?_
    exact g_iret dX10_times_109 rfl ⟨fr9, fk9_2, (rk9_1).a, Or.inr ⟨zF hp, w8, by unfold mulC; rw [if_pos (by omega)], hK8, rfl, mp8⟩⟩
  · skip
    have hnF : ¬ dX hp F < 0 := fun z => by rw [if_pos z] at c6; omega
    clear c6
    refine g_aload_n 0 dX10_times_12 rfl ?_
    refine g_iload_n 2 dX10_times_13 rfl ?_
    refine g_callV (nc2 := 0) (ns2 := 0) (ci := 10) (As := [.int (gI (b))]) (st := []) rfl dX10_times_14 okX10_isNought lX10_157 itX10_isNought seX10_isNought rfl fk3_0 (by decide) (by decide) rfl (Nat.le_of_ble_eq_true rfl) (sM_isNought N _ B p hp hp2 hf le fc pn rn hn qn T G b b0 b1 hb fk3_0 rk3_0) (by omega) (by omega) (fun v10 hc10 q10 => ?_)
    obtain ⟨hq11, rfl⟩ := q10
    refine Go.nf (h' := hc1) (st' := [.int (gI (if dX hp G < 0 then 1 else 0))]) hq11 rfl (Nat.le_refl _) (Nat.le_refl _) ?_
    refine g_if_ne (tgt := 105) dX10_times_17 rfl (by first | (unfold gW; omega) | (unfold gW; split <;> omega)) (fun c12 => ?_) (fun c12 => ?_)
    · skip
      have hnG : dX hp G < 0 := by
        by_cases z : dX hp G < 0
        · exact z
        · rw [if_neg z] at c12; omega
      clear c12
      refine g_aload_n 0 dX10_times_105 rfl ?_
      refine g_callV (nc2 := 0) (ns2 := 0) (ci := 10) (As := []) (st := []) rfl dX10_times_106 okX10_keep lX10_114 itX10_keep seX10_keep rfl fk3_0 (by decide) (by decide) rfl (Nat.le_of_ble_eq_true rfl) (sM_keep N _ B p hp hp2 hf le fc pn rn hn qn T (zF hp) fk3_0 rk3_0 rn2_1) (by omega) (by omega) (fun v13 hc13 q13 => ?_)
      obtain ⟨frc14, w14, hK14, rfl, mp14⟩ := q13
      have fk15_0 : hc13.2 (B) = some (mO B ((p : Int)) (hf) (le) (fc) (pn) (rn) (hn) (qn)) := Fr.at0 frc14 (Ni.c ⟨ne0, ne1⟩ (Ni.n _)) fk3_0
      have fk15_2 : hc13.2 (B + 4) = some (aI 1500 (gm)) := Fr.at0 frc14 (Ni.c ⟨(ne6).s, (ne8).s⟩ (Ni.n _)) rn2_0
      have rk15_1 : MW hp B hc13 (zF hp) := (rn2_1).fr frc14 (Ni.c ⟨(ne5).s, (ne7).s⟩ (Ni.n _))
      have fr15 : Fr [B + 1, B + 3] h hc13 := (fr3).tr ((frc14).mo (sub_c (List.Mem.head _) sub_n))
      refine Go.nf (h' := hc13) (st' := [.int (gI (w14))]) rfl rfl (Nat.le_refl _) (Nat.le_refl _) ?_
      exact g_iret dX10_times_109 rfl ⟨fr15, fk15_2, (rk15_1).a, Or.inr ⟨zF hp, w14, by unfold mulC; rw [if_pos (by omega)], hK14, rfl, mp14⟩⟩
    · skip
      have hnG : ¬ dX hp G < 0 := fun z => by rw [if_pos z] at c12; omega
      clear c12
      refine g_aload_n 0 dX10_times_20 rfl ?_
      refine g_iload_n 1 dX10_times_21 rfl ?_
      refine g_callV (nc2 := 0) (ns2 := 0) (ci := 10) (As := [.int (gI (a))]) (st := []) rfl dX10_times_22 okX10_degreeX lX10_154 itX10_degreeX seX10_degreeX rfl fk3_0 (by decide) (by decide) rfl (Nat.le_of_ble_eq_true rfl) (sM_degreeX N _ B p hp hp2 hf le fc pn rn hn qn T F a a0 a1 ha fk3_0 rk3_0) (by omega) (by omega) (fun v16 hc16 q16 => ?_)
      obtain ⟨hq17, rfl⟩ := q16
      refine Go.nf (h' := hc1) (st' := [.int (gI (dX hp F))]) hq17 rfl (Nat.le_refl _) (Nat.le_refl _) ?_
      refine g_aload_n 0 dX10_times_25 rfl ?_
      refine g_iload_n 2 dX10_times_26 rfl ?_
      refine g_callV (nc2 := 0) (ns2 := 0) (ci := 10) (As := [.int (gI (b))]) (st := [.int (gI (dX hp F))]) rfl dX10_times_27 okX10_degreeX lX10_154 itX10_degreeX seX10_degreeX rfl fk3_0 (by decide) (by decide) rfl (Nat.le_of_ble_eq_true rfl) (sM_degreeX N _ B p hp hp2 hf le fc pn rn hn qn T G b b0 b1 hb fk3_0 rk3_0) (by omega) (by omega) (fun v18 hc18 q18 => ?_)
      obtain ⟨hq19, rfl⟩ := q18
      refine Go.nf (h' := hc1) (st' := [.int (gI (dX hp G)), .int (gI (dX hp F))]) hq19 rfl (Nat.le_refl _) (Nat.le_refl _) ?_
      refine g_iadd dX10_times_30 ?_
      refine g_bipush dX10_times_31 (by decide) ?_
      refine g_icmp_gt (tgt := 52) dX10_times_33 rfl (by first | (unfold gW; omega) | (unfold gW; split <;> omega)) (by first | (unfold gW; omega) | (unfold gW; split <;> omega)) (fun c20 => ?_) (fun c20 => ?_)
      · skip
        refine g_bipush dX10_times_52 (by decide) ?_
        exact g_iret dX10_times_54 rfl ⟨fr3, rn2_0, (rn2_1).a, Or.inl ⟨by unfold mulC; rw [if_neg (by omega), if_pos (by omega)], rfl, rk3_0⟩⟩
      · skip
        refine g_aload_n 0 dX10_times_36 rfl ?_
        refine g_iload_n 1 dX10_times_37 rfl ?_
        refine g_callV (nc2 := 0) (ns2 := 0) (ci := 10) (As := [.int (gI (a))]) (st := []) rfl dX10_times_38 okX10_degreeY lX10_103 itX10_degreeY seX10_degreeY rfl fk3_0 (by decide) (by decide) rfl (Nat.le_of_ble_eq_true rfl) (sM_degreeY N _ B p hp hp2 hf le fc pn rn hn qn T F a a0 a1 ha fk3_0 rk3_0) (by omega) (by omega) (fun v21 hc21 q21 => ?_)
        obtain ⟨hq22, rfl⟩ := q21
        refine Go.nf (h' := hc1) (st' := [.int (gI (dY hp F))]) hq22 rfl (Nat.le_refl _) (Nat.le_refl _) ?_
        refine g_aload_n 0 dX10_times_41 rfl ?_
        refine g_iload_n 2 dX10_times_42 rfl ?_
        refine g_callV (nc2 := 0) (ns2 := 0) (ci := 10) (As := [.int (gI (b))]) (st := [.int (gI (dY hp F))]) rfl dX10_times_43 okX10_degreeY lX10_103 itX10_degreeY seX10_degreeY rfl fk3_0 (by decide) (by decide) rfl (Nat.le_of_ble_eq_true rfl) (sM_degreeY N _ B p hp hp2 hf le fc pn rn hn qn T G b b0 b1 hb fk3_0 rk3_0) (by omega) (by omega) (fun v23 hc23 q23 => ?_)
        obtain ⟨hq24, rfl⟩ := q23
        refine Go.nf (h' := hc1) (st' := [.int (gI (dY hp G)), .int (gI (dY hp F))]) hq24 rfl (Nat.le_refl _) (Nat.le_refl _) ?_
        refine g_iadd dX10_times_46 ?_
        refine g_bipush dX10_times_47 (by decide) ?_
        refine g_icmp_le (tgt := 55) dX10_times_49 rfl (by first | (unfold gW; omega) | (unfold gW; split <;> omega)) (by first | (unfold gW; omega) | (unfold gW; split <;> omega)) (fun c25 => ?_) (fun c25 => ?_)
        · skip
          refine g_iconst dX10_times_55 ?_
          refine g_istore_n (ls2 := [(3, .int (gI (0))), (0, .ref (B)), (1, .int (gI (a))), (2, .int (gI (b)))]) dX10_times_56 rfl (by decide) rfl ?_
          obtain ⟨zB, gz, z3, zN, zV⟩ := rn2_1
          have li : ∀ (kk : Nat) (i : Int) (gw : Int → Int) (hli : GH), kk = (41 - i).toNat → Fr [B + 1, B + 3] h hli → hli.2 (B + 2) = some (aI 28700 (gn)) → hli.2 (B + 4) = some (aI 1500 (gm)) → hli.2 (B + 3) = some (aI 1500 (gw)) → MP hp B hli (T) → (0 ≤ i) → (i ≤ 41) → (mwI hp F G (7 * i) gw ∧ ∀ k, 0 ≤ k → k < 1500 → 0 ≤ gw k ∧ gw k < p) → Go N mX10_times (fun v h1 => Fr [B + 1, B + 3] h h1 ∧ h1.2 (B + 4) = some (aI 1500 gm) ∧ MWA B h1 ∧ ((mulC hp F G = none ∧ v = some (.int (gI (-4))) ∧ MP hp B h1 T) ∨ (∃ H w, mulC hp F G = some H ∧ isK T w ∧ v = some (.int (gI w)) ∧ MP hp B h1 (putT T w H)))) 0 0 hli 57 [(3, .int (gI (i))), (0, .ref (B)), (1, .int (gI (a))), (2, .int (gI (b)))] [] := by
            refine Go.ind (fun kk ih_li => ?_)
            intro i gw hli hkk_li fr_li cf_li_0 cf_li_1 cf_li_2 cr_li_0 hi0 hi1 hI
            have cg_li_0 : hli.2 (B) = some (mO B ((p : Int)) (hf) (le) (fc) (pn) (rn) (hn) (qn)) := Fr.at0 fr_li (Ni.c ⟨ne0, ne1⟩ (Ni.c ⟨ne2, ne3⟩ (Ni.n _))) hm
            refine g_iload_n 0 dX10_times_57 rfl ?_
            refine g_bipush dX10_times_58 (by decide) ?_
            refine g_icmp_gt (tgt := 105) dX10_times_60 rfl (by first | (unfold gW; omega) | (unfold gW; split <;> omega)) (by first | (unfold gW; omega) | (unfold gW; split <;> omega)) (fun c126 => ?_) (fun c126 => ?_)
            · skip
              have hi9 : i = 41 := by omega
              rw [hi9] at hI
              have mw127 : MW hp B hli (yml hp F G) := ⟨yml_PB hp hB hC (by omega) (by omega), _, cf_li_2, mw_end hp hB hI.1, hI.2⟩
              refine g_aload_n 1 dX10_times_105 rfl ?_
              refine g_callV (nc2 := 0) (ns2 := 0) (ci := 10) (As := []) (st := []) rfl dX10_times_106 okX10_keep lX10_114 itX10_keep seX10_keep rfl cg_li_0 (by decide) (by decide) rfl (Nat.le_of_ble_eq_true rfl) (sM_keep N _ B p hp hp2 hf le fc pn rn hn qn T (yml hp F G) cg_li_0 cr_li_0 mw127) (by omega) (by omega) (fun v128 hc128 q128 => ?_)
              obtain ⟨frc129, w129, hK129, rfl, mp129⟩ := q128
              have fk130_0 : hc128.2 (B) = some (mO B ((p : Int)) (hf) (le) (fc) (pn) (rn) (hn) (qn)) := Fr.at0 frc129 (Ni.c ⟨ne0, ne1⟩ (Ni.n _)) cg_li_0
              have fk130_2 : hc128.2 (B + 4) = some (aI 1500 (gm)) := Fr.at0 frc129 (Ni.c ⟨(ne6).s, (ne8).s⟩ (Ni.n _)) cf_li_1
              have rk130_1 : MW hp B hc128 (yml hp F G) := (mw127).fr frc129 (Ni.c ⟨(ne5).s, (ne7).s⟩ (Ni.n _))
              have fr130 : Fr [B + 1, B + 3] h hc128 := (fr_li).tr ((frc129).mo (sub_c (List.Mem.head _) sub_n))
              refine Go.nf (h' := hc128) (st' := [.int (gI (w129))]) rfl rfl (Nat.le_refl _) (Nat.le_refl _) ?_
              exact g_iret dX10_times_109 rfl ⟨fr130, fk130_2, (rk130_1).a, Or.inr ⟨yml hp F G, w129, by unfold mulC; rw [if_neg (by omega), if_neg (by omega)], hK129, rfl, mp129⟩⟩
            · skip
              refine g_iconst dX10_times_63 ?_
              refine g_istore (ls2 := [(4, .int (gI (0))), (3, .int (gI (i))), (0, .ref (B)), (1, .int (gI (a))), (2, .int (gI (b)))]) dX10_times_64 (by decide) rfl ?_
              have lj : ∀ (kk : Nat) (j : Int) (gk : Int → Int) (hlj : GH), kk = (7 - j).toNat → Fr [B + 1, B + 3] h hlj → hlj.2 (B + 2) = some (aI 28700 (gn)) → hlj.2 (B + 4) = some (aI 1500 (gm)) → hlj.2 (B + 3) = some (aI 1500 (gk)) → MP hp B hlj (T) → (0 ≤ j) → (j ≤ 7) → (mwI hp F G (7 * i + j) gk) → (∀ k, 0 ≤ k → k < 1500 → 0 ≤ gk k ∧ gk k < p) → Go N mX10_times (fun v h1 => Fr [B + 1, B + 3] h h1 ∧ h1.2 (B + 4) = some (aI 1500 gm) ∧ MWA B h1 ∧ ((mulC hp F G = none ∧ v = some (.int (gI (-4))) ∧ MP hp B h1 T) ∨ (∃ H w, mulC hp F G = some H ∧ isK T w ∧ v = some (.int (gI w)) ∧ MP hp B h1 (putT T w H)))) 0 0 hlj 66 [(4, .int (gI (j))), (3, .int (gI (i))), (0, .ref (B)), (1, .int (gI (a))), (2, .int (gI (b)))] [] := by
                refine Go.ind (fun kk ih_lj => ?_)
                intro j gk hlj hkk_lj fr_lj cf_lj_0 cf_lj_1 cf_lj_2 cr_lj_0 hj0 hj1 hK1 hVV
                have cg_lj_0 : hlj.2 (B) = some (mO B ((p : Int)) (hf) (le) (fc) (pn) (rn) (hn) (qn)) := Fr.at0 fr_lj (Ni.c ⟨ne0, ne1⟩ (Ni.c ⟨ne2, ne3⟩ (Ni.n _))) hm
                have hK := And.intro hK1 hVV
                refine g_iload 0 dX10_times_66 rfl ?_
                refine g_bipush dX10_times_68 (by decide) ?_
                refine g_icmp_ge (tgt := 99) dX10_times_70 rfl (by first | (unfold gW; omega) | (unfold gW; split <;> omega)) (by first | (unfold gW; omega) | (unfold gW; split <;> omega)) (fun c231 => ?_) (fun c231 => ?_)
                · skip
                  refine g_iinc 1 (ls2 := [(3, .int (gI (i + 1))), (4, .int (gI (j))), (0, .ref (B)), (1, .int (gI (a))), (2, .int (gI (b)))]) dX10_times_99 rfl (by decide) rfl ?_
                  refine g_goto (tgt := 57) dX10_times_102 rfl ?_
                  refine Go.sub [0, 2, 3, 4] rfl ?_
                  exact ih_li _ (by omega) (i + 1) (gk) hlj rfl fr_lj cf_lj_0 cf_lj_1 cf_lj_2 cr_lj_0 (by omega) (by omega) (⟨by rw [show 7 * (i + 1) = 7 * i + j by omega]; exact hK1, hVV⟩)
                · skip
                  refine g_aload_n 2 dX10_times_73 rfl ?_
                  refine g_aload_n 2 dX10_times_74 rfl ?_
                  refine g_getf 2 dX10_times_75 kX10 (by decide) fX10_13 cg_lj_0 rfl ?_
                  refine g_iload_n 3 dX10_times_78 rfl ?_
                  refine g_iload_n 1 dX10_times_79 rfl ?_
                  refine g_iload 0 dX10_times_80 rfl ?_
                  refine g_callS (nc2 := 0) (ns2 := 0) (As := [.int (gI (a)), .int (gI (i)), .int (gI (j))]) (st := [.ref (B + 2), .ref (B)]) rfl dX10_times_82 okX10_cellOf lX10_99 stX10_cellOf (by decide) (by decide) rfl (Nat.le_of_ble_eq_true rfl) (sM_cellOf N _ (a) (i) (j)) (by omega) (by omega) (fun v232 hc232 q232 => ?_)
                  obtain ⟨hq233, rfl⟩ := q232
                  refine Go.nf (h' := hlj) (st' := [.int (gI (287 * (a) + 7 * (i) + (j))), .ref (B + 2), .ref (B)]) hq233 rfl (Nat.le_refl _) (Nat.le_refl _) ?_
                  refine g_iaload dX10_times_85 cf_lj_0 (by omega) (by omega) (by omega) ?_
                  have hgv : gn (287 * a + 7 * i + j) = cy F j i := by rw [Int.add_assoc]; exact hN j i hj0 (by omega) hi0 (by omega)
                  rw [hgv]
                  have hcb := cy_in hp F j i
                  refine g_iload_n 1 dX10_times_86 rfl ?_
                  refine g_iload 0 dX10_times_87 rfl ?_
                  refine g_iload_n 4 dX10_times_89 rfl ?_
                  refine g_callV (nc2 := 0) (ns2 := 0) (ci := 10) (As := [.int (gI (cy F j i)), .int (gI (i)), .int (gI (j)), .int (gI (b))]) (st := []) rfl dX10_times_90 okX10_addTimes lX10_160 itX10_addTimes seX10_addTimes rfl cg_lj_0 (by decide) (by decide) rfl (Nat.le_of_ble_eq_true rfl) (sM_addTimes N _ B p hp hp2 hf le fc pn rn hn qn (cy F j i) (i) (j) (b) (by omega) (by omega) (by omega) (by omega) (by omega) (G) (gk) gn cg_lj_0 cf_lj_2 cf_lj_0 hNb hVV (gm) cf_lj_1) (by omega) (by omega) (fun v234 hc234 q234 => ?_)
                  obtain ⟨rfl, frc235, h4_235, hd235⟩ := q234
                  have fk236_0 : hc234.2 (B) = some (mO B ((p : Int)) (hf) (le) (fc) (pn) (rn) (hn) (qn)) := Fr.at0 frc235 (Ni.c ⟨ne2, ne3⟩ (Ni.n _)) cg_lj_0
                  have fk236_1 : hc234.2 (B + 2) = some (aI 28700 (gn)) := Fr.at0 frc235 (Ni.c ⟨ne7, ne8⟩ (Ni.n _)) cf_lj_0
                  have rk236_0 : MP hp B hc234 (T) := (cr_lj_0).fr frc235 (Ni.c ⟨ne5, ne6⟩ (Ni.n _)) (Ni.c ⟨ne7, ne8⟩ (Ni.n _))
                  have fr236 : Fr [B + 1, B + 3] h hc234 := (fr_lj).tr ((frc235).mo (sub_c (List.Mem.tail _ (List.Mem.head _)) sub_n))
                  obtain ⟨g2_235, hgd235, h3_235⟩ : ∃ g2 : Int → Int, ((cy F j i = 0 ∧ g2 = gk) ∨ (cy F j i ≠ 0 ∧ g2 = atL p (gk) (fun m => gn (287 * b + m)) (cy F j i) (7 * (i) + (j)) 287)) ∧ hc234.2 (B + 3) = some (aI 1500 g2) := by
                    rcases hd235 with ⟨z1, z2⟩ | ⟨z1, z2⟩
                    · exact ⟨_, Or.inl ⟨z1, rfl⟩, z2⟩
                    · exact ⟨_, Or.inr ⟨z1, rfl⟩, z2⟩
                  refine Go.nf (h' := hc234) (st' := []) rfl rfl (Nat.le_refl _) (Nat.le_refl _) ?_
                  refine g_iinc 0 (ls2 := [(4, .int (gI (j + 1))), (3, .int (gI (i))), (0, .ref (B)), (1, .int (gI (a))), (2, .int (gI (b)))]) dX10_times_93 rfl (by decide) rfl ?_
                  refine g_goto (tgt := 66) dX10_times_96 rfl ?_
                  exact ih_lj _ (by omega) (j + 1) (g2_235) hc234 rfl fr236 fk236_1 h4_235 h3_235 rk236_0 (by omega) (by omega) (by rw [← Int.add_assoc]; exact (mwS hp hB hC hNb hi0 hj0 (by omega) rfl (by omega) hK.1 hK.2 hgd235).1) ((mwS hp hB hC hNb hi0 hj0 (by omega) rfl (by omega) hK.1 hK.2 hgd235).2)
              exact lj _ (0) (gw) hli rfl fr_li cf_li_0 cf_li_1 cf_li_2 cr_li_0 (by omega) (by omega) (by rw [Int.add_zero]; exact hI.1) hI.2
          exact li _ (0) (gz) hc1 rfl fr3 fk3_1 rn2_0 z3 rk3_0 (by omega) (by omega) (⟨by rw [Int.mul_zero]; exact mwI_0 hp F G zN, zV⟩)
        · skip
          refine g_bipush dX10_times_52 (by decide) ?_
          exact g_iret dX10_times_54 rfl ⟨fr3, rn2_0, (rn2_1).a, Or.inl ⟨by unfold mulC; rw [if_neg (by omega), if_pos (by omega)], rfl, rk3_0⟩⟩
set_option maxHeartbeats 4000000 in
set_option maxRecDepth 100000 in
theorem sM_derivativeX (N : GN) (h : GH) (B p : Nat) (hp : prm p) (hp2 : p ≤ 65536) (hf le fc pn rn hn qn : Int) (T : PT p) (F : Pxy p) (a : Int) (a0 : 0 ≤ a) (a1 : a < 100) (ha : T a.toNat = some F) (hm : h.2 B = some (mO B p hf le fc pn rn hn qn)) (gm : Int → Int) (hT : MP hp B h T) (hw : MWA B h) (h4 : h.2 (B + 4) = some (aI 1500 gm)) : Sp N yX10_derivative mX10_derivative 0 0 [.ref (B), .int (gI (a)), .int (gI (1))] h (fun v h1 => Fr [B + 1, B + 3] h h1 ∧ h1.2 (B + 4) = some (aI 1500 gm) ∧ MWA B h1 ∧ ∃ w, isK T w ∧ v = some (.int (gI w)) ∧ MP hp B h1 (putT T w (dvx hp F))) := by
  refine Sp.of (by decide) rfl rfl (Nat.le_of_ble_eq_true rfl) ?_
  show Go N mX10_derivative _ 0 0 h 0 [(0, .ref (B)), (1, .int (gI (a))), (2, .int (gI (1)))] []
  have hp1 := hp.1
  have ne0 : NE (B) (B + 1) := by unfold NE; omega
  have ne1 : NE (B) (B + 2) := by unfold NE; omega
  have ne2 : NE (B) (B + 3) := by unfold NE; omega
  have ne3 : NE (B) (B + 4) := by unfold NE; omega
  have ne4 : NE (B + 1) (B + 2) := by unfold NE; omega
  have ne5 : NE (B + 1) (B + 3) := by unfold NE; omega
  have ne6 : NE (B + 1) (B + 4) := by unfold NE; omega
  have ne7 : NE (B + 2) (B + 3) := by unfold NE; omega
  have ne8 : NE (B + 2) (B + 4) := by unfold NE; omega
  have ne9 : NE (B + 3) (B + 4) := by unfold NE; omega
  have hT0 := hT
  obtain ⟨gt, gn, w1, w2, w3⟩ := hT0
  obtain ⟨hB, hN⟩ := MP_at w3 a0 a1 ha
  refine g_aload_n 0 dX10_derivative_0 rfl ?_
  refine g_callV (nc2 := 0) (ns2 := 0) (ci := 10) (As := []) (st := []) rfl dX10_derivative_1 okX10_clear lX10_107 itX10_clear seX10_clear rfl hm (by decide) (by decide) rfl (Nat.le_of_ble_eq_true rfl) (sM_clear N _ B p hp hp2 hf le fc pn rn hn qn (gm) hm hw h4) (by omega) (by omega) (fun v1 hc1 q1 => ?_)
  obtain ⟨rfl, frc2, rn2_0, rn2_1⟩ := q1
  have fk3_0 : hc1.2 (B) = some (mO B ((p : Int)) (hf) (le) (fc) (pn) (rn) (hn) (qn)) := Fr.at0 frc2 (Ni.c ⟨ne2, ne3⟩ (Ni.n _)) hm
  have fk3_1 : hc1.2 (B + 2) = some (aI 28700 (gn)) := Fr.at0 frc2 (Ni.c ⟨ne7, ne8⟩ (Ni.n _)) w2
  have rk3_0 : MP hp B hc1 (T) := (hT).fr frc2 (Ni.c ⟨ne5, ne6⟩ (Ni.n _)) (Ni.c ⟨ne7, ne8⟩ (Ni.n _))
  have fr3 : Fr [B + 1, B + 3] h hc1 := ((Fr.rf [B + 1, B + 3] h)).tr ((frc2).mo (sub_c (List.Mem.tail _ (List.Mem.head _)) sub_n))
  refine Go.nf (h' := hc1) (st' := []) rfl rfl (Nat.le_refl _) (Nat.le_refl _) ?_
  refine g_iconst dX10_derivative_4 ?_
  refine g_istore_n (ls2 := [(3, .int (gI (0))), (0, .ref (B)), (1, .int (gI (a))), (2, .int (gI (1)))]) dX10_derivative_5 rfl (by decide) rfl ?_
  obtain ⟨zB, gz, z3, zN, zV⟩ := rn2_1
  have li : ∀ (kk : Nat) (i : Int) (hli : GH), kk = (41 - i).toNat → Fr [B + 1, B + 3] h hli → hli.2 (B + 2) = some (aI 28700 (gn)) → hli.2 (B + 4) = some (aI 1500 (gm)) → hli.2 (B + 3) = some (aI 1500 (wD p (fun m => gn (287 * a + m)) true gz (7 * i))) → MP hp B hli (T) → (0 ≤ i) → (i ≤ 41) → Go N mX10_derivative (fun v h1 => Fr [B + 1, B + 3] h h1 ∧ h1.2 (B + 4) = some (aI 1500 gm) ∧ MWA B h1 ∧ ∃ w, isK T w ∧ v = some (.int (gI w)) ∧ MP hp B h1 (putT T w (dvx hp F))) 0 0 hli 6 [(3, .int (gI (i))), (0, .ref (B)), (1, .int (gI (a))), (2, .int (gI (1)))] [] := by
    refine Go.ind (fun kk ih_li => ?_)
    intro i hli hkk_li fr_li cf_li_0 cf_li_1 cf_li_2 cr_li_0 hi0 hi1
    have cg_li_0 : hli.2 (B) = some (mO B ((p : Int)) (hf) (le) (fc) (pn) (rn) (hn) (qn)) := Fr.at0 fr_li (Ni.c ⟨ne0, ne1⟩ (Ni.c ⟨ne2, ne3⟩ (Ni.n _))) hm
    refine g_iload_n 0 dX10_derivative_6 rfl ?_
    refine g_bipush dX10_derivative_7 (by decide) ?_
    refine g_icmp_gt (tgt := 109) dX10_derivative_9 rfl (by unfold gW; omega) (by unfold gW; omega) (fun c104 => ?_) (fun c104 => ?_)
    · skip
      have hi9 : i = 41 := by omega
      have mw105 : MW hp B hli (dvx hp F) := ⟨dvx_PB hp hB, _, cf_li_2, by rw [hi9]; exact wD_NWx hp hN hB zN, fun m m0 m1 => by
          unfold wD
          split
          · split
            · exact em_in hp _
            · exact zV m m0 m1
          · split
            · exact em_in hp _
            · exact zV m m0 m1⟩
      refine g_aload_n 1 dX10_derivative_109 rfl ?_
      refine g_callV (nc2 := 0) (ns2 := 0) (ci := 10) (As := []) (st := []) rfl dX10_derivative_110 okX10_keep lX10_114 itX10_keep seX10_keep rfl cg_li_0 (by decide) (by decide) rfl (Nat.le_of_ble_eq_true rfl) (sM_keep N _ B p hp hp2 hf le fc pn rn hn qn T (dvx hp F) cg_li_0 cr_li_0 mw105) (by omega) (by omega) (fun v106 hc106 q106 => ?_)
      obtain ⟨frc107, w107, hK107, rfl, mp107⟩ := q106
      have fk108_0 : hc106.2 (B) = some (mO B ((p : Int)) (hf) (le) (fc) (pn) (rn) (hn) (qn)) := Fr.at0 frc107 (Ni.c ⟨ne0, ne1⟩ (Ni.n _)) cg_li_0
      have fk108_2 : hc106.2 (B + 4) = some (aI 1500 (gm)) := Fr.at0 frc107 (Ni.c ⟨(ne6).s, (ne8).s⟩ (Ni.n _)) cf_li_1
      have rk108_1 : MW hp B hc106 (dvx hp F) := (mw105).fr frc107 (Ni.c ⟨(ne5).s, (ne7).s⟩ (Ni.n _))
      have fr108 : Fr [B + 1, B + 3] h hc106 := (fr_li).tr ((frc107).mo (sub_c (List.Mem.head _) sub_n))
      refine Go.nf (h' := hc106) (st' := [.int (gI (w107))]) rfl rfl (Nat.le_refl _) (Nat.le_refl _) ?_
      exact g_iret dX10_derivative_113 rfl ⟨fr108, fk108_2, (rk108_1).a, w107, hK107, rfl, mp107⟩
    · skip
      refine g_iconst dX10_derivative_12 ?_
      refine g_istore (ls2 := [(4, .int (gI (0))), (3, .int (gI (i))), (0, .ref (B)), (1, .int (gI (a))), (2, .int (gI (1)))]) dX10_derivative_13 (by decide) rfl ?_
      have lj : ∀ (kk : Nat) (j : Int) (hlj : GH), kk = (7 - j).toNat → Fr [B + 1, B + 3] h hlj → hlj.2 (B + 2) = some (aI 28700 (gn)) → hlj.2 (B + 4) = some (aI 1500 (gm)) → hlj.2 (B + 3) = some (aI 1500 (wD p (fun m => gn (287 * a + m)) true gz (7 * i + j))) → MP hp B hlj (T) → (0 ≤ j) → (j ≤ 7) → Go N mX10_derivative (fun v h1 => Fr [B + 1, B + 3] h h1 ∧ h1.2 (B + 4) = some (aI 1500 gm) ∧ MWA B h1 ∧ ∃ w, isK T w ∧ v = some (.int (gI w)) ∧ MP hp B h1 (putT T w (dvx hp F))) 0 0 hlj 15 [(4, .int (gI (j))), (3, .int (gI (i))), (0, .ref (B)), (1, .int (gI (a))), (2, .int (gI (1)))] [] := by
        refine Go.ind (fun kk ih_lj => ?_)
        intro j hlj hkk_lj fr_lj cf_lj_0 cf_lj_1 cf_lj_2 cr_lj_0 hj0 hj1
        have cg_lj_0 : hlj.2 (B) = some (mO B ((p : Int)) (hf) (le) (fc) (pn) (rn) (hn) (qn)) := Fr.at0 fr_lj (Ni.c ⟨ne0, ne1⟩ (Ni.c ⟨ne2, ne3⟩ (Ni.n _))) hm
        refine g_iload 0 dX10_derivative_15 rfl ?_
        refine g_bipush dX10_derivative_17 (by decide) ?_
        refine g_icmp_ge (tgt := 103) dX10_derivative_19 rfl (by unfold gW; omega) (by unfold gW; omega) (fun c209 => ?_) (fun c209 => ?_)
        · skip
          refine g_iinc 1 (ls2 := [(3, .int (gI (i + 1))), (4, .int (gI (j))), (0, .ref (B)), (1, .int (gI (a))), (2, .int (gI (1)))]) dX10_derivative_103 rfl (by decide) rfl ?_
          refine g_goto (tgt := 6) dX10_derivative_106 rfl ?_
          refine Go.sub [0, 2, 3, 4] rfl ?_
          exact ih_li _ (by omega) (i + 1) hlj rfl fr_lj cf_lj_0 cf_lj_1 (by rw [show 7 * (i + 1) = 7 * i + j by omega]; exact cf_lj_2) cr_lj_0 (by omega) (by omega)
        · skip
          refine g_iload_n 4 dX10_derivative_22 rfl ?_
          refine g_if_eq (tgt := 30) dX10_derivative_23 rfl (by unfold gW; omega) (fun c210 => absurd c210 (by omega)) (fun c210 => ?_)
          refine g_iload_n 1 dX10_derivative_26 rfl ?_
          refine g_goto (tgt := 32) dX10_derivative_27 rfl ?_
          refine g_istore (ls2 := [(5, .int (gI (i))), (4, .int (gI (j))), (3, .int (gI (i))), (0, .ref (B)), (1, .int (gI (a))), (2, .int (gI (1)))]) dX10_derivative_32 (by decide) rfl ?_
          refine g_iload 0 dX10_derivative_34 rfl ?_
          refine g_if_le (tgt := 97) dX10_derivative_36 rfl (by unfold gW; omega) (fun c211 => ?_) (fun c211 => ?_)
          · skip
            refine g_iinc 1 (ls2 := [(4, .int (gI (j + 1))), (5, .int (gI (i))), (3, .int (gI (i))), (0, .ref (B)), (1, .int (gI (a))), (2, .int (gI (1)))]) dX10_derivative_97 rfl (by decide) rfl ?_
            refine g_goto (tgt := 15) dX10_derivative_100 rfl ?_
            refine Go.sub [0, 2, 3, 4, 5] rfl ?_
            exact ih_lj _ (by omega) (j + 1) hlj rfl fr_lj cf_lj_0 cf_lj_1 (by rw [← wD_x0 (p := p) (fun m => gn (287 * a + m)) gz (by omega) (by omega) (by omega)]; exact cf_lj_2) cr_lj_0 (by omega) (by omega)
          · skip
            refine g_iload_n 5 dX10_derivative_39 rfl ?_
            refine g_if_eq (tgt := 55) dX10_derivative_40 rfl (by unfold gW; omega) (fun c212 => absurd c212 (by omega)) (fun c212 => ?_)
            refine g_bipush dX10_derivative_43 (by decide) ?_
            refine g_iload_n 2 dX10_derivative_45 rfl ?_
            refine g_iconst dX10_derivative_46 ?_
            refine g_isub dX10_derivative_47 ?_
            refine g_imul dX10_derivative_48 ?_
            refine g_iload 1 dX10_derivative_49 rfl ?_
            refine g_iadd dX10_derivative_51 ?_
            refine g_goto (tgt := 64) dX10_derivative_52 rfl ?_
            refine g_istore (ls2 := [(6, .int (gI (((7) * ((i) - (1))) + (j)))), (5, .int (gI (i))), (4, .int (gI (j))), (3, .int (gI (i))), (0, .ref (B)), (1, .int (gI (a))), (2, .int (gI (1)))]) dX10_derivative_64 (by decide) rfl ?_
            refine g_aload_n 4 dX10_derivative_66 rfl ?_
            refine g_getf 3 dX10_derivative_67 kX10 (by decide) fX10_17 cg_lj_0 rfl ?_
            refine g_iload 0 dX10_derivative_70 rfl ?_
            refine g_iload 1 dX10_derivative_72 rfl ?_
            refine g_i2l dX10_derivative_74 (by unfold gW; omega) ?_
            refine g_aload_n 4 dX10_derivative_75 rfl ?_
            refine g_getf 2 dX10_derivative_76 kX10 (by decide) fX10_13 cg_lj_0 rfl ?_
            refine g_iload_n 5 dX10_derivative_79 rfl ?_
            refine g_iload_n 3 dX10_derivative_80 rfl ?_
            refine g_iload 2 dX10_derivative_81 rfl ?_
            refine g_callS (nc2 := 0) (ns2 := 0) (As := [.int (gI (a)), .int (gI (i)), .int (gI (j))]) (st := [.ref (B + 2), .long (gJ (i)), .int (gI (((7) * ((i) - (1))) + (j))), .ref (B + 3)]) rfl dX10_derivative_83 okX10_cellOf lX10_99 stX10_cellOf (by decide) (by decide) rfl (Nat.le_of_ble_eq_true rfl) (sM_cellOf N _ (a) (i) (j)) (by omega) (by omega) (fun v213 hc213 q213 => ?_)
            obtain ⟨hq214, rfl⟩ := q213
            refine Go.nf (h' := hlj) (st' := [.int (gI (287 * (a) + 7 * (i) + (j))), .ref (B + 2), .long (gJ (i)), .int (gI (((7) * ((i) - (1))) + (j))), .ref (B + 3)]) hq214 rfl (Nat.le_refl _) (Nat.le_refl _) ?_
            refine g_iaload dX10_derivative_86 cf_lj_0 (by omega) (by omega) (by omega) ?_
            have hgv : gn (287 * a + 7 * i + j) = gn (287 * a + (7 * i + j)) := by rw [Int.add_assoc]
            rw [hgv]
            have hgb : 0 ≤ gn (287 * a + (7 * i + j)) ∧ gn (287 * a + (7 * i + j)) < p := hN.bd hp (k := 7 * i + j) (by omega) (by omega)
            have bp : 0 ≤ i * gn (287 * a + (7 * i + j)) ∧ i * gn (287 * a + (7 * i + j)) ≤ 41 * 65536 := ⟨Int.mul_nonneg (by omega) hgb.1, Int.mul_le_mul (by omega) (by omega) hgb.1 (by omega)⟩
            refine g_i2l dX10_derivative_87 (by unfold gW; omega) ?_
            refine g_lmul dX10_derivative_88 ?_
            refine g_aload_n 4 dX10_derivative_89 rfl ?_
            refine g_getf 0 dX10_derivative_90 kX10 (by decide) fX10_78 cg_lj_0 rfl ?_
            refine g_i2l dX10_derivative_93 (by unfold gW; omega) ?_
            refine g_lrem dX10_derivative_94 (by unfold gX; omega) (by unfold gX; omega) (by omega) ?_
            rw [tm_em bp.1]
            refine g_l2i dX10_derivative_95 ?_
            refine g_iastore dX10_derivative_96 cf_lj_2 (by omega) (by omega) (by omega) ?_
            obtain ⟨hh215, eh215⟩ : ∃ z : GH, z = hset hlj (B + 3) (aI 1500 (gup (wD p (fun m => gn (287 * a + m)) true gz (7 * i + j)) (((7) * ((i) - (1))) + (j)) (i * gn (287 * a + (7 * i + j)) % p))) := ⟨_, rfl⟩
            refine Go.hp eh215.symm ?_
            have fh215_0 : hh215.2 (B) = some (mO B ((p : Int)) (hf) (le) (fc) (pn) (rn) (hn) (qn)) := hs_n eh215 ne2 cg_lj_0
            have fh215_1 : hh215.2 (B + 2) = some (aI 28700 (gn)) := hs_n eh215 ne7 cf_lj_0
            have fh215_2 : hh215.2 (B + 4) = some (aI 1500 (gm)) := hs_n eh215 (ne9).s cf_lj_1
            have fh215_3 : hh215.2 (B + 3) = some (aI 1500 (gup (wD p (fun m => gn (287 * a + m)) true gz (7 * i + j)) (((7) * ((i) - (1))) + (j)) (i * gn (287 * a + (7 * i + j)) % p))) := hs_s eh215
            have fx215 : Fr [B + 3] hlj hh215 := Fr.w0 (Fr.rf _ _) (List.Mem.head _) eh215
            have rk215_0 : MP hp B hh215 (T) := (cr_lj_0).fr fx215 (Ni.c ⟨ne5, ne6⟩ (Ni.n _)) (Ni.c ⟨ne7, ne8⟩ (Ni.n _))
            have fr215 : Fr [B + 1, B + 3] h hh215 := Fr.w0 fr_lj (List.Mem.tail _ (List.Mem.head _)) eh215
            refine g_iinc 2 (ls2 := [(4, .int (gI (j + 1))), (6, .int (gI (((7) * ((i) - (1))) + (j)))), (5, .int (gI (i))), (3, .int (gI (i))), (0, .ref (B)), (1, .int (gI (a))), (2, .int (gI (1)))]) dX10_derivative_97 rfl (by decide) rfl ?_
            refine g_goto (tgt := 15) dX10_derivative_100 rfl ?_
            refine Go.sub [0, 3, 4, 5, 6] rfl ?_
            exact ih_lj _ (by omega) (j + 1) hh215 rfl fr215 fh215_1 fh215_2 (by rw [← wD_x (p := p) (fun m => gn (287 * a + m)) gz (by omega) (by omega) (by omega)]; exact fh215_3) rk215_0 (by omega) (by omega)
      exact lj _ (0) hli rfl fr_li cf_li_0 cf_li_1 (by rw [Int.add_zero]; exact cf_li_2) cr_li_0 (by omega) (by omega)
  exact li _ (0) hc1 rfl fr3 fk3_1 rn2_0 (by rw [Int.mul_zero, wD_0]; exact z3) rk3_0 (by omega) (by omega)
set_option maxHeartbeats 4000000 in
set_option maxRecDepth 100000 in
theorem sM_derivativeY (N : GN) (h : GH) (B p : Nat) (hp : prm p) (hp2 : p ≤ 65536) (hf le fc pn rn hn qn : Int) (T : PT p) (F : Pxy p) (a : Int) (a0 : 0 ≤ a) (a1 : a < 100) (ha : T a.toNat = some F) (hm : h.2 B = some (mO B p hf le fc pn rn hn qn)) (gm : Int → Int) (hT : MP hp B h T) (hw : MWA B h) (h4 : h.2 (B + 4) = some (aI 1500 gm)) : Sp N yX10_derivative mX10_derivative 0 0 [.ref (B), .int (gI (a)), .int (gI (0))] h (fun v h1 => Fr [B + 1, B + 3] h h1 ∧ h1.2 (B + 4) = some (aI 1500 gm) ∧ MWA B h1 ∧ ∃ w, isK T w ∧ v = some (.int (gI w)) ∧ MP hp B h1 (putT T w (dvy hp F))) := by
  refine Sp.of (by decide) rfl rfl (Nat.le_of_ble_eq_true rfl) ?_
  show Go N mX10_derivative _ 0 0 h 0 [(0, .ref (B)), (1, .int (gI (a))), (2, .int (gI (0)))] []
  have hp1 := hp.1
  have ne0 : NE (B) (B + 1) := by unfold NE; omega
  have ne1 : NE (B) (B + 2) := by unfold NE; omega
  have ne2 : NE (B) (B + 3) := by unfold NE; omega
  have ne3 : NE (B) (B + 4) := by unfold NE; omega
  have ne4 : NE (B + 1) (B + 2) := by unfold NE; omega
  have ne5 : NE (B + 1) (B + 3) := by unfold NE; omega
  have ne6 : NE (B + 1) (B + 4) := by unfold NE; omega
  have ne7 : NE (B + 2) (B + 3) := by unfold NE; omega
  have ne8 : NE (B + 2) (B + 4) := by unfold NE; omega
  have ne9 : NE (B + 3) (B + 4) := by unfold NE; omega
  have hT0 := hT
  obtain ⟨gt, gn, w1, w2, w3⟩ := hT0
  obtain ⟨hB, hN⟩ := MP_at w3 a0 a1 ha
  refine g_aload_n 0 dX10_derivative_0 rfl ?_
  refine g_callV (nc2 := 0) (ns2 := 0) (ci := 10) (As := []) (st := []) rfl dX10_derivative_1 okX10_clear lX10_107 itX10_clear seX10_clear rfl hm (by decide) (by decide) rfl (Nat.le_of_ble_eq_true rfl) (sM_clear N _ B p hp hp2 hf le fc pn rn hn qn (gm) hm hw h4) (by omega) (by omega) (fun v1 hc1 q1 => ?_)
  obtain ⟨rfl, frc2, rn2_0, rn2_1⟩ := q1
  have fk3_0 : hc1.2 (B) = some (mO B ((p : Int)) (hf) (le) (fc) (pn) (rn) (hn) (qn)) := Fr.at0 frc2 (Ni.c ⟨ne2, ne3⟩ (Ni.n _)) hm
  have fk3_1 : hc1.2 (B + 2) = some (aI 28700 (gn)) := Fr.at0 frc2 (Ni.c ⟨ne7, ne8⟩ (Ni.n _)) w2
  have rk3_0 : MP hp B hc1 (T) := (hT).fr frc2 (Ni.c ⟨ne5, ne6⟩ (Ni.n _)) (Ni.c ⟨ne7, ne8⟩ (Ni.n _))
  have fr3 : Fr [B + 1, B + 3] h hc1 := ((Fr.rf [B + 1, B + 3] h)).tr ((frc2).mo (sub_c (List.Mem.tail _ (List.Mem.head _)) sub_n))
  refine Go.nf (h' := hc1) (st' := []) rfl rfl (Nat.le_refl _) (Nat.le_refl _) ?_
  refine g_iconst dX10_derivative_4 ?_
  refine g_istore_n (ls2 := [(3, .int (gI (0))), (0, .ref (B)), (1, .int (gI (a))), (2, .int (gI (0)))]) dX10_derivative_5 rfl (by decide) rfl ?_
  obtain ⟨zB, gz, z3, zN, zV⟩ := rn2_1
  have li : ∀ (kk : Nat) (i : Int) (hli : GH), kk = (41 - i).toNat → Fr [B + 1, B + 3] h hli → hli.2 (B + 2) = some (aI 28700 (gn)) → hli.2 (B + 4) = some (aI 1500 (gm)) → hli.2 (B + 3) = some (aI 1500 (wD p (fun m => gn (287 * a + m)) false gz (7 * i))) → MP hp B hli (T) → (0 ≤ i) → (i ≤ 41) → Go N mX10_derivative (fun v h1 => Fr [B + 1, B + 3] h h1 ∧ h1.2 (B + 4) = some (aI 1500 gm) ∧ MWA B h1 ∧ ∃ w, isK T w ∧ v = some (.int (gI w)) ∧ MP hp B h1 (putT T w (dvy hp F))) 0 0 hli 6 [(3, .int (gI (i))), (0, .ref (B)), (1, .int (gI (a))), (2, .int (gI (0)))] [] := by
    refine Go.ind (fun kk ih_li => ?_)
    intro i hli hkk_li fr_li cf_li_0 cf_li_1 cf_li_2 cr_li_0 hi0 hi1
    have cg_li_0 : hli.2 (B) = some (mO B ((p : Int)) (hf) (le) (fc) (pn) (rn) (hn) (qn)) := Fr.at0 fr_li (Ni.c ⟨ne0, ne1⟩ (Ni.c ⟨ne2, ne3⟩ (Ni.n _))) hm
    refine g_iload_n 0 dX10_derivative_6 rfl ?_
    refine g_bipush dX10_derivative_7 (by decide) ?_
    refine g_icmp_gt (tgt := 109) dX10_derivative_9 rfl (by unfold gW; omega) (by unfold gW; omega) (fun c104 => ?_) (fun c104 => ?_)
    · skip
      have hi9 : i = 41 := by omega
      have mw105 : MW hp B hli (dvy hp F) := ⟨dvy_PB hp hB, _, cf_li_2, by rw [hi9]; exact wD_NWy hp hN hB zN, fun m m0 m1 => by
          unfold wD
          split
          · split
            · exact em_in hp _
            · exact zV m m0 m1
          · split
            · exact em_in hp _
            · exact zV m m0 m1⟩
      refine g_aload_n 1 dX10_derivative_109 rfl ?_
      refine g_callV (nc2 := 0) (ns2 := 0) (ci := 10) (As := []) (st := []) rfl dX10_derivative_110 okX10_keep lX10_114 itX10_keep seX10_keep rfl cg_li_0 (by decide) (by decide) rfl (Nat.le_of_ble_eq_true rfl) (sM_keep N _ B p hp hp2 hf le fc pn rn hn qn T (dvy hp F) cg_li_0 cr_li_0 mw105) (by omega) (by omega) (fun v106 hc106 q106 => ?_)
      obtain ⟨frc107, w107, hK107, rfl, mp107⟩ := q106
      have fk108_0 : hc106.2 (B) = some (mO B ((p : Int)) (hf) (le) (fc) (pn) (rn) (hn) (qn)) := Fr.at0 frc107 (Ni.c ⟨ne0, ne1⟩ (Ni.n _)) cg_li_0
      have fk108_2 : hc106.2 (B + 4) = some (aI 1500 (gm)) := Fr.at0 frc107 (Ni.c ⟨(ne6).s, (ne8).s⟩ (Ni.n _)) cf_li_1
      have rk108_1 : MW hp B hc106 (dvy hp F) := (mw105).fr frc107 (Ni.c ⟨(ne5).s, (ne7).s⟩ (Ni.n _))
      have fr108 : Fr [B + 1, B + 3] h hc106 := (fr_li).tr ((frc107).mo (sub_c (List.Mem.head _) sub_n))
      refine Go.nf (h' := hc106) (st' := [.int (gI (w107))]) rfl rfl (Nat.le_refl _) (Nat.le_refl _) ?_
      exact g_iret dX10_derivative_113 rfl ⟨fr108, fk108_2, (rk108_1).a, w107, hK107, rfl, mp107⟩
    · skip
      refine g_iconst dX10_derivative_12 ?_
      refine g_istore (ls2 := [(4, .int (gI (0))), (3, .int (gI (i))), (0, .ref (B)), (1, .int (gI (a))), (2, .int (gI (0)))]) dX10_derivative_13 (by decide) rfl ?_
      have lj : ∀ (kk : Nat) (j : Int) (hlj : GH), kk = (7 - j).toNat → Fr [B + 1, B + 3] h hlj → hlj.2 (B + 2) = some (aI 28700 (gn)) → hlj.2 (B + 4) = some (aI 1500 (gm)) → hlj.2 (B + 3) = some (aI 1500 (wD p (fun m => gn (287 * a + m)) false gz (7 * i + j))) → MP hp B hlj (T) → (0 ≤ j) → (j ≤ 7) → Go N mX10_derivative (fun v h1 => Fr [B + 1, B + 3] h h1 ∧ h1.2 (B + 4) = some (aI 1500 gm) ∧ MWA B h1 ∧ ∃ w, isK T w ∧ v = some (.int (gI w)) ∧ MP hp B h1 (putT T w (dvy hp F))) 0 0 hlj 15 [(4, .int (gI (j))), (3, .int (gI (i))), (0, .ref (B)), (1, .int (gI (a))), (2, .int (gI (0)))] [] := by
        refine Go.ind (fun kk ih_lj => ?_)
        intro j hlj hkk_lj fr_lj cf_lj_0 cf_lj_1 cf_lj_2 cr_lj_0 hj0 hj1
        have cg_lj_0 : hlj.2 (B) = some (mO B ((p : Int)) (hf) (le) (fc) (pn) (rn) (hn) (qn)) := Fr.at0 fr_lj (Ni.c ⟨ne0, ne1⟩ (Ni.c ⟨ne2, ne3⟩ (Ni.n _))) hm
        refine g_iload 0 dX10_derivative_15 rfl ?_
        refine g_bipush dX10_derivative_17 (by decide) ?_
        refine g_icmp_ge (tgt := 103) dX10_derivative_19 rfl (by unfold gW; omega) (by unfold gW; omega) (fun c209 => ?_) (fun c209 => ?_)
        · skip
          refine g_iinc 1 (ls2 := [(3, .int (gI (i + 1))), (4, .int (gI (j))), (0, .ref (B)), (1, .int (gI (a))), (2, .int (gI (0)))]) dX10_derivative_103 rfl (by decide) rfl ?_
          refine g_goto (tgt := 6) dX10_derivative_106 rfl ?_
          refine Go.sub [0, 2, 3, 4] rfl ?_
          exact ih_li _ (by omega) (i + 1) hlj rfl fr_lj cf_lj_0 cf_lj_1 (by rw [show 7 * (i + 1) = 7 * i + j by omega]; exact cf_lj_2) cr_lj_0 (by omega) (by omega)
        · skip
          refine g_iload_n 4 dX10_derivative_22 rfl ?_
          refine g_if_eq (tgt := 30) dX10_derivative_23 rfl (by unfold gW; omega) (fun c210 => ?_) (fun c210 => absurd c210 (by omega))
          refine g_iload 0 dX10_derivative_30 rfl ?_
          refine g_istore (ls2 := [(5, .int (gI (j))), (4, .int (gI (j))), (3, .int (gI (i))), (0, .ref (B)), (1, .int (gI (a))), (2, .int (gI (0)))]) dX10_derivative_32 (by decide) rfl ?_
          refine g_iload 0 dX10_derivative_34 rfl ?_
          refine g_if_le (tgt := 97) dX10_derivative_36 rfl (by unfold gW; omega) (fun c211 => ?_) (fun c211 => ?_)
          · skip
            refine g_iinc 1 (ls2 := [(4, .int (gI (j + 1))), (5, .int (gI (j))), (3, .int (gI (i))), (0, .ref (B)), (1, .int (gI (a))), (2, .int (gI (0)))]) dX10_derivative_97 rfl (by decide) rfl ?_
            refine g_goto (tgt := 15) dX10_derivative_100 rfl ?_
            refine Go.sub [0, 2, 3, 4, 5] rfl ?_
            exact ih_lj _ (by omega) (j + 1) hlj rfl fr_lj cf_lj_0 cf_lj_1 (by rw [← wD_y0 (p := p) (fun m => gn (287 * a + m)) gz (by omega) (by omega)]; exact cf_lj_2) cr_lj_0 (by omega) (by omega)
          · skip
            refine g_iload_n 5 dX10_derivative_39 rfl ?_
            refine g_if_eq (tgt := 55) dX10_derivative_40 rfl (by unfold gW; omega) (fun c212 => ?_) (fun c212 => absurd c212 (by omega))
            refine g_bipush dX10_derivative_55 (by decide) ?_
            refine g_iload_n 2 dX10_derivative_57 rfl ?_
            refine g_imul dX10_derivative_58 ?_
            refine g_iload 1 dX10_derivative_59 rfl ?_
            refine g_iadd dX10_derivative_61 ?_
            refine g_iconst dX10_derivative_62 ?_
            refine g_isub dX10_derivative_63 ?_
            refine g_istore (ls2 := [(6, .int (gI ((((7) * (i)) + (j)) - (1)))), (5, .int (gI (j))), (4, .int (gI (j))), (3, .int (gI (i))), (0, .ref (B)), (1, .int (gI (a))), (2, .int (gI (0)))]) dX10_derivative_64 (by decide) rfl ?_
            refine g_aload_n 4 dX10_derivative_66 rfl ?_
            refine g_getf 3 dX10_derivative_67 kX10 (by decide) fX10_17 cg_lj_0 rfl ?_
            refine g_iload 0 dX10_derivative_70 rfl ?_
            refine g_iload 1 dX10_derivative_72 rfl ?_
            refine g_i2l dX10_derivative_74 (by unfold gW; omega) ?_
            refine g_aload_n 4 dX10_derivative_75 rfl ?_
            refine g_getf 2 dX10_derivative_76 kX10 (by decide) fX10_13 cg_lj_0 rfl ?_
            refine g_iload_n 5 dX10_derivative_79 rfl ?_
            refine g_iload_n 3 dX10_derivative_80 rfl ?_
            refine g_iload 2 dX10_derivative_81 rfl ?_
            refine g_callS (nc2 := 0) (ns2 := 0) (As := [.int (gI (a)), .int (gI (i)), .int (gI (j))]) (st := [.ref (B + 2), .long (gJ (j)), .int (gI ((((7) * (i)) + (j)) - (1))), .ref (B + 3)]) rfl dX10_derivative_83 okX10_cellOf lX10_99 stX10_cellOf (by decide) (by decide) rfl (Nat.le_of_ble_eq_true rfl) (sM_cellOf N _ (a) (i) (j)) (by omega) (by omega) (fun v213 hc213 q213 => ?_)
            obtain ⟨hq214, rfl⟩ := q213
            refine Go.nf (h' := hlj) (st' := [.int (gI (287 * (a) + 7 * (i) + (j))), .ref (B + 2), .long (gJ (j)), .int (gI ((((7) * (i)) + (j)) - (1))), .ref (B + 3)]) hq214 rfl (Nat.le_refl _) (Nat.le_refl _) ?_
            refine g_iaload dX10_derivative_86 cf_lj_0 (by omega) (by omega) (by omega) ?_
            have hgv : gn (287 * a + 7 * i + j) = gn (287 * a + (7 * i + j)) := by rw [Int.add_assoc]
            rw [hgv]
            have hgb : 0 ≤ gn (287 * a + (7 * i + j)) ∧ gn (287 * a + (7 * i + j)) < p := hN.bd hp (k := 7 * i + j) (by omega) (by omega)
            have bp : 0 ≤ j * gn (287 * a + (7 * i + j)) ∧ j * gn (287 * a + (7 * i + j)) ≤ 41 * 65536 := ⟨Int.mul_nonneg (by omega) hgb.1, Int.mul_le_mul (by omega) (by omega) hgb.1 (by omega)⟩
            refine g_i2l dX10_derivative_87 (by unfold gW; omega) ?_
            refine g_lmul dX10_derivative_88 ?_
            refine g_aload_n 4 dX10_derivative_89 rfl ?_
            refine g_getf 0 dX10_derivative_90 kX10 (by decide) fX10_78 cg_lj_0 rfl ?_
            refine g_i2l dX10_derivative_93 (by unfold gW; omega) ?_
            refine g_lrem dX10_derivative_94 (by unfold gX; omega) (by unfold gX; omega) (by omega) ?_
            rw [tm_em bp.1]
            refine g_l2i dX10_derivative_95 ?_
            refine g_iastore dX10_derivative_96 cf_lj_2 (by omega) (by omega) (by omega) ?_
            obtain ⟨hh215, eh215⟩ : ∃ z : GH, z = hset hlj (B + 3) (aI 1500 (gup (wD p (fun m => gn (287 * a + m)) false gz (7 * i + j)) ((((7) * (i)) + (j)) - (1)) (j * gn (287 * a + (7 * i + j)) % p))) := ⟨_, rfl⟩
            refine Go.hp eh215.symm ?_
            have fh215_0 : hh215.2 (B) = some (mO B ((p : Int)) (hf) (le) (fc) (pn) (rn) (hn) (qn)) := hs_n eh215 ne2 cg_lj_0
            have fh215_1 : hh215.2 (B + 2) = some (aI 28700 (gn)) := hs_n eh215 ne7 cf_lj_0
            have fh215_2 : hh215.2 (B + 4) = some (aI 1500 (gm)) := hs_n eh215 (ne9).s cf_lj_1
            have fh215_3 : hh215.2 (B + 3) = some (aI 1500 (gup (wD p (fun m => gn (287 * a + m)) false gz (7 * i + j)) ((((7) * (i)) + (j)) - (1)) (j * gn (287 * a + (7 * i + j)) % p))) := hs_s eh215
            have fx215 : Fr [B + 3] hlj hh215 := Fr.w0 (Fr.rf _ _) (List.Mem.head _) eh215
            have rk215_0 : MP hp B hh215 (T) := (cr_lj_0).fr fx215 (Ni.c ⟨ne5, ne6⟩ (Ni.n _)) (Ni.c ⟨ne7, ne8⟩ (Ni.n _))
            have fr215 : Fr [B + 1, B + 3] h hh215 := Fr.w0 fr_lj (List.Mem.tail _ (List.Mem.head _)) eh215
            refine g_iinc 2 (ls2 := [(4, .int (gI (j + 1))), (6, .int (gI ((((7) * (i)) + (j)) - (1)))), (5, .int (gI (j))), (3, .int (gI (i))), (0, .ref (B)), (1, .int (gI (a))), (2, .int (gI (0)))]) dX10_derivative_97 rfl (by decide) rfl ?_
            refine g_goto (tgt := 15) dX10_derivative_100 rfl ?_
            refine Go.sub [0, 3, 4, 5, 6] rfl ?_
            exact ih_lj _ (by omega) (j + 1) hh215 rfl fr215 fh215_1 fh215_2 (by rw [← wD_y (p := p) (fun m => gn (287 * a + m)) gz (by omega) (by omega) (by omega)]; exact fh215_3) rk215_0 (by omega) (by omega)
      exact lj _ (0) hli rfl fr_li cf_li_0 cf_li_1 (by rw [Int.add_zero]; exact cf_li_2) cr_li_0 (by omega) (by omega)
  exact li _ (0) hc1 rfl fr3 fk3_1 rn2_0 (by rw [Int.mul_zero, wD_0]; exact z3) rk3_0 (by omega) (by omega)
