/-! Bareiss: cells are minors -/
section
variable {K : Type}
theorem det_cmb (R : Lean.Grind.CommRing K) {n r : Nat} (M : Nat → Nat → K) (P : K) (c : Nat → K) (f : Nat → Nat) (hr : r < n) (m : Nat) (hf : ∀ l, l < m → f l < n ∧ f l ≠ r) : letI := R; det R n (rup M r (fun b => P * M r b + sm R m (fun l => c l * M (f l) b))) = P * det R n M := by
  letI := R
  have e1 := det_sc R M (M r) P hr
  rw [rup_id] at e1
  rw [← e1, ← det_adds R (rup M r (fun b => P * M r b)) c f hr m hf, rup_rup]
  congr 1
  congr 1
  funext b
  rw [rup_r]
  congr 1
  exact sm_congr R (fun l hl => by rw [rup_n _ _ _ (hf l hl).2])
/-- the minor of the first k rows and columns, the row i, the column j -/
def mnr (R : Lean.Grind.CommRing K) (A : Nat → Nat → K) (k i j : Nat) : K := det R (k + 1) (fun a b => A (if a = 0 then i else k - a) (if b = 0 then j else k - b))
def pvt (R : Lean.Grind.CommRing K) (A : Nat → Nat → K) (k : Nat) : K := det R k (fun a b => A (k - 1 - a) (k - 1 - b))
theorem pvt_s (R : Lean.Grind.CommRing K) (A : Nat → Nat → K) (k : Nat) : pvt R A (k + 1) = mnr R A k k k := by
  unfold pvt mnr
  refine det_cg R _ (fun a b _ _ => ?_)
  have e : ∀ x : Nat, (if x = 0 then k else k - x) = k + 1 - 1 - x := fun x => by split <;> omega
  rw [e, e]
theorem mnr_0 (R : Lean.Grind.CommRing K) (A : Nat → Nat → K) (i j : Nat) : mnr R A 0 i j = A i j := by
  letI := R
  unfold mnr
  rw [det_s]
  show 0 + 1 * A i j * 1 = A i j
  grind
theorem mnr_exp (R : Lean.Grind.CommRing K) (A : Nat → Nat → K) (k i : Nat) : ∃ e : Nat → K, ∀ j, letI := R; mnr R A k i j = pvt R A k * A i j + sm R k (fun l => e l * A (k - 1 - l) j) := by
  letI := R
  refine ⟨fun l => sgd R (l + 1) * det R k (fun a b => A (if skp (l + 1) a = 0 then i else k - skp (l + 1) a) (k - 1 - b)), fun j => ?_⟩
  unfold mnr
  rw [det_s, sm_front R]
  congr 1
  · have e : det R k (fun a b => A (if skp 0 a = 0 then i else k - skp 0 a) (if b + 1 = 0 then j else k - (b + 1))) = pvt R A k := det_cg R k (fun a b _ _ => by
      have e1 : skp 0 a = a + 1 := by unfold skp; split <;> omega
      rw [e1, if_neg (by omega), if_neg (by omega), show k - (a + 1) = k - 1 - a by omega, show k - (b + 1) = k - 1 - b by omega])
    rw [e]
    show 1 * A i j * _ = _
    grind
  · refine sm_congr R (fun l hl => ?_)
    have e : det R k (fun a b => A (if skp (l + 1) a = 0 then i else k - skp (l + 1) a) (if b + 1 = 0 then j else k - (b + 1))) = det R k (fun a b => A (if skp (l + 1) a = 0 then i else k - skp (l + 1) a) (k - 1 - b)) := det_cg R k (fun a b _ _ => by
      rw [if_neg (show ¬ b + 1 = 0 by omega), show k - (b + 1) = k - 1 - b by omega])
    rw [e]
    show sgd R (l + 1) * A (if l + 1 = 0 then i else k - (l + 1)) (if (0 : Nat) = 0 then j else k - 0) * _ = _
    rw [if_neg (by omega), if_pos rfl, show k - (l + 1) = k - 1 - l by omega]
    dsimp only
    generalize det R k _ = d
    generalize sgd R (l + 1) = s
    generalize A (k - 1 - l) j = x
    clear e
    grind
/-- Sylvester's identity -/
theorem mnr_id (R : Lean.Grind.CommRing K) (A : Nat → Nat → K) {k : Nat} (i j : Nat) (hz : letI := R; ∀ i j, j < k → mnr R A k i j = 0) : letI := R; pvt R A k * (pvt R A k * mnr R A (k + 1) i j) = pvt R A k * (mnr R A k i j * mnr R A k k k - mnr R A k k j * mnr R A k i k) := by
  letI := R
  obtain ⟨ei, hei⟩ := mnr_exp R A k i
  obtain ⟨ek, hek⟩ := mnr_exp R A k k
  obtain ⟨X, hX⟩ : ∃ X : Nat → Nat → K, X = fun a b => A (if a = 0 then i else k + 1 - a) (if b = 0 then j else k + 1 - b) := ⟨_, rfl⟩
  obtain ⟨Y, hY⟩ : ∃ Y : Nat → Nat → K, Y = rup X 0 (fun b => mnr R A k i (if b = 0 then j else k + 1 - b)) := ⟨_, rfl⟩
  obtain ⟨Z, hZ⟩ : ∃ Z : Nat → Nat → K, Z = rup Y 1 (fun b => mnr R A k k (if b = 0 then j else k + 1 - b)) := ⟨_, rfl⟩
  have dX : mnr R A (k + 1) i j = det R (k + 2) X := by rw [hX]; rfl
  have dY : det R (k + 2) Y = pvt R A k * det R (k + 2) X := by
    rw [hY, ← det_cmb R X (pvt R A k) ei (fun l => l + 2) (r := 0) (by omega) k (fun l hl => ⟨by omega, by omega⟩)]
    congr 1
    congr 1
    funext b
    rw [hei, hX]
    show _ = pvt R A k * A (if (0 : Nat) = 0 then i else k + 1 - 0) _ + _
    rw [if_pos rfl]
    congr 1
    refine sm_congr R (fun l hl => ?_)
    show _ = ei l * A (if l + 2 = 0 then i else k + 1 - (l + 2)) _
    rw [if_neg (show ¬ l + 2 = 0 by omega), show k + 1 - (l + 2) = k - 1 - l by omega]
  have dZ : det R (k + 2) Z = pvt R A k * det R (k + 2) Y := by
    rw [hZ, ← det_cmb R Y (pvt R A k) ek (fun l => l + 2) (r := 1) (by omega) k (fun l hl => ⟨by omega, by omega⟩)]
    congr 1
    congr 1
    funext b
    rw [hek, hY, rup_n _ _ _ (show (1 : Nat) ≠ 0 by omega), hX]
    show _ = pvt R A k * A (if (1 : Nat) = 0 then i else k + 1 - 1) _ + _
    rw [if_neg (show ¬ (1 : Nat) = 0 by omega), show k + 1 - 1 = k by omega]
    congr 1
    refine sm_congr R (fun l hl => ?_)
    rw [rup_n _ _ _ (show l + 2 ≠ 0 by omega)]
    show _ = ek l * A (if l + 2 = 0 then i else k + 1 - (l + 2)) _
    rw [if_neg (show ¬ l + 2 = 0 by omega), show k + 1 - (l + 2) = k - 1 - l by omega]
  have Z0 : ∀ b, Z 0 b = mnr R A k i (if b = 0 then j else k + 1 - b) := fun b => by
    rw [hZ, rup_n _ _ _ (show (0 : Nat) ≠ 1 by omega), hY, rup_r]
  have Z1 : ∀ b, Z 1 b = mnr R A k k (if b = 0 then j else k + 1 - b) := fun b => by rw [hZ, rup_r]
  have Z2 : ∀ a b, Z (a + 2) (b + 2) = A (k - 1 - a) (k - 1 - b) := fun a b => by
    rw [hZ, rup_n _ _ _ (show a + 2 ≠ 1 by omega), hY, rup_n _ _ _ (show a + 2 ≠ 0 by omega), hX]
    show A (if a + 2 = 0 then i else k + 1 - (a + 2)) (if b + 2 = 0 then j else k + 1 - (b + 2)) = _
    rw [if_neg (by omega), if_neg (by omega), show k + 1 - (a + 2) = k - 1 - a by omega, show k + 1 - (b + 2) = k - 1 - b by omega]
  have Zs0 : ∀ b, 0 < b → b < k + 1 → Z 0 (b + 1) = 0 := fun b h0 h1 => by rw [Z0, if_neg (by omega)]; exact hz _ _ (by omega)
  have Zs1 : ∀ b, 0 < b → b < k + 1 → Z 1 (b + 1) = 0 := fun b h0 h1 => by rw [Z1, if_neg (by omega)]; exact hz _ _ (by omega)
  have m0 : det R (k + 1) (fun a b => Z (skp 0 a) (b + 1)) = mnr R A k k k * pvt R A k := by
    rw [det_r0 R (M := fun a b => Z (skp 0 a) (b + 1)) (fun b h0 h1 => Zs1 b h0 h1)]
    congr 1
    · show Z 1 1 = _
      rw [Z1, if_neg (by omega), show k + 1 - 1 = k by omega]
    · exact det_cg R k (fun a b _ _ => Z2 a b)
  have m1 : det R (k + 1) (fun a b => Z (skp 1 a) (b + 1)) = mnr R A k i k * pvt R A k := by
    rw [det_r0 R (M := fun a b => Z (skp 1 a) (b + 1)) (fun b h0 h1 => Zs0 b h0 h1)]
    congr 1
    · show Z 0 1 = _
      rw [Z0, if_neg (by omega), show k + 1 - 1 = k by omega]
    · refine det_cg R k (fun a b _ _ => ?_)
      have e1 : skp 1 (a + 1) = a + 2 := by unfold skp; split <;> omega
      show Z (skp 1 (a + 1)) (b + 1 + 1) = _
      rw [e1]; exact Z2 a b
  have m2 : ∀ l, l < k → det R (k + 1) (fun a b => Z (skp (l + 1 + 1) a) (b + 1)) = 0 := fun l hl => by
    have e0 : ∀ b, Z (skp (l + 1 + 1) 0) b = Z 0 b := fun b => by
      have e1 : skp (l + 1 + 1) 0 = 0 := by unfold skp; split <;> omega
      rw [e1]
    rw [det_r0 R (M := fun a b => Z (skp (l + 1 + 1) a) (b + 1)) (fun b h0 h1 => by rw [e0]; exact Zs0 b h0 h1)]
    have e2 : det R k (fun a b => Z (skp (l + 1 + 1) (a + 1)) (b + 1 + 1)) = 0 := det_z R (r := 0) (by omega) (fun b hb => by
      have e1 : skp (l + 1 + 1) (0 + 1) = 1 := by unfold skp; split <;> omega
      rw [e1]; exact Zs1 (b + 1) (by omega) (by omega))
    rw [e2]; grind
  have dZ2 : det R (k + 2) Z = mnr R A k i j * (mnr R A k k k * pvt R A k) - mnr R A k k j * (mnr R A k i k * pvt R A k) := by
    rw [det_s, sm_front R, sm_front R, m0, m1, sm_zero R (fun l hl => by rw [m2 l hl]; grind)]
    show sgd R 0 * Z 0 0 * _ + (sgd R (0 + 1) * Z 1 0 * _ + 0) = _
    rw [Z0, Z1, if_pos rfl]
    show 1 * _ * _ + (- 1 * _ * _ + 0) = _
    grind
  rw [dX, ← dY, ← dZ, dZ2]
  generalize pvt R A k = P
  grind
end
section
variable {p : Nat}
def bdg (h : prm p) (f : Px p) (d : Int) : Prop := po (fR h) f ∧ dgi h f ≤ d
theorem bdg_0 (h : prm p) {d : Int} (hd : 0 ≤ d) : letI := pR h; bdg h 0 d := ⟨zero_po _, by rw [dgi_0]; omega⟩
theorem bdg_1 (h : prm p) {d : Int} (hd : 0 ≤ d) : letI := pR h; bdg h 1 d := ⟨one_po _, by rw [dgi_1]; omega⟩
theorem bdg_add (h : prm p) {f g : Px p} {d : Int} (a : bdg h f d) (b : bdg h g d) : letI := pR h; bdg h (f + g) d := ⟨add_po a.1 b.1, add_dgi h a.1 b.1 a.2 b.2⟩
theorem bdg_sub (h : prm p) {f g : Px p} {d : Int} (a : bdg h f d) (b : bdg h g d) : letI := pR h; bdg h (f - g) d := ⟨sub_po a.1 b.1, sub_dgi h a.1 b.1 a.2 b.2⟩
theorem bdg_neg (h : prm p) {f : Px p} {d : Int} (hd : 0 ≤ d) (a : bdg h f d) : letI := pR h; bdg h (-f) d := by
  letI := pR h
  have e : -f = 0 - f := by grind
  rw [e]; exact bdg_sub h (bdg_0 h hd) a
theorem bdg_mul (h : prm p) {f g : Px p} {d e : Int} (a : bdg h f d) (b : bdg h g e) (hd : 0 ≤ d) (he : 0 ≤ e) : letI := pR h; bdg h (f * g) (d + e) := ⟨mul_po a.1 b.1, by
  rw [mul_dgi h a.1 b.1]
  have := a.2
  have := b.2
  split <;> omega⟩
theorem bdg_sm (h : prm p) {d : Int} (hd : 0 ≤ d) : ∀ (n : Nat) (F : Nat → Px p), (∀ i, i < n → bdg h (F i) d) → bdg h (sm (pR h) n F) d
  | 0, _, _ => bdg_0 h hd
  | n + 1, F, H => bdg_add h (bdg_sm h hd n F (fun i hi => H i (by omega))) (H n (by omega))
theorem bdg_sgd (h : prm p) : ∀ n : Nat, bdg h (sgd (pR h) n) 0
  | 0 => bdg_1 h (by omega)
  | n + 1 => bdg_neg h (by omega) (bdg_sgd h n)
theorem bdg_det (h : prm p) {d : Nat} : ∀ (n : Nat) (M : Nat → Nat → Px p), (∀ a b, a < n → b < n → bdg h (M a b) d) → bdg h (det (pR h) n M) ((d * n : Nat) : Int)
  | 0, _, _ => by rw [Nat.mul_zero]; exact bdg_1 h (by omega)
  | n + 1, M, H => by
    rw [det_s]
    refine bdg_sm h (by omega) _ _ (fun i hi => ?_)
    have h1 := bdg_mul h (bdg_mul h (bdg_sgd h i) (H i 0 hi (by omega)) (by omega) (by omega)) (bdg_det h n (fun a b => M (skp i a) (b + 1)) (fun a b ha hb => H _ _ (skp_lt ha) (by omega))) (by omega) (by omega)
    refine ⟨h1.1, Int.le_trans h1.2 ?_⟩
    rw [Nat.mul_succ]
    omega
/-- of a matrix whose rows and columns below n have degrees of at most d -/
def bdM (h : prm p) (n d : Nat) (A : Nat → Nat → Px p) : Prop := ∀ a b, a < n → b < n → bdg h (A a b) d
theorem mnr_bd (h : prm p) {n d k i j : Nat} {A : Nat → Nat → Px p} (hA : bdM h n d A) (hk : k < n) (hi : i < n) (hj : j < n) : bdg h (mnr (pR h) A k i j) ((d * (k + 1) : Nat) : Int) :=
  bdg_det h (k + 1) _ (fun a b _ _ => hA _ _ (by split <;> omega) (by split <;> omega))
theorem pvt_po (h : prm p) {n d k : Nat} {A : Nat → Nat → Px p} (hA : bdM h n d A) (hk : k < n) : po (fR h) (pvt (pR h) A k) := by
  cases k with
  | zero => exact one_po _
  | succ k => rw [pvt_s]; exact (mnr_bd h hA (by omega) (by omega) (by omega)).1
/-- what holds before step k -/
def barI (h : prm p) (n k : Nat) (A : Nat → Nat → Px p) : Prop := letI := pR h; bdM h n 6 A ∧ k < n ∧ pvt (pR h) A k ≠ 0 ∧ ∀ i j, i < n → j < k → mnr (pR h) A k i j = 0
theorem mnr_cg (R : Lean.Grind.CommRing (Px p)) {A C : Nat → Nat → Px p} {k i i2 j : Nat} (hi : ∀ b, C i b = A i2 b) (h : ∀ a b, a < k → C a b = A a b) : mnr R C k i j = mnr R A k i2 j := by
  unfold mnr
  refine det_cg R _ (fun a b ha hb => ?_)
  by_cases z : a = 0
  · rw [if_pos z, if_pos z]; exact hi _
  · rw [if_neg z, if_neg z]; exact h _ _ (by omega)
theorem pvt_cg (R : Lean.Grind.CommRing (Px p)) {A C : Nat → Nat → Px p} {k : Nat} (h : ∀ a b, a < k → C a b = A a b) : pvt R C k = pvt R A k := by
  unfold pvt
  exact det_cg R _ (fun a b ha hb => h _ _ (by omega))
/-- rows from n on made 0 -/
def cutM (h : prm p) (n : Nat) (A : Nat → Nat → Px p) : Nat → Nat → Px p := fun a b => letI := pR h; if a < n then A a b else 0
theorem bar_id (h : prm p) {n k : Nat} {A : Nat → Nat → Px p} (H : barI h n k A) {i j : Nat} (hi : i < n) (hj : j < n) (hk : k + 1 < n) : letI := pR h; mnr (pR h) A k i j * mnr (pR h) A k k k - mnr (pR h) A k k j * mnr (pR h) A k i k = pvt (pR h) A k * mnr (pR h) A (k + 1) i j := by
  obtain ⟨hA, hkn, hP, hz⟩ := H
  letI := pR h
  have e0 : ∀ (k' i' j' : Nat), k' ≤ n → i' < n → mnr (pR h) (cutM h n A) k' i' j' = mnr (pR h) A k' i' j' := fun k' i' j' h1 h2 => mnr_cg _ (fun b => if_pos h2) (fun a b ha => if_pos (by omega))
  have e1 : pvt (pR h) (cutM h n A) k = pvt (pR h) A k := pvt_cg _ (fun a b ha => if_pos (by omega))
  have key := mnr_id (pR h) (cutM h n A) (k := k) i j (fun i' j' hj' => by
    by_cases z : i' < n
    · rw [e0 k i' j' (by omega) z]; exact hz i' j' z hj'
    · refine det_z _ (r := 0) (by omega) (fun b _ => ?_)
      show cutM h n A (if (0 : Nat) = 0 then i' else k - 0) _ = 0
      rw [if_pos rfl]
      exact if_neg z)
  rw [e1, e0 (k + 1) i j (by omega) hi, e0 k i j (by omega) hi, e0 k k k (by omega) hkn, e0 k k j (by omega) hkn, e0 k i k (by omega) hi] at key
  have pk := pvt_po h hA hkn
  obtain ⟨m, hm⟩ : ∃ m, dg (fR h) (pvt (pR h) A k) m := by
    rcases po_dg pk with z | z
    · exact absurd z hP
    · exact z
  have q1 := (mnr_bd h hA hkn hi hj).1
  have q2 := (mnr_bd h hA hkn hkn hkn).1
  have q3 := (mnr_bd h hA hkn hkn hj).1
  have q4 := (mnr_bd h hA hkn hi hkn).1
  have q5 := (mnr_bd h hA hk hi hj).1
  exact (mul_cancel (fld_p h) hm (mul_po pk q5) (sub_po (mul_po q1 q2) (mul_po q3 q4)) key).symm
theorem bar_q (h : prm p) {n k : Nat} {A : Nat → Nat → Px p} (H : barI h n k A) {i j : Nat} (hi : i < n) (hj : j < n) (hk : k + 1 < n) : letI := pR h; qt h (mnr (pR h) A k i j * mnr (pR h) A k k k - mnr (pR h) A k k j * mnr (pR h) A k i k) (pvt (pR h) A k) = mnr (pR h) A (k + 1) i j := by
  have e := bar_id h H hi hj hk
  obtain ⟨hA, hkn, hP, hz⟩ := H
  letI := pR h
  have pk := pvt_po h hA hkn
  have q5 := (mnr_bd h hA hk hi hj).1
  rw [e]
  refine (qr_un h (mul_po pk q5) pk (dgi_nz h pk hP) q5 (r := 0) ?_ (fun m _ => zero_k _ m)).1.symm
  have aux : ∀ P Q : Px p, P * Q = Q * P + 0 := fun P Q => by clear e hz hP; grind
  exact aux _ _
theorem swr_row (A : Nat → Nat → Px p) {r s a : Nat} (h1 : a ≠ r) (h2 : a ≠ s) (b : Nat) : swr A r s a b = A a b := by
  unfold swr; rw [if_neg h1, if_neg h2]
/-- the row that stands at i when k and r have been changed -/
def swi (k r i : Nat) : Nat := if i = k then r else if i = r then k else i
theorem mnr_sw (h : prm p) (A : Nat → Nat → Px p) {k r : Nat} (hr : k ≤ r) (i j : Nat) : mnr (pR h) (swr A k r) k i j = mnr (pR h) A k (swi k r i) j := mnr_cg _ (fun b => by
  unfold swr swi
  split
  · rfl
  · split <;> rfl) (fun a b ha => swr_row A (by omega) (by omega) b)
theorem bdM_sw (h : prm p) {n d : Nat} {A : Nat → Nat → Px p} (hA : bdM h n d A) {r s : Nat} (hr : r < n) (hs : s < n) : bdM h n d (swr A r s) := fun a b ha hb => by
  unfold swr
  split
  · exact hA _ _ hs hb
  · split
    · exact hA _ _ hr hb
    · exact hA _ _ ha hb
theorem barI_0 (h : prm p) {n : Nat} {A : Nat → Nat → Px p} (hA : bdM h n 6 A) (hn : 0 < n) : barI h n 0 A := ⟨hA, hn, by
  letI := pR h
  show (1 : Px p) ≠ 0
  intro z
  have := dgi_1 h
  rw [z, dgi_0] at this
  omega, fun i j _ hj => by omega⟩
theorem barI_sw (h : prm p) {n k r : Nat} {A : Nat → Nat → Px p} (H : barI h n k A) (h1 : k ≤ r) (h2 : r < n) : barI h n k (swr A k r) := by
  obtain ⟨hA, hkn, hP, hz⟩ := H
  refine ⟨bdM_sw h hA hkn h2, hkn, ?_, fun i j hi hj => ?_⟩
  · rw [pvt_cg (pR h) (A := A) (fun a b ha => swr_row A (by omega) (by omega) b)]; exact hP
  · rw [mnr_sw h A h1]
    refine hz _ _ ?_ hj
    unfold swi
    split
    · exact h2
    · split
      · exact hkn
      · exact hi
theorem barI_s (h : prm p) {n k : Nat} {A : Nat → Nat → Px p} (H : barI h n k A) (hk : k + 1 < n) (hp : letI := pR h; mnr (pR h) A k k k ≠ 0) : barI h n (k + 1) A := by
  have H0 := H
  obtain ⟨hA, hkn, hP, hz⟩ := H
  letI := pR h
  refine ⟨hA, hk, by rw [pvt_s]; exact hp, fun i j hi hj => ?_⟩
  have e := bar_id h H0 hi (show j < n by omega) hk
  have e2 : mnr (pR h) A k i j * mnr (pR h) A k k k - mnr (pR h) A k k j * mnr (pR h) A k i k = 0 := by
    rcases Nat.lt_or_ge j k with z | z
    · rw [hz i j hi z, hz k j hkn z]; grind
    · rw [show j = k by omega]
      generalize mnr (pR h) A k i k = x
      generalize mnr (pR h) A k k k = y
      grind
  rw [e2] at e
  have pk := pvt_po h hA hkn
  have q5 := (mnr_bd h hA hk hi (show j < n by omega)).1
  obtain ⟨m, hm⟩ : ∃ m, dg (fR h) (pvt (pR h) A k) m := by
    rcases po_dg pk with z | z
    · exact absurd z hP
    · exact z
  refine mul_cancel (fld_p h) hm q5 (zero_po _) ?_
  show pvt (pR h) A k * mnr (pR h) A (k + 1) i j = pvt (pR h) A k * 0
  rw [← e]; grind
/-- the pivot's row, and the run of the steps from k on -/
def isPv (h : prm p) (n k : Nat) (A : Nat → Nat → Px p) (r : Nat) : Prop := letI := pR h; k ≤ r ∧ r < n ∧ mnr (pR h) A k r k ≠ 0 ∧ ∀ s, k ≤ s → s < r → mnr (pR h) A k s k = 0
theorem isPv_un (h : prm p) {n k : Nat} {A : Nat → Nat → Px p} {r s : Nat} (a : isPv h n k A r) (b : isPv h n k A s) : r = s := by
  rcases Nat.lt_trichotomy r s with z | z | z
  · exact absurd (b.2.2.2 r a.1 z) a.2.2.1
  · exact z
  · exact absurd (a.2.2.2 s b.1 z) b.2.2.1
noncomputable def barR (h : prm p) (n : Nat) : Nat → Nat → (Nat → Nat → Px p) → Bool → Px p
  | 0, k, A, s => letI := pR h; if s then - mnr (pR h) A k k k else mnr (pR h) A k k k
  | m + 1, k, A, s => letI := pR h; letI := Classical.propDecidable (∃ r, isPv h n k A r); if ∃ r, isPv h n k A r then barR h n m (k + 1) (swr A k (Classical.epsilon (isPv h n k A))) (if Classical.epsilon (isPv h n k A) = k then s else !s) else 0
theorem barR_s (h : prm p) {n k r m : Nat} {A : Nat → Nat → Px p} {s : Bool} (hr : isPv h n k A r) : barR h n (m + 1) k A s = barR h n m (k + 1) (swr A k r) (if r = k then s else !s) := by
  have e : Classical.epsilon (isPv h n k A) = r := isPv_un h (Classical.epsilon_spec ⟨r, hr⟩) hr
  conv => lhs; unfold barR
  rw [if_pos ⟨r, hr⟩, e]
theorem barR_n (h : prm p) {n k m : Nat} {A : Nat → Nat → Px p} {s : Bool} (hr : letI := pR h; ∀ r, k ≤ r → r < n → mnr (pR h) A k r k = 0) : letI := pR h; barR h n (m + 1) k A s = 0 := by
  unfold barR
  rw [if_neg]
  rintro ⟨r, h1, h2, h3, _⟩
  exact h3 (hr r h1 h2)
/-- the rows of the resultant by y -/
def sylY (h : prm p) (F G : Pxy p) (m n : Nat) : Nat → Nat → Px p := fun i k => letI := pR h; if i < n then (if i ≤ k ∧ k ≤ i + m then F (m + i - k) else 0) else (if i - n ≤ k ∧ k ≤ i then G (i - k) else 0)
noncomputable def resY (h : prm p) (F G : Pxy p) : Px p := barR h (dY h F + dY h G).toNat ((dY h F + dY h G).toNat - 1) 0 (sylY h F G (dY h F).toNat (dY h G).toNat) false
theorem sylY_bd (h : prm p) {F G : Pxy p} (hF : PB h F) (hG : PB h G) (xF : dX h F ≤ 6) (xG : dX h G ≤ 6) (m n N : Nat) : bdM h N 6 (sylY h F G m n) := fun a b _ _ => by
  have key : ∀ {H : Pxy p}, PB h H → dX h H ≤ 6 → ∀ j, bdg h (H j) ((6 : Nat) : Int) := fun {H} hH xH j => by
    refine ⟨(row_po h hH j).1, ?_⟩
    have : dl (fR h) (H j) 7 := fun i hi => by
      letI := fR h
      by_cases z : H j i = 0
      · exact z
      · have := hH.dg.1.1 j i z
        omega
    have := dgi_le h this
    omega
  unfold sylY
  split
  · split
    · exact key hF xF _
    · exact bdg_0 h (by omega)
  · split
    · exact key hG xG _
    · exact bdg_0 h (by omega)
end
