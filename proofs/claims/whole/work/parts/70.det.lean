/-! determinants, by the first column; rows -/
section
variable {K : Type}
/-- 1, -1, 1, .. -/
def sgd (R : Lean.Grind.CommRing K) : Nat → K
  | 0 => letI := R; 1
  | n + 1 => letI := R; - sgd R n
def skp (i a : Nat) : Nat := if a < i then a else a + 1
/-- one row changed -/
def rup (M : Nat → Nat → K) (r : Nat) (u : Nat → K) : Nat → Nat → K := fun a b => if a = r then u b else M a b
def det (R : Lean.Grind.CommRing K) : Nat → (Nat → Nat → K) → K
  | 0, _ => letI := R; 1
  | n + 1, M => letI := R; sm R (n + 1) (fun i => sgd R i * M i 0 * det R n (fun a b => M (skp i a) (b + 1)))
theorem det_s (R : Lean.Grind.CommRing K) (n : Nat) (M : Nat → Nat → K) : det R (n + 1) M = (letI := R; sm R (n + 1) (fun i => sgd R i * M i 0 * det R n (fun a b => M (skp i a) (b + 1)))) := rfl
theorem skp_lt {i a n : Nat} (h : a < n) : skp i a < n + 1 := by unfold skp; split <;> omega
theorem det_cg (R : Lean.Grind.CommRing K) : ∀ (n : Nat) {M N : Nat → Nat → K}, (∀ a b, a < n → b < n → M a b = N a b) → det R n M = det R n N
  | 0, _, _, _ => rfl
  | n + 1, M, N, h => by
    letI := R
    rw [det_s, det_s]
    refine sm_congr R (fun i hi => ?_)
    rw [h i 0 hi (by omega), det_cg R n (fun a b ha hb => h (skp i a) (b + 1) (skp_lt ha) (by omega))]
/-- the row r in the rows without i -/
def usk (i r : Nat) : Nat := if r < i then r else r - 1
theorem usk_lt {i r n : Nat} (hr : r < n + 1) (hi : i < n + 1) (hne : i ≠ r) : usk i r < n := by unfold usk; split <;> omega
theorem rup_min (M : Nat → Nat → K) {i r : Nat} (u : Nat → K) (hne : i ≠ r) : (fun a b => rup M r u (skp i a) (b + 1)) = rup (fun a b => M (skp i a) (b + 1)) (usk i r) (fun b => u (b + 1)) := funext fun a => funext fun b => by
  unfold rup
  by_cases z : skp i a = r
  · rw [if_pos z, if_pos]
    unfold skp at z; unfold usk
    split at z <;> split <;> omega
  · rw [if_neg z, if_neg]
    intro q
    apply z
    unfold skp; unfold usk at q
    split at q <;> split <;> omega
theorem rup_same (M : Nat → Nat → K) (r : Nat) (u v : Nat → K) : (fun a b => rup M r u (skp r a) (b + 1)) = (fun a b => rup M r v (skp r a) (b + 1)) := funext fun a => funext fun b => by
  have : skp r a ≠ r := by unfold skp; split <;> omega
  unfold rup
  rw [if_neg this, if_neg this]
theorem rup_r (M : Nat → Nat → K) (r : Nat) (u : Nat → K) (b : Nat) : rup M r u r b = u b := if_pos rfl
theorem rup_n (M : Nat → Nat → K) {r a : Nat} (u : Nat → K) (b : Nat) (h : a ≠ r) : rup M r u a b = M a b := if_neg h
theorem rup_id (M : Nat → Nat → K) (r : Nat) : rup M r (M r) = M := funext fun a => funext fun b => by
  unfold rup
  split
  · rename_i z; rw [z]
  · rfl
theorem rup_rup (M : Nat → Nat → K) (r : Nat) (u v : Nat → K) : rup (rup M r u) r v = rup M r v := funext fun a => funext fun b => by
  unfold rup
  split
  · rfl
  · rfl
theorem rup_cm (M : Nat → Nat → K) {r s : Nat} (u v : Nat → K) (h : r ≠ s) : rup (rup M r u) s v = rup (rup M s v) r u := funext fun a => funext fun b => by
  unfold rup
  by_cases z : a = s
  · rw [if_pos z, if_neg (by omega), if_pos z]
  · rw [if_neg z]
    by_cases y : a = r
    · rw [if_pos y, if_pos y]
    · rw [if_neg y, if_neg y, if_neg z]
/-- linear in each row -/
theorem det_lin (R : Lean.Grind.CommRing K) : ∀ (n : Nat) (M : Nat → Nat → K) (r : Nat) (u v : Nat → K) (c : K), r < n → letI := R; det R n (rup M r (fun b => u b + c * v b)) = det R n (rup M r u) + c * det R n (rup M r v)
  | 0, _, _, _, _, _, h => absurd h (by omega)
  | n + 1, M, r, u, v, c, hr => by
    letI := R
    rw [det_s, det_s, det_s, ← sm_mul R, ← sm_add R]
    refine sm_congr R (fun i hi => ?_)
    by_cases z : i = r
    · subst z
      rw [rup_r, rup_r, rup_r, rup_same M i (fun b => u b + c * v b) u, rup_same M i v u]
      generalize det R n _ = d
      grind
    · rw [rup_n _ _ _ z, rup_n _ _ _ z, rup_n _ _ _ z, rup_min _ _ z, rup_min _ _ z, rup_min _ _ z]
      have e := det_lin R n (fun a b => M (skp i a) (b + 1)) (usk i r) (fun b => u (b + 1)) (fun b => v (b + 1)) c (usk_lt hr hi z)
      rw [e]
      generalize det R n _ = d1
      generalize det R n _ = d2
      grind
theorem det_z (R : Lean.Grind.CommRing K) {n : Nat} {M : Nat → Nat → K} {r : Nat} (hr : r < n) (h : letI := R; ∀ b, b < n → M r b = 0) : letI := R; det R n M = 0 := by
  letI := R
  have e1 : det R n M = det R n (rup M r (fun _ => 0)) := det_cg R n (fun a b _ hb => by
    unfold rup
    split
    · rename_i z; rw [z]; exact h b hb
    · rfl)
  have e2 := det_lin R n M r (fun _ => 0) (fun _ => 0) 1 hr
  have e3 : rup M r (fun _ => (0 : K) + 1 * 0) = rup M r (fun _ => 0) := by
    congr 1; funext b; grind
  rw [e3] at e2
  rw [e1]
  generalize det R n _ = d at e2 ⊢
  grind
theorem det_sc (R : Lean.Grind.CommRing K) {n : Nat} (M : Nat → Nat → K) {r : Nat} (v : Nat → K) (c : K) (hr : r < n) : letI := R; det R n (rup M r (fun b => c * v b)) = c * det R n (rup M r v) := by
  letI := R
  have e2 := det_lin R n M r (fun _ => 0) v c hr
  have e3 : (fun b => (0 : K) + c * v b) = fun b => c * v b := by funext b; grind
  rw [e3, det_z R (M := rup M r (fun _ => 0)) hr (fun b _ => rup_r _ _ _ _)] at e2
  rw [e2]
  generalize det R n _ = d
  grind
theorem sm_two (R : Lean.Grind.CommRing K) {n r : Nat} {F : Nat → K} (hr : r + 1 < n) (h : letI := R; ∀ i, i < n → i ≠ r → i ≠ r + 1 → F i = 0) (e : letI := R; F r + F (r + 1) = 0) : letI := R; sm R n F = 0 := by
  letI := R
  have e1 : sm R n F = sm R n (fun i => (if i = r then F i else 0) + (if i = r then 0 else F i)) := sm_congr R (fun i _ => by split <;> grind)
  rw [e1, sm_add R, sm_one R (j := r) (by omega) (fun i _ hi => if_neg hi), sm_one R (j := r + 1) hr (fun i h1 h2 => by
    by_cases z : i = r
    · rw [if_pos z]
    · rw [if_neg z]; exact h i h1 z h2), if_pos rfl, if_neg (by omega)]
  exact e
/-- two rows alike, side by side -/
theorem det_adj (R : Lean.Grind.CommRing K) : ∀ (n : Nat) (M : Nat → Nat → K) (r : Nat), r + 1 < n → (∀ b, M r b = M (r + 1) b) → letI := R; det R n M = 0
  | 0, _, _, h, _ => absurd h (by omega)
  | n + 1, M, r, hr, he => by
    letI := R
    rw [det_s]
    refine sm_two R hr (fun i hi h1 h2 => ?_) ?_
    · have e : det R n (fun a b => M (skp i a) (b + 1)) = 0 := by
        by_cases z : i < r
        · refine det_adj R n _ (r - 1) (by omega) (fun b => ?_)
          show M (skp i (r - 1)) (b + 1) = M (skp i (r - 1 + 1)) (b + 1)
          have e1 : skp i (r - 1) = r := by unfold skp; split <;> omega
          have e2 : skp i (r - 1 + 1) = r + 1 := by unfold skp; split <;> omega
          rw [e1, e2]; exact he _
        · refine det_adj R n _ r (by omega) (fun b => ?_)
          show M (skp i r) (b + 1) = M (skp i (r + 1)) (b + 1)
          have e1 : skp i r = r := by unfold skp; split <;> omega
          have e2 : skp i (r + 1) = r + 1 := by unfold skp; split <;> omega
          rw [e1, e2]; exact he _
      rw [e]; grind
    · have e : (fun a b => M (skp r a) (b + 1)) = (fun a b => M (skp (r + 1) a) (b + 1)) := funext fun a => funext fun b => by
        by_cases z : a = r
        · subst z
          have e1 : skp a a = a + 1 := by unfold skp; split <;> omega
          have e2 : skp (a + 1) a = a := by unfold skp; split <;> omega
          rw [e1, e2]; exact (he _).symm
        · have e1 : skp r a = skp (r + 1) a := by unfold skp; split <;> split <;> omega
          rw [e1]
      rw [e, he 0]
      show _ + (- sgd R r) * _ * _ = 0
      generalize det R n _ = d
      grind
theorem det_pair (R : Lean.Grind.CommRing K) {n r s : Nat} (M : Nat → Nat → K) (hr : r < n) (hs : s < n) (hrs : r ≠ s) (hz : letI := R; ∀ x : Nat → K, det R n (rup (rup M r x) s x) = 0) (x y : Nat → K) : letI := R; det R n (rup (rup M r y) s x) = - det R n (rup (rup M r x) s y) := by
  letI := R
  have l1 : ∀ a b c : Nat → K, det R n (rup (rup M r a) s (fun k => b k + 1 * c k)) = det R n (rup (rup M r a) s b) + 1 * det R n (rup (rup M r a) s c) := fun a b c => det_lin R n _ s b c 1 hs
  have l2 : ∀ a b c : Nat → K, det R n (rup (rup M r (fun k => b k + 1 * c k)) s a) = det R n (rup (rup M r b) s a) + 1 * det R n (rup (rup M r c) s a) := fun a b c => by
    rw [rup_cm _ _ _ hrs, rup_cm _ _ _ hrs, rup_cm _ _ _ hrs]
    exact det_lin R n _ r b c 1 hr
  have e := hz (fun k => x k + 1 * y k)
  rw [l1, l2, l2, hz x, hz y] at e
  generalize det R n _ = d1 at e ⊢
  generalize det R n _ = d2 at e ⊢
  grind
/-- two rows changed for each other -/
def swr (M : Nat → Nat → K) (r s : Nat) : Nat → Nat → K := fun a b => if a = r then M s b else if a = s then M r b else M a b
theorem swr_rup (M : Nat → Nat → K) {r s : Nat} (h : r ≠ s) : swr M r s = rup (rup M r (M s)) s (M r) := funext fun a => funext fun b => by
  unfold swr rup
  by_cases z : a = r
  · rw [if_pos z, if_neg (by omega), if_pos z]
  · rw [if_neg z]
    by_cases y : a = s
    · rw [if_pos y, if_pos y]
    · rw [if_neg y, if_neg y, if_neg z]
theorem rup_two (M : Nat → Nat → K) (r s : Nat) : rup (rup M r (M r)) s (M s) = M := by rw [rup_id, rup_id]
theorem det_swz (R : Lean.Grind.CommRing K) {n r s : Nat} (M : Nat → Nat → K) (hr : r < n) (hs : s < n) (hrs : r ≠ s) (hz : letI := R; ∀ x : Nat → K, det R n (rup (rup M r x) s x) = 0) : letI := R; det R n (swr M r s) = - det R n M := by
  letI := R
  have e := det_pair R M hr hs hrs hz (M r) (M s)
  rw [rup_two] at e
  rw [swr_rup _ hrs, e]
/-- two rows alike -/
theorem det_eq (R : Lean.Grind.CommRing K) {n : Nat} : ∀ (d : Nat) (M : Nat → Nat → K) (r s : Nat), s = r + 1 + d → s < n → (∀ b, M r b = M s b) → letI := R; det R n M = 0
  | 0, M, r, s, hd, hs, he => det_adj R n M r (by omega) (fun b => by rw [he b, hd])
  | d + 1, M, r, s, hd, hs, he => by
    letI := R
    have e1 : det R n (swr M (s - 1) s) = - det R n M := det_swz R M (by omega) hs (by omega) (fun x => det_adj R n _ (s - 1) (by omega) (fun b => by
      rw [rup_n _ _ _ (show s - 1 ≠ s by omega), rup_r, show s - 1 + 1 = s by omega, rup_r]))
    have e2 : det R n (swr M (s - 1) s) = 0 := det_eq R d _ r (s - 1) (by omega) (by omega) (fun b => by
      unfold swr
      rw [if_neg (by omega), if_neg (by omega), if_pos rfl]; exact he b)
    rw [e2] at e1
    generalize det R n M = x at e1 ⊢
    grind
theorem det_eq2 (R : Lean.Grind.CommRing K) {n : Nat} {M : Nat → Nat → K} {r s : Nat} (hr : r < n) (hs : s < n) (hrs : r ≠ s) (he : ∀ b, M r b = M s b) : letI := R; det R n M = 0 := by
  rcases Nat.lt_or_ge r s with z | z
  · exact det_eq R (s - r - 1) M r s (by omega) hs he
  · exact det_eq R (r - s - 1) M s r (by omega) hr (fun b => (he b).symm)
theorem det_sw (R : Lean.Grind.CommRing K) {n r s : Nat} (M : Nat → Nat → K) (hr : r < n) (hs : s < n) (hrs : r ≠ s) : letI := R; det R n (swr M r s) = - det R n M :=
  det_swz R M hr hs hrs (fun x => det_eq2 R hr hs hrs (fun b => by rw [rup_n _ _ _ hrs, rup_r, rup_r]))
/-- a row and a multiple of another -/
theorem det_add (R : Lean.Grind.CommRing K) {n r s : Nat} (M : Nat → Nat → K) (c : K) (hr : r < n) (hs : s < n) (hrs : r ≠ s) : letI := R; det R n (rup M r (fun b => M r b + c * M s b)) = det R n M := by
  letI := R
  rw [det_lin R n M r (M r) (M s) c hr, rup_id, det_eq2 R (M := rup M r (M s)) hr hs hrs (fun b => by rw [rup_r, rup_n _ _ _ (fun z => hrs z.symm)])]
  generalize det R n M = d
  grind
/-- a row and multiples of others -/
theorem det_adds (R : Lean.Grind.CommRing K) {n r : Nat} (M : Nat → Nat → K) (c : Nat → K) (f : Nat → Nat) (hr : r < n) : ∀ m : Nat, (∀ l, l < m → f l < n ∧ f l ≠ r) → letI := R; det R n (rup M r (fun b => M r b + sm R m (fun l => c l * M (f l) b))) = det R n M
  | 0, _ => by
    letI := R
    have e : (fun b => M r b + sm R 0 (fun l => c l * M (f l) b)) = M r := funext fun b => by show M r b + 0 = M r b; grind
    rw [e, rup_id]
  | m + 1, h => by
    letI := R
    have ih := det_adds R M c f hr m (fun l hl => h l (by omega))
    have h1 := h m (by omega)
    have e := det_add R (rup M r (fun b => M r b + sm R m (fun l => c l * M (f l) b))) (c m) hr h1.1 (fun z => h1.2 z.symm)
    rw [rup_rup, ih] at e
    rw [← e]
    congr 1
    congr 1
    funext b
    rw [rup_r, rup_n _ _ _ h1.2]
    show M r b + (sm R m (fun l => c l * M (f l) b) + c m * M (f m) b) = _
    grind
theorem det_c0 (R : Lean.Grind.CommRing K) {n : Nat} {M : Nat → Nat → K} (h : letI := R; ∀ a, 0 < a → a < n + 1 → M a 0 = 0) : letI := R; det R (n + 1) M = M 0 0 * det R n (fun a b => M (a + 1) (b + 1)) := by
  letI := R
  rw [det_s, sm_one R (j := 0) (by omega) (fun i hi hn => by rw [h i (by omega) hi]; grind)]
  have e : (fun a b => M (skp 0 a) (b + 1)) = (fun a b => M (a + 1) (b + 1)) := rfl
  rw [e]
  show 1 * _ * _ = _
  grind
theorem det_cz (R : Lean.Grind.CommRing K) {n : Nat} {M : Nat → Nat → K} (h : letI := R; ∀ a, a < n + 1 → M a 0 = 0) : letI := R; det R (n + 1) M = 0 := by
  letI := R
  rw [det_s]
  exact sm_zero R (fun i hi => by rw [h i hi]; grind)
theorem det_r0 (R : Lean.Grind.CommRing K) {n : Nat} {M : Nat → Nat → K} (h : letI := R; ∀ b, 0 < b → b < n + 1 → M 0 b = 0) : letI := R; det R (n + 1) M = M 0 0 * det R n (fun a b => M (a + 1) (b + 1)) := by
  letI := R
  rw [det_s, sm_one R (j := 0) (by omega) (fun i hi hn => by
    have e : det R n (fun a b => M (skp i a) (b + 1)) = 0 := det_z R (r := 0) (by omega) (fun b hb => by
      have e1 : skp i 0 = 0 := by unfold skp; rw [if_pos (by omega)]
      rw [e1]; exact h (b + 1) (by omega) (by omega))
    rw [e]; grind)]
  have e : (fun a b => M (skp 0 a) (b + 1)) = (fun a b => M (a + 1) (b + 1)) := rfl
  rw [e]
  show 1 * _ * _ = _
  grind
end
