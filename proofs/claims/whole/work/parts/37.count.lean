/-! linear algebra: more vectors than places depend on each other; so no more parts than the kernel has free places -/
theorem sm_skip {K : Type} (R : Lean.Grind.CommRing K) (F : Nat → K) {r : Nat} : letI := R; ∀ n, r ≤ n → sm R (n + 1) F = sm R n (fun i => F (if i < r then i else i + 1)) + F r := by
  letI := R
  intro n
  induction n with
  | zero =>
    intro h
    obtain rfl : r = 0 := by omega
    rfl
  | succ n ih =>
    intro h
    rcases Nat.lt_or_eq_of_le h with z | z
    · have h1 := ih (by omega)
      show sm R (n + 1) F + F (n + 1) = sm R n (fun i => F (if i < r then i else i + 1)) + F (if n < r then n else n + 1) + F r
      rw [h1, if_neg (by omega)]
      grind
    · subst z
      show sm R (n + 1) F + F (n + 1) = sm R (n + 1) (fun i => F (if i < n + 1 then i else i + 1)) + F (n + 1)
      have e9 : sm R (n + 1) F = sm R (n + 1) (fun i => F (if i < n + 1 then i else i + 1)) := sm_congr R (fun i hi => by rw [if_pos hi])
      rw [← e9]
theorem lin_dep {K : Type} {R : Lean.Grind.CommRing K} (hF : fld R) : letI := R; ∀ (d : Nat) (M : Nat → Nat → K), ∃ c : Nat → K, (∃ i, i ≤ d ∧ c i ≠ 0) ∧ ∀ j, j < d → sm R (d + 1) (fun i => c i * M i j) = 0 := by
  letI := R
  intro d
  induction d with
  | zero => exact fun M => ⟨fun _ => 1, ⟨0, Nat.le_refl 0, hF.2⟩, fun j hj => by omega⟩
  | succ d ih =>
    intro M
    by_cases hz : ∀ i, i ≤ d + 1 → M i d = 0
    · obtain ⟨c, ⟨i0, hi0, hc0⟩, hs⟩ := ih M
      refine ⟨fun i => if i ≤ d then c i else 0, ⟨i0, by omega, by dsimp only; rw [if_pos hi0]; exact hc0⟩, fun j hj => ?_⟩
      show sm R (d + 1) (fun i => (if i ≤ d then c i else 0) * M i j) + (if d + 1 ≤ d then c (d + 1) else 0) * M (d + 1) j = 0
      rw [if_neg (by omega)]
      rcases Nat.lt_or_eq_of_le (show j ≤ d by omega) with z | z
      · have h1 : sm R (d + 1) (fun i => (if i ≤ d then c i else 0) * M i j) = 0 := (sm_congr R (fun i hi => by rw [if_pos (by omega)])).trans (hs j z)
        rw [h1]
        grind
      · subst z
        rw [sm_zero R (fun i hi => by rw [hz i (by omega)]; grind)]
        grind
    · obtain ⟨r, hr, hne⟩ : ∃ r, r ≤ d + 1 ∧ M r d ≠ 0 := by
        refine Classical.byContradiction fun w => hz fun i hi => Classical.byContradiction fun y => w ⟨i, hi, y⟩
      obtain ⟨b, hb⟩ := hF.1 _ hne
      obtain ⟨c, ⟨i0, hi0, hc0⟩, hs⟩ := ih (fun i j => M (if i < r then i else i + 1) j - M (if i < r then i else i + 1) d * b * M r j)
      -- the row r takes up what the others leave in the last place
      refine ⟨fun i => if i = r then 0 - sm R (d + 1) (fun i => c i * (M (if i < r then i else i + 1) d * b)) else c (if i < r then i else i - 1), ⟨if i0 < r then i0 else i0 + 1, by split <;> omega, ?_⟩, fun j hj => ?_⟩
      · by_cases w : i0 < r
        · rw [if_pos w]
          dsimp only
          rw [if_neg (by omega), if_pos w]
          exact hc0
        · rw [if_neg w]
          dsimp only
          rw [if_neg (by omega), if_neg (by omega), Nat.add_sub_cancel]
          exact hc0
      · rw [sm_skip R _ (d + 1) hr]
        dsimp only
        rw [if_pos rfl]
        have h1 : sm R (d + 1) (fun i => (if (if i < r then i else i + 1) = r then 0 - sm R (d + 1) (fun i => c i * (M (if i < r then i else i + 1) d * b)) else c (if (if i < r then i else i + 1) < r then (if i < r then i else i + 1) else (if i < r then i else i + 1) - 1)) * M (if i < r then i else i + 1) j) = sm R (d + 1) (fun i => c i * M (if i < r then i else i + 1) j) := sm_congr R (fun i hi => by
          by_cases w : i < r
          · simp only [if_pos w]
            rw [if_neg (by omega)]
          · simp only [if_neg w]
            rw [if_neg (by omega), if_neg (by omega), Nat.add_sub_cancel])
        rw [h1]
        have h2 : sm R (d + 1) (fun i => c i * (M (if i < r then i else i + 1) j - M (if i < r then i else i + 1) d * b * M r j)) = sm R (d + 1) (fun i => c i * M (if i < r then i else i + 1) j) - sm R (d + 1) (fun i => c i * (M (if i < r then i else i + 1) d * b)) * M r j := by
          rw [← sm_mulr R, ← sm_sub R]
          exact sm_congr R (fun i hi => by grind)
        rcases Nat.lt_or_eq_of_le (show j ≤ d by omega) with z | z
        · have h3 := hs j z
          rw [h2] at h3
          grind
        · subst z
          have h4 : sm R (j + 1) (fun i => c i * (M (if i < r then i else i + 1) j * b)) * M r j = sm R (j + 1) (fun i => c i * M (if i < r then i else i + 1) j) := by
            rw [← sm_mulr R]
            exact sm_congr R (fun i hi => by grind)
          grind
section
variable {p : Nat}
theorem nr_cz (h : prm p) (n : Nat) : nr (pR h) n = cz h (nr (fR h) n) := by
  induction n with
  | zero => exact funext fun k => (by
      letI := fR h
      show (if k = 0 then (0 : Fp p) else 0) = (if k = 0 then (0 : Fp p) else 0)
      rfl)
  | succ n ih =>
    letI := fR h
    letI := pR h
    show nr (pR h) n + 1 = cz h (nr (fR h) n + 1)
    rw [ih, cz_add]
    rfl
theorem cz_0 (h : prm p) : letI := fR h; letI := pR h; cz h 0 = 0 := rfl
theorem nr_pp (h : prm p) : letI := pR h; nr (pR h) p = 0 := by
  rw [nr_cz, nr_p h]
  rfl
theorem mul_pw {A : Type} (R : Lean.Grind.CommRing A) (x y : A) (n : Nat) : letI := R; (x * y) ^ n = x ^ n * y ^ n := by
  letI := R
  induction n with
  | zero => rw [pw_0 R, pw_0 R, pw_0 R]; grind
  | succ n ih =>
    rw [pw_s R, pw_s R, pw_s R, ih]
    generalize x ^ n = a
    generalize y ^ n = b
    grind
theorem ker_add (h : prm p) {w a b : Px p} (ha : ker h w a) (hb : ker h w b) : letI := pR h; ker h w (a + b) := by
  letI := pR h
  refine ⟨add_po ha.1 hb.1, ?_⟩
  rw [frob (pR h) h (nr_pp h)]
  have e : a ^ p + b ^ p - (a + b) = (a ^ p - a) + (b ^ p - b) := by
    generalize a ^ p = x
    generalize b ^ p = y
    grind
  rw [e]
  exact dv_add ha.2 hb.2
theorem ker_smul (h : prm p) {w a : Px p} (c : Fp p) (ha : ker h w a) : letI := pR h; ker h w (cz h c * a) := by
  letI := pR h
  refine ⟨mul_po (cz_po h c) ha.1, ?_⟩
  rw [mul_pw (pR h), ← cz_pw h, fermat h]
  have e : cz h c * a ^ p - cz h c * a = cz h c * (a ^ p - a) := by
    generalize a ^ p = x
    grind
  rw [e]
  exact dv_mul _ (cz_po h c) ha.2
theorem ker_0 (h : prm p) (w : Px p) : letI := pR h; ker h w 0 := by
  letI := pR h
  refine ⟨zero_po (fR h), ?_⟩
  rw [zero_pw (pR h) (by have := h.1; omega)]
  have e : (0 : Px p) - 0 = 0 := by grind
  rw [e]
  exact dv_0 (fR h) w
theorem ker_sm (h : prm p) {w : Px p} : ∀ (n : Nat) (F : Nat → Px p), (∀ i, i < n → ker h w (F i)) → ker h w (sm (pR h) n F)
  | 0, _, _ => ker_0 h w
  | n + 1, F, hF => ker_add h (ker_sm h n F (fun i hi => hF i (by omega))) (hF n (by omega))
theorem ker_cong (h : prm p) {w a b : Px p} (ha : ker h w a) (hb : po (fR h) b) (hd : letI := pR h; dv (fR h) w (a - b)) : ker h w b := by
  letI := pR h
  refine ⟨hb, ?_⟩
  have h1 := pw_dv h ha.1 hb hd p
  have e : b ^ p - b = (a ^ p - a) - (a ^ p - b ^ p) + (a - b) := by
    generalize a ^ p = x
    generalize b ^ p = y
    grind
  rw [e]
  exact dv_add (dv_sub ha.2 h1) hd
theorem sm_at (h : prm p) : ∀ (n : Nat) (F : Nat → Px p) (k : Nat), sm (pR h) n F k = sm (fR h) n (fun i => F i k)
  | 0, _, k => zero_k (fR h) k
  | n + 1, F, k => by
    letI := fR h
    show sm (pR h) n F k + F n k = sm (fR h) n (fun i => F i k) + F n k
    rw [sm_at h n F k]
theorem dv_sm (h : prm p) {q : Px p} : ∀ (n : Nat) (F : Nat → Px p), (∀ i, i < n → dv (fR h) q (F i)) → dv (fR h) q (sm (pR h) n F)
  | 0, _, _ => dv_0 (fR h) q
  | n + 1, F, hF => dv_add (dv_sm h n F (fun i hi => hF i (by omega))) (hF n (by omega))
/-- w can't fall into d + 1 coprime parts where d places tell an own p-th power -/
theorem count_le (h : prm p) {w : Px p} {n d : Nat} (hw : dg (fR h) w n) (q k u s : Nat → Px p) (hq : ∀ i, i ≤ d → po (fR h) (q i)) (hk : ∀ i, i ≤ d → po (fR h) (k i)) (hu : ∀ i, i ≤ d → po (fR h) (u i)) (hs : ∀ i, i ≤ d → po (fR h) (s i))
    (ew : ∀ i, i ≤ d → w = zmul (fR h) (q i) (k i)) (e : letI := pR h; ∀ i, i ≤ d → u i * q i + s i * k i = 1) (hdq : ∀ i, i ≤ d → ∃ m, 1 ≤ m ∧ dg (fR h) (q i) m) (hqk : ∀ i j, i ≤ d → j ≤ d → i ≠ j → dv (fR h) (q j) (k i))
    (φ : Nat → Nat) (hφ : letI := fR h; letI := pR h; ∀ v, ker h w v → dl (fR h) v n → (∀ j, j < d → v (φ j) = 0) → v = 0) : False := by
  letI := pR h
  have hF := fld_p h
  have hex : ∀ i, ∃ t r : Px p, i ≤ d → po (fR h) t ∧ s i * k i = t * w + r ∧ dl (fR h) r n := fun i => by
    by_cases z : i ≤ d
    · obtain ⟨m, hm⟩ := mul_po (hs i z) (hk i z)
      obtain ⟨t, r, h1, h2, h3⟩ := div_ex hF hw m _ hm
      exact ⟨t, r, fun _ => ⟨h1, h2, h3⟩⟩
    · exact ⟨0, 0, fun y => absurd y z⟩
  obtain ⟨t, ht⟩ : ∃ t : Nat → Px p, ∀ i, ∃ r : Px p, i ≤ d → po (fR h) (t i) ∧ s i * k i = t i * w + r ∧ dl (fR h) r n := ⟨fun i => Classical.choose (hex i), fun i => Classical.choose_spec (hex i)⟩
  obtain ⟨r, hr⟩ : ∃ r : Nat → Px p, ∀ i, i ≤ d → po (fR h) (t i) ∧ s i * k i = t i * w + r i ∧ dl (fR h) (r i) n := ⟨fun i => Classical.choose (ht i), fun i => Classical.choose_spec (ht i)⟩
  have hwp : po (fR h) w := ⟨_, hw.2⟩
  have hrp : ∀ i, i ≤ d → po (fR h) (r i) := fun i hi => ⟨n, (hr i hi).2.2⟩
  have hkr : ∀ i, i ≤ d → ker h w (r i) := fun i hi => by
    have h1 := idem_ker h (hq i hi) (hk i hi) (hu i hi) (hs i hi) (e i hi)
    rw [← ew i hi] at h1
    refine ker_cong h h1 (hrp i hi) ?_
    have e1 : s i * k i - r i = t i * w := by have := (hr i hi).2.1; grind
    rw [e1]
    exact dv_r (hr i hi).1
  obtain ⟨c, ⟨i0, hi0, hc0⟩, hsum⟩ := lin_dep hF d (fun i j => r i (φ j))
  have hv0 : sm (pR h) (d + 1) (fun i => cz h (c i) * r i) = 0 := by
    have hat : ∀ k, sm (pR h) (d + 1) (fun i => cz h (c i) * r i) k = sm (fR h) (d + 1) (fun i => letI := fR h; c i * r i k) := fun k => by
      rw [sm_at]
      exact sm_congr (fR h) (fun i hi => zmul_c (fR h) (c i) (r i) k)
    refine hφ _ (ker_sm h _ _ (fun i hi => ker_smul h (c i) (hkr i (by omega)))) (fun k hk2 => ?_) (fun j hj => ?_)
    · letI := fR h
      rw [hat]
      exact sm_zero (fR h) (fun i hi => by rw [(hr i (by omega)).2.2 k hk2]; grind)
    · rw [hat]
      exact hsum j hj
  have hqw : dv (fR h) (q i0) w := by rw [ew i0 hi0]; exact dv_l (hk i0 hi0)
  have h1 : dv (fR h) (q i0) (sm (pR h) (d + 1) (fun i => cz h (c i) * r i - (if i = i0 then cz h (c i0) else 0))) := dv_sm h _ _ (fun i hi => by
    have hi : i ≤ d := by omega
    have e1 : r i = s i * k i - t i * w := by have := (hr i hi).2.1; grind
    by_cases z : i = i0
    · subst z
      rw [if_pos rfl]
      have e2 : cz h (c i) * r i - cz h (c i) = cz h (c i) * ((0 - u i) * q i - t i * w) := by
        have := e i hi
        rw [e1]
        generalize cz h (c i) = x
        grind
      rw [e2]
      exact dv_mul _ (cz_po h _) (dv_sub (dv_r (sub_po (zero_po (fR h)) (hu i hi))) (dv_mul _ (hr i hi).1 hqw))
    · rw [if_neg z]
      have e2 : cz h (c i) * r i - 0 = cz h (c i) * (s i * k i - t i * w) := by
        rw [e1]
        generalize cz h (c i) = x
        grind
      rw [e2]
      exact dv_mul _ (cz_po h _) (dv_sub (dv_mul _ (hs i hi) (hqk i i0 hi hi0 z)) (dv_mul _ (hr i hi).1 hqw)))
  rw [sm_sub (pR h), hv0, sm_one (pR h) (j := i0) (by omega) (fun i hi hn => by rw [if_neg hn]), if_pos rfl] at h1
  have h2 : dv (fR h) (q i0) (cz h (c i0)) := by
    have e1 : cz h (c i0) = 0 - (0 - cz h (c i0)) := by grind
    rw [e1]
    exact dv_sub (dv_0 (fR h) _) h1
  obtain ⟨m, hm1, hm⟩ := hdq i0 hi0
  have := dv_deg hF hm (cz_dg h hc0) h2
  omega
end
