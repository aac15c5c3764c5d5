/-! the resultant by x: Euclid's turns and the determinant -/
section
variable {K : Type}
/-- a block of rows changed by rows below it -/
theorem det_blk (R : Lean.Grind.CommRing K) {N n m : Nat} (M : Nat → Nat → K) (c : Nat → Nat → K) (hN : n + m ≤ N) : ∀ k, k ≤ n → letI := R; det R N (fun a b => if a < k then M a b + sm R m (fun l => c a l * M (n + l) b) else M a b) = det R N M
  | 0, _ => by
    letI := R
    exact det_cg R N (fun a b _ _ => if_neg (by omega))
  | k + 1, hk => by
    letI := R
    have ih := det_blk R M c hN k (by omega)
    rw [← ih, ← det_adds R (fun a b => if a < k then M a b + sm R m (fun l => c a l * M (n + l) b) else M a b) (c k) (fun l => n + l) (r := k) (by omega) m (fun l hl => ⟨by omega, by omega⟩)]
    refine det_cg R N (fun a b _ _ => ?_)
    unfold rup
    by_cases z : a = k
    · subst z
      rw [if_pos (by omega), if_pos rfl]
      dsimp only
      rw [if_neg (by omega)]
      congr 1
      exact sm_congr R (fun l hl => by rw [if_neg (by omega)])
    · rw [if_neg z]
      dsimp only
      by_cases y : a < k
      · rw [if_pos y, if_pos (by omega)]
      · rw [if_neg y, if_neg (by omega)]
/-- a row moved up -/
theorem det_mv (R : Lean.Grind.CommRing K) {N j : Nat} : ∀ (n : Nat) (M : Nat → Nat → K), j + n < N → letI := R; det R N (fun a b => if a < j then M a b else if a = j then M (j + n) b else if a ≤ j + n then M (a - 1) b else M a b) = sgd R n * det R N M
  | 0, M, h => by
    letI := R
    have e : det R N (fun a b => if a < j then M a b else if a = j then M (j + 0) b else if a ≤ j + 0 then M (a - 1) b else M a b) = det R N M := det_cg R N (fun a b _ _ => by
      by_cases z : a < j
      · rw [if_pos z]
      · rw [if_neg z]
        by_cases y : a = j
        · rw [if_pos y, y]; rfl
        · rw [if_neg y, if_neg (by omega)])
    rw [e]
    show _ = 1 * _
    grind
  | n + 1, M, h => by
    letI := R
    have ih := det_mv R (N := N) (j := j) n (swr M (j + n) (j + n + 1)) (by omega)
    have e : det R N (fun a b => if a < j then M a b else if a = j then M (j + (n + 1)) b else if a ≤ j + (n + 1) then M (a - 1) b else M a b) = det R N (fun a b => if a < j then swr M (j + n) (j + n + 1) a b else if a = j then swr M (j + n) (j + n + 1) (j + n) b else if a ≤ j + n then swr M (j + n) (j + n + 1) (a - 1) b else swr M (j + n) (j + n + 1) a b) := det_cg R N (fun a b _ _ => by
      unfold swr
      by_cases z : a < j
      · rw [if_pos z, if_pos z, if_neg (by omega), if_neg (by omega)]
      · rw [if_neg z, if_neg z]
        by_cases y : a = j
        · rw [if_pos y, if_pos y, if_pos rfl]; rfl
        · rw [if_neg y, if_neg y]
          by_cases x : a ≤ j + n
          · rw [if_pos (by omega), if_pos x, if_neg (by omega), if_neg (by omega)]
          · rw [if_neg x]
            by_cases w : a = j + n + 1
            · rw [if_pos (by omega), if_neg (by omega), if_pos w, w]; rfl
            · rw [if_neg (by omega), if_neg (by omega), if_neg w])
    rw [e, ih, det_sw R M (by omega) (by omega) (by omega)]
    show _ = (- sgd R n) * _
    generalize det R N M = d
    grind
/-- two blocks changed for each other, as far as the row j of the second -/
theorem det_sb (R : Lean.Grind.CommRing K) {N n m : Nat} (U V : Nat → Nat → K) (hN : N = m + n) : ∀ j, j ≤ m → letI := R; det R N (fun a b => if a < j then V a b else if a < j + n then U (a - j) b else V (a - n) b) = sgd R n ^ j * det R N (fun a b => if a < n then U a b else V (a - n) b)
  | 0, _ => by
    letI := R
    rw [pw_0 R]
    have e : det R N (fun a b => if a < 0 then V a b else if a < 0 + n then U (a - 0) b else V (a - n) b) = det R N (fun a b => if a < n then U a b else V (a - n) b) := det_cg R N (fun a b _ _ => by
      rw [if_neg (by omega), Nat.zero_add, Nat.sub_zero])
    rw [e]; grind
  | j + 1, hj => by
    letI := R
    have ih := det_sb R U V hN j (by omega)
    have e := det_mv R (N := N) (j := j) n (fun a b => if a < j then V a b else if a < j + n then U (a - j) b else V (a - n) b) (by omega)
    rw [ih] at e
    rw [pw_s R]
    have e2 : det R N (fun a b => if a < j + 1 then V a b else if a < j + 1 + n then U (a - (j + 1)) b else V (a - n) b) = det R N (fun a b => if a < j then (fun a b => if a < j then V a b else if a < j + n then U (a - j) b else V (a - n) b) a b else if a = j then (fun a b => if a < j then V a b else if a < j + n then U (a - j) b else V (a - n) b) (j + n) b else if a ≤ j + n then (fun a b => if a < j then V a b else if a < j + n then U (a - j) b else V (a - n) b) (a - 1) b else (fun a b => if a < j then V a b else if a < j + n then U (a - j) b else V (a - n) b) a b) := det_cg R N (fun a b _ _ => by
      dsimp only
      by_cases z : a < j
      · rw [if_pos (by omega), if_pos z, if_pos z]
      · rw [if_neg z]
        by_cases y : a = j
        · rw [if_pos (by omega), if_pos y, if_neg (by omega), if_neg (by omega), show j + n - n = a by omega]
        · rw [if_neg (by omega), if_neg y]
          by_cases x : a ≤ j + n
          · rw [if_pos (by omega), if_pos x, if_neg (by omega), if_pos (by omega), show a - 1 - j = a - (j + 1) by omega]
          · rw [if_neg (by omega), if_neg x, if_neg z, if_neg (by omega)])
    rw [e2, e]
    generalize det R N _ = d
    generalize sgd R n ^ j = s
    grind
theorem sgd_par (R : Lean.Grind.CommRing K) : ∀ n : Nat, letI := R; sgd R n = if n % 2 = 1 then -1 else 1
  | 0 => rfl
  | n + 1 => by
    letI := R
    show - sgd R n = _
    rw [sgd_par R n]
    by_cases z : n % 2 = 1
    · rw [if_pos z, if_neg (by omega)]; grind
    · rw [if_neg z, if_pos (by omega)]
theorem sgd_pw (R : Lean.Grind.CommRing K) (n : Nat) : ∀ m : Nat, letI := R; sgd R n ^ m = if m % 2 = 1 ∧ n % 2 = 1 then -1 else 1
  | 0 => by letI := R; rw [pw_0 R, if_neg (by omega)]
  | m + 1 => by
    letI := R
    rw [pw_s R, sgd_pw R n m, sgd_par R]
    by_cases y : n % 2 = 1
    · rw [if_pos y]
      by_cases z : m % 2 = 1
      · rw [if_pos ⟨z, y⟩, if_neg (by omega)]; grind
      · rw [if_neg (fun q => z q.1), if_pos ⟨by omega, y⟩]; grind
    · rw [if_neg y, if_neg (fun q => y q.2), if_neg (fun q => y q.2)]; grind
end
section
variable {p : Nat}
/-- x^j f -/
def xs (h : prm p) (j : Nat) (f : Px p) : Px p := fun i => letI := fR h; if j ≤ i then f (i - j) else 0
/-- the determinant of the rows of f and g, with degrees m and n -/
def rsD (h : prm p) (m n : Nat) (f g : Px p) : Fp p := det (fR h) (m + n) (fun i k => if i < n then xs h (n - 1 - i) f (m + n - 1 - k) else xs h (m + n - 1 - i) g (m + n - 1 - k))
theorem xs_mul (h : prm p) {q g : Px p} {s m : Nat} (hq : letI := fR h; ∀ j, m ≤ j + s → q j = 0) (t : Nat) : letI := fR h; xs h s (zmul (fR h) q g) t = sm (fR h) m (fun j => xs h s q j * xs h j g t) := by
  letI := fR h
  obtain ⟨F, hF⟩ : ∃ F : Nat → Fp p, F = fun j => xs h s q j * xs h j g t := ⟨_, rfl⟩
  have z1 : ∀ j, t + 1 ≤ j → F j = 0 := fun j hj => by
    rw [hF]
    show xs h s q j * (if j ≤ t then g (t - j) else 0) = 0
    rw [if_neg (by omega)]; grind
  have z2 : ∀ j, m ≤ j → F j = 0 := fun j hj => by
    rw [hF]
    show (if s ≤ j then q (j - s) else 0) * _ = 0
    by_cases z : s ≤ j
    · rw [if_pos z, hq (j - s) (by omega)]; grind
    · rw [if_neg z]; grind
  have e1 : sm (fR h) m F = sm (fR h) (t + 1) F := (sm_tail (fR h) (show m ≤ m + (t + 1) by omega) z2).symm.trans (sm_tail (fR h) (show t + 1 ≤ m + (t + 1) by omega) z1)
  rw [← hF, e1, hF]
  by_cases z : s ≤ t
  · show (if s ≤ t then zmul (fR h) q g (t - s) else 0) = _
    rw [if_pos z]
    show sm (fR h) (t - s + 1) (fun i => q i * g (t - s - i)) = _
    have e2 : ∀ (c d : Nat) (G : Nat → Fp p), (∀ i, i < c → G i = 0) → sm (fR h) (c + d) G = sm (fR h) d (fun i => G (c + i)) := by
      intro c d G hG
      induction d with
      | zero => exact sm_zero (fR h) hG
      | succ d ih =>
        show sm (fR h) (c + d) G + G (c + d) = sm (fR h) d (fun i => G (c + i)) + G (c + d)
        rw [ih]
    rw [show t + 1 = s + (t - s + 1) by omega, e2 s (t - s + 1) _ (fun i hi => by
      show (if s ≤ i then q (i - s) else 0) * _ = 0
      rw [if_neg (by omega)]; grind)]
    refine sm_congr (fR h) (fun i hi => ?_)
    show _ = (if s ≤ s + i then q (s + i - s) else 0) * (if s + i ≤ t then g (t - (s + i)) else 0)
    rw [if_pos (by omega), if_pos (by omega), show s + i - s = i by omega, show t - (s + i) = t - s - i by omega]
  · show (if s ≤ t then zmul (fR h) q g (t - s) else 0) = _
    rw [if_neg z]
    exact (sm_zero (fR h) (fun i hi => by
      show (if s ≤ i then q (i - s) else 0) * _ = 0
      rw [if_neg (by omega)]; grind)).symm
theorem xs_add (h : prm p) (s : Nat) (f g : Px p) (t : Nat) : letI := fR h; xs h s (letI := pR h; f + g) t = xs h s f t + xs h s g t := by
  letI := fR h
  show (if s ≤ t then f (t - s) + g (t - s) else 0) = (if s ≤ t then f (t - s) else 0) + (if s ≤ t then g (t - s) else 0)
  split
  · rfl
  · grind
/-- the rest in f's place -/
theorem rsD_r (h : prm p) {m n : Nat} {f g q r : Px p} (e : letI := pR h; f = q * g + r) (hq : letI := fR h; ∀ j, m < j + n → q j = 0) : rsD h m n f g = rsD h m n r g := by
  letI := fR h
  unfold rsD
  rw [← det_blk (fR h) (N := m + n) (n := n) (m := m) (fun i k => if i < n then xs h (n - 1 - i) r (m + n - 1 - k) else xs h (m + n - 1 - i) g (m + n - 1 - k)) (fun a l => xs h (n - 1 - a) q (m - 1 - l)) (by omega) n (Nat.le_refl n)]
  refine det_cg (fR h) _ (fun a b ha hb => ?_)
  by_cases z : a < n
  · rw [if_pos z, if_pos z, if_pos z]
    have e1 : xs h (n - 1 - a) f (m + n - 1 - b) = xs h (n - 1 - a) (zmul (fR h) q g) (m + n - 1 - b) + xs h (n - 1 - a) r (m + n - 1 - b) := by
      rw [e]; exact xs_add h _ (zmul (fR h) q g) r _
    rw [e1, xs_mul h (m := m) (fun j hj => hq j (by omega)), sm_rev]
    have e2 : sm (fR h) m (fun i => xs h (n - 1 - a) q (m - 1 - i) * xs h (m - 1 - i) g (m + n - 1 - b)) = sm (fR h) m (fun l => xs h (n - 1 - a) q (m - 1 - l) * (if n + l < n then xs h (n - 1 - (n + l)) r (m + n - 1 - b) else xs h (m + n - 1 - (n + l)) g (m + n - 1 - b))) := sm_congr (fR h) (fun l hl => by
      rw [if_neg (by omega), show m + n - 1 - (n + l) = m - 1 - l by omega])
    rw [e2]
    generalize sm (fR h) m _ = x
    grind
  · rw [if_neg z, if_neg z, if_neg z]
/-- rows of g above, rows of r below -/
def rsP (h : prm p) (n : Nat) (g r : Px p) (m : Nat) : Fp p := det (fR h) (m + n) (fun a k => if a < m then xs h (m - 1 - a) g (m + n - 1 - k) else xs h (n - 1 - (a - m)) r (m + n - 1 - k))
theorem rsP_s (h : prm p) {n m : Nat} {g r : Px p} (hg : dl (fR h) g (n + 1)) (hr : dl (fR h) r (m + 1)) : letI := fR h; rsP h n g r (m + 1) = g n * rsP h n g r m := by
  letI := fR h
  have e : m + 1 + n = m + n + 1 := by omega
  unfold rsP
  rw [e, det_c0 (fR h) (fun a a0 a1 => by
    by_cases z : a < m + 1
    · rw [if_pos z]
      show (if m + 1 - 1 - a ≤ m + n + 1 - 1 - 0 then g (m + n + 1 - 1 - 0 - (m + 1 - 1 - a)) else 0) = 0
      rw [if_pos (by omega)]
      exact hg _ (by omega)
    · rw [if_neg z]
      show (if n - 1 - (a - (m + 1)) ≤ m + n + 1 - 1 - 0 then r (m + n + 1 - 1 - 0 - (n - 1 - (a - (m + 1)))) else 0) = 0
      rw [if_pos (by omega)]
      exact hr _ (by omega))]
  congr 1
  · rw [if_pos (by omega)]
    show (if m + 1 - 1 - 0 ≤ m + n + 1 - 1 - 0 then g (m + n + 1 - 1 - 0 - (m + 1 - 1 - 0)) else 0) = g n
    rw [if_pos (by omega), show m + n + 1 - 1 - 0 - (m + 1 - 1 - 0) = n by omega]
  · refine det_cg (fR h) _ (fun a b ha hb => ?_)
    by_cases z : a < m
    · rw [if_pos z, if_pos (by omega), show m + 1 - 1 - (a + 1) = m - 1 - a by omega, show m + n + 1 - 1 - (b + 1) = m + n - 1 - b by omega]
    · rw [if_neg z, if_neg (by omega), show n - 1 - (a + 1 - (m + 1)) = n - 1 - (a - m) by omega, show m + n + 1 - 1 - (b + 1) = m + n - 1 - b by omega]
theorem rsP_d (h : prm p) {n d : Nat} {g r : Px p} (hg : dl (fR h) g (n + 1)) (hr : dl (fR h) r (d + 1)) : ∀ k : Nat, letI := fR h; rsP h n g r (d + k) = g n ^ k * rsP h n g r d
  | 0 => by letI := fR h; rw [pw_0 (fR h)]; show rsP h n g r d = _; grind
  | k + 1 => by
    letI := fR h
    have e := rsP_d h hg hr k
    have e1 := rsP_s h (m := d + k) (n := n) (g := g) (r := r) hg (dl_mono hr (by omega))
    rw [pw_s (fR h), show d + (k + 1) = d + k + 1 by omega, e1, e]
    generalize g n ^ k = x
    grind
theorem rsP_e (h : prm p) (n d : Nat) (g r : Px p) : rsP h n g r d = rsD h n d g r := by
  unfold rsP rsD
  rw [Nat.add_comm n d]
  refine det_cg (fR h) _ (fun a b ha hb => ?_)
  by_cases z : a < d
  · rw [if_pos z, if_pos z]
  · rw [if_neg z, if_neg z, show n - 1 - (a - d) = d + n - 1 - a by omega]
theorem rsD_sw (h : prm p) (m n : Nat) (r g : Px p) : letI := fR h; rsP h n g r m = (if m % 2 = 1 ∧ n % 2 = 1 then -1 else 1) * rsD h m n r g := by
  letI := fR h
  have e := det_sb (fR h) (N := m + n) (n := n) (m := m) (fun a k => xs h (n - 1 - a) r (m + n - 1 - k)) (fun a k => xs h (m - 1 - a) g (m + n - 1 - k)) rfl m (Nat.le_refl m)
  rw [sgd_pw] at e
  have e1 : rsP h n g r m = det (fR h) (m + n) (fun a b => if a < m then (fun a k => xs h (m - 1 - a) g (m + n - 1 - k)) a b else if a < m + n then (fun a k => xs h (n - 1 - a) r (m + n - 1 - k)) (a - m) b else (fun a k => xs h (m - 1 - a) g (m + n - 1 - k)) (a - n) b) := det_cg (fR h) _ (fun a b ha hb => by
    by_cases z : a < m
    · rw [if_pos z, if_pos z]
    · rw [if_neg z, if_neg z, if_pos ha])
  have e2 : rsD h m n r g = det (fR h) (m + n) (fun a b => if a < n then (fun a k => xs h (n - 1 - a) r (m + n - 1 - k)) a b else (fun a k => xs h (m - 1 - a) g (m + n - 1 - k)) (a - n) b) := det_cg (fR h) _ (fun a b ha hb => by
    by_cases z : a < n
    · rw [if_pos z, if_pos z]
    · rw [if_neg z, if_neg z]
      dsimp only
      rw [show m - 1 - (a - n) = m + n - 1 - a by omega])
  rw [e1, e2]
  exact e
theorem ldF_at (h : prm p) {f : Px p} (hf : po (fR h) f) (hd : 0 ≤ dgi h f) : ldF h f = f (dgi h f).toNat := by
  unfold ldF ld
  have := cf_zi h f (dgi h f).toNat
  rw [show (((dgi h f).toNat : Nat) : Int) = dgi h f by omega] at this
  exact this
/-- Euclid's turns give the determinant -/
theorem rsE_D (h : prm p) : ∀ (k : Nat) (u v : Px p), po (fR h) u → po (fR h) v → 0 ≤ dgi h u → 0 ≤ dgi h v → dgi h v ≤ k → rsE h k u v = rsD h (dgi h u).toNat (dgi h v).toNat u v := by
  intro k
  induction k with
  | zero =>
    intro u v hu hv du dv dk
    rw [rsE_c h 0 (by omega)]
    letI := fR h
    have e := rsP_d h (n := 0) (d := 0) (g := v) (r := (letI := pR h; 0)) (by
      have := dgi_dl h hv
      rw [show (dgi h v + 1).toNat = 0 + 1 by omega] at this
      exact this) (fun k hk => zero_k _ k) (dgi h u).toNat
    rw [ldF_at h hv dv, show (dgi h v).toNat = 0 by omega]
    have e1 : rsD h (dgi h u).toNat 0 u v = rsP h 0 v (letI := pR h; 0) (0 + (dgi h u).toNat) := by
      rw [Nat.zero_add]
      unfold rsP rsD
      refine det_cg (fR h) _ (fun a b ha hb => ?_)
      rw [if_neg (by omega), if_pos (by omega)]
      rfl
    rw [e1, e]
    show _ = v 0 ^ (dgi h u).toNat * 1
    generalize v 0 ^ (dgi h u).toNat = x
    grind
  | succ k ih =>
    intro u v hu hv du dv dk
    rcases Int.lt_or_le 0 (dgi h v) with z | z
    · letI := fR h
      have hq := qr_sp h hu hv dv
      have hqd := qt_dgi h hu hv dv
      have hrm := rm_po h hu hv dv
      have e1 : rsD h (dgi h u).toNat (dgi h v).toNat u v = rsD h (dgi h u).toNat (dgi h v).toNat (rm h u v) v := rsD_r h hq.2.1 (fun j hj => dgi_dl h hq.1 j (by omega))
      show (if dgi h v ≤ 0 then _ else if dgi h (rm h u v) < 0 then 0 else _) = _
      rw [if_neg (by omega), e1]
      by_cases y : dgi h (rm h u v) < 0
      · rw [if_pos y]
        refine (det_z (fR h) (r := 0) (by omega) (fun b hb => ?_)).symm
        rw [if_pos (by omega), dgi_z h hrm y]
        show (if (dgi h v).toNat - 1 - 0 ≤ _ then (letI := pR h; (0 : Px p)) _ else 0) = 0
        split
        · exact zero_k _ _
        · rfl
      · rw [if_neg y]
        have l1 := rm_lt h hu hv dv
        have l2 := rm_le h hu hv dv
        have e2 := ih v (rm h u v) hv hrm dv (by omega) (by omega)
        have e3 := rsD_sw h (dgi h u).toNat (dgi h v).toNat (rm h u v) v
        have e4 := rsP_d h (n := (dgi h v).toNat) (d := (dgi h (rm h u v)).toNat) (g := v) (r := rm h u v) (by
          have := dgi_dl h hv
          rw [show (dgi h v + 1).toNat = (dgi h v).toNat + 1 by omega] at this
          exact this) (by
          have := dgi_dl h hrm
          rw [show (dgi h (rm h u v) + 1).toNat = (dgi h (rm h u v)).toNat + 1 by omega] at this
          exact this) (dgi h u - dgi h (rm h u v)).toNat
        rw [show (dgi h (rm h u v)).toNat + (dgi h u - dgi h (rm h u v)).toNat = (dgi h u).toNat by omega, rsP_e h (dgi h v).toNat (dgi h (rm h u v)).toNat v (rm h u v)] at e4
        rw [e2, ldF_at h hv dv, ← e4, e3]
        have es : (dgi h u % 2 = 1 ∧ dgi h v % 2 = 1) ↔ ((dgi h u).toNat % 2 = 1 ∧ (dgi h v).toNat % 2 = 1) := by omega
        by_cases w : dgi h u % 2 = 1 ∧ dgi h v % 2 = 1
        · rw [if_pos w, if_pos (es.mp w)]
          generalize rsD h _ _ (rm h u v) v = x
          grind
        · rw [if_neg w, if_neg (fun q => w (es.mpr q))]
          generalize rsD h _ _ (rm h u v) v = x
          grind
    · rw [rsE_c h (k + 1) z]
      have e0 := rsE_c h 0 (u := u) z
      rw [← e0]
      have := dgi_ge h hv
      letI := fR h
      have e := rsP_d h (n := 0) (d := 0) (g := v) (r := (letI := pR h; 0)) (by
        have := dgi_dl h hv
        rw [show (dgi h v + 1).toNat = 0 + 1 by omega] at this
        exact this) (fun k hk => zero_k _ k) (dgi h u).toNat
      rw [e0, ldF_at h hv dv, show (dgi h v).toNat = 0 by omega]
      have e1 : rsD h (dgi h u).toNat 0 u v = rsP h 0 v (letI := pR h; 0) (0 + (dgi h u).toNat) := by
        rw [Nat.zero_add]
        unfold rsP rsD
        refine det_cg (fR h) _ (fun a b ha hb => ?_)
        rw [if_neg (by omega), if_pos (by omega)]
        rfl
      rw [e1, e]
      show _ = v 0 ^ (dgi h u).toNat * 1
      generalize v 0 ^ (dgi h u).toNat = x
      grind
/-- Gauss: what holds before column c; M: the numbers, r: the product so far -/
def gaI (h : prm p) (n c : Nat) (M : Nat → Nat → Fp p) (r d : Fp p) : Prop := letI := fR h; d = r * det (fR h) (n - c) (fun a b => M (a + c) (b + c))
theorem gaI_0 (h : prm p) (n : Nat) (M : Nat → Nat → Fp p) : letI := fR h; gaI h n 0 M 1 (det (fR h) n M) := by
  letI := fR h
  show det (fR h) n M = 1 * det (fR h) (n - 0) (fun a b => M a b)
  rw [Nat.sub_zero]
  generalize det (fR h) n M = d
  grind
theorem gaI_z (h : prm p) {n c : Nat} {M : Nat → Nat → Fp p} {r d : Fp p} (H : gaI h n c M r d) (hc : c < n) (hz : letI := fR h; ∀ a, c ≤ a → a < n → M a c = 0) : letI := fR h; d = 0 := by
  letI := fR h
  have e : d = r * det (fR h) (n - c) (fun a b => M (a + c) (b + c)) := H
  rw [show n - c = n - c - 1 + 1 by omega, det_cz (fR h) (fun a ha => by
    show M (a + c) (0 + c) = 0
    rw [Nat.zero_add]; exact hz _ (by omega) (by omega))] at e
  rw [e]; grind
theorem gaI_sw (h : prm p) {n c w : Nat} {M : Nat → Nat → Fp p} {r d : Fp p} (H : gaI h n c M r d) (hc : c < w) (hw : w < n) : letI := fR h; gaI h n c (swr M w c) (-r) d := by
  letI := fR h
  have e : d = r * det (fR h) (n - c) (fun a b => M (a + c) (b + c)) := H
  show d = -r * det (fR h) (n - c) (fun a b => swr M w c (a + c) (b + c))
  have e2 := det_sw (fR h) (n := n - c) (r := w - c) (s := 0) (fun a b => M (a + c) (b + c)) (by omega) (by omega) (by omega)
  have e3 : det (fR h) (n - c) (fun a b => swr M w c (a + c) (b + c)) = det (fR h) (n - c) (swr (fun a b => M (a + c) (b + c)) (w - c) 0) := det_cg (fR h) _ (fun a b ha hb => by
    unfold swr
    dsimp only
    by_cases z : a + c = w
    · rw [if_pos z, if_pos (by omega), Nat.zero_add]
    · rw [if_neg z, if_neg (show ¬ a = w - c by omega)]
      by_cases y : a = 0
      · rw [if_pos (show a + c = c by omega), if_pos y, show w - c + c = w by omega]
      · rw [if_neg (show ¬ a + c = c by omega), if_neg y])
  rw [e3, e2, e]
  generalize det (fR h) _ _ = x
  grind
theorem gaI_s (h : prm p) {n c : Nat} {M M2 : Nat → Nat → Fp p} {r d : Fp p} (H : gaI h n c M r d) (hc : c < n) (f : Nat → Fp p) (h0 : ∀ b, c ≤ b → b < n → M2 c b = M c b) (h1 : letI := fR h; ∀ a b, c < a → a < n → c ≤ b → b < n → M2 a b = M a b + f a * M c b) (hz : letI := fR h; ∀ a, c < a → a < n → M2 a c = 0) : letI := fR h; gaI h n (c + 1) M2 (r * M c c) d := by
  letI := fR h
  have e : d = r * det (fR h) (n - c) (fun a b => M (a + c) (b + c)) := H
  have key : ∀ k, k ≤ n - c → det (fR h) (n - c) (fun a b => if 0 < a ∧ a < k then M2 (a + c) (b + c) else M (a + c) (b + c)) = det (fR h) (n - c) (fun a b => M (a + c) (b + c)) := by
    intro k
    induction k with
    | zero => intro _; exact det_cg (fR h) _ (fun a b _ _ => if_neg (by omega))
    | succ k ih =>
      intro hk
      rw [← ih (by omega)]
      by_cases z : k = 0
      · exact det_cg (fR h) _ (fun a b _ _ => by rw [if_neg (by omega), if_neg (by omega)])
      · rw [← det_add (fR h) (n := n - c) (r := k) (s := 0) (fun a b => if 0 < a ∧ a < k then M2 (a + c) (b + c) else M (a + c) (b + c)) (f (k + c)) (by omega) (by omega) z]
        refine det_cg (fR h) _ (fun a b ha hb => ?_)
        unfold rup
        by_cases y : a = k
        · rw [if_pos (by omega), if_pos y]
          dsimp only
          rw [if_neg (by omega), if_neg (by omega), y, Nat.zero_add]
          exact h1 _ _ (by omega) (by omega) (by omega) (by omega)
        · rw [if_neg y]
          dsimp only
          by_cases x : 0 < a ∧ a < k
          · rw [if_pos x, if_pos (by omega)]
          · rw [if_neg x, if_neg (by omega)]
  have k1 := key (n - c) (Nat.le_refl _)
  rw [show n - c = n - (c + 1) + 1 by omega, det_c0 (fR h) (fun a a0 a1 => by
    rw [if_pos ⟨a0, by omega⟩, Nat.zero_add]
    exact hz _ (by omega) (by omega))] at k1
  rw [show n - c = n - (c + 1) + 1 by omega, ← k1] at e
  show d = r * M c c * det (fR h) (n - (c + 1)) (fun a b => M2 (a + (c + 1)) (b + (c + 1)))
  rw [e, if_neg (by omega), Nat.zero_add]
  have e4 : det (fR h) (n - (c + 1)) (fun a b => if 0 < a + 1 ∧ a + 1 < n - (c + 1) + 1 then M2 (a + 1 + c) (b + 1 + c) else M (a + 1 + c) (b + 1 + c)) = det (fR h) (n - (c + 1)) (fun a b => M2 (a + (c + 1)) (b + (c + 1))) := det_cg (fR h) _ (fun a b ha hb => by
    rw [if_pos (by omega), show a + 1 + c = a + (c + 1) by omega, show b + 1 + c = b + (c + 1) by omega])
  rw [e4]
  generalize det (fR h) _ _ = x
  grind
end
