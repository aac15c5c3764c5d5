/-! as many roots as the degree, modulo an irreducible polynomial; what is its own p-th power is a number there -/
section
variable {K : Type}
/-- a0 + a1 t + .. -/
def evl (A : Lean.Grind.CommRing K) : List K → K → K
  | [], _ => letI := A; 0
  | a :: l, t => letI := A; a + t * evl A l t
/-- the quotient by t - s, with the rest thrown away -/
def syn (A : Lean.Grind.CommRing K) (s : K) : List K → List K
  | [] => []
  | _ :: l => letI := A; List.zipWith (fun a b => a + s * b) l (syn A s l ++ [0])
theorem syn_len (A : Lean.Grind.CommRing K) (s : K) : ∀ l : List K, (syn A s l).length = l.length - 1
  | [] => rfl
  | _ :: l => by
    letI := A
    show (List.zipWith (fun a b => a + s * b) l (syn A s l ++ [0])).length = _
    rw [List.length_zipWith, List.length_append, syn_len A s l]
    simp
    omega
theorem evl_zip (A : Lean.Grind.CommRing K) (s t : K) : letI := A; ∀ l m : List K, l.length = m.length → evl A (List.zipWith (fun a b => a + s * b) l m) t = evl A l t + s * evl A m t
  | [], [], _ => by letI := A; show (0 : K) = 0 + s * 0; grind
  | a :: l, b :: m, h => by
    letI := A
    have ih := evl_zip A s t l m (by simpa using h)
    show (a + s * b) + t * evl A (List.zipWith (fun a b => a + s * b) l m) t = (a + t * evl A l t) + s * (b + t * evl A m t)
    rw [ih]
    grind
  | [], b :: m, h => by simp at h
  | a :: l, [], h => by simp at h
theorem evl_app0 (A : Lean.Grind.CommRing K) (t : K) : letI := A; ∀ l : List K, evl A (l ++ [0]) t = evl A l t
  | [] => by letI := A; show (0 : K) + t * 0 = 0; grind
  | a :: l => by letI := A; show a + t * evl A (l ++ [0]) t = a + t * evl A l t; rw [evl_app0 A t l]
theorem syn_ev (A : Lean.Grind.CommRing K) (s t : K) : letI := A; ∀ l : List K, evl A l t - evl A l s = (t - s) * evl A (syn A s l) t
  | [] => by letI := A; show (0 : K) - 0 = (t - s) * 0; grind
  | a :: l => by
    letI := A
    have ih := syn_ev A s t l
    cases l with
    | nil => show (a + t * 0) - (a + s * 0) = (t - s) * 0; grind
    | cons b m =>
      have hl : (b :: m).length = (syn A s (b :: m) ++ [0]).length := by
        rw [List.length_append, syn_len]
        simp
      show (a + t * evl A (b :: m) t) - (a + s * evl A (b :: m) s) = (t - s) * evl A (List.zipWith (fun a b => a + s * b) (b :: m) (syn A s (b :: m) ++ [0])) t
      rw [evl_zip A s t _ _ hl, evl_app0]
      generalize evl A (b :: m) t = x at ih ⊢
      generalize evl A (b :: m) s = y at ih ⊢
      generalize evl A (syn A s (b :: m)) t = z at ih ⊢
      grind
/-- the last number stays 1 -/
theorem syn_last (A : Lean.Grind.CommRing K) (s : K) : letI := A; ∀ l : List K, 2 ≤ l.length → l.getLast? = some 1 → (syn A s l).getLast? = some 1
  | [], h, _ => by simp at h
  | [a], h, _ => by simp at h
  | [a, b], _, e => by
    letI := A
    have hb : b = 1 := by simpa using e
    subst hb
    show (List.zipWith (fun a b => a + s * b) [1] ([] ++ [0])).getLast? = some 1
    show some ((1 : K) + s * 0) = some 1
    congr 1
    grind
  | a :: b :: c :: l, _, e => by
    letI := A
    have ih := syn_last A s (b :: c :: l) (by simp) (by simpa using e)
    have hlen := syn_len A s (b :: c :: l)
    show (List.zipWith (fun a b => a + s * b) (b :: c :: l) (syn A s (b :: c :: l) ++ [0])).getLast? = some 1
    rw [List.getLast?_eq_getElem?, List.getElem?_zipWith, List.length_zipWith, List.length_append, hlen]
    have h1 : (b :: c :: l)[(b :: c :: l).length - 1]? = some 1 := by
      rw [← List.getLast?_eq_getElem?]
      simpa using e
    have h2 : min (b :: c :: l).length ((b :: c :: l).length - 1 + [(0 : K)].length) - 1 = (b :: c :: l).length - 1 := by simp
    rw [h2, h1, List.getElem?_append_right (by rw [hlen]; omega), hlen]
    simp
    grind
end
section
variable {p : Nat}
/-- polynomials over the field of p -/
abbrev Px (p : Nat) : Type := Nat → Fp p
abbrev pR (h : prm p) : Lean.Grind.CommRing (Px p) := zR (fR h)
theorem fld_p (h : prm p) : fld (fR h) := by
  refine ⟨fun a ha => ⟨_, f_inv h ha⟩, fun e => ?_⟩
  have h1 := f_one h
  rw [e, f_zero h] at h1
  omega
theorem evl_po (h : prm p) {t : Px p} (ht : po (fR h) t) : ∀ l : List (Px p), (∀ a ∈ l, po (fR h) a) → po (fR h) (evl (pR h) l t)
  | [], _ => zero_po (fR h)
  | a :: l, hl => add_po (hl a (by simp)) (mul_po ht (evl_po h ht l (fun b hb => hl b (by simp [hb]))))
theorem syn_po (h : prm p) {s : Px p} (hs : po (fR h) s) : ∀ l : List (Px p), (∀ a ∈ l, po (fR h) a) → ∀ a ∈ syn (pR h) s l, po (fR h) a
  | [], _, a, ha => by cases ha
  | b :: l, hl, a, ha => by
    letI := pR h
    have ha : a ∈ List.zipWith (fun a b => a + s * b) l (syn (pR h) s l ++ [0]) := ha
    obtain ⟨i, hi⟩ := List.getElem?_of_mem ha
    rw [List.getElem?_zipWith] at hi
    cases h1 : l[i]? with
    | none => rw [h1] at hi; simp at hi
    | some x =>
      cases h2 : (syn (pR h) s l ++ [0])[i]? with
      | none => rw [h1, h2] at hi; simp at hi
      | some y =>
        rw [h1, h2] at hi
        have e : x + s * y = a := by simpa using hi
        rw [← e]
        have hx : po (fR h) x := hl x (by simp [List.mem_of_getElem? h1])
        have hy : po (fR h) y := by
          rcases List.mem_append.mp (List.mem_of_getElem? h2) with z | z
          · exact syn_po h hs l (fun c hc => hl c (by simp [hc])) y z
          · rw [List.mem_singleton.mp z]; exact zero_po (fR h)
        exact add_po hx (mul_po hs hy)
/-- Lagrange -/
theorem lagr (h : prm p) {g : Px p} (hg : irr (fR h) g) : ∀ (n : Nat) (l : List (Px p)) (t : Nat → Px p), letI := pR h; l.length = n + 1 → l.getLast? = some 1 → (∀ a ∈ l, po (fR h) a) → (∀ i, i ≤ n → po (fR h) (t i)) → (∀ i, i ≤ n → dv (fR h) g (evl (pR h) l (t i))) → (∀ i j, i ≤ n → j ≤ n → i ≠ j → ¬ dv (fR h) g (t i - t j)) → False := by
  intro n
  letI := pR h
  induction n with
  | zero =>
    intro l t hl e _ _ hr _
    obtain ⟨a, rfl⟩ : ∃ a, l = [a] := List.length_eq_one_iff.mp hl
    have ha : a = 1 := by simpa using e
    subst ha
    have h1 := hr 0 (Nat.le_refl 0)
    have h2 : evl (pR h) [1] (t 0) = 1 := by show (1 : Px p) + t 0 * 0 = 1; grind
    rw [h2] at h1
    obtain ⟨hp, ⟨k, hk1, hk⟩, -⟩ := hg
    have := dg_un hk (unit_deg (fld_p h) hp h1)
    omega
  | succ n ih =>
    intro l t hl e hpo htp hr hne
    refine ih (syn (pR h) (t 0) l) (fun i => t (i + 1)) (by rw [syn_len, hl]; rfl) (syn_last (pR h) (t 0) l (by omega) e) (syn_po h (htp 0 (by omega)) l hpo) (fun i hi => htp _ (by omega)) (fun i hi => ?_) (fun i j hi hj hij => hne _ _ (by omega) (by omega) (by omega))
    have h1 := dv_sub (hr (i + 1) (by omega)) (hr 0 (by omega))
    have h2 := syn_ev (pR h) (t 0) (t (i + 1)) l
    have h3 : dv (fR h) g (zmul (fR h) (t (i + 1) - t 0) (evl (pR h) (syn (pR h) (t 0) l) (t (i + 1)))) := by
      have h4 : evl (pR h) l (t (i + 1)) - evl (pR h) l (t 0) = (t (i + 1) - t 0) * evl (pR h) (syn (pR h) (t 0) l) (t (i + 1)) := h2
      have h5 : dv (fR h) g (evl (pR h) l (t (i + 1)) - evl (pR h) l (t 0)) := h1
      rw [h4] at h5
      exact h5
    rcases irr_prime (fld_p h) hg (sub_po (htp _ (by omega)) (htp 0 (by omega))) (evl_po h (htp _ (by omega)) _ (syn_po h (htp 0 (by omega)) l hpo)) h3 with z | z
    · exact absurd z (hne (i + 1) 0 (by omega) (by omega) (by omega))
    · exact z
/-- a number as a polynomial -/
def cz (h : prm p) (c : Fp p) : Px p := zc (fR h) c
theorem cz_po (h : prm p) (c : Fp p) : po (fR h) (cz h c) := ⟨1, fun k hk => by
  letI := fR h
  show (if k = 0 then c else 0) = 0
  rw [if_neg (by omega)]⟩
theorem cz_mul (h : prm p) (a b : Fp p) : letI := fR h; letI := pR h; cz h (a * b) = cz h a * cz h b := funext fun k => by
  letI := fR h
  show (if k = 0 then a * b else 0) = zmul (fR h) (zc (fR h) a) (cz h b) k
  rw [zmul_c (fR h)]
  show _ = a * (if k = 0 then b else 0)
  split <;> grind
theorem cz_sub (h : prm p) (a b : Fp p) : letI := fR h; letI := pR h; cz h (a - b) = cz h a - cz h b := funext fun k => by
  letI := fR h
  show (if k = 0 then a - b else 0) = (if k = 0 then a else 0) - (if k = 0 then b else 0)
  split <;> grind
theorem cz_add (h : prm p) (a b : Fp p) : letI := fR h; letI := pR h; cz h (a + b) = cz h a + cz h b := funext fun k => by
  letI := fR h
  show (if k = 0 then a + b else 0) = (if k = 0 then a else 0) + (if k = 0 then b else 0)
  split <;> grind
theorem cz_pw (h : prm p) (a : Fp p) (n : Nat) : letI := fR h; letI := pR h; cz h (a ^ n) = cz h a ^ n := by
  letI := fR h
  induction n with
  | zero =>
    letI := pR h
    rw [pw_0 (fR h), pw_0 (pR h)]
    rfl
  | succ n ih =>
    letI := pR h
    rw [pw_s (fR h), pw_s (pR h), cz_mul, ih]
theorem cz_dg (h : prm p) {c : Fp p} (hc : letI := fR h; c ≠ 0) : dg (fR h) (cz h c) 0 := ⟨hc, fun k hk => by
  letI := fR h
  show (if k = 0 then c else 0) = 0
  rw [if_neg (by omega)]⟩
theorem evl_x (h : prm p) (t : Px p) (k : Nat) : letI := pR h; evl (pR h) (List.replicate k 0 ++ [1]) t = t ^ k := by
  letI := pR h
  induction k with
  | zero => rw [pw_0 (pR h)]; show (1 : Px p) + t * 0 = 1; grind
  | succ k ih =>
    rw [pw_s (pR h), List.replicate_succ, List.cons_append]
    have e9 : evl (pR h) (0 :: (List.replicate k 0 ++ [1])) t = 0 + t * evl (pR h) (List.replicate k 0 ++ [1]) t := rfl
    rw [e9, ih]
    generalize t ^ k = x
    grind
/-- what is its own p-th power modulo an irreducible polynomial is a number there -/
theorem own_pw (h : prm p) {g v : Px p} (hg : irr (fR h) g) (hv : po (fR h) v) (hd : letI := pR h; dv (fR h) g (v ^ p - v)) : letI := pR h; ∃ c : Fp p, dv (fR h) g (v - cz h c) := by
  letI := pR h
  refine Classical.byContradiction fun hno => ?_
  have hp2 := h.1
  have hno : ∀ c : Fp p, ¬ dv (fR h) g (v - cz h c) := fun c hc => hno ⟨c, hc⟩
  have hev : ∀ t : Px p, evl (pR h) (0 :: (-1) :: (List.replicate (p - 2) 0 ++ [1])) t = t ^ p - t := fun t => by
    show (0 : Px p) + t * (-1 + t * evl (pR h) (List.replicate (p - 2) 0 ++ [1]) t) = t ^ p - t
    rw [evl_x h t]
    have e : t ^ p = t ^ (p - 2) * t * t := by
      have e1 : t ^ (p - 2 + 1 + 1) = t ^ (p - 2) * t * t := by rw [pw_s (pR h), pw_s (pR h)]
      rw [show p - 2 + 1 + 1 = p by omega] at e1
      exact e1
    rw [e]
    generalize t ^ (p - 2) = x
    grind
  refine lagr h hg p (0 :: (-1) :: (List.replicate (p - 2) 0 ++ [1])) (fun i => if i < p then cz h (zi h (i : Int)) else v) (by simp; omega) (by rw [← List.cons_append, ← List.cons_append]; exact List.getLast?_concat) ?_ (fun i _ => ?_) (fun i hi => ?_) (fun i j hi hj hij => ?_)
  · intro a ha
    rcases List.mem_cons.mp ha with rfl | ha
    · exact zero_po (fR h)
    · rcases List.mem_cons.mp ha with rfl | ha
      · have := sub_po (zero_po (fR h)) (one_po (fR h))
        have e : (0 : Px p) - 1 = -1 := by grind
        exact e ▸ this
      · rcases List.mem_append.mp ha with z | z
        · rw [(List.mem_replicate.mp z).2]; exact zero_po (fR h)
        · rw [List.mem_singleton.mp z]; exact one_po (fR h)
  · split
    · exact cz_po h _
    · exact hv
  · rw [hev]
    split
    · rw [← cz_pw h, fermat h]
      have e : cz h (zi h (i : Int)) - cz h (zi h (i : Int)) = 0 := by grind
      rw [e]
      exact dv_0 (fR h) g
    · exact hd
  · have key : ∀ c d : Fp p, c ≠ d → ¬ dv (fR h) g (cz h c - cz h d) := fun c d hcd hdv => by
      letI := fR h
      rw [← cz_sub h] at hdv
      have hz : c - d ≠ 0 := fun e => hcd (by grind)
      obtain ⟨hgp, ⟨k, hk1, hk⟩, -⟩ := hg
      have := dv_deg (fld_p h) hk (cz_dg h hz) hdv
      omega
    by_cases hi2 : i < p <;> by_cases hj2 : j < p
    · rw [if_pos hi2, if_pos hj2]
      refine key _ _ (fun e => hij ?_)
      have := zi_inj h e
      rw [Int.emod_eq_of_lt (by omega) (by omega), Int.emod_eq_of_lt (by omega) (by omega)] at this
      omega
    · rw [if_pos hi2, if_neg hj2]
      intro z
      refine hno (zi h (i : Int)) ?_
      have e : v - cz h (zi h (i : Int)) = 0 - (cz h (zi h (i : Int)) - v) := by grind
      rw [e]
      exact dv_sub (dv_0 (fR h) g) z
    · rw [if_neg hi2, if_pos hj2]
      exact hno _
    · omega
end
