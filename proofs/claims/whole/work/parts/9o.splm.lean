/-! the splitter's parts: mathematics -/
section
variable {p : Nat}
def upI (Q : Int → Px p) (k : Int) (d : Px p) (e : Int) (kk : Px p) : Int → Px p := fun i => if i = e then kk else if i = k then d else Q i
/-- the rows st .. e - 1 make w together; those before are as they were -/
def spS (h : prm p) (w : Px p) (st e : Int) (Q Q0 : Int → Px p) : Prop := spl h w (e - st).toNat (fun j => Q (st + j)) ∧ (∀ i : Int, st ≤ i → i < e → mnc h (Q i)) ∧ ∀ i : Int, 0 ≤ i → i < st → Q i = Q0 i
theorem spS_1 (h : prm p) {w : Px p} {m : Nat} {st : Int} {Q Q0 : Int → Px p} (hw : dg (fR h) w m) (hm : 1 ≤ m) (hmn : mnc h w) (e0 : Q st = w) (e1 : ∀ i : Int, 0 ≤ i → i < st → Q i = Q0 i) : spS h w st (st + 1) Q Q0 := by
  refine ⟨?_, fun i i0 i1 => by rw [show i = st by omega, e0]; exact hmn, e1⟩
  rw [show (st + 1 - st).toNat = 1 by omega]
  obtain ⟨a, b⟩ := spl_1 h hw hm
  refine ⟨fun i hi => ?_, b.trans (prd_cg h 1 (fun i hi => ?_))⟩
  · have := a i hi
    dsimp only at this ⊢
    rw [show st + (i : Int) = st by omega, e0]; exact this
  · show w = Q (st + (i : Int))
    rw [show st + (i : Int) = st by omega, e0]
theorem spS_po (h : prm p) {w : Px p} {st e i : Int} {Q Q0 : Int → Px p} (s : spS h w st e Q Q0) (i0 : st ≤ i) (i1 : i < e) : po (fR h) (Q i) ∧ 1 ≤ dgi h (Q i) ∧ dv (fR h) (Q i) w := by
  have a := s.1.1 (i - st).toNat (by omega)
  have b := spl_dv h s.1 (i := (i - st).toNat) (by omega)
  dsimp only at a b
  rw [show st + ((i - st).toNat : Int) = i by omega] at a b
  obtain ⟨m, m1, m2⟩ := a.2
  refine ⟨a.1, ?_, b⟩
  rw [dgi_of h m2]; omega
theorem spS_up (h : prm p) {w fv d kk : Px p} {s : Fp p} {st e k : Int} {Q Q0 : Int → Px p} (hs : spS h w st e Q Q0) (h0 : 0 ≤ st) (hk : st ≤ k ∧ k < e) (hp : prt h fv (Q k) s d kk) : spS h w st (e + 1) (upI Q k d e kk) Q0 := by
  obtain ⟨p1, p2, p3, p4, p5, p6, p7, p8, p9⟩ := hp
  have hd := dgi_dg h p1 (by omega)
  have hkd := dgi_dg h p2 (by omega)
  refine ⟨?_, fun i i0 i1 => ?_, fun i i0 i1 => ?_⟩
  · have ek : (fun j : Nat => Q (st + (j : Int))) (k - st).toNat = zmul (fR h) d kk := by
      dsimp only
      rw [show st + ((k - st).toNat : Int) = k by omega]; exact p3
    have u := spl_up h hs.1 (i := (k - st).toNat) (by omega) ek hd hkd (by omega) (by omega)
    rw [show (e + 1 - st).toNat = (e - st).toNat + 1 by omega]
    have ee : (fun j : Nat => upI Q k d e kk (st + (j : Int))) = upQ (upQ (fun j : Nat => Q (st + (j : Int))) (k - st).toNat d) (e - st).toNat kk := funext fun j => by
      unfold upI upQ
      by_cases z : st + (j : Int) = e
      · rw [if_pos z, if_pos (by omega)]
      · rw [if_neg z, if_neg (show ¬ j = (e - st).toNat by omega)]
        by_cases y : st + (j : Int) = k
        · rw [if_pos y, if_pos (show j = (k - st).toNat by omega)]
        · rw [if_neg y, if_neg (show ¬ j = (k - st).toNat by omega)]
    rw [ee]; exact u
  · unfold upI
    by_cases z : i = e
    · rw [if_pos z]; exact p9
    · rw [if_neg z]
      by_cases y : i = k
      · rw [if_pos y]; exact p8
      · rw [if_neg y]; exact hs.2.1 i i0 (by omega)
  · unfold upI
    rw [if_neg (by omega), if_neg (by omega)]
    exact hs.2.2 i i0 i1
/-- every new part divides an old one -/
theorem up_dv (h : prm p) {fv d kk : Px p} {s : Fp p} {st e k : Int} {Q : Int → Px p} (hk : st ≤ k ∧ k < e) (hp : prt h fv (Q k) s d kk) {i : Int} (i0 : st ≤ i) (i1 : i < e + 1) : ∃ j : Int, st ≤ j ∧ j < e ∧ dv (fR h) (upI Q k d e kk i) (Q j) := by
  unfold upI
  by_cases z : i = e
  · rw [if_pos z]
    exact ⟨k, hk.1, hk.2, d, hp.1, hp.2.2.1⟩
  · rw [if_neg z]
    by_cases y : i = k
    · rw [if_pos y]
      refine ⟨k, hk.1, hk.2, ?_⟩
      rw [hp.2.2.1]
      exact dv_l hp.2.1
    · rw [if_neg y]
      exact ⟨i, i0, by omega, dv_rf _ _⟩
def cst (h : prm p) (v f : Px p) : Prop := letI := pR h; ∃ y : Fp p, dv (fR h) f (v - cz h y)
theorem cst_dv (h : prm p) {v f f2 : Px p} (c : cst h v f) (hd : dv (fR h) f2 f) : cst h v f2 := by
  obtain ⟨y, hy⟩ := c
  exact ⟨y, dv_tr hd hy⟩
def colS (h : prm p) (n : Nat) (pv : Nat → Option Nat) (M : Nat → Nat → Fp p) (st e : Int) (Q : Int → Px p) (col : Nat) : Prop := ∀ c : Nat, c < col → pv c = none → ∀ i : Int, st ≤ i → i < e → cst h (bpv h n pv M c) (Q i)
def shS (h : prm p) (v : Px p) (st e : Int) (Q : Int → Px p) (s : Int) : Prop := ∀ i t : Int, st ≤ i → i < e → 0 ≤ t → t < s → alk h v (Q i) (zi h t)
def paS (h : prm p) (v : Px p) (st k last e : Int) (Q : Int → Px p) (s op : Int) : Prop := (∀ i : Int, (st ≤ i ∧ i < k) ∨ (last ≤ i ∧ i < e) → alk h v (Q i) (zi h s)) ∧ (op = 1 ∨ (op = 0 ∧ e = last ∧ ∀ i : Int, st ≤ i → i < k → cst h v (Q i)))
theorem colS_up (h : prm p) {n col : Nat} {pv : Nat → Option Nat} {M : Nat → Nat → Fp p} {fv d kk : Px p} {s : Fp p} {st e k : Int} {Q : Int → Px p} (c : colS h n pv M st e Q col) (hk : st ≤ k ∧ k < e) (hp : prt h fv (Q k) s d kk) : colS h n pv M st (e + 1) (upI Q k d e kk) col := fun a ha hn i i0 i1 => by
  obtain ⟨j, j0, j1, hd⟩ := up_dv h hk hp i0 i1
  exact cst_dv h (c a ha hn j j0 j1) hd
theorem shS_up (h : prm p) {fv v d kk : Px p} {s : Fp p} {t st e k : Int} {Q : Int → Px p} (c : shS h v st e Q t) (hk : st ≤ k ∧ k < e) (hp : prt h fv (Q k) s d kk) : shS h v st (e + 1) (upI Q k d e kk) t := fun i a i0 i1 a0 a1 => by
  obtain ⟨j, j0, j1, hd⟩ := up_dv h hk hp i0 i1
  exact alk_dv h (c j a j0 j1 a0 a1) hd
theorem paS_up (h : prm p) {v d kk : Px p} {s op st last e k : Int} {Q : Int → Px p} (c : paS h v st k last e Q s op) (hk : st ≤ k ∧ k < last ∧ last ≤ e) (hp : prt h v (Q k) (zi h s) d kk) : paS h v st (k + 1) last (e + 1) (upI Q k d e kk) s 1 := by
  refine ⟨fun i hi => ?_, Or.inl rfl⟩
  unfold upI
  by_cases z : i = e
  · rw [if_pos z]; exact hp.2.2.2.2.1
  · rw [if_neg z]
    by_cases y : i = k
    · rw [if_pos y]; exact hp.2.2.2.1
    · rw [if_neg y]; exact c.1 i (by omega)
theorem paS_no (h : prm p) {v : Px p} {s op st last e k : Int} {Q : Int → Px p} (c : paS h v st k last e Q s op) (hk : st ≤ k ∧ k < last ∧ last ≤ e) (a : alk h v (Q k) (zi h s)) : paS h v st (k + 1) last e Q s 1 := by
  refine ⟨fun i hi => ?_, Or.inl rfl⟩
  by_cases y : i = k
  · rw [y]; exact a
  · exact c.1 i (by omega)
theorem paS_c (h : prm p) {v : Px p} {s op st last e k : Int} {Q : Int → Px p} (c : paS h v st k last e Q s op) (hk : st ≤ k ∧ k < last ∧ last ≤ e) (a : cst h v (Q k)) : paS h v st (k + 1) last e Q s op := by
  refine ⟨fun i hi => ?_, ?_⟩
  · by_cases y : i = k
    · obtain ⟨x, hx⟩ := a
      rw [y]; exact alk_c h hx _
    · exact c.1 i (by omega)
  · rcases c.2 with z | ⟨z1, z2, z3⟩
    · exact Or.inl z
    · refine Or.inr ⟨z1, z2, fun i i0 i1 => ?_⟩
      by_cases y : i = k
      · rw [y]; exact a
      · exact z3 i i0 (by omega)
theorem paS_0 (h : prm p) (v : Px p) (st e : Int) (Q : Int → Px p) (s : Int) : paS h v st st e e Q s 0 := ⟨fun i hi => by omega, Or.inr ⟨rfl, rfl, fun i i0 i1 => by omega⟩⟩
/-- after a pass -/
theorem pass_e (h : prm p) {v : Px p} {s op st last e k due : Int} {Q : Int → Px p} {C : Prop} (c : e = due ∨ (C ∧ shS h v st e Q s ∧ paS h v st k last e Q s op)) (he : e ≤ due) (hx : last ≤ k ∨ due ≤ e) : e = due ∨ (C ∧ ((op = 1 ∧ shS h v st e Q (s + 1)) ∨ (op = 0 ∧ ∀ i : Int, st ≤ i → i < e → cst h v (Q i)))) := by
  rcases c with c | ⟨c1, c2, c3⟩
  · exact Or.inl c
  rcases hx with hx | hx
  · refine Or.inr ⟨c1, ?_⟩
    rcases c3.2 with z | ⟨z1, z2, z3⟩
    · refine Or.inl ⟨z, fun i t i0 i1 t0 t1 => ?_⟩
      rcases Int.lt_or_le t s with y | y
      · exact c2 i t i0 i1 t0 y
      · rw [show t = s by omega]; exact c3.1 i (by omega)
    · exact Or.inr ⟨z1, fun i i0 i1 => z3 i i0 (by omega)⟩
  · exact Or.inl (by omega)
theorem shS_all (h : prm p) {w v : Px p} {st e s : Int} {Q Q0 : Int → Px p} (hsq : sqf h w) (hs : spS h w st e Q Q0) (hk : ker h w v) (c : shS h v st e Q s) (hp : (p : Int) ≤ s) : ∀ i : Int, st ≤ i → i < e → cst h v (Q i) := fun i i0 i1 => by
  obtain ⟨a1, a2, a3⟩ := spS_po h hs i0 i1
  refine alk_all h hsq (dgi_dg h a1 (by omega)) (by omega) a3 hk (fun y => ?_)
  have e := zi_of h y
  have b := cf_in (fun _ => y) h 0
  unfold cf at b
  rw [if_pos (by omega)] at b
  dsimp only at b
  rw [← e]
  exact c i _ i0 i1 b.1 (by omega)
/-- the shifts of a column are through -/
theorem col_e (h : prm p) {n : Nat} {pv : Nat → Option Nat} {M : Nat → Nat → Fp p} {w : Px p} {st e s op due : Int} {col : Nat} {Q Q0 : Int → Px p} (hsq : sqf h w) (hs : spS h w st e Q Q0) (hk : ker h w (bpv h n pv M col)) (c : e = due ∨ (colS h n pv M st e Q col ∧ ((op = 1 ∧ shS h (bpv h n pv M col) st e Q s) ∨ (op = 0 ∧ ∀ i : Int, st ≤ i → i < e → cst h (bpv h n pv M col) (Q i))))) (he : e ≤ due) (hx : (p : Int) ≤ s ∨ op = 0 ∨ due ≤ e) : e = due ∨ colS h n pv M st e Q (col + 1) := by
  rcases c with c | ⟨c1, c2⟩
  · exact Or.inl c
  have key : (∀ i : Int, st ≤ i → i < e → cst h (bpv h n pv M col) (Q i)) → colS h n pv M st e Q (col + 1) := fun z a ha hn i i0 i1 => by
    rcases Nat.lt_or_ge a col with y | y
    · exact c1 a y hn i i0 i1
    · rw [show a = col by omega]; exact z i i0 i1
  rcases c2 with ⟨c2, c3⟩ | ⟨c2, c3⟩
  · rcases hx with hx | hx | hx
    · exact Or.inr (key (shS_all h hsq hs hk c3 hx))
    · omega
    · exact Or.inl (by omega)
  · exact Or.inr (key c3)
theorem col_n (h : prm p) {n : Nat} {pv : Nat → Option Nat} {M : Nat → Nat → Fp p} {st e due : Int} {col : Nat} {Q : Int → Px p} (hn : pv col ≠ none) (c : e = due ∨ colS h n pv M st e Q col) : e = due ∨ colS h n pv M st e Q (col + 1) := by
  rcases c with c | c
  · exact Or.inl c
  · refine Or.inr (fun a ha hn2 i i0 i1 => ?_)
    rcases Nat.lt_or_ge a col with y | y
    · exact c a y hn2 i i0 i1
    · exact absurd (show pv col = none by rw [← show a = col by omega]; exact hn2) hn
/-- the first column's vector is 1 -/
theorem col_1 (h : prm p) {n q : Nat} {pv : Nat → Option Nat} {M : Nat → Nat → Fp p} {w : Px p} (hn : 1 ≤ n) (hR : RR (fR h) n n q pv M) (hk : ∀ v, dl (fR h) v n → (ker h w v ↔ krn (fR h) n M v)) (st e : Int) (Q : Int → Px p) : colS h n pv M st e Q 1 := fun a ha hv i i0 i1 => by
  letI := fR h
  letI := pR h
  have a0 : a = 0 := by omega
  subst a0
  have d1 : dl (fR h) (1 : Px p) n := dl_mono (one_dg (fld_p h)).2 (by omega)
  have k1 : ker h w (1 : Px p) := ⟨one_po (fR h), by
    have e1 : (1 : Px p) ^ p - 1 = 0 := by
      have e2 : ∀ m : Nat, (1 : Px p) ^ m = 1 := fun m => by
        induction m with
        | zero => exact pw_0 (pR h) _
        | succ m ih => rw [pw_s (pR h), ih]; grind
      rw [e2]; grind
    rw [e1]; exact dv_0 (fR h) w⟩
  have s1 := bpv_sum h hR d1 ((hk 1 d1).mp k1)
  have e3 : (1 : Px p) = bpv h n pv M 0 := by
    refine s1.trans ?_
    rw [sm_one (pR h) (j := 0) (by omega) (fun f hf hne => ?_)]
    · rw [if_pos hv]
      show cz h (1 : Fp p) * bpv h n pv M 0 = _
      have e4 : cz h (1 : Fp p) = 1 := rfl
      rw [e4]; grind
    · split
      · have e5 : (1 : Px p) f = (0 : Fp p) := if_neg hne
        rw [e5]
        show cz h (0 : Fp p) * bpv h n pv M f = 0
        rw [cz_0 h]; grind
      · rfl
  refine ⟨1, ?_⟩
  rw [← e3]
  have e4 : cz h (1 : Fp p) = 1 := rfl
  have e6 : (1 : Px p) - cz h 1 = 0 := by rw [e4]; grind
  rw [e6]
  exact dv_0 (fR h) _
/-- not open: constant -/
theorem cst_rm (h : prm p) {v f : Px p} (hv : po (fR h) v) (hf : po (fR h) f) (hd : 0 ≤ dgi h f) (hr : dgi h (rm h v f) < 1) : cst h v f := by
  letI := fR h
  letI := pR h
  have hp := rm_po h hv hf hd
  refine ⟨rm h v f 0, ?_⟩
  have e : rm h v f = cz h (rm h v f 0) := funext fun k => by
    show rm h v f k = if k = 0 then rm h v f 0 else 0
    by_cases z : k = 0
    · rw [if_pos z, z]
    · rw [if_neg z]
      have h1 := dgi_ge h hp
      exact dgi_dl h hp k (by omega)
  rw [← e]
  exact rm_dv h hv hf hd
theorem split_fin (h : prm p) {w : Px p} {n q : Nat} {st e due : Int} {Q Q0 : Int → Px p} {pv : Nat → Option Nat} {M : Nat → Nat → Fp p} {col : Nat} (hw : dg (fR h) w n) (hsq : sqf h w) (hs : spS h w st e Q Q0) (hR : RR (fR h) n n q pv M) (hk : ∀ v, dl (fR h) v n → (ker h w v ↔ krn (fR h) n M v)) (hdue : due = st + nFr pv n) (hse : st ≤ e) (c : e = due ∨ colS h n pv M st e Q col) (he : e ≤ due) (hx : n ≤ col ∨ due ≤ e) : ∀ i : Int, st ≤ i → i < e → irr (fR h) (Q i) := fun i i0 i1 => by
  obtain ⟨a1, a2, a3⟩ := spS_po h hs i0 i1
  have key : e = due → irr (fR h) (Q i) := fun z => by
    have b := spl_irr h hw hsq hs.1 hR hk (by omega) (i := (i - st).toNat) (by omega)
    rw [show st + ((i - st).toNat : Int) = i by omega] at b
    exact b
  rcases c with c | c
  · exact key c
  rcases hx with hx | hx
  · exact all_irr h hw hsq (dgi_dg h a1 (by omega)) (by omega) a3 hR hk (fun k k1 k2 => c k (by omega) k2 i i0 i1)
  · exact key (by omega)
/-- there are no more parts than the degree -/
theorem spS_le (h : prm p) {w : Px p} {n q : Nat} {st e : Int} {Q Q0 : Int → Px p} {pv : Nat → Option Nat} {M : Nat → Nat → Fp p} (hw : dg (fR h) w n) (hsq : sqf h w) (hs : spS h w st e Q Q0) (hR : RR (fR h) n n q pv M) (hk : ∀ v, dl (fR h) v n → (ker h w v ↔ krn (fR h) n M v)) (hse : st ≤ e) : e ≤ st + nFr pv n := by
  have := spl_le h hw hsq hs.1 hR hk
  omega
theorem irr_d1 (h : prm p) {w : Px p} (hw : dg (fR h) w 1) : irr (fR h) w := by
  refine ⟨⟨_, hw.2⟩, ⟨1, by omega, hw⟩, fun a b ha hb e => ?_⟩
  rcases po_dg ha with z | ⟨n, z⟩
  · exfalso
    rw [z] at e
    letI := pR h
    have e2 : w = 0 * b := e
    exact dg_ne hw (by rw [e2]; grind)
  · rcases po_dg hb with y | ⟨m, y⟩
    · exfalso
      rw [y] at e
      letI := pR h
      have e2 : w = a * 0 := e
      exact dg_ne hw (by rw [e2]; grind)
    · have := mul_dg (fld_p h) z y
      rw [← e] at this
      have := dg_un hw this
      rcases Nat.eq_zero_or_pos n with x | x
      · subst x; exact Or.inl z
      · have : m = 0 := by omega
        subst this; exact Or.inr y
end
