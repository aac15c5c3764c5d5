/-! the reference's byFixed: mathematics -/
section
variable {p : Nat}
theorem cnt_le (h : prm p) {F : Px p} {n : Int} {Q : Int → Px p} (hF : po (fR h) F) (h0 : 0 ≤ dgi h F) (hs : srt h n Q) (hq : ∀ i : Int, 0 ≤ i → i < n → isFc h F (Q i)) : n ≤ dgi h F := by
  have ne : ∀ i j : Int, 0 ≤ i → i < j → j < n → Q i ≠ Q j := fun i j i0 ij jn e => by
    have := lt_ij h hs i0 ij jn
    rw [e] at this
    exact ltP_ir h _ this
  have key : ∀ j : Nat, (j : Int) ≤ n → ∃ P : Px p, po (fR h) P ∧ (j : Int) ≤ dgi h P ∧ dv (fR h) P F ∧ ∀ i : Int, j ≤ i → i < n → mlt h (Q i) P = 0 := fun j => by
    letI := pR h
    induction j with
    | zero =>
      intro _
      refine ⟨1, one_po (fR h), by rw [dgi_1 h]; omega, ⟨F, hF, ?_⟩, fun i i0 i1 => ml_1 h (hq i i0 i1).1⟩
      show F = F * 1
      grind
    | succ j ih =>
      intro hj
      obtain ⟨P, a1, a2, a3, a4⟩ := ih (by omega)
      obtain ⟨b1, b2, b3⟩ := hq j (by omega) (by omega)
      obtain ⟨m, m1, m2⟩ := b1.2.1
      have hP := dgi_dg h a1 (by omega)
      have hd := mul_dg (fld_p h) hP m2
      refine ⟨zmul (fR h) P (Q j), mul_po a1 b1.1, by rw [dgi_of h hd]; omega, ?_, fun i i0 i1 => ?_⟩
      · obtain ⟨K, hK, eK⟩ := a3
        have eK2 : F = zmul (fR h) P K := by rw [eK]; exact zmul_comm _ _ _
        have hKd : ∃ c, dg (fR h) K c := by
          rcases po_dg hK with y | y
          · exfalso
            have e9 : F = K * P := eK
            rw [y] at e9
            exact dg_ne (dgi_dg h hF h0) (e9.trans (by grind))
          · exact y
        obtain ⟨c, hc⟩ := hKd
        have h1 := (ml_dv h b1 (dgi_dg h hF h0)).mp b3
        rw [eK2, ml_mul h b1 hP hc, a4 j (by omega) (by omega), Nat.zero_add] at h1
        obtain ⟨u, hu, eu⟩ := (ml_dv h b1 hc).mpr h1
        refine ⟨u, hu, ?_⟩
        rw [eK2, eu]
        show P * (u * Q j) = u * (P * Q j)
        generalize Q j = y
        grind
      · obtain ⟨c1, c2, c3⟩ := hq i (by omega) i1
        rw [ml_mul h c1 hP m2, a4 i (by omega) i1, ml_ne h c1 b1 c2 b2 (fun e9 => ne j i (by omega) (by omega) i1 e9.symm)]
  rcases Int.lt_or_le n 0 with z | z
  · omega
  · obtain ⟨P, a1, a2, a3, _⟩ := key n.toNat (by omega)
    have := dv_deg (fld_p h) (dgi_dg h a1 (by omega)) (dgi_dg h hF h0) a3
    omega
/-- the matrix, filled by columns -/
def kfl (Fn : Int → Int → Int) (gg : Int → Int) (n i k : Int) : Int → Int := fun t => if (t % 41 < i ∧ 0 ≤ t / 41 ∧ t / 41 < n) ∨ (t % 41 = i ∧ 0 ≤ t / 41 ∧ t / 41 < k) then Fn (t / 41) (t % 41) else gg t
theorem kfl_0 (Fn : Int → Int → Int) (gg : Int → Int) (n : Int) : kfl Fn gg n 0 0 = gg := funext fun t => by
  unfold kfl
  exact if_neg (by omega)
theorem kfl_s (Fn : Int → Int → Int) (gg : Int → Int) {n i k : Int} (i0 : 0 ≤ i) (i1 : i < 41) (k0 : 0 ≤ k) : gup (kfl Fn gg n i k) (41 * k + i) (Fn k i) = kfl Fn gg n i (k + 1) := funext fun t => by
  unfold gup kfl
  by_cases z : t = 41 * k + i
  · have e1 : t / 41 = k := by omega
    have e2 : t % 41 = i := by omega
    rw [if_pos z, e1, e2, if_pos (by omega)]
  · rw [if_neg z]
    by_cases y : (t % 41 < i ∧ 0 ≤ t / 41 ∧ t / 41 < n) ∨ (t % 41 = i ∧ 0 ≤ t / 41 ∧ t / 41 < k)
    · rw [if_pos y, if_pos (by omega)]
    · rw [if_neg y, if_neg (by omega)]
theorem kfl_c (Fn : Int → Int → Int) (gg : Int → Int) (n i : Int) : kfl Fn gg n i n = kfl Fn gg n (i + 1) 0 := funext fun t => by
  unfold kfl
  by_cases y : (t % 41 < i ∧ 0 ≤ t / 41 ∧ t / 41 < n) ∨ (t % 41 = i ∧ 0 ≤ t / 41 ∧ t / 41 < n)
  · rw [if_pos y, if_pos (by omega)]
  · rw [if_neg y, if_neg (by omega)]
theorem kfl_at (Fn : Int → Int → Int) (gg : Int → Int) {n i k : Int} (hn : n ≤ 41) (i0 : 0 ≤ i) (i1 : i < n) (k0 : 0 ≤ k) (k1 : k < n) : kfl Fn gg n n 0 (41 * i + k) = Fn i k := by
  unfold kfl
  have e1 : (41 * i + k) / 41 = i := by omega
  have e2 : (41 * i + k) % 41 = k := by omega
  rw [e1, e2]
  exact if_pos (Or.inl ⟨k1, i0, i1⟩)
theorem kfl_bd (h : prm p) (w fr : Px p) (gg : Int → Int) {n : Int} (hn : n ≤ 41) : kBd p (kfl (bgF h w fr) gg n n 0) n := fun i k i0 i1 k0 k1 => by
  rw [kfl_at _ _ hn i0 i1 k0 k1]; exact emod_in h _
theorem kfl_M (h : prm p) (w fr : Px p) (gg : Int → Int) {n : Int} (hn : n ≤ 41) {i k : Nat} (i1 : (i : Int) < n) (k1 : (k : Int) < n) : kM h (kfl (bgF h w fr) gg n n 0) i k = letI := fR h; bcl h w fr k i - (if i = k then 1 else 0) := by
  letI := fR h
  unfold kM
  rw [kfl_at _ _ hn (by omega) i1 (by omega) k1]
  unfold bgF
  rw [zi_mod]
  have e1 : zi h (cf (bcl h w fr ((k : Int)).toNat) (i : Int)) = bcl h w fr k i := by
    rw [show ((k : Int)).toNat = k by omega]; exact cf_zi h _ i
  by_cases z : i = k
  · rw [if_pos z, if_pos (by omega), zi_sub, e1, zi_1]
  · rw [if_neg z, if_neg (by omega), Int.sub_zero, e1]; grind
theorem kfl_ker (h : prm p) {w : Px p} {n : Nat} (hw : dg (fR h) w n) (hn : 1 ≤ n) (gg : Int → Int) {sz : Int} (hs : sz = n) (h41 : sz ≤ 41) (v : Px p) (hv : dl (fR h) v n) : ker h w v ↔ krn (fR h) n (kM h (kfl (bgF h w (rm h (pwp h (xm (fR h) (letI := fR h; 1) 1) p) w)) gg sz sz 0)) v := by
  letI := fR h
  letI := pR h
  have hwp : po (fR h) w := ⟨_, hw.2⟩
  have e0 : 0 ≤ dgi h w := by rw [dgi_of h hw]; omega
  have hxp : po (fR h) (pwp h (xm (fR h) 1 1) p) := pw_po h (xm_po (fR h) 1 1) p
  have hb := bcl_ok h hw hn (rm_po h hxp hwp e0) (rm_dv h hxp hwp e0)
  rw [ker_krn h hw (bcl h w (rm h (pwp h (xm (fR h) 1 1) p) w)) (fun k _ => (hb k).1) (fun k _ => (hb k).2) hv]
  exact (krn_cM (fR h) (fun i k i1 k1 => kfl_M h w _ gg h41 (by omega) (by omega)) v).symm
/-- tried: the turn t's vector and shift leave f's factors together -/
def alT (h : prm p) (V : Int → Px p) (m t : Int) (f : Px p) : Prop := alk h (V (t % m)) f (zi h (t / m))
def alS (h : prm p) (V : Int → Px p) (m turn st e : Int) (H : Int → Px p) : Prop := ∀ i t : Int, st ≤ i → i < e → 0 ≤ t → t < turn → alT h V m t (H i)
theorem alS_up (h : prm p) {V : Int → Px p} {m turn st e k : Int} {H : Int → Px p} {fv d kk : Px p} {s : Fp p} (c : alS h V m turn st e H) (hk : st ≤ k ∧ k < e) (hp : prt h fv (H k) s d kk) : alS h V m turn st (e + 1) (upI H k d e kk) := fun i t i0 i1 t0 t1 => by
  obtain ⟨j, j0, j1, hd⟩ := up_dv h hk hp i0 i1
  exact alk_dv h (c j t j0 j1 t0 t1) hd
/-- within a pass -/
def alP (h : prm p) (v : Px p) (s : Fp p) (st k last e : Int) (H : Int → Px p) : Prop := ∀ i : Int, (st ≤ i ∧ i < k) ∨ (last ≤ i ∧ i < e) → alk h v (H i) s
theorem alP_up (h : prm p) {v d kk : Px p} {s : Fp p} {st last e k : Int} {H : Int → Px p} (c : alP h v s st k last e H) (hk : st ≤ k ∧ k < last ∧ last ≤ e) (hp : prt h v (H k) s d kk) : alP h v s st (k + 1) last (e + 1) (upI H k d e kk) := fun i hi => by
  unfold upI
  by_cases z : i = e
  · rw [if_pos z]; exact hp.2.2.2.2.1
  · rw [if_neg z]
    by_cases y : i = k
    · rw [if_pos y]; exact hp.2.2.2.1
    · rw [if_neg y]; exact c i (by omega)
theorem alP_no (h : prm p) {v : Px p} {s : Fp p} {st last e k : Int} {H : Int → Px p} (c : alP h v s st k last e H) (a : alk h v (H k) s) : alP h v s st (k + 1) last e H := fun i hi => by
  by_cases y : i = k
  · rw [y]; exact a
  · exact c i (by omega)
theorem alS_s (h : prm p) {V : Int → Px p} {m turn st e k last : Int} {H : Int → Px p} (c : alS h V m turn st e H) (w : alP h (V (turn % m)) (zi h (turn / m)) st k last e H) (hk : last ≤ k) : alS h V m (turn + 1) st e H := fun i t i0 i1 t0 t1 => by
  rcases Int.lt_or_le t turn with z | z
  · exact c i t i0 i1 t0 z
  · rw [show t = turn by omega]
    exact w i (by omega)
/-- at the end all pieces are irreducible -/
theorem bf_irr (h : prm p) {w : Px p} {n q : Nat} {st e turn m : Int} {H H0 V : Int → Px p} {pv : Nat → Option Nat} {M : Nat → Nat → Fp p} (hw : dg (fR h) w n) (hsq : sqf h w) (hs : spS h w st e H H0) (hR : RR (fR h) n n q pv M) (hk : ∀ v, dl (fR h) v n → (ker h w v ↔ krn (fR h) n M v)) (hm : m = nFr pv n) (hm1 : 1 ≤ m) (hV : ∀ f : Nat, f < n → pv f = none → ∃ j : Int, 0 ≤ j ∧ j < m ∧ V j = bpv h n pv M f) (c : alS h V m turn st e H) (hse : st ≤ e) (hx : m ≤ e - st ∨ (p : Int) * m ≤ turn) : ∀ i : Int, st ≤ i → i < e → irr (fR h) (H i) := fun i i0 i1 => by
  obtain ⟨a1, a2, a3⟩ := spS_po h hs i0 i1
  rcases hx with hx | hx
  · have b := spl_irr h hw hsq hs.1 hR hk (by omega) (i := (i - st).toNat) (by omega)
    rw [show st + ((i - st).toNat : Int) = i by omega] at b
    exact b
  · refine all_irr h hw hsq (dgi_dg h a1 (by omega)) (by omega) a3 hR hk (fun f f1 f2 => ?_)
    obtain ⟨j, j0, j1, ej⟩ := hV f f1 f2
    rw [← ej]
    have hker : ker h w (V j) := by rw [ej]; exact (hk _ (bpv_dl h _ _ _ _)).mpr (bpv_ker h hR f1 f2)
    refine alk_all h hsq (dgi_dg h a1 (by omega)) (by omega) a3 hker (fun y => ?_)
    have e := zi_of h y
    have b := cf_in (fun _ => y) h 0
    unfold cf at b
    rw [if_pos (by omega)] at b
    dsimp only at b
    rw [← e]
    have hmul : (fv y : Int) * m + m ≤ p * m := by
      have h9 : ((fv y : Int) + 1) * m ≤ p * m := Int.mul_le_mul_of_nonneg_right (by omega) (by omega)
      rw [Int.add_mul] at h9
      omega
    have hnn : 0 ≤ (fv y : Int) * m := Int.mul_nonneg b.1 (by omega)
    have hc := c i ((fv y : Int) * m + j) i0 i1 (by omega) (by omega)
    unfold alT at hc
    rw [show ((fv y : Int) * m + j) % m = j by rw [Int.add_comm, Int.add_mul_emod_self_right, Int.emod_eq_of_lt j0 j1], show ((fv y : Int) * m + j) / m = fv y by rw [Int.add_comm, Int.add_mul_ediv_right _ _ (by omega), Int.ediv_eq_zero_of_lt j0 j1]; omega] at hc
    exact hc
/-- the pieces are the factors -/
theorem prd_irr (h : prm p) {Q : Nat → Px p} {g : Px p} (hg : irr (fR h) g) : ∀ e : Nat, (∀ i, i < e → po (fR h) (Q i)) → dv (fR h) g (prd h Q e) → ∃ i, i < e ∧ dv (fR h) g (Q i)
  | 0, _, hd => by
    exfalso
    exact irr_n1 h hg hd
  | e + 1, hp, hd => by
    rcases irr_prime (fld_p h) hg (prd_po h e (fun i hi => hp i (by omega))) (hp e (by omega)) hd with z | z
    · obtain ⟨i, hi, hh⟩ := prd_irr h hg e (fun i hi => hp i (by omega)) z
      exact ⟨i, by omega, hh⟩
    · exact ⟨e, by omega, z⟩
theorem spS_fc (h : prm p) {w : Px p} {st e : Int} {H H0 : Int → Px p} (hs : spS h w st e H H0) (hi : ∀ i : Int, st ≤ i → i < e → irr (fR h) (H i)) (x : Px p) : isFc h w x ↔ ∃ i : Int, st ≤ i ∧ i < e ∧ H i = x := by
  constructor
  · rintro ⟨a, b, c⟩
    rw [hs.1.2] at c
    obtain ⟨i, i1, hd⟩ := prd_irr h a (e - st).toNat (fun i hi => (hs.1.1 i hi).1) c
    exact ⟨st + i, by omega, by omega, (irr_eq h a (hi _ (by omega) (by omega)) b (hs.2.1 _ (by omega) (by omega)) hd).symm⟩
  · rintro ⟨i, i0, i1, e⟩
    rw [← e]
    exact ⟨hi i i0 i1, hs.2.1 i i0 i1, (spS_po h hs i0 i1).2.2⟩
/-- the list so far, of F's factors -/
def LI (h : prm p) (F : Px p) (n : Int) (Q : Int → Px p) : Prop := 0 ≤ n ∧ srt h n Q ∧ ∀ i : Int, 0 ≤ i → i < n → isFc h F (Q i)
theorem LI_f (h : prm p) {F g : Px p} {n n1 : Int} {Q Q1 : Int → Px p} (w : LI h F n Q) (hg : isFc h F g) (f : fnd h n Q g n1 Q1) : LI h F n1 Q1 := by
  refine ⟨by have := f.1; have := w.1; omega, f.2.1, fun i i0 i1 => ?_⟩
  rcases (f.2.2 (Q1 i)).mp ⟨i, i0, i1, rfl⟩ with ⟨j, j0, j1, e⟩ | e
  · rw [← e]; exact w.2.2 j j0 j1
  · rw [e]; exact hg
def inL (n : Int) (Q : Int → Px p) (x : Px p) : Prop := ∃ i : Int, 0 ≤ i ∧ i < n ∧ Q i = x
theorem xm_ph (h : prm p) {L : Int → Int} (h1 : L 1 = 1) (h0 : ∀ k : Int, 0 ≤ k → k < 200 → k ≠ 1 → L k = 0) : xm (fR h) (letI := fR h; 1) 1 = ph h L 199 := funext fun k => by
  letI := fR h
  show (if k = 1 then (1 : Fp p) else 0) = (if (k : Int) ≤ 199 then zi h (L k) else 0)
  by_cases z : k = 1
  · rw [if_pos z, z, if_pos (by omega)]
    show 1 = zi h (L 1)
    rw [h1]; exact (zi_1 h).symm
  · rw [if_neg z]
    split
    · rw [h0 k (by omega) (by omega) (by omega)]; exact (zi_0 h).symm
    · rfl
end
