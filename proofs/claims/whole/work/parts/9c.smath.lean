/-! the grid as rows of the field -/
section
variable {p : Nat}
def gM (h : prm p) (gg : Int → Int) (sz : Int) : Nat → Nat → Fp p := fun i k => zi h (gg ((i : Int) * sz + k))
def gBd (p : Nat) (gg : Int → Int) (sz : Int) : Prop := ∀ i k : Int, 0 ≤ i → i < sz → 0 ≤ k → k < sz → 0 ≤ gg (i * sz + k) ∧ gg (i * sz + k) < p
theorem emod_in (h : prm p) (x : Int) : 0 ≤ x % (p : Int) ∧ x % (p : Int) < p := by
  have := h.1
  exact ⟨Int.emod_nonneg _ (by omega), Int.emod_lt_of_pos _ (by omega)⟩
theorem rsG_bd (h : prm p) {gg : Int → Int} {sz a r iv : Int} (b : gBd p gg sz) (ha : 0 ≤ a ∧ a < sz) (hr : 0 ≤ r ∧ r < sz) : gBd p (rsG p gg sz a r iv sz) sz := fun i k i0 i1 k0 k1 => by
  have e := ix_div (i := i) k0 k1
  unfold rsG
  rw [e.1, e.2, if_pos k1]
  by_cases z : i = r
  · rw [if_pos z]; exact emod_in h _
  · rw [if_neg z]
    by_cases y : i = a
    · rw [if_pos y]; exact b r k hr.1 hr.2 k0 k1
    · rw [if_neg y]; exact b i k i0 i1 k0 k1
theorem rsG_M (h : prm p) {gg : Int → Int} {sz a r iv : Int} (ha : 0 ≤ a) (hr : 0 ≤ r) {i k : Nat} (k1 : (k : Int) < sz) : gM h (rsG p gg sz a r iv sz) sz i k = rsR (fR h) (gM h gg sz) a.toNat r.toNat (zi h iv) i k := by
  letI := fR h
  have e := ix_div (i := (i : Int)) (show 0 ≤ (k : Int) by omega) k1
  unfold gM rsG rsR
  dsimp only
  rw [e.1, e.2, if_pos k1]
  by_cases z : (i : Int) = r
  · rw [if_pos z, if_pos (show i = r.toNat by omega), zi_mod, zi_mul, show ((a.toNat : Nat) : Int) = a by omega]
  · rw [if_neg z, if_neg (show ¬ i = r.toNat by omega)]
    by_cases y : (i : Int) = a
    · rw [if_pos y, if_pos (show i = a.toNat by omega), show ((r.toNat : Nat) : Int) = r by omega]
    · rw [if_neg y, if_neg (show ¬ i = a.toNat by omega)]
theorem clG_bd (h : prm p) {gg : Int → Int} {sz i r nb c0 : Int} (b : gBd p gg sz) : gBd p (clG p gg sz i r nb c0 sz) sz := fun j k j0 j1 k0 k1 => by
  unfold clG
  split
  · exact emod_in h _
  · exact b j k j0 j1 k0 k1
theorem clG_M (h : prm p) {gg : Int → Int} {sz r c0 nb : Int} {i j k : Nat} (hr : 0 ≤ r) (k1 : (k : Int) < sz) : gM h (clG p gg sz i r nb c0 sz) sz j k = letI := fR h; if j = i ∧ c0 ≤ k then gM h gg sz j k - zi h nb * gM h gg sz r.toNat k else gM h gg sz j k := by
  letI := fR h
  have e := ix_div (i := (j : Int)) (show 0 ≤ (k : Int) by omega) k1
  unfold gM clG
  rw [e.1, e.2]
  by_cases z : j = i ∧ c0 ≤ k
  · rw [if_pos (show (j : Int) = (i : Int) ∧ c0 ≤ (k : Int) ∧ (k : Int) < sz by omega), if_pos z, zi_mod, zi_add, zi_mul, zi_sub, zi_p, show ((r.toNat : Nat) : Int) = r by omega]
    grind
  · rw [if_neg (show ¬ ((j : Int) = (i : Int) ∧ c0 ≤ (k : Int) ∧ (k : Int) < sz) by omega), if_neg z]
/-- what a row's clearing leaves, whether there was something to clear or not -/
theorem clr_M (h : prm p) {gg : Int → Int} {sz r c : Int} {i j k : Nat} (hr : 0 ≤ r) (hc : 0 ≤ c) (k1 : (k : Int) < sz) (hz : letI := fR h; ∀ k : Nat, (k : Int) < c → gM h gg sz r.toNat k = 0) : letI := fR h; gM h (if gg ((i : Int) * sz + c) = 0 then gg else clG p gg sz i r (gg ((i : Int) * sz + c)) c sz) sz j k = if j = i then gM h gg sz j k - gM h gg sz j c.toNat * gM h gg sz r.toNat k else gM h gg sz j k := by
  letI := fR h
  have en : gM h gg sz i c.toNat = zi h (gg ((i : Int) * sz + c)) := by
    unfold gM
    rw [show ((c.toNat : Nat) : Int) = c by omega]
  by_cases z : gg ((i : Int) * sz + c) = 0
  · rw [if_pos z]
    by_cases y : j = i
    · rw [if_pos y, y, en, z, zi_0]; grind
    · rw [if_neg y]
  · rw [if_neg z, clG_M h hr k1]
    by_cases y : j = i
    · rw [if_pos y]
      by_cases x : c ≤ (k : Int)
      · rw [if_pos ⟨y, x⟩, y, en]
      · rw [if_neg (fun q => x q.2), hz k (by omega)]; grind
    · rw [if_neg y, if_neg (fun q => y q.1)]
theorem clr_bd (h : prm p) {gg : Int → Int} {sz i r c : Int} (b : gBd p gg sz) : gBd p (if gg (i * sz + c) = 0 then gg else clG p gg sz i r (gg (i * sz + c)) c sz) sz := by
  split
  · exact b
  · exact clG_bd h b
/-- the columns as the programs make them -/
noncomputable def bcl (h : prm p) (w fr : Px p) : Nat → Px p
  | 0 => cz h (zi h 1)
  | k + 1 => rm h (pml h (bcl h w fr k) fr) w
theorem rm_dl (h : prm p) {f w : Px p} {n : Nat} (hf : po (fR h) f) (hw : dg (fR h) w n) : dl (fR h) (rm h f w) n := by
  have e := dgi_of h hw
  have hwp : po (fR h) w := ⟨_, hw.2⟩
  have h1 := rm_po h hf hwp (by rw [e]; omega)
  have h2 := rm_lt h hf hwp (by rw [e]; omega)
  exact dl_mono (dgi_dl2 h h1 (d := (n : Int)) (by rw [e] at h2; exact h2)) (by omega)
/-- they meet what the kernel asks -/
theorem bcl_ok (h : prm p) {w fr : Px p} {n : Nat} (hw : dg (fR h) w n) (hn : 1 ≤ n) (hfr : po (fR h) fr) (hd : letI := fR h; letI := pR h; dv (fR h) w ((xm (fR h) 1 1) ^ p - fr)) : letI := fR h; letI := pR h; ∀ k : Nat, dl (fR h) (bcl h w fr k) n ∧ dv (fR h) w ((xm (fR h) 1 k) ^ p - bcl h w fr k) := by
  letI := fR h
  letI := pR h
  have hwp : po (fR h) w := ⟨_, hw.2⟩
  have e0 : 0 ≤ dgi h w := by rw [dgi_of h hw]; omega
  intro k
  induction k with
  | zero =>
    have e1 : bcl h w fr 0 = 1 := cz_z1 h
    rw [e1]
    refine ⟨dl_mono (one_dg (fld_p h)).2 (by omega), ?_⟩
    rw [xm_pw h, Nat.zero_mul]
    have e2 : xm (fR h) (1 : Fp p) 0 = (1 : Px p) := funext fun i => rfl
    rw [e2]
    have e3 : (1 : Px p) - 1 = 0 := by grind
    rw [e3]
    exact dv_0 (fR h) w
  | succ k ih =>
    have hbp : po (fR h) (bcl h w fr k) := ⟨_, ih.1⟩
    have hm : po (fR h) (pml h (bcl h w fr k) fr) := mul_po hbp hfr
    refine ⟨rm_dl h hm hw, ?_⟩
    have h1 := rm_dv h hm hwp e0
    have e1 : (xm (fR h) (1 : Fp p) (k + 1)) ^ p = (xm (fR h) 1 k) ^ p * (xm (fR h) 1 1) ^ p := by
      rw [← xm_xm h, mul_pw (pR h)]
    have h2 : dv (fR h) w ((xm (fR h) 1 k) ^ p * (xm (fR h) 1 1) ^ p - bcl h w fr k * fr) := by
      have a1 := dv_mulr ((xm (fR h) 1 1) ^ p) (pw_po h (xm_po (fR h) 1 1) p) ih.2
      have a2 := dv_mul (bcl h w fr k) hbp hd
      have a3 := dv_add a1 a2
      have e2 : (xm (fR h) 1 k) ^ p * (xm (fR h) 1 1) ^ p - bcl h w fr k * fr = ((xm (fR h) 1 k) ^ p - bcl h w fr k) * (xm (fR h) 1 1) ^ p + bcl h w fr k * ((xm (fR h) 1 1) ^ p - fr) := by
        generalize (xm (fR h) (1 : Fp p) k) ^ p = x
        generalize (xm (fR h) (1 : Fp p) 1) ^ p = y
        generalize bcl h w fr k = z
        grind
      rw [e2]; exact a3
    have h3 := dv_add h2 h1
    have e3 : (xm (fR h) (1 : Fp p) (k + 1)) ^ p - bcl h w fr (k + 1) = (xm (fR h) 1 k) ^ p * (xm (fR h) 1 1) ^ p - bcl h w fr k * fr + (pml h (bcl h w fr k) fr - rm h (pml h (bcl h w fr k) fr) w) := by
      rw [e1]
      show _ - rm h (pml h (bcl h w fr k) fr) w = _
      have e4 : pml h (bcl h w fr k) fr = bcl h w fr k * fr := rfl
      generalize rm h (pml h (bcl h w fr k) fr) w = r
      rw [e4]
      generalize (xm (fR h) (1 : Fp p) k) ^ p * (xm (fR h) 1 1) ^ p = x
      generalize bcl h w fr k * fr = z
      grind
    rw [e3]; exact h3
end
