section
variable {p : Nat}
def kM (h : prm p) (gg : Int → Int) : Nat → Nat → Fp p := fun i k => zi h (gg (41 * (i : Int) + k))
def kBd (p : Nat) (gg : Int → Int) (n : Int) : Prop := ∀ i k : Int, 0 ≤ i → i < n → 0 ≤ k → k < n → 0 ≤ gg (41 * i + k) ∧ gg (41 * i + k) < p
def ksG (p : Int) (gg : Int → Int) (a r iv c : Int) : Int → Int := fun t => if t % 41 < c then (if t / 41 = r then gg (41 * a + t % 41) * iv % p else if t / 41 = a then gg (41 * r + t % 41) else gg t) else gg t
theorem ksG_0 (p : Int) (gg : Int → Int) (a r iv : Int) : ksG p gg a r iv 0 = gg := funext fun t => by
  unfold ksG
  rw [if_neg (by omega)]
theorem ksG_at (p : Int) (gg : Int → Int) {a r iv c i : Int} (c0 : 0 ≤ c) (c1 : c < 41) : ksG p gg a r iv c (41 * i + c) = gg (41 * i + c) := by
  unfold ksG
  rw [if_neg (by omega)]
theorem ksG_s (p : Int) (gg : Int → Int) {a r iv c : Int} (c0 : 0 ≤ c) (c1 : c < 41) : gup (gup (ksG p gg a r iv c) (41 * a + c) (gg (41 * r + c))) (41 * r + c) (gg (41 * a + c) * iv % p) = ksG p gg a r iv (c + 1) := funext fun t => by
  unfold gup
  by_cases z : t = 41 * r + c
  · have e1 : t / 41 = r := by omega
    have e2 : t % 41 = c := by omega
    rw [if_pos z]
    unfold ksG
    rw [e1, e2, if_pos (by omega), if_pos rfl]
  · rw [if_neg z]
    by_cases y : t = 41 * a + c
    · have e1 : t / 41 = a := by omega
      have e2 : t % 41 = c := by omega
      rw [if_pos y]
      unfold ksG
      rw [e1, e2, if_pos (by omega), if_neg (by omega), if_pos rfl]
    · rw [if_neg y]
      unfold ksG
      by_cases x : t % 41 < c
      · rw [if_pos x, if_pos (show t % 41 < c + 1 by omega)]
      · rw [if_neg x]
        by_cases u : t % 41 < c + 1
        · rw [if_pos u, if_neg (by omega), if_neg (by omega)]
        · rw [if_neg u]
theorem ksG_bd (h : prm p) {gg : Int → Int} {n a r iv : Int} (hn : n ≤ 41) (b : kBd p gg n) (ha : 0 ≤ a ∧ a < n) (hr : 0 ≤ r ∧ r < n) : kBd p (ksG p gg a r iv n) n := fun i k i0 i1 k0 k1 => by
  unfold ksG
  have e1 : (41 * i + k) / 41 = i := by omega
  have e2 : (41 * i + k) % 41 = k := by omega
  rw [e1, e2, if_pos k1]
  split
  · exact emod_in h _
  · split
    · exact b r k hr.1 hr.2 k0 k1
    · exact b i k i0 i1 k0 k1
theorem ksG_M (h : prm p) {gg : Int → Int} {n a r iv : Int} (hn : n ≤ 41) (ha : 0 ≤ a) (hr : 0 ≤ r) {i k : Nat} (k1 : (k : Int) < n) : kM h (ksG p gg a r iv n) i k = rsR (fR h) (kM h gg) a.toNat r.toNat (zi h iv) i k := by
  letI := fR h
  unfold kM ksG rsR
  dsimp only
  have e1 : (41 * (i : Int) + k) / 41 = i := by omega
  have e2 : (41 * (i : Int) + k) % 41 = k := by omega
  rw [e1, e2, if_pos k1]
  by_cases z : (i : Int) = r
  · rw [if_pos z, if_pos (show i = r.toNat by omega), zi_mod, zi_mul, show ((a.toNat : Nat) : Int) = a by omega]
  · rw [if_neg z, if_neg (show ¬ i = r.toNat by omega)]
    by_cases y : (i : Int) = a
    · rw [if_pos y, if_pos (show i = a.toNat by omega), show ((r.toNat : Nat) : Int) = r by omega]
    · rw [if_neg y, if_neg (show ¬ i = a.toNat by omega)]
def kcG (p : Int) (gg : Int → Int) (i r nb c : Int) : Int → Int := fun t => if t / 41 = i ∧ t % 41 < c then (gg t + (p - nb) * gg (41 * r + t % 41)) % p else gg t
theorem kcG_0 (p : Int) (gg : Int → Int) (i r nb : Int) : kcG p gg i r nb 0 = gg := funext fun t => by
  unfold kcG
  rw [if_neg (by omega)]
theorem kcG_at (p : Int) (gg : Int → Int) {i r nb c j : Int} (h0 : 0 ≤ c) (h1 : c < 41) : kcG p gg i r nb c (41 * j + c) = gg (41 * j + c) := by
  unfold kcG
  rw [if_neg (by omega)]
theorem kcG_s (p : Int) (gg : Int → Int) {i r nb c : Int} (h0 : 0 ≤ c) (h1 : c < 41) : gup (kcG p gg i r nb c) (41 * i + c) ((gg (41 * i + c) + (p - nb) * gg (41 * r + c)) % p) = kcG p gg i r nb (c + 1) := funext fun t => by
  unfold gup
  by_cases z : t = 41 * i + c
  · have e2 : t % 41 = c := by omega
    rw [if_pos z]
    unfold kcG
    rw [if_pos (by omega), e2, z]
  · rw [if_neg z]
    unfold kcG
    by_cases x : t / 41 = i ∧ t % 41 < c
    · rw [if_pos x, if_pos (by omega)]
    · rw [if_neg x, if_neg (by omega)]
theorem kcG_bd (h : prm p) {gg : Int → Int} {n i r nb : Int} (b : kBd p gg n) : kBd p (kcG p gg i r nb n) n := fun j k j0 j1 k0 k1 => by
  unfold kcG
  split
  · exact emod_in h _
  · exact b j k j0 j1 k0 k1
theorem kcG_M (h : prm p) {gg : Int → Int} {n r nb : Int} {i j k : Nat} (hn : n ≤ 41) (hr : 0 ≤ r) (k1 : (k : Int) < n) : kM h (kcG p gg i r nb n) j k = letI := fR h; if j = i then kM h gg j k - zi h nb * kM h gg r.toNat k else kM h gg j k := by
  letI := fR h
  unfold kM kcG
  have e1 : (41 * (j : Int) + k) / 41 = j := by omega
  have e2 : (41 * (j : Int) + k) % 41 = k := by omega
  rw [e1, e2]
  by_cases z : j = i
  · rw [if_pos (show (j : Int) = (i : Int) ∧ (k : Int) < n by omega), if_pos z, zi_mod, zi_add, zi_mul, zi_sub, zi_p, show ((r.toNat : Nat) : Int) = r by omega]
    grind
  · rw [if_neg (show ¬ ((j : Int) = (i : Int) ∧ (k : Int) < n) by omega), if_neg z]
/-- the basis: a row for each free column -/
def bsR (h : prm p) (n : Int) (pv : Nat → Option Nat) (M : Nat → Nat → Fp p) (g : Int → Int) (m : Int) (f : Nat) : Prop := ∀ k : Int, 0 ≤ k → k < n → g (41 * m + k) = cf (bpv h n.toNat pv M f) k
def bsS (h : prm p) (n : Int) (pv : Nat → Option Nat) (M : Nat → Nat → Fp p) (g : Int → Int) (m c : Int) : Prop := (∀ j : Int, 0 ≤ j → j < m → ∃ f : Nat, (f : Int) < c ∧ pv f = none ∧ bsR h n pv M g j f) ∧ (∀ f : Nat, (f : Int) < c → pv f = none → ∃ j : Int, 0 ≤ j ∧ j < m ∧ bsR h n pv M g j f) ∧ m = nFr pv c.toNat
theorem bsS_n {h : prm p} {n : Int} {pv : Nat → Option Nat} {M : Nat → Nat → Fp p} {g : Int → Int} {m c : Int} (c0 : 0 ≤ c) (w : bsS h n pv M g m c) (hn : pv c.toNat ≠ none) : bsS h n pv M g m (c + 1) := by
  obtain ⟨w1, w2, w3⟩ := w
  refine ⟨fun j j0 j1 => ?_, fun f hf hp => ?_, ?_⟩
  · obtain ⟨f, a, b⟩ := w1 j j0 j1
    exact ⟨f, by omega, b⟩
  · rcases Int.lt_or_le (f : Int) c with z | z
    · exact w2 f z hp
    · exact absurd (show pv c.toNat = none by rw [← show f = c.toNat by omega]; exact hp) hn
  · rw [show (c + 1).toNat = c.toNat + 1 by omega]
    show m = ((nFr pv c.toNat + (if pv c.toNat = none then 1 else 0) : Nat) : Int)
    rw [if_neg hn]; omega
theorem bsS_s {h : prm p} {n : Int} {pv : Nat → Option Nat} {M : Nat → Nat → Fp p} {g : Int → Int} {m c : Int} (hn41 : n ≤ 41) (c0 : 0 ≤ c) (w : bsS h n pv M g m c) (hn : pv c.toNat = none) : bsS h n pv M (wT g m (bpv h n.toNat pv M c.toNat) n) (m + 1) (c + 1) := by
  obtain ⟨w1, w2, w3⟩ := w
  have old : ∀ (j : Int) (f : Nat), j < m → bsR h n pv M g j f → bsR h n pv M (wT g m (bpv h n.toNat pv M c.toNat) n) j f := fun j f hj hr k k0 k1 => by
    unfold wT
    rw [if_neg (by omega)]; exact hr k k0 k1
  have new : bsR h n pv M (wT g m (bpv h n.toNat pv M c.toNat) n) m c.toNat := fun k k0 k1 => by
    unfold wT
    rw [if_pos (by omega)]; congr 1; omega
  have m0 : 0 ≤ m := by omega
  refine ⟨fun j j0 j1 => ?_, fun f hf hp => ?_, ?_⟩
  · rcases Int.lt_or_le j m with z | z
    · obtain ⟨f, a, b, d⟩ := w1 j j0 z
      exact ⟨f, by omega, b, old j f z d⟩
    · rw [show j = m by omega]; exact ⟨c.toNat, by omega, hn, new⟩
  · rcases Int.lt_or_le (f : Int) c with z | z
    · obtain ⟨j, a, b, d⟩ := w2 f z hp
      exact ⟨j, a, by omega, old j f b d⟩
    · rw [show f = c.toNat by omega]; exact ⟨m, m0, by omega, new⟩
  · rw [show (c + 1).toNat = c.toNat + 1 by omega]
    show m + 1 = ((nFr pv c.toNat + (if pv c.toNat = none then 1 else 0) : Nat) : Int)
    rw [if_pos hn]; omega
/-- a number of a basis' row -/
theorem bpv_cf (h : prm p) {gg gv : Int → Int} {n f k v : Int} {pv : Nat → Option Nat} (f0 : 0 ≤ f ∧ f < n) (k0 : 0 ≤ k ∧ k < n) (hv : 0 ≤ v ∧ v < p) (hpv : gv k = pvI pv k.toNat) (e : (k = f ∧ v = 1) ∨ (k ≠ f ∧ gv k = -1 ∧ v = 0) ∨ (k ≠ f ∧ gv k ≠ -1 ∧ v = (p - gg (41 * gv k + f)) % p)) : v = cf (bpv h n.toNat pv (kM h gg) f.toNat) k := by
  letI := fR h
  refine cf_of h hv k0.1 ?_
  show zi h v = (if k.toNat < n.toNat then bas (fR h) pv (kM h gg) f.toNat k.toNat else 0)
  rw [if_pos (by omega)]
  show _ = (if k.toNat = f.toNat then 1 else match pv k.toNat with
      | none => 0
      | some r => - kM h gg r f.toNat)
  rcases e with ⟨e1, e2⟩ | ⟨e1, e2, e3⟩ | ⟨e1, e2, e3⟩
  · rw [if_pos (by omega), e2]; exact zi_1 h
  · rw [if_neg (by omega), e3]
    unfold pvI at hpv
    cases hc : pv k.toNat with
    | none => exact zi_0 h
    | some r => rw [hc] at hpv; dsimp only at hpv; omega
  · rw [if_neg (by omega), e3]
    unfold pvI at hpv
    cases hc : pv k.toNat with
    | none => rw [hc] at hpv; dsimp only at hpv; omega
    | some r =>
      rw [hc] at hpv
      dsimp only at hpv ⊢
      rw [hpv, zi_mod, zi_sub, zi_p]
      show _ = - zi h (gg (41 * (r : Int) + (f.toNat : Int)))
      rw [show ((f.toNat : Nat) : Int) = f by omega]
      generalize zi h (gg (41 * (r : Int) + f)) = x
      grind
end
set_option maxHeartbeats 4000000 in
set_option maxRecDepth 100000 in
theorem sM_kernel (N : GN) (h : GH) (B p : Nat) (hp : prm p) (hp2 : p ≤ 65536) (h0 : GH) (hf le fc pn rn hn qn : Int) (g9 g10 g11 g12 g13 g14 g15 g16 g17 g18 g19 g20 : Int → Int) (n : Int) (hn40 : 1 ≤ n ∧ n ≤ 40) (hgb : kBd p g18 n) (hRD : RD B h0 h p hf le fc pn rn hn qn g9 g10 g11 g12 g13 g14 g15 g16 g17 g18 g19 g20)  : Sp N yX10_kernel mX10_kernel 0 0 [.ref (B), .int (gI (n))] h (fun v h1 => NR B [] h h1 ∧ ∃ (q : Int) (gg gv : Int → Int) (pv : Nat → Option Nat) (gb : Int → Int) (m : Int), RD B h0 h1 p hf le fc pn rn hn qn g9 g10 g11 g12 g13 g14 g15 g16 g17 gg gv gb ∧ v = some (.int (gI m)) ∧ kBd p gg n ∧ RR (fR hp) n.toNat n.toNat q.toNat pv (kM hp gg) ∧ (∀ v, krn (fR hp) n.toNat (kM hp gg) v ↔ krn (fR hp) n.toNat (kM hp g18) v) ∧ bsS hp n pv (kM hp gg) gb m n) := by
  refine Sp.of (by decide) rfl rfl (Nat.le_of_ble_eq_true rfl) ?_
  show Go N mX10_kernel _ 0 0 h 0 [(0, .ref (B)), (1, .int (gI (n)))] []
  have hp1 := hp.1
  have neA : NE B (B + 5) := by unfold NE; omega
  have neB : NE B (B + 6) := by unfold NE; omega
  have neC : NE (B + 5) (B + 6) := by unfold NE; omega
  refine g_iconst dX10_kernel_0 ?_
  refine g_istore_n (ls2 := [(2, .int (gI (0))), (0, .ref (B)), (1, .int (gI (n)))]) dX10_kernel_1 rfl (by decide) rfl ?_
  refine g_iconst dX10_kernel_2 ?_
  refine g_istore_n (ls2 := [(3, .int (gI (0))), (2, .int (gI (0))), (0, .ref (B)), (1, .int (gI (n)))]) dX10_kernel_3 rfl (by decide) rfl ?_
  have lc : ∀ (kk : Nat) (c : Int) (q : Int) (gg : Int → Int) (gv : Int → Int) (pv : Nat → Option Nat) (hlc : GH), kk = (41 - c).toNat → True → RD B h0 hlc p hf le fc pn rn hn qn g9 g10 g11 g12 g13 g14 g15 g16 g17 gg gv g20 → NR B [] h hlc → (0 ≤ c ∧ c ≤ n) → (0 ≤ q ∧ q ≤ c) → (kBd p gg n) → (RR (fR hp) n.toNat c.toNat q.toNat pv (kM hp gg)) → (∀ v, krn (fR hp) n.toNat (kM hp gg) v ↔ krn (fR hp) n.toNat (kM hp g18) v) → (∀ k : Int, 0 ≤ k → k < c → gv k = pvI pv k.toNat) → Go N mX10_kernel (fun v h1 => NR B [] h h1 ∧ ∃ (q : Int) (gg gv : Int → Int) (pv : Nat → Option Nat) (gb : Int → Int) (m : Int), RD B h0 h1 p hf le fc pn rn hn qn g9 g10 g11 g12 g13 g14 g15 g16 g17 gg gv gb ∧ v = some (.int (gI m)) ∧ kBd p gg n ∧ RR (fR hp) n.toNat n.toNat q.toNat pv (kM hp gg) ∧ (∀ v, krn (fR hp) n.toNat (kM hp gg) v ↔ krn (fR hp) n.toNat (kM hp g18) v) ∧ bsS hp n pv (kM hp gg) gb m n) 0 0 hlc 4 [(3, .int (gI (c))), (2, .int (gI (q))), (0, .ref (B)), (1, .int (gI (n)))] [] := by
    refine Go.ind (fun kk ih_lc => ?_)
    intro c q gg gv pv hlc hkk_lc fr_lc cr_lc_0 cr_lc_1 hc hq hbd hRR hKr hpv
    refine g_iload_n 0 dX10_kernel_4 rfl ?_
    refine g_iload_n 3 dX10_kernel_5 rfl ?_
    refine g_icmp_ge (tgt := 286) dX10_kernel_6 rfl (by first | assumption | (unfold gW; omega) | (unfold gW; split <;> omega)) (by first | assumption | (unfold gW; omega) | (unfold gW; split <;> omega)) (fun c101 => ?_) (fun c101 => ?_)
    · skip
      have hRn : RR (fR hp) n.toNat n.toNat q.toNat pv (kM hp gg) := by
                                                                      have e9 : c = n := by omega
                                                                      rw [e9] at hRR; exact hRR
      have hpn : ∀ k : Int, 0 ≤ k → k < n → gv k = pvI pv k.toNat := fun k k0 k1 => hpv k k0 (by omega)
      have hvr : ∀ k : Int, 0 ≤ k → k < n → -1 ≤ gv k ∧ gv k < n := fun k k0 k1 => by
                                                                      rw [hpn k k0 k1]
                                                                      unfold pvI
                                                                      cases hc9 : pv k.toNat with
                                                                      | none => dsimp only; omega
                                                                      | some r => have := (hRn.1 k.toNat r (by omega) hc9).1; have := hRn.2.2.2.2.1; dsimp only; omega
      refine g_iconst dX10_kernel_286 ?_
      refine g_istore_n (ls2 := [(3, .int (gI (0))), (2, .int (gI (q))), (0, .ref (B)), (1, .int (gI (n)))]) dX10_kernel_287 rfl (by decide) rfl ?_
      refine g_iconst dX10_kernel_288 ?_
      refine g_istore (ls2 := [(4, .int (gI (0))), (3, .int (gI (0))), (2, .int (gI (q))), (0, .ref (B)), (1, .int (gI (n)))]) dX10_kernel_289 (by decide) rfl ?_
      have lb : ∀ (kk : Nat) (c2 : Int) (m : Int) (gb : Int → Int) (hlb : GH), kk = (50 - c2).toNat → True → RD B h0 hlb p hf le fc pn rn hn qn g9 g10 g11 g12 g13 g14 g15 g16 g17 gg gv gb → NR B [] h hlb → (0 ≤ c2 ∧ c2 ≤ n) → (bsS hp n pv (kM hp gg) gb m c2) → (0 ≤ m ∧ m ≤ c2) → Go N mX10_kernel (fun v h1 => NR B [] h h1 ∧ ∃ (q : Int) (gg gv : Int → Int) (pv : Nat → Option Nat) (gb : Int → Int) (m : Int), RD B h0 h1 p hf le fc pn rn hn qn g9 g10 g11 g12 g13 g14 g15 g16 g17 gg gv gb ∧ v = some (.int (gI m)) ∧ kBd p gg n ∧ RR (fR hp) n.toNat n.toNat q.toNat pv (kM hp gg) ∧ (∀ v, krn (fR hp) n.toNat (kM hp gg) v ↔ krn (fR hp) n.toNat (kM hp g18) v) ∧ bsS hp n pv (kM hp gg) gb m n) 0 0 hlb 291 [(4, .int (gI (c2))), (3, .int (gI (m))), (2, .int (gI (q))), (0, .ref (B)), (1, .int (gI (n)))] [] := by
        refine Go.ind (fun kk ih_lb => ?_)
        intro c2 m gb hlb hkk_lb fr_lb cr_lb_0 cr_lb_1 hc2 hbs hm
        refine g_iload 0 dX10_kernel_291 rfl ?_
        refine g_iload_n 4 dX10_kernel_293 rfl ?_
        refine g_icmp_ge (tgt := 402) dX10_kernel_294 rfl (by first | assumption | (unfold gW; omega) | (unfold gW; split <;> omega)) (by first | assumption | (unfold gW; omega) | (unfold gW; split <;> omega)) (fun c202 => ?_) (fun c202 => ?_)
        · skip
          refine g_iload_n 1 dX10_kernel_402 rfl ?_
          exact g_iret dX10_kernel_403 rfl ⟨cr_lb_1, q, gg, gv, pv, gb, m, cr_lb_0, rfl, hbd, hRn, hKr, (by
                                                                      have e9 : c2 = n := by omega
                                                                      rw [e9] at hbs; exact hbs)⟩
        · skip
          have hv2 := hvr c2 (by omega) (by omega)
          refine g_aload_n 3 dX10_kernel_297 rfl ?_
          refine g_getf 25 dX10_kernel_298 kX10 (by decide) fX10_66 (RD.o cr_lb_0) rfl ?_
          refine g_iload 0 dX10_kernel_301 rfl ?_
          refine g_iaload dX10_kernel_303 (RD.t19 cr_lb_0) (by omega) (by omega) (by omega) ?_
          refine g_iconst dX10_kernel_304 ?_
          refine g_icmp_ne (tgt := 396) dX10_kernel_305 rfl (by first | assumption | (unfold gW; omega) | (unfold gW; split <;> omega)) (by first | assumption | (unfold gW; omega) | (unfold gW; split <;> omega)) (fun c203 => ?_) (fun c203 => ?_)
          · skip
            have hnf : pv c2.toNat ≠ none := fun hc9 => by
                                                                      have e9 := hpn c2 (by omega) (by omega)
                                                                      unfold pvI at e9
                                                                      rw [hc9] at e9
                                                                      dsimp only at e9
                                                                      omega
            refine g_iinc 0 (ls2 := [(4, .int (gI (c2 + 1))), (3, .int (gI (m))), (2, .int (gI (q))), (0, .ref (B)), (1, .int (gI (n)))]) dX10_kernel_396 rfl (by decide) rfl ?_
            refine g_goto (tgt := 291) dX10_kernel_399 rfl ?_
            exact ih_lb _ (by omega) (c2 + 1) (m) (gb) hlb rfl fr_lb cr_lb_0 cr_lb_1 (by omega) (bsS_n hc2.1 hbs hnf) (by omega)
          · skip
            have hfree : pv c2.toNat = none := by
                                                                      have e9 := hpn c2 (by omega) (by omega)
                                                                      unfold pvI at e9
                                                                      cases hc9 : pv c2.toNat with
                                                                      | none => rfl
                                                                      | some r => rw [hc9] at e9; dsimp only at e9; omega
            refine g_iconst dX10_kernel_308 ?_
            refine g_istore (ls2 := [(5, .int (gI (0))), (4, .int (gI (c2))), (3, .int (gI (m))), (2, .int (gI (q))), (0, .ref (B)), (1, .int (gI (n)))]) dX10_kernel_309 (by decide) rfl ?_
            have l5 : ∀ (kk : Nat) (k5 : Int) (hl5 : GH), kk = (50 - k5).toNat → True → RD B h0 hl5 p hf le fc pn rn hn qn g9 g10 g11 g12 g13 g14 g15 g16 g17 gg gv (wT gb m (bpv hp n.toNat pv (kM hp gg) c2.toNat) k5) → NR B [] h hl5 → (0 ≤ k5 ∧ k5 ≤ n) → Go N mX10_kernel (fun v h1 => NR B [] h h1 ∧ ∃ (q : Int) (gg gv : Int → Int) (pv : Nat → Option Nat) (gb : Int → Int) (m : Int), RD B h0 h1 p hf le fc pn rn hn qn g9 g10 g11 g12 g13 g14 g15 g16 g17 gg gv gb ∧ v = some (.int (gI m)) ∧ kBd p gg n ∧ RR (fR hp) n.toNat n.toNat q.toNat pv (kM hp gg) ∧ (∀ v, krn (fR hp) n.toNat (kM hp gg) v ↔ krn (fR hp) n.toNat (kM hp g18) v) ∧ bsS hp n pv (kM hp gg) gb m n) 0 0 hl5 311 [(5, .int (gI (k5))), (4, .int (gI (c2))), (3, .int (gI (m))), (2, .int (gI (q))), (0, .ref (B)), (1, .int (gI (n)))] [] := by
              refine Go.ind (fun kk ih_l5 => ?_)
              intro k5 hl5 hkk_l5 fr_l5 cr_l5_0 cr_l5_1 hk5
              refine g_iload 0 dX10_kernel_311 rfl ?_
              refine g_iload_n 5 dX10_kernel_313 rfl ?_
              refine g_icmp_ge (tgt := 393) dX10_kernel_314 rfl (by first | assumption | (unfold gW; omega) | (unfold gW; split <;> omega)) (by first | assumption | (unfold gW; omega) | (unfold gW; split <;> omega)) (fun c304 => ?_) (fun c304 => ?_)
              · skip
                refine g_iinc 2 (ls2 := [(3, .int (gI (m + 1))), (5, .int (gI (k5))), (4, .int (gI (c2))), (2, .int (gI (q))), (0, .ref (B)), (1, .int (gI (n)))]) dX10_kernel_393 rfl (by decide) rfl ?_
                refine g_iinc 2 (ls2 := [(4, .int (gI (c2 + 1))), (3, .int (gI (m + 1))), (5, .int (gI (k5))), (2, .int (gI (q))), (0, .ref (B)), (1, .int (gI (n)))]) dX10_kernel_396 rfl (by decide) rfl ?_
                refine g_goto (tgt := 291) dX10_kernel_399 rfl ?_
                refine Go.sub [0, 1, 3, 4, 5] rfl ?_
                exact ih_lb _ (by omega) (c2 + 1) (m + 1) (wT gb m (bpv hp n.toNat pv (kM hp gg) c2.toNat) n) hl5 rfl fr_l5 (by
                                                                      have e8 := cr_l5_0
                                                                      rw [show k5 = n by omega] at e8; exact e8) cr_l5_1 (by omega) (bsS_s (by omega) hc2.1 hbs hfree) (by omega)
              · skip
                have hv5 := hvr k5 (by omega) (by omega)
                refine g_iload 0 dX10_kernel_317 rfl ?_
                refine g_iload 1 dX10_kernel_319 rfl ?_
                refine g_icmp_ne (tgt := 328) dX10_kernel_321 rfl (by first | assumption | (unfold gW; omega) | (unfold gW; split <;> omega)) (by first | assumption | (unfold gW; omega) | (unfold gW; split <;> omega)) (fun c305 => ?_) (fun c305 => ?_)
                · skip
                  refine g_aload_n 4 dX10_kernel_328 rfl ?_
                  refine g_getf 25 dX10_kernel_329 kX10 (by decide) fX10_66 (RD.o cr_l5_0) rfl ?_
                  refine g_iload 0 dX10_kernel_332 rfl ?_
                  refine g_iaload dX10_kernel_334 (RD.t19 cr_l5_0) (by omega) (by omega) (by omega) ?_
                  refine g_iconst dX10_kernel_335 ?_
                  refine g_icmp_ne (tgt := 343) dX10_kernel_336 rfl (by first | assumption | (unfold gW; omega) | (unfold gW; split <;> omega)) (by first | assumption | (unfold gW; omega) | (unfold gW; split <;> omega)) (fun c306 => ?_) (fun c306 => ?_)
                  · skip
                    have hg5 := hbd (gv k5) c2 (by omega) (by omega) (by omega) (by omega)
                    refine g_aload_n 4 dX10_kernel_343 rfl ?_
                    refine g_getf 0 dX10_kernel_344 kX10 (by decide) fX10_78 (RD.o cr_l5_0) rfl ?_
                    refine g_aload_n 4 dX10_kernel_347 rfl ?_
                    refine g_getf 24 dX10_kernel_348 kX10 (by decide) fX10_63 (RD.o cr_l5_0) rfl ?_
                    refine g_bipush dX10_kernel_351 (by decide) ?_
                    refine g_aload_n 4 dX10_kernel_353 rfl ?_
                    refine g_getf 25 dX10_kernel_354 kX10 (by decide) fX10_66 (RD.o cr_l5_0) rfl ?_
                    refine g_iload 0 dX10_kernel_357 rfl ?_
                    refine g_iaload dX10_kernel_359 (RD.t19 cr_l5_0) (by omega) (by omega) (by omega) ?_
                    refine g_imul dX10_kernel_360 ?_
                    refine g_iload 1 dX10_kernel_361 rfl ?_
                    refine g_iadd dX10_kernel_363 ?_
                    refine g_iaload dX10_kernel_364 (RD.t18 cr_l5_0) (by omega) (by omega) (by omega) ?_
                    refine g_isub dX10_kernel_365 ?_
                    refine g_aload_n 4 dX10_kernel_366 rfl ?_
                    refine g_getf 0 dX10_kernel_367 kX10 (by decide) fX10_78 (RD.o cr_l5_0) rfl ?_
                    refine g_irem dX10_kernel_370 (by unfold gW; omega) (by unfold gW; omega) (by omega) ?_
                    have etm : (((p : Int)) - ((gg) (((41) * ((gv) (k5))) + (c2)))).tmod ((p : Int)) = (p - gg (41 * gv k5 + c2)) % p := Int.tmod_eq_emod_of_nonneg (by omega)
                    rw [etm]
                    have hvv : ((p - gg (41 * gv k5 + c2)) % p) = cf (bpv hp n.toNat pv (kM hp gg) c2.toNat) k5 := bpv_cf hp ⟨by omega, by omega⟩ ⟨by omega, by omega⟩ (emod_in hp _) (hpn k5 (by omega) (by omega)) (Or.inr (Or.inr ⟨by omega, by omega, rfl⟩))
                    rw [hvv]
                    refine g_istore (ls2 := [(6, .int (gI (cf (bpv hp n.toNat pv (kM hp gg) c2.toNat) k5))), (5, .int (gI (k5))), (4, .int (gI (c2))), (3, .int (gI (m))), (2, .int (gI (q))), (0, .ref (B)), (1, .int (gI (n)))]) dX10_kernel_371 (by decide) rfl ?_
                    refine g_aload_n 5 dX10_kernel_373 rfl ?_
                    refine g_getf 26 dX10_kernel_374 kX10 (by decide) fX10_69 (RD.o cr_l5_0) rfl ?_
                    refine g_bipush dX10_kernel_377 (by decide) ?_
                    refine g_iload_n 3 dX10_kernel_379 rfl ?_
                    refine g_imul dX10_kernel_380 ?_
                    refine g_iload 1 dX10_kernel_381 rfl ?_
                    refine g_iadd dX10_kernel_383 ?_
                    refine g_iload 0 dX10_kernel_384 rfl ?_
                    refine g_iastore dX10_kernel_386 (RD.t20 cr_l5_0) (by omega) (by omega) (by omega) ?_
                    obtain ⟨hh307, eh307⟩ : ∃ z : GH, z = hset hl5 (B + 20) (aI 1681 (gup (wT gb m (bpv hp n.toNat pv (kM hp gg) c2.toNat) k5) (((41) * (m)) + (k5)) (cf (bpv hp n.toNat pv (kM hp gg) c2.toNat) k5))) := ⟨_, rfl⟩
                    refine Go.hp eh307.symm ?_
                    have rd307 : RD B h0 hh307 p hf le fc pn rn hn qn g9 g10 g11 g12 g13 g14 g15 g16 g17 gg gv (gup (wT gb m (bpv hp n.toNat pv (kM hp gg) c2.toNat) k5) (((41) * (m)) + (k5)) (cf (bpv hp n.toNat pv (kM hp gg) c2.toNat) k5)) := RD.cell cr_l5_0 (by rw [eh307]; rfl) (fun x hx => by rw [eh307, hset_n _ _ (by omega)]) (hs_n eh307 (show NE (B) (B + 20) by unfold NE; omega) (RD.o cr_l5_0)) (hs_n eh307 (show NE (B + 9) (B + 20) by unfold NE; omega) (RD.t9 cr_l5_0)) (hs_n eh307 (show NE (B + 10) (B + 20) by unfold NE; omega) (RD.t10 cr_l5_0)) (hs_n eh307 (show NE (B + 11) (B + 20) by unfold NE; omega) (RD.t11 cr_l5_0)) (hs_n eh307 (show NE (B + 12) (B + 20) by unfold NE; omega) (RD.t12 cr_l5_0)) (hs_n eh307 (show NE (B + 13) (B + 20) by unfold NE; omega) (RD.t13 cr_l5_0)) (hs_n eh307 (show NE (B + 14) (B + 20) by unfold NE; omega) (RD.t14 cr_l5_0)) (hs_n eh307 (show NE (B + 15) (B + 20) by unfold NE; omega) (RD.t15 cr_l5_0)) (hs_n eh307 (show NE (B + 16) (B + 20) by unfold NE; omega) (RD.t16 cr_l5_0)) (hs_n eh307 (show NE (B + 17) (B + 20) by unfold NE; omega) (RD.t17 cr_l5_0)) (hs_n eh307 (show NE (B + 18) (B + 20) by unfold NE; omega) (RD.t18 cr_l5_0)) (hs_n eh307 (show NE (B + 19) (B + 20) by unfold NE; omega) (RD.t19 cr_l5_0)) (hs_s eh307)
                    have e5_307 : hh307.2 (B + 5) = hl5.2 (B + 5) := by rw [eh307, hset_n _ _ (by omega)]
                    have e6_307 : hh307.2 (B + 6) = hl5.2 (B + 6) := by rw [eh307, hset_n _ _ (by omega)]
                    have rg307_1 : NR B [] h hh307 := NR.h5 cr_l5_1 e5_307 e6_307
                    refine g_iinc 1 (ls2 := [(5, .int (gI (k5 + 1))), (6, .int (gI (cf (bpv hp n.toNat pv (kM hp gg) c2.toNat) k5))), (4, .int (gI (c2))), (3, .int (gI (m))), (2, .int (gI (q))), (0, .ref (B)), (1, .int (gI (n)))]) dX10_kernel_387 rfl (by decide) rfl ?_
                    refine g_goto (tgt := 311) dX10_kernel_390 rfl ?_
                    refine Go.sub [0, 2, 3, 4, 5, 6] rfl ?_
                    exact ih_l5 _ (by omega) (k5 + 1) hh307 rfl fr_l5 (by rw [← wT_s gb m (bpv hp n.toNat pv (kM hp gg) c2.toNat) hk5.1]; exact rd307) rg307_1 (by omega)
                  · skip
                    refine g_iconst dX10_kernel_339 ?_
                    refine g_goto (tgt := 371) dX10_kernel_340 rfl ?_
                    have hvv : (0) = cf (bpv hp n.toNat pv (kM hp gg) c2.toNat) k5 := bpv_cf hp ⟨by omega, by omega⟩ ⟨by omega, by omega⟩ (by omega) (hpn k5 (by omega) (by omega)) (Or.inr (Or.inl ⟨by omega, by omega, rfl⟩))
                    rw [hvv]
                    refine g_istore (ls2 := [(6, .int (gI (cf (bpv hp n.toNat pv (kM hp gg) c2.toNat) k5))), (5, .int (gI (k5))), (4, .int (gI (c2))), (3, .int (gI (m))), (2, .int (gI (q))), (0, .ref (B)), (1, .int (gI (n)))]) dX10_kernel_371 (by decide) rfl ?_
                    refine g_aload_n 5 dX10_kernel_373 rfl ?_
                    refine g_getf 26 dX10_kernel_374 kX10 (by decide) fX10_69 (RD.o cr_l5_0) rfl ?_
                    refine g_bipush dX10_kernel_377 (by decide) ?_
                    refine g_iload_n 3 dX10_kernel_379 rfl ?_
                    refine g_imul dX10_kernel_380 ?_
                    refine g_iload 1 dX10_kernel_381 rfl ?_
                    refine g_iadd dX10_kernel_383 ?_
                    refine g_iload 0 dX10_kernel_384 rfl ?_
                    refine g_iastore dX10_kernel_386 (RD.t20 cr_l5_0) (by omega) (by omega) (by omega) ?_
                    obtain ⟨hh308, eh308⟩ : ∃ z : GH, z = hset hl5 (B + 20) (aI 1681 (gup (wT gb m (bpv hp n.toNat pv (kM hp gg) c2.toNat) k5) (((41) * (m)) + (k5)) (cf (bpv hp n.toNat pv (kM hp gg) c2.toNat) k5))) := ⟨_, rfl⟩
                    refine Go.hp eh308.symm ?_
                    have rd308 : RD B h0 hh308 p hf le fc pn rn hn qn g9 g10 g11 g12 g13 g14 g15 g16 g17 gg gv (gup (wT gb m (bpv hp n.toNat pv (kM hp gg) c2.toNat) k5) (((41) * (m)) + (k5)) (cf (bpv hp n.toNat pv (kM hp gg) c2.toNat) k5)) := RD.cell cr_l5_0 (by rw [eh308]; rfl) (fun x hx => by rw [eh308, hset_n _ _ (by omega)]) (hs_n eh308 (show NE (B) (B + 20) by unfold NE; omega) (RD.o cr_l5_0)) (hs_n eh308 (show NE (B + 9) (B + 20) by unfold NE; omega) (RD.t9 cr_l5_0)) (hs_n eh308 (show NE (B + 10) (B + 20) by unfold NE; omega) (RD.t10 cr_l5_0)) (hs_n eh308 (show NE (B + 11) (B + 20) by unfold NE; omega) (RD.t11 cr_l5_0)) (hs_n eh308 (show NE (B + 12) (B + 20) by unfold NE; omega) (RD.t12 cr_l5_0)) (hs_n eh308 (show NE (B + 13) (B + 20) by unfold NE; omega) (RD.t13 cr_l5_0)) (hs_n eh308 (show NE (B + 14) (B + 20) by unfold NE; omega) (RD.t14 cr_l5_0)) (hs_n eh308 (show NE (B + 15) (B + 20) by unfold NE; omega) (RD.t15 cr_l5_0)) (hs_n eh308 (show NE (B + 16) (B + 20) by unfold NE; omega) (RD.t16 cr_l5_0)) (hs_n eh308 (show NE (B + 17) (B + 20) by unfold NE; omega) (RD.t17 cr_l5_0)) (hs_n eh308 (show NE (B + 18) (B + 20) by unfold NE; omega) (RD.t18 cr_l5_0)) (hs_n eh308 (show NE (B + 19) (B + 20) by unfold NE; omega) (RD.t19 cr_l5_0)) (hs_s eh308)
                    have e5_308 : hh308.2 (B + 5) = hl5.2 (B + 5) := by rw [eh308, hset_n _ _ (by omega)]
                    have e6_308 : hh308.2 (B + 6) = hl5.2 (B + 6) := by rw [eh308, hset_n _ _ (by omega)]
                    have rg308_1 : NR B [] h hh308 := NR.h5 cr_l5_1 e5_308 e6_308
                    refine g_iinc 1 (ls2 := [(5, .int (gI (k5 + 1))), (6, .int (gI (cf (bpv hp n.toNat pv (kM hp gg) c2.toNat) k5))), (4, .int (gI (c2))), (3, .int (gI (m))), (2, .int (gI (q))), (0, .ref (B)), (1, .int (gI (n)))]) dX10_kernel_387 rfl (by decide) rfl ?_
                    refine g_goto (tgt := 311) dX10_kernel_390 rfl ?_
                    refine Go.sub [0, 2, 3, 4, 5, 6] rfl ?_
                    exact ih_l5 _ (by omega) (k5 + 1) hh308 rfl fr_l5 (by rw [← wT_s gb m (bpv hp n.toNat pv (kM hp gg) c2.toNat) hk5.1]; exact rd308) rg308_1 (by omega)
                · skip
                  refine g_iconst dX10_kernel_324 ?_
                  refine g_goto (tgt := 371) dX10_kernel_325 rfl ?_
                  have hvv : (1) = cf (bpv hp n.toNat pv (kM hp gg) c2.toNat) k5 := bpv_cf hp ⟨by omega, by omega⟩ ⟨by omega, by omega⟩ (by omega) (hpn k5 (by omega) (by omega)) (Or.inl ⟨by omega, rfl⟩)
                  rw [hvv]
                  refine g_istore (ls2 := [(6, .int (gI (cf (bpv hp n.toNat pv (kM hp gg) c2.toNat) k5))), (5, .int (gI (k5))), (4, .int (gI (c2))), (3, .int (gI (m))), (2, .int (gI (q))), (0, .ref (B)), (1, .int (gI (n)))]) dX10_kernel_371 (by decide) rfl ?_
                  refine g_aload_n 5 dX10_kernel_373 rfl ?_
                  refine g_getf 26 dX10_kernel_374 kX10 (by decide) fX10_69 (RD.o cr_l5_0) rfl ?_
                  refine g_bipush dX10_kernel_377 (by decide) ?_
                  refine g_iload_n 3 dX10_kernel_379 rfl ?_
                  refine g_imul dX10_kernel_380 ?_
                  refine g_iload 1 dX10_kernel_381 rfl ?_
                  refine g_iadd dX10_kernel_383 ?_
                  refine g_iload 0 dX10_kernel_384 rfl ?_
                  refine g_iastore dX10_kernel_386 (RD.t20 cr_l5_0) (by omega) (by omega) (by omega) ?_
                  obtain ⟨hh309, eh309⟩ : ∃ z : GH, z = hset hl5 (B + 20) (aI 1681 (gup (wT gb m (bpv hp n.toNat pv (kM hp gg) c2.toNat) k5) (((41) * (m)) + (k5)) (cf (bpv hp n.toNat pv (kM hp gg) c2.toNat) k5))) := ⟨_, rfl⟩
                  refine Go.hp eh309.symm ?_
                  have rd309 : RD B h0 hh309 p hf le fc pn rn hn qn g9 g10 g11 g12 g13 g14 g15 g16 g17 gg gv (gup (wT gb m (bpv hp n.toNat pv (kM hp gg) c2.toNat) k5) (((41) * (m)) + (k5)) (cf (bpv hp n.toNat pv (kM hp gg) c2.toNat) k5)) := RD.cell cr_l5_0 (by rw [eh309]; rfl) (fun x hx => by rw [eh309, hset_n _ _ (by omega)]) (hs_n eh309 (show NE (B) (B + 20) by unfold NE; omega) (RD.o cr_l5_0)) (hs_n eh309 (show NE (B + 9) (B + 20) by unfold NE; omega) (RD.t9 cr_l5_0)) (hs_n eh309 (show NE (B + 10) (B + 20) by unfold NE; omega) (RD.t10 cr_l5_0)) (hs_n eh309 (show NE (B + 11) (B + 20) by unfold NE; omega) (RD.t11 cr_l5_0)) (hs_n eh309 (show NE (B + 12) (B + 20) by unfold NE; omega) (RD.t12 cr_l5_0)) (hs_n eh309 (show NE (B + 13) (B + 20) by unfold NE; omega) (RD.t13 cr_l5_0)) (hs_n eh309 (show NE (B + 14) (B + 20) by unfold NE; omega) (RD.t14 cr_l5_0)) (hs_n eh309 (show NE (B + 15) (B + 20) by unfold NE; omega) (RD.t15 cr_l5_0)) (hs_n eh309 (show NE (B + 16) (B + 20) by unfold NE; omega) (RD.t16 cr_l5_0)) (hs_n eh309 (show NE (B + 17) (B + 20) by unfold NE; omega) (RD.t17 cr_l5_0)) (hs_n eh309 (show NE (B + 18) (B + 20) by unfold NE; omega) (RD.t18 cr_l5_0)) (hs_n eh309 (show NE (B + 19) (B + 20) by unfold NE; omega) (RD.t19 cr_l5_0)) (hs_s eh309)
                  have e5_309 : hh309.2 (B + 5) = hl5.2 (B + 5) := by rw [eh309, hset_n _ _ (by omega)]
                  have e6_309 : hh309.2 (B + 6) = hl5.2 (B + 6) := by rw [eh309, hset_n _ _ (by omega)]
                  have rg309_1 : NR B [] h hh309 := NR.h5 cr_l5_1 e5_309 e6_309
                  refine g_iinc 1 (ls2 := [(5, .int (gI (k5 + 1))), (6, .int (gI (cf (bpv hp n.toNat pv (kM hp gg) c2.toNat) k5))), (4, .int (gI (c2))), (3, .int (gI (m))), (2, .int (gI (q))), (0, .ref (B)), (1, .int (gI (n)))]) dX10_kernel_387 rfl (by decide) rfl ?_
                  refine g_goto (tgt := 311) dX10_kernel_390 rfl ?_
                  refine Go.sub [0, 2, 3, 4, 5, 6] rfl ?_
                  exact ih_l5 _ (by omega) (k5 + 1) hh309 rfl fr_l5 (by rw [← wT_s gb m (bpv hp n.toNat pv (kM hp gg) c2.toNat) hk5.1]; exact rd309) rg309_1 (by omega)
            exact l5 _ (0) hlb rfl fr_lb (by rw [wT_0]; exact cr_lb_0) cr_lb_1 (by omega)
      exact lb _ (0) (0) (g20) hlc rfl fr_lc cr_lc_0 cr_lc_1 (by omega) (⟨fun j j0 j1 => by omega, fun f hf _ => by omega, rfl⟩) (by omega)
    · skip
      refine g_aload_n 2 dX10_kernel_9 rfl ?_
      refine g_getf 25 dX10_kernel_10 kX10 (by decide) fX10_66 (RD.o cr_lc_0) rfl ?_
      refine g_iload_n 0 dX10_kernel_13 rfl ?_
      refine g_iconst dX10_kernel_14 ?_
      refine g_iastore dX10_kernel_15 (RD.t19 cr_lc_0) (by omega) (by omega) (by omega) ?_
      obtain ⟨hh510, eh510⟩ : ∃ z : GH, z = hset hlc (B + 19) (aI 41 (gup (gv) (c) (-1))) := ⟨_, rfl⟩
      refine Go.hp eh510.symm ?_
      have rd510 : RD B h0 hh510 p hf le fc pn rn hn qn g9 g10 g11 g12 g13 g14 g15 g16 g17 gg (gup (gv) (c) (-1)) g20 := RD.cell cr_lc_0 (by rw [eh510]; rfl) (fun x hx => by rw [eh510, hset_n _ _ (by omega)]) (hs_n eh510 (show NE (B) (B + 19) by unfold NE; omega) (RD.o cr_lc_0)) (hs_n eh510 (show NE (B + 9) (B + 19) by unfold NE; omega) (RD.t9 cr_lc_0)) (hs_n eh510 (show NE (B + 10) (B + 19) by unfold NE; omega) (RD.t10 cr_lc_0)) (hs_n eh510 (show NE (B + 11) (B + 19) by unfold NE; omega) (RD.t11 cr_lc_0)) (hs_n eh510 (show NE (B + 12) (B + 19) by unfold NE; omega) (RD.t12 cr_lc_0)) (hs_n eh510 (show NE (B + 13) (B + 19) by unfold NE; omega) (RD.t13 cr_lc_0)) (hs_n eh510 (show NE (B + 14) (B + 19) by unfold NE; omega) (RD.t14 cr_lc_0)) (hs_n eh510 (show NE (B + 15) (B + 19) by unfold NE; omega) (RD.t15 cr_lc_0)) (hs_n eh510 (show NE (B + 16) (B + 19) by unfold NE; omega) (RD.t16 cr_lc_0)) (hs_n eh510 (show NE (B + 17) (B + 19) by unfold NE; omega) (RD.t17 cr_lc_0)) (hs_n eh510 (show NE (B + 18) (B + 19) by unfold NE; omega) (RD.t18 cr_lc_0)) (hs_s eh510) (hs_n eh510 (show NE (B + 20) (B + 19) by unfold NE; omega) (RD.t20 cr_lc_0))
      have e5_510 : hh510.2 (B + 5) = hlc.2 (B + 5) := by rw [eh510, hset_n _ _ (by omega)]
      have e6_510 : hh510.2 (B + 6) = hlc.2 (B + 6) := by rw [eh510, hset_n _ _ (by omega)]
      have rg510_1 : NR B [] h hh510 := NR.h5 cr_lc_1 e5_510 e6_510
      refine g_iload_n 1 dX10_kernel_16 rfl ?_
      refine g_istore (ls2 := [(4, .int (gI (q))), (3, .int (gI (c))), (2, .int (gI (q))), (0, .ref (B)), (1, .int (gI (n)))]) dX10_kernel_17 (by decide) rfl ?_
      have lr : ∀ (kk : Nat) (row : Int) (hlr : GH), kk = (50 - row).toNat → True → RD B h0 hlr p hf le fc pn rn hn qn g9 g10 g11 g12 g13 g14 g15 g16 g17 gg (gup (gv) (c) (-1)) g20 → NR B [] h hlr → (q ≤ row ∧ row ≤ n) → (∀ t, q ≤ t → t < row → gg (41 * t + c) = 0) → Go N mX10_kernel (fun v h1 => NR B [] h h1 ∧ ∃ (q : Int) (gg gv : Int → Int) (pv : Nat → Option Nat) (gb : Int → Int) (m : Int), RD B h0 h1 p hf le fc pn rn hn qn g9 g10 g11 g12 g13 g14 g15 g16 g17 gg gv gb ∧ v = some (.int (gI m)) ∧ kBd p gg n ∧ RR (fR hp) n.toNat n.toNat q.toNat pv (kM hp gg) ∧ (∀ v, krn (fR hp) n.toNat (kM hp gg) v ↔ krn (fR hp) n.toNat (kM hp g18) v) ∧ bsS hp n pv (kM hp gg) gb m n) 0 0 hlr 19 [(4, .int (gI (row))), (3, .int (gI (c))), (2, .int (gI (q))), (0, .ref (B)), (1, .int (gI (n)))] [] := by
        refine Go.ind (fun kk ih_lr => ?_)
        intro row hlr hkk_lr fr_lr cr_lr_0 cr_lr_1 hrow hZ
        refine g_iload 0 dX10_kernel_19 rfl ?_
        refine g_iload_n 4 dX10_kernel_21 rfl ?_
        refine g_icmp_ge (tgt := 46) dX10_kernel_22 rfl (by first | assumption | (unfold gW; omega) | (unfold gW; split <;> omega)) (by first | assumption | (unfold gW; omega) | (unfold gW; split <;> omega)) (fun c611 => ?_) (fun c611 => ?_)
        · skip
          refine g_iload 0 dX10_kernel_46 rfl ?_
          refine g_iload_n 4 dX10_kernel_48 rfl ?_
          refine g_icmp_ge (tgt := 280) dX10_kernel_49 rfl (by first | assumption | (unfold gW; omega) | (unfold gW; split <;> omega)) (by first | assumption | (unfold gW; omega) | (unfold gW; split <;> omega)) (fun c612 => ?_) (fun c612 => ?_)
          · skip
            refine g_iinc 1 (ls2 := [(3, .int (gI (c + 1))), (4, .int (gI (row))), (2, .int (gI (q))), (0, .ref (B)), (1, .int (gI (n)))]) dX10_kernel_280 rfl (by decide) rfl ?_
            refine g_goto (tgt := 4) dX10_kernel_283 rfl ?_
            refine Go.sub [0, 2, 3, 4] rfl ?_
            exact ih_lc _ (by omega) (c + 1) (q) (gg) (gup (gv) (c) (-1)) (pvp pv c.toNat none) hlr rfl fr_lr cr_lr_0 cr_lr_1 (by omega) (by omega) hbd (by
                                                                      rw [show (c + 1).toNat = c.toNat + 1 by omega]
                                                                      exact RR_free (fR hp) hRR (fun i i0 i1 => by
                                                                        letI := fR hp
                                                                        show zi hp (gg (41 * (i : Int) + (c.toNat : Int))) = 0
                                                                        rw [show ((c.toNat : Nat) : Int) = c by omega, hZ i (by omega) (by omega)]; exact zi_0 hp)) hKr (fun k k0 k1 => by
                                                                      unfold gup pvI pvp
                                                                      by_cases z : k = c
                                                                      · rw [if_pos z, if_pos (by omega)]
                                                                      · rw [if_neg z, if_neg (show ¬ k.toNat = c.toNat by omega)]; exact hpv k k0 (by omega))
          · skip
            exfalso; omega
        · skip
          have hgr := hbd row c (by omega) (by omega) (by omega) (by omega)
          refine g_aload_n 3 dX10_kernel_25 rfl ?_
          refine g_getf 24 dX10_kernel_26 kX10 (by decide) fX10_63 (RD.o cr_lr_0) rfl ?_
          refine g_bipush dX10_kernel_29 (by decide) ?_
          refine g_iload 0 dX10_kernel_31 rfl ?_
          refine g_imul dX10_kernel_33 ?_
          refine g_iload_n 1 dX10_kernel_34 rfl ?_
          refine g_iadd dX10_kernel_35 ?_
          refine g_iaload dX10_kernel_36 (RD.t18 cr_lr_0) (by omega) (by omega) (by omega) ?_
          refine g_if_ne (tgt := 46) dX10_kernel_37 rfl (by first | assumption | (unfold gW; omega) | (unfold gW; split <;> omega)) (fun c613 => ?_) (fun c613 => ?_)
          · skip
            refine g_iload 0 dX10_kernel_46 rfl ?_
            refine g_iload_n 4 dX10_kernel_48 rfl ?_
            refine g_icmp_ge (tgt := 280) dX10_kernel_49 rfl (by first | assumption | (unfold gW; omega) | (unfold gW; split <;> omega)) (by first | assumption | (unfold gW; omega) | (unfold gW; split <;> omega)) (fun c614 => ?_) (fun c614 => ?_)
            · skip
              exfalso; omega
            · skip
              refine g_aload_n 3 dX10_kernel_52 rfl ?_
              refine g_aload_n 3 dX10_kernel_53 rfl ?_
              refine g_getf 24 dX10_kernel_54 kX10 (by decide) fX10_63 (RD.o cr_lr_0) rfl ?_
              refine g_bipush dX10_kernel_57 (by decide) ?_
              refine g_iload 0 dX10_kernel_59 rfl ?_
              refine g_imul dX10_kernel_61 ?_
              refine g_iload_n 1 dX10_kernel_62 rfl ?_
              refine g_iadd dX10_kernel_63 ?_
              refine g_iaload dX10_kernel_64 (RD.t18 cr_lr_0) (by omega) (by omega) (by omega) ?_
              refine g_callV (nc2 := 0) (ns2 := 0) (ci := 10) (As := [.int (gI ((gg) (((41) * (row)) + (c))))]) (st := []) rfl dX10_kernel_65 okX10_inverse lX10_173 itX10_inverse seX10_inverse rfl (RD.o cr_lr_0) (by decide) (by decide) rfl (Nat.le_of_ble_eq_true rfl) (sM_inverse N _ B p hp hp2 _ _ _ _ _ _ _ ((gg) (((41) * (row)) + (c))) (RD.o cr_lr_0) (by omega) (by omega)) (by omega) (by omega) (fun v615 hc615 q615 => ?_)
              obtain ⟨hq616, rfl⟩ := q615
              refine Go.nf (h' := hlr) (st' := [.int (gI (ivr p ((gg) (((41) * (row)) + (c)))))]) hq616 rfl (Nat.le_refl _) (Nat.le_refl _) ?_
              refine g_istore (ls2 := [(5, .int (gI (ivr p ((gg) (((41) * (row)) + (c)))))), (4, .int (gI (row))), (3, .int (gI (c))), (2, .int (gI (q))), (0, .ref (B)), (1, .int (gI (n)))]) dX10_kernel_68 (by decide) rfl ?_
              refine g_iconst dX10_kernel_70 ?_
              refine g_istore (ls2 := [(6, .int (gI (0))), (5, .int (gI (ivr p ((gg) (((41) * (row)) + (c)))))), (4, .int (gI (row))), (3, .int (gI (c))), (2, .int (gI (q))), (0, .ref (B)), (1, .int (gI (n)))]) dX10_kernel_71 (by decide) rfl ?_
              have hiv := ivr_in hp (gg (41 * row + c))
              have lk : ∀ (kk : Nat) (k : Int) (hlk : GH), kk = (50 - k).toNat → True → RD B h0 hlk p hf le fc pn rn hn qn g9 g10 g11 g12 g13 g14 g15 g16 g17 (ksG p gg row q (ivr p (gg (41 * row + c))) k) (gup (gv) (c) (-1)) g20 → NR B [] h hlk → (0 ≤ k ∧ k ≤ n) → Go N mX10_kernel (fun v h1 => NR B [] h h1 ∧ ∃ (q : Int) (gg gv : Int → Int) (pv : Nat → Option Nat) (gb : Int → Int) (m : Int), RD B h0 h1 p hf le fc pn rn hn qn g9 g10 g11 g12 g13 g14 g15 g16 g17 gg gv gb ∧ v = some (.int (gI m)) ∧ kBd p gg n ∧ RR (fR hp) n.toNat n.toNat q.toNat pv (kM hp gg) ∧ (∀ v, krn (fR hp) n.toNat (kM hp gg) v ↔ krn (fR hp) n.toNat (kM hp g18) v) ∧ bsS hp n pv (kM hp gg) gb m n) 0 0 hlk 73 [(6, .int (gI (k))), (5, .int (gI (ivr p ((gg) (((41) * (row)) + (c)))))), (4, .int (gI (row))), (3, .int (gI (c))), (2, .int (gI (q))), (0, .ref (B)), (1, .int (gI (n)))] [] := by
                refine Go.ind (fun kk ih_lk => ?_)
                intro k hlk hkk_lk fr_lk cr_lk_0 cr_lk_1 hk
                refine g_iload 0 dX10_kernel_73 rfl ?_
                refine g_iload_n 6 dX10_kernel_75 rfl ?_
                refine g_icmp_ge (tgt := 151) dX10_kernel_76 rfl (by first | assumption | (unfold gW; omega) | (unfold gW; split <;> omega)) (by first | assumption | (unfold gW; omega) | (unfold gW; split <;> omega)) (fun c717 => ?_) (fun c717 => ?_)
                · skip
                  refine g_iconst dX10_kernel_151 ?_
                  refine g_istore (ls2 := [(6, .int (gI (0))), (5, .int (gI (ivr p ((gg) (((41) * (row)) + (c)))))), (4, .int (gI (row))), (3, .int (gI (c))), (2, .int (gI (q))), (0, .ref (B)), (1, .int (gI (n)))]) dX10_kernel_152 (by decide) rfl ?_
                  have hk9 : k = n := by omega
                  have lo : ∀ (kk : Nat) (o : Int) (gz : Int → Int) (hlo : GH), kk = (50 - o).toNat → True → RD B h0 hlo p hf le fc pn rn hn qn g9 g10 g11 g12 g13 g14 g15 g16 g17 gz (gup (gv) (c) (-1)) g20 → NR B [] h hlo → (0 ≤ o ∧ o ≤ n) → (kBd p gz n) → (∀ i k : Nat, (i : Int) < n → (k : Int) < n → kM hp gz i k = if (i : Int) < o then clR (fR hp) (rsR (fR hp) (kM hp gg) row.toNat q.toNat (zi hp (ivr p (gg (41 * row + c))))) q.toNat c.toNat i k else (rsR (fR hp) (kM hp gg) row.toNat q.toNat (zi hp (ivr p (gg (41 * row + c))))) i k) → Go N mX10_kernel (fun v h1 => NR B [] h h1 ∧ ∃ (q : Int) (gg gv : Int → Int) (pv : Nat → Option Nat) (gb : Int → Int) (m : Int), RD B h0 h1 p hf le fc pn rn hn qn g9 g10 g11 g12 g13 g14 g15 g16 g17 gg gv gb ∧ v = some (.int (gI m)) ∧ kBd p gg n ∧ RR (fR hp) n.toNat n.toNat q.toNat pv (kM hp gg) ∧ (∀ v, krn (fR hp) n.toNat (kM hp gg) v ↔ krn (fR hp) n.toNat (kM hp g18) v) ∧ bsS hp n pv (kM hp gg) gb m n) 0 0 hlo 154 [(6, .int (gI (o))), (5, .int (gI (ivr p ((gg) (((41) * (row)) + (c)))))), (4, .int (gI (row))), (3, .int (gI (c))), (2, .int (gI (q))), (0, .ref (B)), (1, .int (gI (n)))] [] := by
                    refine Go.ind (fun kk ih_lo => ?_)
                    intro o gz hlo hkk_lo fr_lo cr_lo_0 cr_lo_1 ho hbz hM
                    refine g_iload 0 dX10_kernel_154 rfl ?_
                    refine g_iload_n 6 dX10_kernel_156 rfl ?_
                    refine g_icmp_ge (tgt := 270) dX10_kernel_157 rfl (by first | assumption | (unfold gW; omega) | (unfold gW; split <;> omega)) (by first | assumption | (unfold gW; omega) | (unfold gW; split <;> omega)) (fun c818 => ?_) (fun c818 => ?_)
                    · skip
                      refine g_aload_n 5 dX10_kernel_270 rfl ?_
                      refine g_getf 25 dX10_kernel_271 kX10 (by decide) fX10_66 (RD.o cr_lo_0) rfl ?_
                      refine g_iload_n 3 dX10_kernel_274 rfl ?_
                      refine g_iload_n 4 dX10_kernel_275 rfl ?_
                      refine g_iastore dX10_kernel_276 (RD.t19 cr_lo_0) (by omega) (by omega) (by omega) ?_
                      obtain ⟨hh819, eh819⟩ : ∃ z : GH, z = hset hlo (B + 19) (aI 41 (gup (gup (gv) (c) (-1)) (c) (q))) := ⟨_, rfl⟩
                      refine Go.hp eh819.symm ?_
                      have rd819 : RD B h0 hh819 p hf le fc pn rn hn qn g9 g10 g11 g12 g13 g14 g15 g16 g17 gz (gup (gup (gv) (c) (-1)) (c) (q)) g20 := RD.cell cr_lo_0 (by rw [eh819]; rfl) (fun x hx => by rw [eh819, hset_n _ _ (by omega)]) (hs_n eh819 (show NE (B) (B + 19) by unfold NE; omega) (RD.o cr_lo_0)) (hs_n eh819 (show NE (B + 9) (B + 19) by unfold NE; omega) (RD.t9 cr_lo_0)) (hs_n eh819 (show NE (B + 10) (B + 19) by unfold NE; omega) (RD.t10 cr_lo_0)) (hs_n eh819 (show NE (B + 11) (B + 19) by unfold NE; omega) (RD.t11 cr_lo_0)) (hs_n eh819 (show NE (B + 12) (B + 19) by unfold NE; omega) (RD.t12 cr_lo_0)) (hs_n eh819 (show NE (B + 13) (B + 19) by unfold NE; omega) (RD.t13 cr_lo_0)) (hs_n eh819 (show NE (B + 14) (B + 19) by unfold NE; omega) (RD.t14 cr_lo_0)) (hs_n eh819 (show NE (B + 15) (B + 19) by unfold NE; omega) (RD.t15 cr_lo_0)) (hs_n eh819 (show NE (B + 16) (B + 19) by unfold NE; omega) (RD.t16 cr_lo_0)) (hs_n eh819 (show NE (B + 17) (B + 19) by unfold NE; omega) (RD.t17 cr_lo_0)) (hs_n eh819 (show NE (B + 18) (B + 19) by unfold NE; omega) (RD.t18 cr_lo_0)) (hs_s eh819) (hs_n eh819 (show NE (B + 20) (B + 19) by unfold NE; omega) (RD.t20 cr_lo_0))
                      have e5_819 : hh819.2 (B + 5) = hlo.2 (B + 5) := by rw [eh819, hset_n _ _ (by omega)]
                      have e6_819 : hh819.2 (B + 6) = hlo.2 (B + 6) := by rw [eh819, hset_n _ _ (by omega)]
                      have rg819_1 : NR B [] h hh819 := NR.h5 cr_lo_1 e5_819 e6_819
                      refine g_iinc 4 (ls2 := [(2, .int (gI (q + 1))), (6, .int (gI (o))), (5, .int (gI (ivr p ((gg) (((41) * (row)) + (c)))))), (4, .int (gI (row))), (3, .int (gI (c))), (0, .ref (B)), (1, .int (gI (n)))]) dX10_kernel_277 rfl (by decide) rfl ?_
                      refine g_iinc 4 (ls2 := [(3, .int (gI (c + 1))), (2, .int (gI (q + 1))), (6, .int (gI (o))), (5, .int (gI (ivr p ((gg) (((41) * (row)) + (c)))))), (4, .int (gI (row))), (0, .ref (B)), (1, .int (gI (n)))]) dX10_kernel_280 rfl (by decide) rfl ?_
                      refine g_goto (tgt := 4) dX10_kernel_283 rfl ?_
                      refine Go.sub [0, 1, 5, 6] rfl ?_
                      exact ih_lc _ (by omega) (c + 1) (q + 1) (gz) (gup (gup (gv) (c) (-1)) (c) (q)) (pvp pv c.toNat (some q.toNat)) hh819 rfl fr_lo rd819 rg819_1 (by omega) (by omega) hbz (by
                                                                      rw [show (c + 1).toNat = c.toNat + 1 by omega, show (q + 1).toNat = q.toNat + 1 by omega]
                                                                      refine RR_cg (fR hp) (by omega) (fun i k i1 k1 => ?_) (RR_step (fR hp) hRR (a := row.toNat) (d := zi hp (ivr p (gg (41 * row + c)))) (by omega) (by omega) ?_)
                                                                      · rw [hM i k (by omega) (by omega), if_pos (by omega)]
                                                                      · letI := fR hp
                                                                        have e9 := ivr_zi hp (a := gg (41 * row + c)) (by omega) (by omega)
                                                                        show zi hp (gg (41 * (row.toNat : Int) + (c.toNat : Int))) * _ = 1
                                                                        rw [show ((row.toNat : Nat) : Int) = row by omega, show ((c.toNat : Nat) : Int) = c by omega, ← e9]
                                                                        grind) (fun v => by
                                                                      rw [← hKr v, krn_cM (fR hp) (fun i k i1 k1 => (hM i k (by omega) (by omega)).trans (if_pos (by omega))) v, krn_cl (fR hp) (by omega)]
                                                                      refine krn_rs (fR hp) (d := zi hp (gg (41 * row + c))) (by omega) (by omega) ?_
                                                                      exact ivr_zi hp (by omega) (by omega)) (fun k k0 k1 => by
                                                                      unfold gup pvI pvp
                                                                      by_cases z : k = c
                                                                      · rw [if_pos z, if_pos (show k.toNat = c.toNat by omega)]
                                                                        show q = ((q.toNat : Nat) : Int)
                                                                        omega
                                                                      · rw [if_neg z, if_neg z, if_neg (show ¬ k.toNat = c.toNat by omega)]; exact hpv k k0 (by omega))
                    · skip
                      have hq9 : 0 ≤ q ∧ q < n := by omega
                      have hgo := hbz o c (by omega) (by omega) (by omega) (by omega)
                      refine g_iload 0 dX10_kernel_160 rfl ?_
                      refine g_iload_n 4 dX10_kernel_162 rfl ?_
                      refine g_icmp_ne (tgt := 170) dX10_kernel_163 rfl (by first | assumption | (unfold gW; omega) | (unfold gW; split <;> omega)) (by first | assumption | (unfold gW; omega) | (unfold gW; split <;> omega)) (fun c820 => ?_) (fun c820 => ?_)
                      · skip
                        refine g_aload_n 5 dX10_kernel_170 rfl ?_
                        refine g_getf 24 dX10_kernel_171 kX10 (by decide) fX10_63 (RD.o cr_lo_0) rfl ?_
                        refine g_bipush dX10_kernel_174 (by decide) ?_
                        refine g_iload 0 dX10_kernel_176 rfl ?_
                        refine g_imul dX10_kernel_178 ?_
                        refine g_iload_n 3 dX10_kernel_179 rfl ?_
                        refine g_iadd dX10_kernel_180 ?_
                        refine g_iaload dX10_kernel_181 (RD.t18 cr_lo_0) (by omega) (by omega) (by omega) ?_
                        refine g_i2l dX10_kernel_182 (by first | assumption | (unfold gW; omega) | (unfold gW; split <;> omega)) ?_
                        refine g_lstore (ls2 := [(7, .long (gJ ((gz) (((41) * (o)) + (c))))), (6, .int (gI (o))), (5, .int (gI (ivr p ((gg) (((41) * (row)) + (c)))))), (4, .int (gI (row))), (3, .int (gI (c))), (2, .int (gI (q))), (0, .ref (B)), (1, .int (gI (n)))]) dX10_kernel_183 (by decide) rfl ?_
                        refine g_iconst dX10_kernel_185 ?_
                        refine g_istore (ls2 := [(9, .int (gI (0))), (7, .long (gJ ((gz) (((41) * (o)) + (c))))), (6, .int (gI (o))), (5, .int (gI (ivr p ((gg) (((41) * (row)) + (c)))))), (4, .int (gI (row))), (3, .int (gI (c))), (2, .int (gI (q))), (0, .ref (B)), (1, .int (gI (n)))]) dX10_kernel_186 (by decide) rfl ?_
                        have lj : ∀ (kk : Nat) (k2 : Int) (hlj : GH), kk = (50 - k2).toNat → True → RD B h0 hlj p hf le fc pn rn hn qn g9 g10 g11 g12 g13 g14 g15 g16 g17 (kcG p gz o q (gz (41 * o + c)) k2) (gup (gv) (c) (-1)) g20 → NR B [] h hlj → (0 ≤ k2 ∧ k2 ≤ n ∧ (gz (41 * o + c) = 0 → k2 = 0)) → Go N mX10_kernel (fun v h1 => NR B [] h h1 ∧ ∃ (q : Int) (gg gv : Int → Int) (pv : Nat → Option Nat) (gb : Int → Int) (m : Int), RD B h0 h1 p hf le fc pn rn hn qn g9 g10 g11 g12 g13 g14 g15 g16 g17 gg gv gb ∧ v = some (.int (gI m)) ∧ kBd p gg n ∧ RR (fR hp) n.toNat n.toNat q.toNat pv (kM hp gg) ∧ (∀ v, krn (fR hp) n.toNat (kM hp gg) v ↔ krn (fR hp) n.toNat (kM hp g18) v) ∧ bsS hp n pv (kM hp gg) gb m n) 0 0 hlj 188 [(9, .int (gI (k2))), (7, .long (gJ (gz (41 * o + c)))), (6, .int (gI (o))), (5, .int (gI (ivr p ((gg) (((41) * (row)) + (c)))))), (4, .int (gI (row))), (3, .int (gI (c))), (2, .int (gI (q))), (0, .ref (B)), (1, .int (gI (n)))] [] := by
                          refine Go.ind (fun kk ih_lj => ?_)
                          intro k2 hlj hkk_lj fr_lj cr_lj_0 cr_lj_1 hk2
                          refine g_iload 0 dX10_kernel_188 rfl ?_
                          refine g_iload_n 8 dX10_kernel_190 rfl ?_
                          refine g_icmp_ge (tgt := 264) dX10_kernel_191 rfl (by first | assumption | (unfold gW; omega) | (unfold gW; split <;> omega)) (by first | assumption | (unfold gW; omega) | (unfold gW; split <;> omega)) (fun c921 => ?_) (fun c921 => ?_)
                          · skip
                            refine g_iinc 2 (ls2 := [(6, .int (gI (o + 1))), (9, .int (gI (k2))), (7, .long (gJ (gz (41 * o + c)))), (5, .int (gI (ivr p ((gg) (((41) * (row)) + (c)))))), (4, .int (gI (row))), (3, .int (gI (c))), (2, .int (gI (q))), (0, .ref (B)), (1, .int (gI (n)))]) dX10_kernel_264 rfl (by decide) rfl ?_
                            refine g_goto (tgt := 154) dX10_kernel_267 rfl ?_
                            refine Go.sub [0, 3, 4, 5, 6, 7, 8] rfl ?_
                            exact ih_lo _ (by omega) (o + 1) (kcG p gz o q (gz (41 * o + c)) n) hlj rfl fr_lj (by
                                                                      have e8 := cr_lj_0
                                                                      rw [show k2 = n by omega] at e8; exact e8) cr_lj_1 (by omega) (kcG_bd hp hbz) (fun i k i1 k1 => by
                                                                      obtain ⟨on, rfl⟩ : ∃ m : Nat, o = m := ⟨o.toNat, by omega⟩
                                                                      have hq1 : ∀ k : Nat, (k : Int) < n → kM hp gz q.toNat k = (rsR (fR hp) (kM hp gg) row.toNat q.toNat (zi hp (ivr p (gg (41 * row + c))))) q.toNat k := fun k hk => by
                                                                        rw [hM q.toNat k (by omega) hk]
                                                                        split
                                                                        · exact clR_q _ _ _ _ _
                                                                        · rfl
                                                                      rw [kcG_M hp (i := on) (by omega) (show 0 ≤ q by omega) k1, hq1 k k1]
                                                                      by_cases y : i = on
                                                                      · rw [if_pos y, if_pos (by omega), clR_n _ _ (show i ≠ q.toNat by omega), hM i k i1 k1, if_neg (by omega), ← show kM hp gz i c.toNat = (rsR (fR hp) (kM hp gg) row.toNat q.toNat (zi hp (ivr p (gg (41 * row + c))))) i c.toNat from (hM i c.toNat i1 (by omega)).trans (if_neg (by omega))]
                                                                        letI := fR hp
                                                                        have e7 : kM hp gz i c.toNat = zi hp (gz (41 * (on : Int) + c)) := by
                                                                          show zi hp (gz (41 * (i : Int) + (c.toNat : Int))) = _
                                                                          rw [y, show ((c.toNat : Nat) : Int) = c by omega]
                                                                        rw [e7]
                                                                      · rw [if_neg y, hM i k i1 k1]
                                                                        by_cases z : (i : Int) < on
                                                                        · rw [if_pos z, if_pos (by omega)]
                                                                        · rw [if_neg z, if_neg (by omega)])
                          · skip
                            refine g_lload 1 dX10_kernel_194 rfl ?_
                            refine g_lconst0 dX10_kernel_196 ?_
                            refine g_lcmp dX10_kernel_197 (by first | assumption | (unfold gX; omega)) (by unfold gX; omega) ?_
                            refine g_if_eq (tgt := 264) dX10_kernel_198 rfl (gW_cmp _ _) (fun c922 => ?_) (fun c922 => ?_)
                            · skip
                              have hby0 := gcmp_eq.mp c922
                              refine g_iinc 2 (ls2 := [(6, .int (gI (o + 1))), (9, .int (gI (k2))), (7, .long (gJ (gz (41 * o + c)))), (5, .int (gI (ivr p ((gg) (((41) * (row)) + (c)))))), (4, .int (gI (row))), (3, .int (gI (c))), (2, .int (gI (q))), (0, .ref (B)), (1, .int (gI (n)))]) dX10_kernel_264 rfl (by decide) rfl ?_
                              refine g_goto (tgt := 154) dX10_kernel_267 rfl ?_
                              refine Go.sub [0, 3, 4, 5, 6, 7, 8] rfl ?_
                              exact ih_lo _ (by omega) (o + 1) (gz) hlj rfl fr_lj (by
                                                                      have e8 := cr_lj_0
                                                                      rw [show k2 = 0 from hk2.2.2 hby0, kcG_0] at e8; exact e8) cr_lj_1 (by omega) hbz (fun i k i1 k1 => by
                                                                      obtain ⟨on, rfl⟩ : ∃ m : Nat, o = m := ⟨o.toNat, by omega⟩
                                                                      have hq1 : ∀ k : Nat, (k : Int) < n → kM hp gz q.toNat k = (rsR (fR hp) (kM hp gg) row.toNat q.toNat (zi hp (ivr p (gg (41 * row + c))))) q.toNat k := fun k hk => by
                                                                        rw [hM q.toNat k (by omega) hk]
                                                                        split
                                                                        · exact clR_q _ _ _ _ _
                                                                        · rfl
                                                                      by_cases y : i = on
                                                                      · rw [if_pos (by omega), clR_n _ _ (show i ≠ q.toNat by omega), hM i k i1 k1, if_neg (by omega), ← show kM hp gz i c.toNat = (rsR (fR hp) (kM hp gg) row.toNat q.toNat (zi hp (ivr p (gg (41 * row + c))))) i c.toNat from (hM i c.toNat i1 (by omega)).trans (if_neg (by omega))]
                                                                        letI := fR hp
                                                                        have e7 : kM hp gz i c.toNat = 0 := by
                                                                          show zi hp (gz (41 * (i : Int) + (c.toNat : Int))) = _
                                                                          rw [y, show ((c.toNat : Nat) : Int) = c by omega, hby0]; exact zi_0 hp
                                                                        rw [e7]
                                                                        grind
                                                                      · rw [hM i k i1 k1]
                                                                        by_cases z : (i : Int) < on
                                                                        · rw [if_pos z, if_pos (by omega)]
                                                                        · rw [if_neg z, if_neg (by omega)])
                            · skip
                              have hbn : ¬ gz (41 * o + c) = 0 := fun z => c922 (gcmp_eq.mpr z)
                              have ho1 := hbz o k2 (by omega) (by omega) hk2.1 (by omega)
                              have ho2 := hbz q k2 (by omega) (by omega) hk2.1 (by omega)
                              refine g_aload_n 7 dX10_kernel_201 rfl ?_
                              refine g_getf 24 dX10_kernel_202 kX10 (by decide) fX10_63 (RD.o cr_lj_0) rfl ?_
                              refine g_bipush dX10_kernel_205 (by decide) ?_
                              refine g_iload 2 dX10_kernel_207 rfl ?_
                              refine g_imul dX10_kernel_209 ?_
                              refine g_iload 0 dX10_kernel_210 rfl ?_
                              refine g_iadd dX10_kernel_212 ?_
                              refine g_aload_n 7 dX10_kernel_213 rfl ?_
                              refine g_getf 24 dX10_kernel_214 kX10 (by decide) fX10_63 (RD.o cr_lj_0) rfl ?_
                              refine g_bipush dX10_kernel_217 (by decide) ?_
                              refine g_iload 2 dX10_kernel_219 rfl ?_
                              refine g_imul dX10_kernel_221 ?_
                              refine g_iload 0 dX10_kernel_222 rfl ?_
                              refine g_iadd dX10_kernel_224 ?_
                              refine g_iaload dX10_kernel_225 (RD.t18 cr_lj_0) (by omega) (by omega) (by omega) ?_
                              have hqa : (kcG p gz o q (gz (41 * o + c)) k2) (((41) * (o)) + (k2)) = gz (41 * o + k2) := kcG_at _ gz hk2.1 (by omega)
                              rw [hqa]
                              refine g_i2l dX10_kernel_226 (by first | assumption | (unfold gW; omega) | (unfold gW; split <;> omega)) ?_
                              refine g_aload_n 7 dX10_kernel_227 rfl ?_
                              refine g_getf 0 dX10_kernel_228 kX10 (by decide) fX10_78 (RD.o cr_lj_0) rfl ?_
                              refine g_i2l dX10_kernel_231 (by first | assumption | (unfold gW; omega) | (unfold gW; split <;> omega)) ?_
                              refine g_lload 1 dX10_kernel_232 rfl ?_
                              refine g_lsub dX10_kernel_234 ?_
                              refine g_aload_n 7 dX10_kernel_235 rfl ?_
                              refine g_getf 24 dX10_kernel_236 kX10 (by decide) fX10_63 (RD.o cr_lj_0) rfl ?_
                              refine g_bipush dX10_kernel_239 (by decide) ?_
                              refine g_iload_n 6 dX10_kernel_241 rfl ?_
                              refine g_imul dX10_kernel_242 ?_
                              refine g_iload 0 dX10_kernel_243 rfl ?_
                              refine g_iadd dX10_kernel_245 ?_
                              refine g_iaload dX10_kernel_246 (RD.t18 cr_lj_0) (by omega) (by omega) (by omega) ?_
                              have hqb : (kcG p gz o q (gz (41 * o + c)) k2) (((41) * (q)) + (k2)) = gz (41 * q + k2) := kcG_at _ gz hk2.1 (by omega)
                              rw [hqb]
                              refine g_i2l dX10_kernel_247 (by first | assumption | (unfold gW; omega) | (unfold gW; split <;> omega)) ?_
                              refine g_lmul dX10_kernel_248 ?_
                              refine g_ladd dX10_kernel_249 ?_
                              refine g_aload_n 7 dX10_kernel_250 rfl ?_
                              refine g_getf 0 dX10_kernel_251 kX10 (by decide) fX10_78 (RD.o cr_lj_0) rfl ?_
                              refine g_i2l dX10_kernel_254 (by first | assumption | (unfold gW; omega) | (unfold gW; split <;> omega)) ?_
                              have hml2 : 0 ≤ (p - gz (41 * o + c)) * gz (41 * q + k2) ∧ (p - gz (41 * o + c)) * gz (41 * q + k2) ≤ 65536 * 65536 := ⟨Int.mul_nonneg (by omega) ho2.1, Int.mul_le_mul (by omega) (by omega) ho2.1 (by omega)⟩
                              refine g_lrem dX10_kernel_255 (by unfold gX; omega) (by unfold gX; omega) (by omega) ?_
                              have etm2 : ((gz (41 * o + k2)) + ((((p : Int)) - (gz (41 * o + c))) * (gz (41 * q + k2)))).tmod ((p : Int)) = (gz (41 * o + k2) + (p - gz (41 * o + c)) * gz (41 * q + k2)) % p := Int.tmod_eq_emod_of_nonneg (by omega)
                              rw [etm2]
                              have hem2 := emod_in hp (gz (41 * o + k2) + (p - gz (41 * o + c)) * gz (41 * q + k2))
                              refine g_l2i dX10_kernel_256 ?_
                              refine g_iastore dX10_kernel_257 (RD.t18 cr_lj_0) (by omega) (by omega) (by omega) ?_
                              obtain ⟨hh923, eh923⟩ : ∃ z : GH, z = hset hlj (B + 18) (aI 1681 (gup (kcG p gz o q (gz (41 * o + c)) k2) (((41) * (o)) + (k2)) ((gz (41 * o + k2) + (p - gz (41 * o + c)) * gz (41 * q + k2)) % p))) := ⟨_, rfl⟩
                              refine Go.hp eh923.symm ?_
                              have rd923 : RD B h0 hh923 p hf le fc pn rn hn qn g9 g10 g11 g12 g13 g14 g15 g16 g17 (gup (kcG p gz o q (gz (41 * o + c)) k2) (((41) * (o)) + (k2)) ((gz (41 * o + k2) + (p - gz (41 * o + c)) * gz (41 * q + k2)) % p)) (gup (gv) (c) (-1)) g20 := RD.cell cr_lj_0 (by rw [eh923]; rfl) (fun x hx => by rw [eh923, hset_n _ _ (by omega)]) (hs_n eh923 (show NE (B) (B + 18) by unfold NE; omega) (RD.o cr_lj_0)) (hs_n eh923 (show NE (B + 9) (B + 18) by unfold NE; omega) (RD.t9 cr_lj_0)) (hs_n eh923 (show NE (B + 10) (B + 18) by unfold NE; omega) (RD.t10 cr_lj_0)) (hs_n eh923 (show NE (B + 11) (B + 18) by unfold NE; omega) (RD.t11 cr_lj_0)) (hs_n eh923 (show NE (B + 12) (B + 18) by unfold NE; omega) (RD.t12 cr_lj_0)) (hs_n eh923 (show NE (B + 13) (B + 18) by unfold NE; omega) (RD.t13 cr_lj_0)) (hs_n eh923 (show NE (B + 14) (B + 18) by unfold NE; omega) (RD.t14 cr_lj_0)) (hs_n eh923 (show NE (B + 15) (B + 18) by unfold NE; omega) (RD.t15 cr_lj_0)) (hs_n eh923 (show NE (B + 16) (B + 18) by unfold NE; omega) (RD.t16 cr_lj_0)) (hs_n eh923 (show NE (B + 17) (B + 18) by unfold NE; omega) (RD.t17 cr_lj_0)) (hs_s eh923) (hs_n eh923 (show NE (B + 19) (B + 18) by unfold NE; omega) (RD.t19 cr_lj_0)) (hs_n eh923 (show NE (B + 20) (B + 18) by unfold NE; omega) (RD.t20 cr_lj_0))
                              have e5_923 : hh923.2 (B + 5) = hlj.2 (B + 5) := by rw [eh923, hset_n _ _ (by omega)]
                              have e6_923 : hh923.2 (B + 6) = hlj.2 (B + 6) := by rw [eh923, hset_n _ _ (by omega)]
                              have rg923_1 : NR B [] h hh923 := NR.h5 cr_lj_1 e5_923 e6_923
                              refine g_iinc 0 (ls2 := [(9, .int (gI (k2 + 1))), (7, .long (gJ (gz (41 * o + c)))), (6, .int (gI (o))), (5, .int (gI (ivr p ((gg) (((41) * (row)) + (c)))))), (4, .int (gI (row))), (3, .int (gI (c))), (2, .int (gI (q))), (0, .ref (B)), (1, .int (gI (n)))]) dX10_kernel_258 rfl (by decide) rfl ?_
                              refine g_goto (tgt := 188) dX10_kernel_261 rfl ?_
                              exact ih_lj _ (by omega) (k2 + 1) hh923 rfl fr_lj (by rw [← kcG_s p gz hk2.1 (by omega)]; exact rd923) rg923_1 (⟨by omega, by omega, fun z => absurd z hbn⟩)
                        exact lj _ (0) hlo rfl fr_lo (by rw [kcG_0]; exact cr_lo_0) cr_lo_1 (by omega)
                      · skip
                        refine g_lconst0 dX10_kernel_166 ?_
                        refine g_goto (tgt := 183) dX10_kernel_167 rfl ?_
                        refine g_lstore (ls2 := [(7, .long (gJ (0))), (6, .int (gI (o))), (5, .int (gI (ivr p ((gg) (((41) * (row)) + (c)))))), (4, .int (gI (row))), (3, .int (gI (c))), (2, .int (gI (q))), (0, .ref (B)), (1, .int (gI (n)))]) dX10_kernel_183 (by decide) rfl ?_
                        refine g_iconst dX10_kernel_185 ?_
                        refine g_istore (ls2 := [(9, .int (gI (0))), (7, .long (gJ (0))), (6, .int (gI (o))), (5, .int (gI (ivr p ((gg) (((41) * (row)) + (c)))))), (4, .int (gI (row))), (3, .int (gI (c))), (2, .int (gI (q))), (0, .ref (B)), (1, .int (gI (n)))]) dX10_kernel_186 (by decide) rfl ?_
                        have lj : ∀ (kk : Nat) (k2 : Int) (hlj : GH), kk = (50 - k2).toNat → True → RD B h0 hlj p hf le fc pn rn hn qn g9 g10 g11 g12 g13 g14 g15 g16 g17 (kcG p gz o q (0) k2) (gup (gv) (c) (-1)) g20 → NR B [] h hlj → (0 ≤ k2 ∧ k2 ≤ n ∧ k2 = 0) → Go N mX10_kernel (fun v h1 => NR B [] h h1 ∧ ∃ (q : Int) (gg gv : Int → Int) (pv : Nat → Option Nat) (gb : Int → Int) (m : Int), RD B h0 h1 p hf le fc pn rn hn qn g9 g10 g11 g12 g13 g14 g15 g16 g17 gg gv gb ∧ v = some (.int (gI m)) ∧ kBd p gg n ∧ RR (fR hp) n.toNat n.toNat q.toNat pv (kM hp gg) ∧ (∀ v, krn (fR hp) n.toNat (kM hp gg) v ↔ krn (fR hp) n.toNat (kM hp g18) v) ∧ bsS hp n pv (kM hp gg) gb m n) 0 0 hlj 188 [(9, .int (gI (k2))), (7, .long (gJ (0))), (6, .int (gI (o))), (5, .int (gI (ivr p ((gg) (((41) * (row)) + (c)))))), (4, .int (gI (row))), (3, .int (gI (c))), (2, .int (gI (q))), (0, .ref (B)), (1, .int (gI (n)))] [] := by
                          refine Go.ind (fun kk ih_lj => ?_)
                          intro k2 hlj hkk_lj fr_lj cr_lj_0 cr_lj_1 hk2
                          refine g_iload 0 dX10_kernel_188 rfl ?_
                          refine g_iload_n 8 dX10_kernel_190 rfl ?_
                          refine g_icmp_ge (tgt := 264) dX10_kernel_191 rfl (by first | assumption | (unfold gW; omega) | (unfold gW; split <;> omega)) (by first | assumption | (unfold gW; omega) | (unfold gW; split <;> omega)) (fun c1124 => ?_) (fun c1124 => ?_)
                          · skip
                            refine g_iinc 2 (ls2 := [(6, .int (gI (o + 1))), (9, .int (gI (k2))), (7, .long (gJ (0))), (5, .int (gI (ivr p ((gg) (((41) * (row)) + (c)))))), (4, .int (gI (row))), (3, .int (gI (c))), (2, .int (gI (q))), (0, .ref (B)), (1, .int (gI (n)))]) dX10_kernel_264 rfl (by decide) rfl ?_
                            refine g_goto (tgt := 154) dX10_kernel_267 rfl ?_
                            refine Go.sub [0, 3, 4, 5, 6, 7, 8] rfl ?_
                            exact ih_lo _ (by omega) (o + 1) (gz) hlj rfl fr_lj (by
                                                                      have e8 := cr_lj_0
                                                                      rw [show k2 = 0 by omega, kcG_0] at e8; exact e8) cr_lj_1 (by omega) hbz (fun i k i1 k1 => by
                                                                      obtain ⟨on, rfl⟩ : ∃ m : Nat, o = m := ⟨o.toNat, by omega⟩
                                                                      have hq1 : ∀ k : Nat, (k : Int) < n → kM hp gz q.toNat k = (rsR (fR hp) (kM hp gg) row.toNat q.toNat (zi hp (ivr p (gg (41 * row + c))))) q.toNat k := fun k hk => by
                                                                        rw [hM q.toNat k (by omega) hk]
                                                                        split
                                                                        · exact clR_q _ _ _ _ _
                                                                        · rfl
                                                                      rw [hM i k i1 k1]
                                                                      by_cases z : (i : Int) < on
                                                                      · rw [if_pos z, if_pos (by omega)]
                                                                      · rw [if_neg z]
                                                                        by_cases y : (i : Int) < on + 1
                                                                        · rw [if_pos y, show i = q.toNat by omega, clR_q]
                                                                        · rw [if_neg y])
                          · skip
                            refine g_lload 1 dX10_kernel_194 rfl ?_
                            refine g_lconst0 dX10_kernel_196 ?_
                            refine g_lcmp dX10_kernel_197 (by first | assumption | (unfold gX; omega)) (by unfold gX; omega) ?_
                            refine g_if_eq (tgt := 264) dX10_kernel_198 rfl (gW_cmp _ _) (fun c1125 => ?_) (fun c1125 => ?_)
                            · skip
                              refine g_iinc 2 (ls2 := [(6, .int (gI (o + 1))), (9, .int (gI (k2))), (7, .long (gJ (0))), (5, .int (gI (ivr p ((gg) (((41) * (row)) + (c)))))), (4, .int (gI (row))), (3, .int (gI (c))), (2, .int (gI (q))), (0, .ref (B)), (1, .int (gI (n)))]) dX10_kernel_264 rfl (by decide) rfl ?_
                              refine g_goto (tgt := 154) dX10_kernel_267 rfl ?_
                              refine Go.sub [0, 3, 4, 5, 6, 7, 8] rfl ?_
                              exact ih_lo _ (by omega) (o + 1) (gz) hlj rfl fr_lj (by
                                                                      have e8 := cr_lj_0
                                                                      rw [show k2 = 0 by omega, kcG_0] at e8; exact e8) cr_lj_1 (by omega) hbz (fun i k i1 k1 => by
                                                                      obtain ⟨on, rfl⟩ : ∃ m : Nat, o = m := ⟨o.toNat, by omega⟩
                                                                      have hq1 : ∀ k : Nat, (k : Int) < n → kM hp gz q.toNat k = (rsR (fR hp) (kM hp gg) row.toNat q.toNat (zi hp (ivr p (gg (41 * row + c))))) q.toNat k := fun k hk => by
                                                                        rw [hM q.toNat k (by omega) hk]
                                                                        split
                                                                        · exact clR_q _ _ _ _ _
                                                                        · rfl
                                                                      rw [hM i k i1 k1]
                                                                      by_cases z : (i : Int) < on
                                                                      · rw [if_pos z, if_pos (by omega)]
                                                                      · rw [if_neg z]
                                                                        by_cases y : (i : Int) < on + 1
                                                                        · rw [if_pos y, show i = q.toNat by omega, clR_q]
                                                                        · rw [if_neg y])
                            · skip
                              exact absurd (gcmp_eq.mpr rfl) c1125
                        exact lj _ (0) hlo rfl fr_lo (by rw [kcG_0]; exact cr_lo_0) cr_lo_1 (by omega)
                  exact lo _ (0) (ksG p gg row q (ivr p (gg (41 * row + c))) n) hlk rfl fr_lk (by
                                                                      have e9 := cr_lk_0
                                                                      rw [hk9] at e9; exact e9) cr_lk_1 (by omega) (ksG_bd hp (by omega) hbd (by omega) (by omega)) (fun i k i1 k1 => by rw [if_neg (by omega)]; exact ksG_M hp (by omega) (by omega) (by omega) k1)
                · skip
                  refine g_aload_n 5 dX10_kernel_79 rfl ?_
                  refine g_getf 24 dX10_kernel_80 kX10 (by decide) fX10_63 (RD.o cr_lk_0) rfl ?_
                  refine g_bipush dX10_kernel_83 (by decide) ?_
                  refine g_iload 2 dX10_kernel_85 rfl ?_
                  refine g_imul dX10_kernel_87 ?_
                  refine g_iload 0 dX10_kernel_88 rfl ?_
                  refine g_iadd dX10_kernel_90 ?_
                  refine g_iaload dX10_kernel_91 (RD.t18 cr_lk_0) (by omega) (by omega) (by omega) ?_
                  have hq_ : (ksG p gg row q (ivr p (gg (41 * row + c))) k) (((41) * (row)) + (k)) = gg (41 * row + k) := ksG_at _ gg hk.1 (by omega)
                  rw [hq_]
                  have hg1 := hbd row k (by omega) (by omega) hk.1 (by omega)
                  have hg2 := hbd q k (by omega) (by omega) hk.1 (by omega)
                  refine g_istore (ls2 := [(7, .int (gI (gg (41 * row + k)))), (6, .int (gI (k))), (5, .int (gI (ivr p ((gg) (((41) * (row)) + (c)))))), (4, .int (gI (row))), (3, .int (gI (c))), (2, .int (gI (q))), (0, .ref (B)), (1, .int (gI (n)))]) dX10_kernel_92 (by decide) rfl ?_
                  refine g_aload_n 6 dX10_kernel_94 rfl ?_
                  refine g_getf 24 dX10_kernel_95 kX10 (by decide) fX10_63 (RD.o cr_lk_0) rfl ?_
                  refine g_bipush dX10_kernel_98 (by decide) ?_
                  refine g_iload 3 dX10_kernel_100 rfl ?_
                  refine g_imul dX10_kernel_102 ?_
                  refine g_iload 1 dX10_kernel_103 rfl ?_
                  refine g_iadd dX10_kernel_105 ?_
                  refine g_aload_n 6 dX10_kernel_106 rfl ?_
                  refine g_getf 24 dX10_kernel_107 kX10 (by decide) fX10_63 (RD.o cr_lk_0) rfl ?_
                  refine g_bipush dX10_kernel_110 (by decide) ?_
                  refine g_iload_n 5 dX10_kernel_112 rfl ?_
                  refine g_imul dX10_kernel_113 ?_
                  refine g_iload 1 dX10_kernel_114 rfl ?_
                  refine g_iadd dX10_kernel_116 ?_
                  refine g_iaload dX10_kernel_117 (RD.t18 cr_lk_0) (by omega) (by omega) (by omega) ?_
                  have hq2_ : (ksG p gg row q (ivr p (gg (41 * row + c))) k) (((41) * (q)) + (k)) = gg (41 * q + k) := ksG_at _ gg hk.1 (by omega)
                  rw [hq2_]
                  refine g_iastore dX10_kernel_118 (RD.t18 cr_lk_0) (by omega) (by omega) (by omega) ?_
                  obtain ⟨hh1326, eh1326⟩ : ∃ z : GH, z = hset hlk (B + 18) (aI 1681 (gup (ksG p gg row q (ivr p (gg (41 * row + c))) k) (((41) * (row)) + (k)) (gg (41 * q + k)))) := ⟨_, rfl⟩
                  refine Go.hp eh1326.symm ?_
                  have rd1326 : RD B h0 hh1326 p hf le fc pn rn hn qn g9 g10 g11 g12 g13 g14 g15 g16 g17 (gup (ksG p gg row q (ivr p (gg (41 * row + c))) k) (((41) * (row)) + (k)) (gg (41 * q + k))) (gup (gv) (c) (-1)) g20 := RD.cell cr_lk_0 (by rw [eh1326]; rfl) (fun x hx => by rw [eh1326, hset_n _ _ (by omega)]) (hs_n eh1326 (show NE (B) (B + 18) by unfold NE; omega) (RD.o cr_lk_0)) (hs_n eh1326 (show NE (B + 9) (B + 18) by unfold NE; omega) (RD.t9 cr_lk_0)) (hs_n eh1326 (show NE (B + 10) (B + 18) by unfold NE; omega) (RD.t10 cr_lk_0)) (hs_n eh1326 (show NE (B + 11) (B + 18) by unfold NE; omega) (RD.t11 cr_lk_0)) (hs_n eh1326 (show NE (B + 12) (B + 18) by unfold NE; omega) (RD.t12 cr_lk_0)) (hs_n eh1326 (show NE (B + 13) (B + 18) by unfold NE; omega) (RD.t13 cr_lk_0)) (hs_n eh1326 (show NE (B + 14) (B + 18) by unfold NE; omega) (RD.t14 cr_lk_0)) (hs_n eh1326 (show NE (B + 15) (B + 18) by unfold NE; omega) (RD.t15 cr_lk_0)) (hs_n eh1326 (show NE (B + 16) (B + 18) by unfold NE; omega) (RD.t16 cr_lk_0)) (hs_n eh1326 (show NE (B + 17) (B + 18) by unfold NE; omega) (RD.t17 cr_lk_0)) (hs_s eh1326) (hs_n eh1326 (show NE (B + 19) (B + 18) by unfold NE; omega) (RD.t19 cr_lk_0)) (hs_n eh1326 (show NE (B + 20) (B + 18) by unfold NE; omega) (RD.t20 cr_lk_0))
                  have e5_1326 : hh1326.2 (B + 5) = hlk.2 (B + 5) := by rw [eh1326, hset_n _ _ (by omega)]
                  have e6_1326 : hh1326.2 (B + 6) = hlk.2 (B + 6) := by rw [eh1326, hset_n _ _ (by omega)]
                  have rg1326_1 : NR B [] h hh1326 := NR.h5 cr_lk_1 e5_1326 e6_1326
                  refine g_aload_n 6 dX10_kernel_119 rfl ?_
                  refine g_getf 24 dX10_kernel_120 kX10 (by decide) fX10_63 (RD.o rd1326) rfl ?_
                  refine g_bipush dX10_kernel_123 (by decide) ?_
                  refine g_iload_n 5 dX10_kernel_125 rfl ?_
                  refine g_imul dX10_kernel_126 ?_
                  refine g_iload 1 dX10_kernel_127 rfl ?_
                  refine g_iadd dX10_kernel_129 ?_
                  refine g_iload 0 dX10_kernel_130 rfl ?_
                  refine g_i2l dX10_kernel_132 (by first | assumption | (unfold gW; omega) | (unfold gW; split <;> omega)) ?_
                  refine g_iload 2 dX10_kernel_133 rfl ?_
                  refine g_i2l dX10_kernel_135 (by first | assumption | (unfold gW; omega) | (unfold gW; split <;> omega)) ?_
                  refine g_lmul dX10_kernel_136 ?_
                  refine g_aload_n 6 dX10_kernel_137 rfl ?_
                  refine g_getf 0 dX10_kernel_138 kX10 (by decide) fX10_78 (RD.o rd1326) rfl ?_
                  refine g_i2l dX10_kernel_141 (by first | assumption | (unfold gW; omega) | (unfold gW; split <;> omega)) ?_
                  have hml : 0 ≤ gg (41 * row + k) * (ivr p (gg (41 * row + c))) ∧ gg (41 * row + k) * (ivr p (gg (41 * row + c))) ≤ 65536 * 65536 := ⟨Int.mul_nonneg hg1.1 hiv.1, Int.mul_le_mul (by omega) (by omega) hiv.1 (by omega)⟩
                  refine g_lrem dX10_kernel_142 (by unfold gX; omega) (by unfold gX; omega) (by omega) ?_
                  have hml_ := hml
                  have etm : ((gg (41 * row + k)) * (ivr p ((gg) (((41) * (row)) + (c))))).tmod ((p : Int)) = gg (41 * row + k) * (ivr p (gg (41 * row + c))) % p := Int.tmod_eq_emod_of_nonneg hml.1
                  rw [etm]
                  have hem := emod_in hp (gg (41 * row + k) * (ivr p (gg (41 * row + c))))
                  refine g_l2i dX10_kernel_143 ?_
                  refine g_iastore dX10_kernel_144 (RD.t18 rd1326) (by omega) (by omega) (by omega) ?_
                  obtain ⟨hh1327, eh1327⟩ : ∃ z : GH, z = hset hh1326 (B + 18) (aI 1681 (gup (gup (ksG p gg row q (ivr p (gg (41 * row + c))) k) (((41) * (row)) + (k)) (gg (41 * q + k))) (((41) * (q)) + (k)) (gg (41 * row + k) * (ivr p (gg (41 * row + c))) % p))) := ⟨_, rfl⟩
                  refine Go.hp eh1327.symm ?_
                  have rd1327 : RD B h0 hh1327 p hf le fc pn rn hn qn g9 g10 g11 g12 g13 g14 g15 g16 g17 (gup (gup (ksG p gg row q (ivr p (gg (41 * row + c))) k) (((41) * (row)) + (k)) (gg (41 * q + k))) (((41) * (q)) + (k)) (gg (41 * row + k) * (ivr p (gg (41 * row + c))) % p)) (gup (gv) (c) (-1)) g20 := RD.cell rd1326 (by rw [eh1327]; rfl) (fun x hx => by rw [eh1327, hset_n _ _ (by omega)]) (hs_n eh1327 (show NE (B) (B + 18) by unfold NE; omega) (RD.o rd1326)) (hs_n eh1327 (show NE (B + 9) (B + 18) by unfold NE; omega) (RD.t9 rd1326)) (hs_n eh1327 (show NE (B + 10) (B + 18) by unfold NE; omega) (RD.t10 rd1326)) (hs_n eh1327 (show NE (B + 11) (B + 18) by unfold NE; omega) (RD.t11 rd1326)) (hs_n eh1327 (show NE (B + 12) (B + 18) by unfold NE; omega) (RD.t12 rd1326)) (hs_n eh1327 (show NE (B + 13) (B + 18) by unfold NE; omega) (RD.t13 rd1326)) (hs_n eh1327 (show NE (B + 14) (B + 18) by unfold NE; omega) (RD.t14 rd1326)) (hs_n eh1327 (show NE (B + 15) (B + 18) by unfold NE; omega) (RD.t15 rd1326)) (hs_n eh1327 (show NE (B + 16) (B + 18) by unfold NE; omega) (RD.t16 rd1326)) (hs_n eh1327 (show NE (B + 17) (B + 18) by unfold NE; omega) (RD.t17 rd1326)) (hs_s eh1327) (hs_n eh1327 (show NE (B + 19) (B + 18) by unfold NE; omega) (RD.t19 rd1326)) (hs_n eh1327 (show NE (B + 20) (B + 18) by unfold NE; omega) (RD.t20 rd1326))
                  have e5_1327 : hh1327.2 (B + 5) = hh1326.2 (B + 5) := by rw [eh1327, hset_n _ _ (by omega)]
                  have e6_1327 : hh1327.2 (B + 6) = hh1326.2 (B + 6) := by rw [eh1327, hset_n _ _ (by omega)]
                  have rg1327_1 : NR B [] h hh1327 := NR.h5 rg1326_1 e5_1327 e6_1327
                  refine g_iinc 1 (ls2 := [(6, .int (gI (k + 1))), (7, .int (gI (gg (41 * row + k)))), (5, .int (gI (ivr p ((gg) (((41) * (row)) + (c)))))), (4, .int (gI (row))), (3, .int (gI (c))), (2, .int (gI (q))), (0, .ref (B)), (1, .int (gI (n)))]) dX10_kernel_145 rfl (by decide) rfl ?_
                  refine g_goto (tgt := 73) dX10_kernel_148 rfl ?_
                  refine Go.sub [0, 2, 3, 4, 5, 6, 7] rfl ?_
                  exact ih_lk _ (by omega) (k + 1) hh1327 rfl fr_lk (by rw [← ksG_s p gg hk.1 (by omega)]; exact rd1327) rg1327_1 (by omega)
              exact lk _ (0) hlr rfl fr_lr (by rw [ksG_0]; exact cr_lr_0) cr_lr_1 (by omega)
          · skip
            refine g_iinc 0 (ls2 := [(4, .int (gI (row + 1))), (3, .int (gI (c))), (2, .int (gI (q))), (0, .ref (B)), (1, .int (gI (n)))]) dX10_kernel_40 rfl (by decide) rfl ?_
            refine g_goto (tgt := 19) dX10_kernel_43 rfl ?_
            exact ih_lr _ (by omega) (row + 1) hlr rfl fr_lr cr_lr_0 cr_lr_1 (by omega) (fun t t0 t1 => by
                                                                      rcases Int.lt_or_le t row with z | z
                                                                      · exact hZ t t0 z
                                                                      · rw [show t = row by omega]; omega)
      exact lr _ (q) hh510 rfl fr_lc rd510 rg510_1 (by omega) (fun t t0 t1 => by omega)
  exact lc _ (0) (0) (g18) (g19) (fun _ => none) h rfl trivial hRD (NR.rf B [] h) (by omega) (by omega) hgb (RR_0 (fR hp) _ _ _) (fun _ => Iff.rfl) (fun k k0 k1 => by omega)
