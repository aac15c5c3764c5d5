section
variable {p : Nat}
/-- the matrix's rows of 80 -/
def a8 (M : Int → Int → Int) : Int → Int := fun m => M (m / 80) (m % 80)
theorem a8_r (M : Int → Int → Int) {r i : Int} (h0 : 0 ≤ i) (h1 : i < 80) : a8 M (80 * r + i) = M r i := by
  unfold a8
  rw [show (80 * r + i) / 80 = r by omega, show (80 * r + i) % 80 = i by omega]
theorem a8_w (M : Int → Int → Int) {r i : Int} (h0 : 0 ≤ i) (h1 : i < 80) (v : Int) : gup (a8 M) (80 * r + i) v = a8 (gup M r (gup (M r) i v)) := funext fun m => by
  by_cases z : m = 80 * r + i
  · rw [z, gup_s, a8_r _ h0 h1, gup_s, gup_s]
  · rw [gup_n _ _ z]
    show M (m / 80) (m % 80) = gup M r (gup (M r) i v) (m / 80) (m % 80)
    by_cases y : m / 80 = r
    · rw [y, gup_s, gup_n _ _ (by omega)]
    · rw [gup_n _ _ y]
theorem a8_nf (g : Int → Int) : g = a8 (fun r i => g (80 * r + i)) := funext fun m => by
  show g m = g (80 * (m / 80) + m % 80)
  rw [show 80 * (m / 80) + m % 80 = m by omega]
theorem a8_wg (M : Int → Int → Int) (L : Int → Int) {r i : Int} (h0 : 0 ≤ i) (h1 : i < 80) (v : Int) : gup (a8 (gup M r L)) (80 * r + i) v = a8 (gup M r (gup L i v)) := by
  rw [a8_w _ h0 h1, gup_gup, gup_s]
def flM (g : Int → Int) (E : Int → Int → Int) (sz t : Int) : Int → Int := fun q => if 0 ≤ q ∧ q < t ∧ q % 80 < sz then E (q / 80) (q % 80) else g q
theorem flM_0 (g : Int → Int) (E : Int → Int → Int) (sz : Int) : flM g E sz 0 = g := funext fun q => by unfold flM; rw [if_neg (by omega)]
theorem flM_s (g : Int → Int) (E : Int → Int → Int) {sz i k v : Int} (hi : 0 ≤ i) (hk : 0 ≤ k) (hk2 : k < sz) (hs : sz ≤ 80) (hv : v = E i k) : gup (flM g E sz (80 * i + k)) (80 * i + k) v = flM g E sz (80 * i + (k + 1)) := funext fun q => by
  unfold gup flM
  by_cases z : q = 80 * i + k
  · subst z
    rw [if_pos rfl, if_pos (by omega), show (80 * i + k) / 80 = i by omega, show (80 * i + k) % 80 = k by omega, hv]
  · rw [if_neg z]
    by_cases y : 0 ≤ q ∧ q < 80 * i + k ∧ q % 80 < sz
    · rw [if_pos y, if_pos (by omega)]
    · rw [if_neg y, if_neg (by omega)]
theorem flM_r (g : Int → Int) (E : Int → Int → Int) {sz i k : Int} (hi : 0 ≤ i) (hk : k = sz) (hs : sz ≤ 80) : flM g E sz (80 * i + k) = flM g E sz (80 * (i + 1)) := funext fun q => by
  unfold flM
  by_cases y : 0 ≤ q ∧ q < 80 * i + k ∧ q % 80 < sz
  · rw [if_pos y, if_pos (by omega)]
  · rw [if_neg y, if_neg (by omega)]
def zM (h : prm p) (M : Int → Int → Int) : Nat → Nat → Fp p := fun a b => zi h (M a b)
theorem gaI_cg (h : prm p) {n c : Nat} {M M2 : Nat → Nat → Fp p} {r d : Fp p} (H : gaI h n c M r d) (hc : c ≤ n) (e : ∀ a b, a < n → b < n → M2 a b = M a b) : gaI h n c M2 r d := by
  letI := fR h
  have H : d = r * det (fR h) (n - c) (fun a b => M (a + c) (b + c)) := H
  show d = r * det (fR h) (n - c) (fun a b => M2 (a + c) (b + c))
  rw [H]
  congr 1
  exact det_cg (fR h) _ (fun a b ha hb => (e _ _ (by omega) (by omega)).symm)
def swK (M : Int → Int → Int) (w c k : Int) : Int → Int → Int := fun a b => if 0 ≤ b ∧ b < k then (if a = w then M c b else if a = c then M w b else M a b) else M a b
theorem swK_0 (M : Int → Int → Int) (w c : Int) : swK M w c 0 = M := funext fun a => funext fun b => by unfold swK; rw [if_neg (by omega)]
theorem swK_at (M : Int → Int → Int) (w c k a : Int) : swK M w c k a k = M a k := by unfold swK; rw [if_neg (by omega)]
theorem swK_s (M : Int → Int → Int) {w c k : Int} (h0 : 0 ≤ k) (h1 : k < 80) (hw : w ≠ c) : gup (gup (a8 (swK M w c k)) (80 * w + k) (M c k)) (80 * c + k) (M w k) = a8 (swK M w c (k + 1)) := funext fun m => by
  unfold gup a8
  by_cases z : m = 80 * c + k
  · subst z
    rw [if_pos rfl, show (80 * c + k) / 80 = c by omega, show (80 * c + k) % 80 = k by omega]
    unfold swK
    rw [if_pos (by omega), if_neg (fun q => hw q.symm), if_pos rfl]
  · rw [if_neg z]
    by_cases y : m = 80 * w + k
    · subst y
      rw [if_pos rfl, show (80 * w + k) / 80 = w by omega, show (80 * w + k) % 80 = k by omega]
      unfold swK
      rw [if_pos (by omega), if_pos rfl]
    · rw [if_neg y]
      unfold swK
      by_cases x : 0 ≤ m % 80 ∧ m % 80 < k
      · rw [if_pos x, if_pos (show 0 ≤ m % 80 ∧ m % 80 < k + 1 by omega)]
      · rw [if_neg x]
        by_cases v : m % 80 = k
        · rw [if_pos (by omega), if_neg (by omega), if_neg (by omega)]
        · rw [if_neg (by omega)]
def rwL (p : Nat) (M : Int → Int → Int) (f c i k : Int) : Int → Int := fun b => if c ≤ b ∧ b < k then (M i b + (p - f) * M c b) % p else M i b
theorem rwL_0 (M : Int → Int → Int) (f c i : Int) : rwL p M f c i c = M i := funext fun b => by unfold rwL; rw [if_neg (by omega)]
theorem rwL_at (M : Int → Int → Int) (f c i k : Int) : rwL p M f c i k k = M i k := by unfold rwL; rw [if_neg (by omega)]
theorem rwL_s (M : Int → Int → Int) {f c i k : Int} (hk : c ≤ k) : gup (rwL p M f c i k) k ((M i k + (p - f) * M c k) % p) = rwL p M f c i (k + 1) := funext fun b => by
  unfold gup rwL
  by_cases z : b = k
  · subst z; rw [if_pos rfl, if_pos (by omega)]
  · rw [if_neg z]
    by_cases y : c ≤ b ∧ b < k
    · rw [if_pos y, if_pos (by omega)]
    · rw [if_neg y, if_neg (by omega)]
theorem rwL_bd (h : prm p) {M : Int → Int → Int} {f c i k b : Int} (hb : 0 ≤ M i b ∧ M i b < p) : 0 ≤ rwL p M f c i k b ∧ rwL p M f c i k b < p := by
  unfold rwL
  split
  · exact em_in h _
  · exact hb
/-- the matrix of the resultant by x -/
noncomputable def syE (h : prm p) (f g : Px p) : Int → Int → Int := fun i k => if i < dgi h g then cf f (dgi h f - (k - i)) else cf g (dgi h g - (k - (i - dgi h g)))
theorem syE_bd (h : prm p) (f g : Px p) (i k : Int) : 0 ≤ syE h f g i k ∧ syE h f g i k < p := by
  unfold syE
  split
  · exact cf_in f h _
  · exact cf_in g h _
theorem xs_cf (h : prm p) (f : Px p) (s t : Nat) (k : Int) (e : k = (t : Int) - s) : xs h s f t = zi h (cf f k) := by
  letI := fR h
  show (if s ≤ t then f (t - s) else 0) = _
  by_cases z : s ≤ t
  · rw [if_pos z, show k = ((t - s : Nat) : Int) by omega, cf_zi]
  · rw [if_neg z]
    unfold cf
    rw [if_neg (by omega), zi_0]
theorem syE_D (h : prm p) {f g : Px p} (hf : 0 ≤ dgi h f) (hg : 0 ≤ dgi h g) {M : Int → Int → Int} (hM : ∀ a b : Int, 0 ≤ a → a < dgi h f + dgi h g → 0 ≤ b → b < dgi h f + dgi h g → M a b = syE h f g a b) : rsD h (dgi h f).toNat (dgi h g).toNat f g = det (fR h) (dgi h f + dgi h g).toNat (zM h M) := by
  unfold rsD
  rw [show (dgi h f).toNat + (dgi h g).toNat = (dgi h f + dgi h g).toNat by omega]
  refine det_cg (fR h) _ (fun a b ha hb => ?_)
  show _ = zi h (M a b)
  rw [hM a b (by omega) (by omega) (by omega) (by omega)]
  unfold syE
  by_cases z : a < (dgi h g).toNat
  · rw [if_pos z, if_pos (by omega)]
    exact xs_cf h f _ _ _ (by omega)
  · rw [if_neg z, if_neg (by omega)]
    exact xs_cf h g _ _ _ (by omega)
def gIv (h : prm p) (sz c : Int) (M : Int → Int → Int) (r : Int) (d : Fp p) : Prop := gaI h sz.toNat c.toNat (zM h M) (zi h r) d
theorem gIv_z (h : prm p) {sz c : Int} {M : Int → Int → Int} {r : Int} {d : Fp p} (H : gIv h sz c M r d) (c0 : 0 ≤ c) (c1 : c < sz) (hz : ∀ a, c ≤ a → a < sz → M a c = 0) : gIv h sz (c + 1) M 0 d := by
  letI := fR h
  have e : d = 0 := gaI_z h H (by omega) (fun a a0 a1 => by
    show zi h (M a (c.toNat : Int)) = 0
    rw [show ((c.toNat : Nat) : Int) = c by omega, hz a (by omega) (by omega), zi_0])
  show d = zi h 0 * _
  rw [e, zi_0]
  generalize det (fR h) _ _ = x
  grind
theorem gIv_sw (h : prm p) {sz c w k : Int} {M : Int → Int → Int} {r r2 : Int} {d : Fp p} (H : gIv h sz c M r d) (c0 : 0 ≤ c) (c1 : c < w) (w1 : w < sz) (hk : k = sz) (hr : letI := fR h; zi h r2 = - zi h r) : gIv h sz c (swK M w c k) r2 d := by
  have e := gaI_sw h (n := sz.toNat) (c := c.toNat) (w := w.toNat) H (by omega) (by omega)
  unfold gIv
  rw [hr]
  refine gaI_cg h e (by omega) (fun a b ha hb => ?_)
  show zi h (swK M w c k a b) = swr (zM h M) w.toNat c.toNat a b
  unfold swK swr
  rw [if_pos (by omega)]
  by_cases z : a = w.toNat
  · rw [if_pos z, if_pos (by omega)]
    show _ = zi h (M (c.toNat : Int) b)
    rw [show ((c.toNat : Nat) : Int) = c by omega]
  · rw [if_neg z, if_neg (by omega)]
    by_cases y : a = c.toNat
    · rw [if_pos y, if_pos (by omega)]
      show _ = zi h (M (w.toNat : Int) b)
      rw [show ((w.toNat : Nat) : Int) = w by omega]
    · rw [if_neg y, if_neg (by omega)]
      rfl
theorem gIv_s (h : prm p) {sz c : Int} {M M2 : Int → Int → Int} {r r2 : Int} {d : Fp p} (H : gIv h sz c M r d) (c0 : 0 ≤ c) (c1 : c < sz) (hp0 : 0 < M c c ∧ M c c < p) (hr : r2 = r * M c c % p) (h0 : ∀ b, M2 c b = M c b) (h1 : letI := fR h; ∀ a b, c < a → a < sz → c ≤ b → b < sz → zi h (M2 a b) = zi h (M a b) + (- (zi h (M a c * ivr p (M c c)))) * zi h (M c b)) : gIv h sz (c + 1) M2 r2 d := by
  letI := fR h
  unfold gIv
  rw [show (c + 1).toNat = c.toNat + 1 by omega]
  have ec : ((c.toNat : Nat) : Int) = c := by omega
  have e := gaI_s h (n := sz.toNat) (c := c.toNat) (M := zM h M) (M2 := zM h M2) H (by omega) (fun a => - (zi h (M a c * ivr p (M c c)))) (fun b b0 b1 => by
      show zi h (M2 (c.toNat : Int) b) = zi h (M (c.toNat : Int) b)
      rw [ec, h0]) (fun a b a0 a1 b0 b1 => by
      show zi h (M2 a b) = zi h (M a b) + - (zi h (M a c * ivr p (M c c))) * zi h (M (c.toNat : Int) b)
      rw [ec]
      exact h1 a b (by omega) (by omega) (by omega) (by omega)) (fun a a0 a1 => by
      show zi h (M2 a (c.toNat : Int)) = 0
      rw [ec, h1 a c (by omega) (by omega) (by omega) (by omega), zi_mul]
      have e9 := ivr_zi h hp0.1 hp0.2
      generalize zi h (ivr p (M c c)) = x at e9 ⊢
      generalize zi h (M c c) = y at e9 ⊢
      generalize zi h (M a c) = u
      grind)
  have e8 : zi h r2 = zi h r * zM h M c.toNat c.toNat := by
    rw [hr, zi_mod, zi_mul]
    show _ = zi h r * zi h (M (c.toNat : Int) (c.toNat : Int))
    rw [ec]
  rw [e8]
  exact e
theorem gIv_e (h : prm p) {sz c : Int} {M : Int → Int → Int} {r : Int} {d : Fp p} (H : gIv h sz c M r d) (he : c = sz ∨ r = 0) : d = zi h r := by
  letI := fR h
  have H : d = zi h r * det (fR h) (sz.toNat - c.toNat) _ := H
  rcases he with z | z
  · rw [z, Nat.sub_self] at H
    rw [H]
    show zi h r * 1 = zi h r
    grind
  · rw [z, zi_0] at H
    rw [H, z, zi_0]
    generalize det (fR h) _ _ = x
    grind
end
theorem cf_ng {p : Nat} (f : Px p) {k : Int} (hk : k < 0) : cf f k = 0 := by unfold cf; rw [if_neg (by omega)]
set_option maxHeartbeats 4000000 in
set_option maxRecDepth 100000 in
theorem sM_byX (N : GN) (h : GH) (B p : Nat) (hp : prm p) (hp2 : p ≤ 65536) (hf le fc pn rn hn qn : Int) (T : PT p) (fa fb : Px p) (hm : h.2 B = some (mO B p hf le fc pn rn hn qn)) (hT : MP hp B h T) (ms : MS B h) (hGa : MG hp B h 0 fa) (hGb : MG hp B h 1 fb) (hda : dgi hp fa ≤ 40) (hdb : dgi hp fb ≤ 40) : Sp N yX10_byX mX10_byX 0 0 [.ref (B)] h (fun v h1 => Fr [B + 1, B + 3, B + 5, B + 7] h h1 ∧ MS B h1 ∧ ∃ w T2, Ou T (pa13 hp fa fb) w T2 ∧ v = some (.int (gI w)) ∧ MP hp B h1 T2) := by
  refine Sp.of (by decide) rfl rfl (Nat.le_of_ble_eq_true rfl) ?_
  show Go N mX10_byX _ 0 0 h 0 [(0, .ref (B))] []
  have hp1 := hp.1
  have neA : NE B (B + 5) := by unfold NE; omega
  have neB : NE B (B + 6) := by unfold NE; omega
  have neC : NE (B + 5) (B + 6) := by unfold NE; omega
  have ne0 : NE (B) (B + 1) := by unfold NE; omega
  have ne1 : NE (B) (B + 2) := by unfold NE; omega
  have ne2 : NE (B) (B + 3) := by unfold NE; omega
  have ne3 : NE (B) (B + 4) := by unfold NE; omega
  have ne4 : NE (B) (B + 5) := by unfold NE; omega
  have ne5 : NE (B) (B + 6) := by unfold NE; omega
  have ne6 : NE (B) (B + 7) := by unfold NE; omega
  have ne7 : NE (B) (B + 8) := by unfold NE; omega
  have ne8 : NE (B + 1) (B + 2) := by unfold NE; omega
  have ne9 : NE (B + 1) (B + 3) := by unfold NE; omega
  have ne10 : NE (B + 1) (B + 4) := by unfold NE; omega
  have ne11 : NE (B + 1) (B + 5) := by unfold NE; omega
  have ne12 : NE (B + 1) (B + 6) := by unfold NE; omega
  have ne13 : NE (B + 1) (B + 7) := by unfold NE; omega
  have ne14 : NE (B + 1) (B + 8) := by unfold NE; omega
  have ne15 : NE (B + 2) (B + 3) := by unfold NE; omega
  have ne16 : NE (B + 2) (B + 4) := by unfold NE; omega
  have ne17 : NE (B + 2) (B + 5) := by unfold NE; omega
  have ne18 : NE (B + 2) (B + 6) := by unfold NE; omega
  have ne19 : NE (B + 2) (B + 7) := by unfold NE; omega
  have ne20 : NE (B + 2) (B + 8) := by unfold NE; omega
  have ne21 : NE (B + 3) (B + 4) := by unfold NE; omega
  have ne22 : NE (B + 3) (B + 5) := by unfold NE; omega
  have ne23 : NE (B + 3) (B + 6) := by unfold NE; omega
  have ne24 : NE (B + 3) (B + 7) := by unfold NE; omega
  have ne25 : NE (B + 3) (B + 8) := by unfold NE; omega
  have ne26 : NE (B + 4) (B + 5) := by unfold NE; omega
  have ne27 : NE (B + 4) (B + 6) := by unfold NE; omega
  have ne28 : NE (B + 4) (B + 7) := by unfold NE; omega
  have ne29 : NE (B + 4) (B + 8) := by unfold NE; omega
  have ne30 : NE (B + 5) (B + 6) := by unfold NE; omega
  have ne31 : NE (B + 5) (B + 7) := by unfold NE; omega
  have ne32 : NE (B + 5) (B + 8) := by unfold NE; omega
  have ne33 : NE (B + 6) (B + 7) := by unfold NE; omega
  have ne34 : NE (B + 6) (B + 8) := by unfold NE; omega
  have ne35 : NE (B + 7) (B + 8) := by unfold NE; omega
  obtain ⟨ma, hw, ⟨gm, h4⟩, ⟨g7, h7⟩, ⟨g8, h8⟩⟩ := ms
  have hpa := hGa.po
  have hpb := hGb.po
  have hla := hGa.lt
  have hlb := hGb.lt
  refine g_aload_n 0 dX10_byX_0 rfl ?_
  refine g_getf 6 dX10_byX_1 kX10 (by decide) fX10_26 hm rfl ?_
  refine g_iconst dX10_byX_4 ?_
  obtain ⟨dz1, ez1, fz1⟩ := MG.get hGa
  refine g_iaload dX10_byX_5 ez1 (by omega) (by omega) (by omega) ?_
  rw [fz1]
  refine g_if_lt (tgt := 18) dX10_byX_6 rfl (by first | (unfold gW; omega) | (unfold gW; split <;> omega)) (fun c2 => ?_) (fun c2 => ?_)
  · skip
    refine g_bipush dX10_byX_18 (by decide) ?_
    exact g_iret dX10_byX_20 rfl ⟨(((MF.rf [B + 1, B + 3, B + 7] [2] ma)).1.mo (sub_c (List.Mem.tail _ (List.Mem.tail _ (List.Mem.head _))) (sub_c (List.Mem.head _) (sub_c (List.Mem.tail _ (List.Mem.head _)) (sub_c (List.Mem.tail _ (List.Mem.tail _ (List.Mem.tail _ (List.Mem.head _)))) sub_n))))), ⟨((MF.rf [B + 1, B + 3, B + 7] [2] ma)).2.1, hw, ⟨_, h4⟩, ⟨_, h7⟩, ⟨_, h8⟩⟩, (-3), T, (by unfold pa13; rw [if_pos (by omega)]; exact ⟨rfl, rfl⟩), rfl, hT⟩
  · skip
    refine g_aload_n 0 dX10_byX_9 rfl ?_
    refine g_getf 6 dX10_byX_10 kX10 (by decide) fX10_26 hm rfl ?_
    refine g_iconst dX10_byX_13 ?_
    obtain ⟨dz3, ez3, fz3⟩ := MG.get hGb
    refine g_iaload dX10_byX_14 ez3 (by omega) (by omega) (by omega) ?_
    rw [fz3]
    refine g_if_ge (tgt := 21) dX10_byX_15 rfl (by first | (unfold gW; omega) | (unfold gW; split <;> omega)) (fun c4 => ?_) (fun c4 => ?_)
    · skip
      refine g_aload_n 0 dX10_byX_21 rfl ?_
      refine g_getf 6 dX10_byX_22 kX10 (by decide) fX10_26 hm rfl ?_
      refine g_iconst dX10_byX_25 ?_
      obtain ⟨dz5, ez5, fz5⟩ := MG.get hGa
      refine g_iaload dX10_byX_26 ez5 (by omega) (by omega) (by omega) ?_
      rw [fz5]
      refine g_istore_n (ls2 := [(1, .int (gI (dgi hp (fa)))), (0, .ref (B))]) dX10_byX_27 rfl (by decide) rfl ?_
      refine g_aload_n 1 dX10_byX_28 rfl ?_
      refine g_getf 6 dX10_byX_29 kX10 (by decide) fX10_26 hm rfl ?_
      refine g_iconst dX10_byX_32 ?_
      obtain ⟨dz6, ez6, fz6⟩ := MG.get hGb
      refine g_iaload dX10_byX_33 ez6 (by omega) (by omega) (by omega) ?_
      rw [fz6]
      refine g_istore_n (ls2 := [(2, .int (gI (dgi hp (fb)))), (1, .int (gI (dgi hp (fa)))), (0, .ref (B))]) dX10_byX_34 rfl (by decide) rfl ?_
      refine g_iload_n 1 dX10_byX_35 rfl ?_
      refine g_iload_n 0 dX10_byX_36 rfl ?_
      refine g_iadd dX10_byX_37 ?_
      refine g_istore_n (ls2 := [(3, .int (gI ((dgi hp (fa)) + (dgi hp (fb))))), (2, .int (gI (dgi hp (fb)))), (1, .int (gI (dgi hp (fa)))), (0, .ref (B))]) dX10_byX_38 rfl (by decide) rfl ?_
      have ha0 : 0 ≤ dgi hp fa := by omega
      have hb0 : 0 ≤ dgi hp fb := by omega
      refine g_iconst dX10_byX_39 ?_
      refine g_istore (ls2 := [(4, .int (gI (0))), (3, .int (gI ((dgi hp (fa)) + (dgi hp (fb))))), (2, .int (gI (dgi hp (fb)))), (1, .int (gI (dgi hp (fa)))), (0, .ref (B))]) dX10_byX_40 (by decide) rfl ?_
      have li : ∀ (kk : Nat) (i : Int) (hli : GH), kk = (80 - i).toNat → MF B [B + 1, B + 3, B + 7] [2] h hli → hli.2 (B + 4) = some (aI 1500 (gm)) → hli.2 (B + 7) = some (aJ 6400 (flM g7 (syE hp fa fb) (dgi hp fa + dgi hp fb) (80 * i))) → hli.2 (B + 8) = some (aI 11520 (g8)) → MP hp B hli (T) → MWA B hli → MG hp B hli (0) (fa) → MG hp B hli (1) (fb) → (0 ≤ i ∧ i ≤ dgi hp fa + dgi hp fb) → Go N mX10_byX (fun v h1 => Fr [B + 1, B + 3, B + 5, B + 7] h h1 ∧ MS B h1 ∧ ∃ w T2, Ou T (pa13 hp fa fb) w T2 ∧ v = some (.int (gI w)) ∧ MP hp B h1 T2) 0 0 hli 42 [(4, .int (gI (i))), (3, .int (gI ((dgi hp (fa)) + (dgi hp (fb))))), (2, .int (gI (dgi hp (fb)))), (1, .int (gI (dgi hp (fa)))), (0, .ref (B))] [] := by
        refine Go.ind (fun kk ih_li => ?_)
        intro i hli hkk_li fr_li cf_li_0 cf_li_1 cf_li_2 cr_li_0 cr_li_1 cr_li_2 cr_li_3 hi
        have cg_li_0 : hli.2 (B) = some (mO B ((p : Int)) (hf) (le) (fc) (pn) (rn) (hn) (qn)) := Fr.at0 (fr_li).1 (Ni.c ⟨ne4, ne5⟩ (Ni.c ⟨ne0, ne1⟩ (Ni.c ⟨ne2, ne3⟩ (Ni.c ⟨ne6, ne7⟩ (Ni.n _))))) hm
        refine g_iload 0 dX10_byX_42 rfl ?_
        refine g_iload_n 1 dX10_byX_44 rfl ?_
        refine g_icmp_ge (tgt := 164) dX10_byX_45 rfl (by first | (unfold gW; omega) | (unfold gW; split <;> omega)) (by first | (unfold gW; omega) | (unfold gW; split <;> omega)) (fun c107 => ?_) (fun c107 => ?_)
        · skip
          have hi9 : i = dgi hp fa + dgi hp fb := by omega
          obtain ⟨M0, hM0⟩ : ∃ M0 : Int → Int → Int, M0 = fun a b => flM g7 (syE hp fa fb) (dgi hp fa + dgi hp fb) (80 * i) (80 * a + b) := ⟨_, rfl⟩
          have f7 : hli.2 (B + 7) = some (aJ 6400 (a8 M0)) := by rw [hM0, ← a8_nf]; exact cf_li_1
          have hM1 : ∀ a b : Int, 0 ≤ a → a < dgi hp fa + dgi hp fb → 0 ≤ b → b < dgi hp fa + dgi hp fb → M0 a b = syE hp fa fb a b := fun a b a0 a1 b0 b1 => by
            rw [hM0]
            show flM g7 _ _ (80 * i) (80 * a + b) = _
            unfold flM
            rw [if_pos (by omega), show (80 * a + b) / 80 = a by omega, show (80 * a + b) % 80 = b by omega]
          have hD0 := syE_D hp ha0 hb0 hM1
          refine g_lconst1 dX10_byX_164 ?_
          refine g_lstore (ls2 := [(4, .long (gJ (1))), (3, .int (gI ((dgi hp (fa)) + (dgi hp (fb))))), (2, .int (gI (dgi hp (fb)))), (1, .int (gI (dgi hp (fa)))), (0, .ref (B))]) dX10_byX_165 (by decide) rfl ?_
          refine g_iconst dX10_byX_167 ?_
          refine g_istore (ls2 := [(6, .int (gI (0))), (4, .long (gJ (1))), (3, .int (gI ((dgi hp (fa)) + (dgi hp (fb))))), (2, .int (gI (dgi hp (fb)))), (1, .int (gI (dgi hp (fa)))), (0, .ref (B))]) dX10_byX_168 (by decide) rfl ?_
          have lc : ∀ (kk : Nat) (c : Int) (r : Int) (M : Int → Int → Int) (hlc : GH), kk = (80 - c).toNat → MF B [B + 1, B + 3, B + 7] [2] h hlc → hlc.2 (B + 4) = some (aI 1500 (gm)) → hlc.2 (B + 7) = some (aJ 6400 (a8 M)) → hlc.2 (B + 8) = some (aI 11520 (g8)) → MP hp B hlc (T) → MWA B hlc → MG hp B hlc (0) (fa) → MG hp B hlc (1) (fb) → (0 ≤ c ∧ c ≤ dgi hp fa + dgi hp fb) → (0 ≤ r ∧ r < p) → (∀ a b : Int, 0 ≤ a → a < dgi hp fa + dgi hp fb → 0 ≤ b → b < dgi hp fa + dgi hp fb → 0 ≤ M a b ∧ M a b < p) → (gIv hp (dgi hp fa + dgi hp fb) c M r (rsD hp (dgi hp fa).toNat (dgi hp fb).toNat fa fb)) → Go N mX10_byX (fun v h1 => Fr [B + 1, B + 3, B + 5, B + 7] h h1 ∧ MS B h1 ∧ ∃ w T2, Ou T (pa13 hp fa fb) w T2 ∧ v = some (.int (gI w)) ∧ MP hp B h1 T2) 0 0 hlc 170 [(6, .int (gI (c))), (4, .long (gJ (r))), (3, .int (gI ((dgi hp (fa)) + (dgi hp (fb))))), (2, .int (gI (dgi hp (fb)))), (1, .int (gI (dgi hp (fa)))), (0, .ref (B))] [] := by
            refine Go.ind (fun kk ih_lc => ?_)
            intro c r M hlc hkk_lc fr_lc cf_lc_0 cf_lc_1 cf_lc_2 cr_lc_0 cr_lc_1 cr_lc_2 cr_lc_3 hc hr hB hG
            have cg_lc_0 : hlc.2 (B) = some (mO B ((p : Int)) (hf) (le) (fc) (pn) (rn) (hn) (qn)) := Fr.at0 (fr_lc).1 (Ni.c ⟨ne4, ne5⟩ (Ni.c ⟨ne0, ne1⟩ (Ni.c ⟨ne2, ne3⟩ (Ni.c ⟨ne6, ne7⟩ (Ni.n _))))) hm
            refine g_iload 0 dX10_byX_170 rfl ?_
            refine g_iload_n 2 dX10_byX_172 rfl ?_
            refine g_icmp_ge (tgt := 506) dX10_byX_173 rfl (by first | (unfold gW; omega) | (unfold gW; split <;> omega)) (by first | (unfold gW; omega) | (unfold gW; split <;> omega)) (fun c208 => ?_) (fun c208 => ?_)
            · skip
              have hDr : rsD hp (dgi hp fa).toNat (dgi hp fb).toNat fa fb = zi hp r := gIv_e hp hG (by omega)
              refine g_aload_n 5 dX10_byX_506 rfl ?_
              refine g_iconst dX10_byX_507 ?_
              refine g_lload 1 dX10_byX_508 rfl ?_
              refine g_aload_n 5 dX10_byX_510 rfl ?_
              refine g_getf 0 dX10_byX_511 kX10 (by decide) fX10_78 cg_lc_0 rfl ?_
              refine g_i2l dX10_byX_514 (by first | (unfold gW; omega) | (unfold gW; split <;> omega)) ?_
              refine g_lrem dX10_byX_515 (by unfold gX; omega) (by unfold gX; omega) (by omega) ?_
              rw [tm_em hr.1, Int.emod_eq_of_lt hr.1 hr.2]
              refine g_l2i dX10_byX_516 ?_
              refine g_callV (nc2 := 0) (ns2 := 0) (ci := 10) (As := [.int (gI (2)), .int (gI (r))]) (st := []) rfl dX10_byX_517 okX10_be lX10_170 itX10_be seX10_be rfl cg_lc_0 (by decide) (by decide) rfl (Nat.le_of_ble_eq_true rfl) (sM_be N _ B p hp hp2 hf le fc pn rn hn qn (2) (r) (by omega) (by omega) (by omega) cg_lc_0 (fr_lc).2.1) (by omega) (by omega) (fun v209 hc209 q209 => ?_)
              obtain ⟨rfl, mfc210, rn210_0⟩ := q209
              have fk211_0 : hc209.2 (B) = some (mO B ((p : Int)) (hf) (le) (fc) (pn) (rn) (hn) (qn)) := Fr.at0 (mfc210).1 (Ni.c ⟨ne4, ne5⟩ (Ni.n _)) cg_lc_0
              have fk211_1 : hc209.2 (B + 4) = some (aI 1500 (gm)) := Fr.at0 (mfc210).1 (Ni.c ⟨ne26, ne27⟩ (Ni.n _)) cf_lc_0
              have fk211_2 : hc209.2 (B + 7) = some (aJ 6400 (a8 M)) := Fr.at0 (mfc210).1 (Ni.c ⟨(ne31).s, (ne33).s⟩ (Ni.n _)) cf_lc_1
              have fk211_3 : hc209.2 (B + 8) = some (aI 11520 (g8)) := Fr.at0 (mfc210).1 (Ni.c ⟨(ne32).s, (ne34).s⟩ (Ni.n _)) cf_lc_2
              have rk211_0 : MP hp B hc209 (T) := (cr_lc_0).fr (mfc210).1 (Ni.c ⟨ne11, ne12⟩ (Ni.n _)) (Ni.c ⟨ne17, ne18⟩ (Ni.n _))
              have rk211_1 : MWA B hc209 := (cr_lc_1).fr (mfc210).1 (Ni.c ⟨ne22, ne23⟩ (Ni.n _))
              have rk211_2 : MG hp B hc209 (0) (fa) := (cr_lc_2).fr hp2 mfc210 (Nr.c (by omega) Nr.n)
              have rk211_3 : MG hp B hc209 (1) (fb) := (cr_lc_3).fr hp2 mfc210 (Nr.c (by omega) Nr.n)
              have fr211 : MF B [B + 1, B + 3, B + 7] [2] h hc209 := (fr_lc).tr ((mfc210).mo sub_n (sbI_c (List.Mem.head _) sbI_n))
              refine Go.nf (h' := hc209) (st' := []) rfl rfl (Nat.le_refl _) (Nat.le_refl _) ?_
              refine g_aload_n 5 dX10_byX_520 rfl ?_
              refine g_iconst dX10_byX_521 ?_
              refine g_callV (nc2 := 0) (ns2 := 0) (ci := 10) (As := [.int (gI (2))]) (st := []) rfl dX10_byX_522 okX10_keepRegister lX10_182 itX10_keepRegister seX10_keepRegister rfl fk211_0 (by decide) (by decide) rfl (Nat.le_of_ble_eq_true rfl) (sM_keepR N _ B p hp hp2 hf le fc pn rn hn qn T (2) (cz hp (zi hp (r))) (gm) fk211_0 rk211_0 rk211_1 fk211_1 rn210_0) (by omega) (by omega) (fun v212 hc212 q212 => ?_)
              obtain ⟨mfc213, f4_213, mwa213, w213, T2_213, hO213, rfl, mp213⟩ := q212
              have fk214_0 : hc212.2 (B) = some (mO B ((p : Int)) (hf) (le) (fc) (pn) (rn) (hn) (qn)) := Fr.at0 (mfc213).1 (Ni.c ⟨ne4, ne5⟩ (Ni.c ⟨ne0, ne1⟩ (Ni.c ⟨ne2, ne3⟩ (Ni.n _)))) fk211_0
              have fk214_2 : hc212.2 (B + 7) = some (aJ 6400 (a8 M)) := Fr.at0 (mfc213).1 (Ni.c ⟨(ne31).s, (ne33).s⟩ (Ni.c ⟨(ne13).s, (ne19).s⟩ (Ni.c ⟨(ne24).s, (ne28).s⟩ (Ni.n _)))) fk211_2
              have fk214_3 : hc212.2 (B + 8) = some (aI 11520 (g8)) := Fr.at0 (mfc213).1 (Ni.c ⟨(ne32).s, (ne34).s⟩ (Ni.c ⟨(ne14).s, (ne20).s⟩ (Ni.c ⟨(ne25).s, (ne29).s⟩ (Ni.n _)))) fk211_3
              have rk214_2 : MG hp B hc212 (0) (fa) := (rk211_2).fr hp2 mfc213 Nr.n
              have rk214_3 : MG hp B hc212 (1) (fb) := (rk211_3).fr hp2 mfc213 Nr.n
              have rk214_4 : MG hp B hc212 (2) (cz hp (zi hp (r))) := (rn210_0).fr hp2 mfc213 Nr.n
              have fr214 : MF B [B + 1, B + 3, B + 7] [2] h hc212 := (fr211).tr ((mfc213).mo (sub_c (List.Mem.head _) (sub_c (List.Mem.tail _ (List.Mem.head _)) sub_n)) sbI_n)
              refine Go.nf (h' := hc212) (st' := [.int (gI (w213))]) rfl rfl (Nat.le_refl _) (Nat.le_refl _) ?_
              exact g_iret dX10_byX_525 rfl ⟨((fr214).1.mo (sub_c (List.Mem.tail _ (List.Mem.tail _ (List.Mem.head _))) (sub_c (List.Mem.head _) (sub_c (List.Mem.tail _ (List.Mem.head _)) (sub_c (List.Mem.tail _ (List.Mem.tail _ (List.Mem.tail _ (List.Mem.head _)))) sub_n))))), ⟨(fr214).2.1, mwa213, ⟨_, f4_213⟩, ⟨_, fk214_2⟩, ⟨_, fk214_3⟩⟩, w213, T2_213, (by unfold pa13; rw [if_neg (by omega), hDr]; exact hO213), rfl, mp213⟩
            · skip
              refine g_lload 1 dX10_byX_176 rfl ?_
              refine g_lconst0 dX10_byX_178 ?_
              refine g_lcmp dX10_byX_179 (by unfold gX; omega) (by unfold gX; omega) ?_
              refine g_if_eq (tgt := 506) dX10_byX_180 rfl (gW_cmp _ _) (fun c215 => ?_) (fun c215 => ?_)
              · skip
                have hr0 := gcmp_eq.mp c215
                have hDr : rsD hp (dgi hp fa).toNat (dgi hp fb).toNat fa fb = zi hp r := gIv_e hp hG (by omega)
                refine g_aload_n 5 dX10_byX_506 rfl ?_
                refine g_iconst dX10_byX_507 ?_
                refine g_lload 1 dX10_byX_508 rfl ?_
                refine g_aload_n 5 dX10_byX_510 rfl ?_
                refine g_getf 0 dX10_byX_511 kX10 (by decide) fX10_78 cg_lc_0 rfl ?_
                refine g_i2l dX10_byX_514 (by first | (unfold gW; omega) | (unfold gW; split <;> omega)) ?_
                refine g_lrem dX10_byX_515 (by unfold gX; omega) (by unfold gX; omega) (by omega) ?_
                rw [tm_em hr.1, Int.emod_eq_of_lt hr.1 hr.2]
                refine g_l2i dX10_byX_516 ?_
                refine g_callV (nc2 := 0) (ns2 := 0) (ci := 10) (As := [.int (gI (2)), .int (gI (r))]) (st := []) rfl dX10_byX_517 okX10_be lX10_170 itX10_be seX10_be rfl cg_lc_0 (by decide) (by decide) rfl (Nat.le_of_ble_eq_true rfl) (sM_be N _ B p hp hp2 hf le fc pn rn hn qn (2) (r) (by omega) (by omega) (by omega) cg_lc_0 (fr_lc).2.1) (by omega) (by omega) (fun v216 hc216 q216 => ?_)
                obtain ⟨rfl, mfc217, rn217_0⟩ := q216
                have fk218_0 : hc216.2 (B) = some (mO B ((p : Int)) (hf) (le) (fc) (pn) (rn) (hn) (qn)) := Fr.at0 (mfc217).1 (Ni.c ⟨ne4, ne5⟩ (Ni.n _)) cg_lc_0
                have fk218_1 : hc216.2 (B + 4) = some (aI 1500 (gm)) := Fr.at0 (mfc217).1 (Ni.c ⟨ne26, ne27⟩ (Ni.n _)) cf_lc_0
                have fk218_2 : hc216.2 (B + 7) = some (aJ 6400 (a8 M)) := Fr.at0 (mfc217).1 (Ni.c ⟨(ne31).s, (ne33).s⟩ (Ni.n _)) cf_lc_1
                have fk218_3 : hc216.2 (B + 8) = some (aI 11520 (g8)) := Fr.at0 (mfc217).1 (Ni.c ⟨(ne32).s, (ne34).s⟩ (Ni.n _)) cf_lc_2
                have rk218_0 : MP hp B hc216 (T) := (cr_lc_0).fr (mfc217).1 (Ni.c ⟨ne11, ne12⟩ (Ni.n _)) (Ni.c ⟨ne17, ne18⟩ (Ni.n _))
                have rk218_1 : MWA B hc216 := (cr_lc_1).fr (mfc217).1 (Ni.c ⟨ne22, ne23⟩ (Ni.n _))
                have rk218_2 : MG hp B hc216 (0) (fa) := (cr_lc_2).fr hp2 mfc217 (Nr.c (by omega) Nr.n)
                have rk218_3 : MG hp B hc216 (1) (fb) := (cr_lc_3).fr hp2 mfc217 (Nr.c (by omega) Nr.n)
                have fr218 : MF B [B + 1, B + 3, B + 7] [2] h hc216 := (fr_lc).tr ((mfc217).mo sub_n (sbI_c (List.Mem.head _) sbI_n))
                refine Go.nf (h' := hc216) (st' := []) rfl rfl (Nat.le_refl _) (Nat.le_refl _) ?_
                refine g_aload_n 5 dX10_byX_520 rfl ?_
                refine g_iconst dX10_byX_521 ?_
                refine g_callV (nc2 := 0) (ns2 := 0) (ci := 10) (As := [.int (gI (2))]) (st := []) rfl dX10_byX_522 okX10_keepRegister lX10_182 itX10_keepRegister seX10_keepRegister rfl fk218_0 (by decide) (by decide) rfl (Nat.le_of_ble_eq_true rfl) (sM_keepR N _ B p hp hp2 hf le fc pn rn hn qn T (2) (cz hp (zi hp (r))) (gm) fk218_0 rk218_0 rk218_1 fk218_1 rn217_0) (by omega) (by omega) (fun v219 hc219 q219 => ?_)
                obtain ⟨mfc220, f4_220, mwa220, w220, T2_220, hO220, rfl, mp220⟩ := q219
                have fk221_0 : hc219.2 (B) = some (mO B ((p : Int)) (hf) (le) (fc) (pn) (rn) (hn) (qn)) := Fr.at0 (mfc220).1 (Ni.c ⟨ne4, ne5⟩ (Ni.c ⟨ne0, ne1⟩ (Ni.c ⟨ne2, ne3⟩ (Ni.n _)))) fk218_0
                have fk221_2 : hc219.2 (B + 7) = some (aJ 6400 (a8 M)) := Fr.at0 (mfc220).1 (Ni.c ⟨(ne31).s, (ne33).s⟩ (Ni.c ⟨(ne13).s, (ne19).s⟩ (Ni.c ⟨(ne24).s, (ne28).s⟩ (Ni.n _)))) fk218_2
                have fk221_3 : hc219.2 (B + 8) = some (aI 11520 (g8)) := Fr.at0 (mfc220).1 (Ni.c ⟨(ne32).s, (ne34).s⟩ (Ni.c ⟨(ne14).s, (ne20).s⟩ (Ni.c ⟨(ne25).s, (ne29).s⟩ (Ni.n _)))) fk218_3
                have rk221_2 : MG hp B hc219 (0) (fa) := (rk218_2).fr hp2 mfc220 Nr.n
                have rk221_3 : MG hp B hc219 (1) (fb) := (rk218_3).fr hp2 mfc220 Nr.n
                have rk221_4 : MG hp B hc219 (2) (cz hp (zi hp (r))) := (rn217_0).fr hp2 mfc220 Nr.n
                have fr221 : MF B [B + 1, B + 3, B + 7] [2] h hc219 := (fr218).tr ((mfc220).mo (sub_c (List.Mem.head _) (sub_c (List.Mem.tail _ (List.Mem.head _)) sub_n)) sbI_n)
                refine Go.nf (h' := hc219) (st' := [.int (gI (w220))]) rfl rfl (Nat.le_refl _) (Nat.le_refl _) ?_
                exact g_iret dX10_byX_525 rfl ⟨((fr221).1.mo (sub_c (List.Mem.tail _ (List.Mem.tail _ (List.Mem.head _))) (sub_c (List.Mem.head _) (sub_c (List.Mem.tail _ (List.Mem.head _)) (sub_c (List.Mem.tail _ (List.Mem.tail _ (List.Mem.tail _ (List.Mem.head _)))) sub_n))))), ⟨(fr221).2.1, mwa220, ⟨_, f4_220⟩, ⟨_, fk221_2⟩, ⟨_, fk221_3⟩⟩, w220, T2_220, (by unfold pa13; rw [if_neg (by omega), hDr]; exact hO220), rfl, mp220⟩
              · skip
                have hr0 : ¬ r = 0 := fun z => c215 (gcmp_eq.mpr z)
                refine g_iload 0 dX10_byX_183 rfl ?_
                refine g_istore (ls2 := [(7, .int (gI (c))), (6, .int (gI (c))), (4, .long (gJ (r))), (3, .int (gI ((dgi hp (fa)) + (dgi hp (fb))))), (2, .int (gI (dgi hp (fb)))), (1, .int (gI (dgi hp (fa)))), (0, .ref (B))]) dX10_byX_185 (by decide) rfl ?_
                have lw : ∀ (kk : Nat) (w : Int) (hlw : GH), kk = (80 - w).toNat → MF B [B + 1, B + 3, B + 7] [2] h hlw → hlw.2 (B + 4) = some (aI 1500 (gm)) → hlw.2 (B + 7) = some (aJ 6400 (a8 M)) → hlw.2 (B + 8) = some (aI 11520 (g8)) → MP hp B hlw (T) → MWA B hlw → MG hp B hlw (0) (fa) → MG hp B hlw (1) (fb) → (c ≤ w ∧ w ≤ dgi hp fa + dgi hp fb) → (∀ a, c ≤ a → a < w → M a c = 0) → Go N mX10_byX (fun v h1 => Fr [B + 1, B + 3, B + 5, B + 7] h h1 ∧ MS B h1 ∧ ∃ w T2, Ou T (pa13 hp fa fb) w T2 ∧ v = some (.int (gI w)) ∧ MP hp B h1 T2) 0 0 hlw 187 [(7, .int (gI (w))), (6, .int (gI (c))), (4, .long (gJ (r))), (3, .int (gI ((dgi hp (fa)) + (dgi hp (fb))))), (2, .int (gI (dgi hp (fb)))), (1, .int (gI (dgi hp (fa)))), (0, .ref (B))] [] := by
                  refine Go.ind (fun kk ih_lw => ?_)
                  intro w hlw hkk_lw fr_lw cf_lw_0 cf_lw_1 cf_lw_2 cr_lw_0 cr_lw_1 cr_lw_2 cr_lw_3 hw hZ
                  have cg_lw_0 : hlw.2 (B) = some (mO B ((p : Int)) (hf) (le) (fc) (pn) (rn) (hn) (qn)) := Fr.at0 (fr_lw).1 (Ni.c ⟨ne4, ne5⟩ (Ni.c ⟨ne0, ne1⟩ (Ni.c ⟨ne2, ne3⟩ (Ni.c ⟨ne6, ne7⟩ (Ni.n _))))) hm
                  refine g_iload 0 dX10_byX_187 rfl ?_
                  refine g_iload_n 3 dX10_byX_189 rfl ?_
                  refine g_icmp_ge (tgt := 217) dX10_byX_190 rfl (by first | (unfold gW; omega) | (unfold gW; split <;> omega)) (by first | (unfold gW; omega) | (unfold gW; split <;> omega)) (fun c322 => ?_) (fun c322 => ?_)
                  · skip
                    refine g_iload 0 dX10_byX_217 rfl ?_
                    refine g_iload_n 3 dX10_byX_219 rfl ?_
                    refine g_icmp_ne (tgt := 229) dX10_byX_220 rfl (by first | (unfold gW; omega) | (unfold gW; split <;> omega)) (by first | (unfold gW; omega) | (unfold gW; split <;> omega)) (fun c323 => ?_) (fun c323 => ?_)
                    · skip
                      refine g_iconst dX10_byX_229 ?_
                      refine g_istore (ls2 := [(8, .int (gI (0))), (7, .int (gI (w))), (6, .int (gI (c))), (4, .long (gJ (r))), (3, .int (gI ((dgi hp (fa)) + (dgi hp (fb))))), (2, .int (gI (dgi hp (fb)))), (1, .int (gI (dgi hp (fa)))), (0, .ref (B))]) dX10_byX_230 (by decide) rfl ?_
                      have ls : ∀ (kk : Nat) (k : Int) (hls : GH), kk = (80 - k).toNat → MF B [B + 1, B + 3, B + 7] [2] h hls → hls.2 (B + 4) = some (aI 1500 (gm)) → hls.2 (B + 7) = some (aJ 6400 (a8 (swK M w c k))) → hls.2 (B + 8) = some (aI 11520 (g8)) → MP hp B hls (T) → MWA B hls → MG hp B hls (0) (fa) → MG hp B hls (1) (fb) → (0 ≤ k ∧ k ≤ dgi hp fa + dgi hp fb) → (k = 0 ∨ w ≠ c) → Go N mX10_byX (fun v h1 => Fr [B + 1, B + 3, B + 5, B + 7] h h1 ∧ MS B h1 ∧ ∃ w T2, Ou T (pa13 hp fa fb) w T2 ∧ v = some (.int (gI w)) ∧ MP hp B h1 T2) 0 0 hls 232 [(8, .int (gI (k))), (7, .int (gI (w))), (6, .int (gI (c))), (4, .long (gJ (r))), (3, .int (gI ((dgi hp (fa)) + (dgi hp (fb))))), (2, .int (gI (dgi hp (fb)))), (1, .int (gI (dgi hp (fa)))), (0, .ref (B))] [] := by
                        refine Go.ind (fun kk ih_ls => ?_)
                        intro k hls hkk_ls fr_ls cf_ls_0 cf_ls_1 cf_ls_2 cr_ls_0 cr_ls_1 cr_ls_2 cr_ls_3 hk hkw
                        have cg_ls_0 : hls.2 (B) = some (mO B ((p : Int)) (hf) (le) (fc) (pn) (rn) (hn) (qn)) := Fr.at0 (fr_ls).1 (Ni.c ⟨ne4, ne5⟩ (Ni.c ⟨ne0, ne1⟩ (Ni.c ⟨ne2, ne3⟩ (Ni.c ⟨ne6, ne7⟩ (Ni.n _))))) hm
                        refine g_iload 0 dX10_byX_232 rfl ?_
                        refine g_iload_n 4 dX10_byX_234 rfl ?_
                        refine g_icmp_ge (tgt := 307) dX10_byX_235 rfl (by first | (unfold gW; omega) | (unfold gW; split <;> omega)) (by first | (unfold gW; omega) | (unfold gW; split <;> omega)) (fun c424 => ?_) (fun c424 => ?_)
                        · skip
                          have hkS : k = dgi hp fa + dgi hp fb := by omega
                          have hwc : c < w := by omega
                          obtain ⟨M1, hM1e⟩ : ∃ M1 : Int → Int → Int, M1 = swK M w c k := ⟨_, rfl⟩
                          have f7b : hls.2 (B + 7) = some (aJ 6400 (a8 M1)) := by rw [hM1e]; exact cf_ls_1
                          have hB1 : ∀ a b : Int, 0 ≤ a → a < dgi hp fa + dgi hp fb → 0 ≤ b → b < dgi hp fa + dgi hp fb → 0 ≤ M1 a b ∧ M1 a b < p := fun a b a0 a1 b0 b1 => by
                            rw [hM1e]
                            unfold swK
                            rw [if_pos (by omega)]
                            split
                            · exact hB c b (by omega) (by omega) b0 b1
                            · split
                              · exact hB w b (by omega) (by omega) b0 b1
                              · exact hB a b a0 a1 b0 b1
                          have hpv : M1 c c = M w c := by rw [hM1e]; unfold swK; rw [if_pos (by omega), if_neg (by omega), if_pos rfl]
                          have hbw9 := hB w c (by omega) (by omega) (by omega) (by omega)
                          have hpv0 : 0 < M1 c c ∧ M1 c c < p := by rw [hpv]; omega
                          refine g_iload 1 dX10_byX_307 rfl ?_
                          refine g_iload 2 dX10_byX_309 rfl ?_
                          refine g_icmp_eq (tgt := 331) dX10_byX_311 rfl (by first | (unfold gW; omega) | (unfold gW; split <;> omega)) (by first | (unfold gW; omega) | (unfold gW; split <;> omega)) (fun c425 => absurd c425 (by omega)) (fun c425 => ?_)
                          refine g_aload_n 7 dX10_byX_314 rfl ?_
                          refine g_getf 0 dX10_byX_315 kX10 (by decide) fX10_78 cg_ls_0 rfl ?_
                          refine g_i2l dX10_byX_318 (by first | (unfold gW; omega) | (unfold gW; split <;> omega)) ?_
                          refine g_lload 3 dX10_byX_319 rfl ?_
                          refine g_lsub dX10_byX_321 ?_
                          refine g_aload_n 7 dX10_byX_322 rfl ?_
                          refine g_getf 0 dX10_byX_323 kX10 (by decide) fX10_78 cg_ls_0 rfl ?_
                          refine g_i2l dX10_byX_326 (by first | (unfold gW; omega) | (unfold gW; split <;> omega)) ?_
                          refine g_lrem dX10_byX_327 (by unfold gX; omega) (by unfold gX; omega) (by omega) ?_
                          rw [tm_em (show 0 ≤ (p : Int) - r by omega)]
                          refine g_goto (tgt := 333) dX10_byX_328 rfl ?_
                          obtain ⟨r1, hr1e⟩ : ∃ r1 : Int, r1 = ((p : Int) - r) % p := ⟨_, rfl⟩
                          rw [← hr1e]
                          have hr1 : 0 ≤ r1 ∧ r1 < p := by rw [hr1e]; exact em_in hp _
                          have hG1 : gIv hp (dgi hp fa + dgi hp fb) c M1 r1 (rsD hp (dgi hp fa).toNat (dgi hp fb).toNat fa fb) := by
                            rw [hM1e]
                            refine gIv_sw hp hG hc.1 hwc (by omega) hkS ?_
                            rw [hr1e, zi_mod, zi_sub, zi_p]
                            letI := fR hp
                            generalize zi hp r = x
                            grind
                          refine g_lstore (ls2 := [(4, .long (gJ (r1))), (8, .int (gI (k))), (7, .int (gI (w))), (6, .int (gI (c))), (3, .int (gI ((dgi hp (fa)) + (dgi hp (fb))))), (2, .int (gI (dgi hp (fb)))), (1, .int (gI (dgi hp (fa)))), (0, .ref (B))]) dX10_byX_333 (by decide) rfl ?_
                          refine g_lload 0 dX10_byX_335 rfl ?_
                          refine g_aload_n 7 dX10_byX_337 rfl ?_
                          refine g_getf 7 dX10_byX_338 kX10 (by decide) fX10_29 cg_ls_0 rfl ?_
                          refine g_bipush dX10_byX_341 (by decide) ?_
                          refine g_iload 3 dX10_byX_343 rfl ?_
                          refine g_imul dX10_byX_345 ?_
                          refine g_iload 3 dX10_byX_346 rfl ?_
                          refine g_iadd dX10_byX_348 ?_
                          refine g_laload dX10_byX_349 f7b (by omega) (by omega) (by omega) ?_
                          have hq1 : a8 M1 (80 * c + c) = M1 c c := a8_r _ (by omega) (by omega)
                          rw [hq1]
                          have bp1 := g_prod hr1.1 hr1.2 (show 0 ≤ M1 c c by omega) hpv0.2 (show (p : Int) ≤ 65536 by omega)
                          refine g_lmul dX10_byX_350 ?_
                          refine g_aload_n 7 dX10_byX_351 rfl ?_
                          refine g_getf 0 dX10_byX_352 kX10 (by decide) fX10_78 cg_ls_0 rfl ?_
                          refine g_i2l dX10_byX_355 (by first | (unfold gW; omega) | (unfold gW; split <;> omega)) ?_
                          refine g_lrem dX10_byX_356 (by unfold gX; omega) (by unfold gX; omega) (by omega) ?_
                          rw [tm_em bp1.1]
                          obtain ⟨r2, hr2⟩ : ∃ r2 : Int, r2 = r1 * M1 c c % p := ⟨_, rfl⟩
                          rw [← hr2]
                          have hr2b : 0 ≤ r2 ∧ r2 < p := by rw [hr2]; exact em_in hp _
                          refine g_lstore (ls2 := [(4, .long (gJ (r2))), (8, .int (gI (k))), (7, .int (gI (w))), (6, .int (gI (c))), (3, .int (gI ((dgi hp (fa)) + (dgi hp (fb))))), (2, .int (gI (dgi hp (fb)))), (1, .int (gI (dgi hp (fa)))), (0, .ref (B))]) dX10_byX_357 (by decide) rfl ?_
                          refine g_aload_n 7 dX10_byX_359 rfl ?_
                          refine g_aload_n 7 dX10_byX_360 rfl ?_
                          refine g_getf 7 dX10_byX_361 kX10 (by decide) fX10_29 cg_ls_0 rfl ?_
                          refine g_bipush dX10_byX_364 (by decide) ?_
                          refine g_iload 3 dX10_byX_366 rfl ?_
                          refine g_imul dX10_byX_368 ?_
                          refine g_iload 3 dX10_byX_369 rfl ?_
                          refine g_iadd dX10_byX_371 ?_
                          refine g_laload dX10_byX_372 f7b (by omega) (by omega) (by omega) ?_
                          have hq2 : a8 M1 (80 * c + c) = M1 c c := a8_r _ (by omega) (by omega)
                          rw [hq2]
                          refine g_l2i dX10_byX_373 ?_
                          refine g_callV (nc2 := 0) (ns2 := 0) (ci := 10) (As := [.int (gI (M1 c c))]) (st := []) rfl dX10_byX_374 okX10_inverse lX10_173 itX10_inverse seX10_inverse rfl cg_ls_0 (by decide) (by decide) rfl (Nat.le_of_ble_eq_true rfl) (sM_inverse N _ B p hp hp2 hf le fc pn rn hn qn (M1 c c) cg_ls_0 (by omega) (by omega)) (by omega) (by omega) (fun v426 hc426 q426 => ?_)
                          obtain ⟨hq427, rfl⟩ := q426
                          refine Go.nf (h' := hls) (st' := [.int (gI (ivr p (M1 c c)))]) hq427 rfl (Nat.le_refl _) (Nat.le_refl _) ?_
                          have hiv := ivr_in hp (M1 c c)
                          refine g_i2l dX10_byX_377 (by first | (unfold gW; omega) | (unfold gW; split <;> omega)) ?_
                          refine g_lstore (ls2 := [(8, .long (gJ (ivr p (M1 c c)))), (4, .long (gJ (r2))), (7, .int (gI (w))), (6, .int (gI (c))), (3, .int (gI ((dgi hp (fa)) + (dgi hp (fb))))), (2, .int (gI (dgi hp (fb)))), (1, .int (gI (dgi hp (fa)))), (0, .ref (B))]) dX10_byX_378 (by decide) rfl ?_
                          refine g_iload 3 dX10_byX_380 rfl ?_
                          refine g_iconst dX10_byX_382 ?_
                          refine g_iadd dX10_byX_383 ?_
                          refine g_istore (ls2 := [(10, .int (gI ((c) + (1)))), (8, .long (gJ (ivr p (M1 c c)))), (4, .long (gJ (r2))), (7, .int (gI (w))), (6, .int (gI (c))), (3, .int (gI ((dgi hp (fa)) + (dgi hp (fb))))), (2, .int (gI (dgi hp (fb)))), (1, .int (gI (dgi hp (fa)))), (0, .ref (B))]) dX10_byX_384 (by decide) rfl ?_
                          have l1 : ∀ (kk : Nat) (i2 : Int) (M2 : Int → Int → Int) (hl1 : GH), kk = (80 - i2).toNat → MF B [B + 1, B + 3, B + 7] [2] h hl1 → hl1.2 (B + 4) = some (aI 1500 (gm)) → hl1.2 (B + 7) = some (aJ 6400 (a8 M2)) → hl1.2 (B + 8) = some (aI 11520 (g8)) → MP hp B hl1 (T) → MWA B hl1 → MG hp B hl1 (0) (fa) → MG hp B hl1 (1) (fb) → (c + 1 ≤ i2 ∧ i2 ≤ dgi hp fa + dgi hp fb) → (∀ a b : Int, 0 ≤ a → a < dgi hp fa + dgi hp fb → 0 ≤ b → b < dgi hp fa + dgi hp fb → 0 ≤ M2 a b ∧ M2 a b < p) → (∀ b, M2 c b = M1 c b) → (∀ a b, i2 ≤ a → M2 a b = M1 a b) → (letI := fR hp; ∀ a b, c < a → a < i2 → c ≤ b → b < dgi hp fa + dgi hp fb → zi hp (M2 a b) = zi hp (M1 a b) + (- (zi hp (M1 a c * ivr p (M1 c c)))) * zi hp (M1 c b)) → Go N mX10_byX (fun v h1 => Fr [B + 1, B + 3, B + 5, B + 7] h h1 ∧ MS B h1 ∧ ∃ w T2, Ou T (pa13 hp fa fb) w T2 ∧ v = some (.int (gI w)) ∧ MP hp B h1 T2) 0 0 hl1 386 [(10, .int (gI (i2))), (8, .long (gJ (ivr p (M1 c c)))), (4, .long (gJ (r2))), (7, .int (gI (w))), (6, .int (gI (c))), (3, .int (gI ((dgi hp (fa)) + (dgi hp (fb))))), (2, .int (gI (dgi hp (fb)))), (1, .int (gI (dgi hp (fa)))), (0, .ref (B))] [] := by
                            refine Go.ind (fun kk ih_l1 => ?_)
                            intro i2 M2 hl1 hkk_l1 fr_l1 cf_l1_0 cf_l1_1 cf_l1_2 cr_l1_0 cr_l1_1 cr_l1_2 cr_l1_3 hi2 hB2 hK0 hK hF
                            have cg_l1_0 : hl1.2 (B) = some (mO B ((p : Int)) (hf) (le) (fc) (pn) (rn) (hn) (qn)) := Fr.at0 (fr_l1).1 (Ni.c ⟨ne4, ne5⟩ (Ni.c ⟨ne0, ne1⟩ (Ni.c ⟨ne2, ne3⟩ (Ni.c ⟨ne6, ne7⟩ (Ni.n _))))) hm
                            refine g_iload 0 dX10_byX_386 rfl ?_
                            refine g_iload_n 5 dX10_byX_388 rfl ?_
                            refine g_icmp_ge (tgt := 500) dX10_byX_389 rfl (by first | (unfold gW; omega) | (unfold gW; split <;> omega)) (by first | (unfold gW; omega) | (unfold gW; split <;> omega)) (fun c528 => ?_) (fun c528 => ?_)
                            · skip
                              refine g_iinc 4 (ls2 := [(6, .int (gI (c + 1))), (10, .int (gI (i2))), (8, .long (gJ (ivr p (M1 c c)))), (4, .long (gJ (r2))), (7, .int (gI (w))), (3, .int (gI ((dgi hp (fa)) + (dgi hp (fb))))), (2, .int (gI (dgi hp (fb)))), (1, .int (gI (dgi hp (fa)))), (0, .ref (B))]) dX10_byX_500 rfl (by decide) rfl ?_
                              refine g_goto (tgt := 170) dX10_byX_503 rfl ?_
                              refine Go.sub [0, 3, 5, 6, 7, 8] rfl ?_
                              exact ih_lc _ (by omega) (c + 1) (r2) (M2) hl1 rfl fr_l1 cf_l1_0 cf_l1_1 cf_l1_2 cr_l1_0 cr_l1_1 cr_l1_2 cr_l1_3 (by omega) hr2b hB2 (gIv_s hp hG1 hc.1 (by omega) hpv0 hr2 hK0 (fun a b a0 a1 b0 b1 => hF a b a0 (by omega) b0 b1))
                            · skip
                              refine g_aload_n 8 dX10_byX_392 rfl ?_
                              refine g_getf 7 dX10_byX_393 kX10 (by decide) fX10_29 cg_l1_0 rfl ?_
                              refine g_bipush dX10_byX_396 (by decide) ?_
                              refine g_iload 0 dX10_byX_398 rfl ?_
                              refine g_imul dX10_byX_400 ?_
                              refine g_iload 4 dX10_byX_401 rfl ?_
                              refine g_iadd dX10_byX_403 ?_
                              refine g_laload dX10_byX_404 cf_l1_1 (by omega) (by omega) (by omega) ?_
                              have hq3 : a8 M2 (80 * i2 + c) = M2 i2 c := a8_r _ (by omega) (by omega)
                              rw [hq3]
                              have hb3 := hB2 i2 c (by omega) (by omega) (by omega) (by omega)
                              have bp3 := g_prod hb3.1 hb3.2 hiv.1 hiv.2 (show (p : Int) ≤ 65536 by omega)
                              refine g_lload 1 dX10_byX_405 rfl ?_
                              refine g_lmul dX10_byX_407 ?_
                              refine g_aload_n 8 dX10_byX_408 rfl ?_
                              refine g_getf 0 dX10_byX_409 kX10 (by decide) fX10_78 cg_l1_0 rfl ?_
                              refine g_i2l dX10_byX_412 (by first | (unfold gW; omega) | (unfold gW; split <;> omega)) ?_
                              refine g_lrem dX10_byX_413 (by unfold gX; omega) (by unfold gX; omega) (by omega) ?_
                              rw [tm_em bp3.1]
                              obtain ⟨f, hfe⟩ : ∃ f : Int, f = M2 i2 c * ivr p (M1 c c) % p := ⟨_, rfl⟩
                              rw [← hfe]
                              have hfb : 0 ≤ f ∧ f < p := by rw [hfe]; exact em_in hp _
                              refine g_lstore (ls2 := [(11, .long (gJ (f))), (10, .int (gI (i2))), (8, .long (gJ (ivr p (M1 c c)))), (4, .long (gJ (r2))), (7, .int (gI (w))), (6, .int (gI (c))), (3, .int (gI ((dgi hp (fa)) + (dgi hp (fb))))), (2, .int (gI (dgi hp (fb)))), (1, .int (gI (dgi hp (fa)))), (0, .ref (B))]) dX10_byX_414 (by decide) rfl ?_
                              refine g_iload 5 dX10_byX_416 rfl ?_
                              refine g_istore (ls2 := [(13, .int (gI (c))), (11, .long (gJ (f))), (10, .int (gI (i2))), (8, .long (gJ (ivr p (M1 c c)))), (4, .long (gJ (r2))), (7, .int (gI (w))), (6, .int (gI (c))), (3, .int (gI ((dgi hp (fa)) + (dgi hp (fb))))), (2, .int (gI (dgi hp (fb)))), (1, .int (gI (dgi hp (fa)))), (0, .ref (B))]) dX10_byX_418 (by decide) rfl ?_
                              have l2 : ∀ (kk : Nat) (k2 : Int) (hl2 : GH), kk = (80 - k2).toNat → MF B [B + 1, B + 3, B + 7] [2] h hl2 → hl2.2 (B + 4) = some (aI 1500 (gm)) → hl2.2 (B + 7) = some (aJ 6400 (a8 (gup M2 i2 (rwL p M2 f c i2 k2)))) → hl2.2 (B + 8) = some (aI 11520 (g8)) → MP hp B hl2 (T) → MWA B hl2 → MG hp B hl2 (0) (fa) → MG hp B hl2 (1) (fb) → (c ≤ k2 ∧ k2 ≤ dgi hp fa + dgi hp fb) → (k2 = c ∨ f ≠ 0) → Go N mX10_byX (fun v h1 => Fr [B + 1, B + 3, B + 5, B + 7] h h1 ∧ MS B h1 ∧ ∃ w T2, Ou T (pa13 hp fa fb) w T2 ∧ v = some (.int (gI w)) ∧ MP hp B h1 T2) 0 0 hl2 420 [(13, .int (gI (k2))), (11, .long (gJ (f))), (10, .int (gI (i2))), (8, .long (gJ (ivr p (M1 c c)))), (4, .long (gJ (r2))), (7, .int (gI (w))), (6, .int (gI (c))), (3, .int (gI ((dgi hp (fa)) + (dgi hp (fb))))), (2, .int (gI (dgi hp (fb)))), (1, .int (gI (dgi hp (fa)))), (0, .ref (B))] [] := by
                                refine Go.ind (fun kk ih_l2 => ?_)
                                intro k2 hl2 hkk_l2 fr_l2 cf_l2_0 cf_l2_1 cf_l2_2 cr_l2_0 cr_l2_1 cr_l2_2 cr_l2_3 hk2 hkf
                                have cg_l2_0 : hl2.2 (B) = some (mO B ((p : Int)) (hf) (le) (fc) (pn) (rn) (hn) (qn)) := Fr.at0 (fr_l2).1 (Ni.c ⟨ne4, ne5⟩ (Ni.c ⟨ne0, ne1⟩ (Ni.c ⟨ne2, ne3⟩ (Ni.c ⟨ne6, ne7⟩ (Ni.n _))))) hm
                                refine g_iload 0 dX10_byX_420 rfl ?_
                                refine g_iload_n 7 dX10_byX_422 rfl ?_
                                refine g_icmp_ge (tgt := 494) dX10_byX_423 rfl (by first | (unfold gW; omega) | (unfold gW; split <;> omega)) (by first | (unfold gW; omega) | (unfold gW; split <;> omega)) (fun c629 => ?_) (fun c629 => ?_)
                                · skip
                                  refine g_iinc 2 (ls2 := [(10, .int (gI (i2 + 1))), (13, .int (gI (k2))), (11, .long (gJ (f))), (8, .long (gJ (ivr p (M1 c c)))), (4, .long (gJ (r2))), (7, .int (gI (w))), (6, .int (gI (c))), (3, .int (gI ((dgi hp (fa)) + (dgi hp (fb))))), (2, .int (gI (dgi hp (fb)))), (1, .int (gI (dgi hp (fa)))), (0, .ref (B))]) dX10_byX_494 rfl (by decide) rfl ?_
                                  refine g_goto (tgt := 386) dX10_byX_497 rfl ?_
                                  refine Go.sub [0, 3, 4, 5, 6, 7, 8, 9, 10] rfl ?_
                                  exact ih_l1 _ (by omega) (i2 + 1) (gup M2 i2 (rwL p M2 f c i2 k2)) hl2 rfl fr_l2 cf_l2_0 cf_l2_1 cf_l2_2 cr_l2_0 cr_l2_1 cr_l2_2 cr_l2_3 (by omega) (fun a b a0 a1 b0 b1 => by
                                                            by_cases z : a = i2
                                                            · rw [z, gup_s]; exact rwL_bd hp (hB2 i2 b (by omega) (by omega) b0 b1)
                                                            · rw [gup_n _ _ z]; exact hB2 a b a0 a1 b0 b1) (fun b => by rw [gup_n _ _ (by omega)]; exact hK0 b) (fun a b a0 => by rw [gup_n _ _ (by omega)]; exact hK a b (by omega)) (fun a b a0 a1 b0 b1 => by
                                                            letI := fR hp
                                                            by_cases z : a = i2
                                                            · rw [z, gup_s]
                                                              unfold rwL
                                                              rw [if_pos (by omega), zi_mod, zi_add, zi_mul, zi_sub, zi_p, hK i2 b (by omega), hK0 b, hfe, zi_mod, hK i2 c (by omega)]
                                                              generalize zi hp (M1 i2 b) = x
                                                              generalize zi hp (M1 c b) = y
                                                              generalize zi hp (M1 i2 c * ivr p (M1 c c)) = u
                                                              grind
                                                            · rw [gup_n _ _ z]; exact hF a b a0 (by omega) b0 b1)
                                · skip
                                  refine g_lload 1 dX10_byX_426 rfl ?_
                                  refine g_lconst0 dX10_byX_428 ?_
                                  refine g_lcmp dX10_byX_429 (by unfold gX; omega) (by unfold gX; omega) ?_
                                  refine g_if_eq (tgt := 494) dX10_byX_430 rfl (gW_cmp _ _) (fun c630 => ?_) (fun c630 => ?_)
                                  · skip
                                    have hf0 := gcmp_eq.mp c630
                                    refine g_iinc 2 (ls2 := [(10, .int (gI (i2 + 1))), (13, .int (gI (k2))), (11, .long (gJ (f))), (8, .long (gJ (ivr p (M1 c c)))), (4, .long (gJ (r2))), (7, .int (gI (w))), (6, .int (gI (c))), (3, .int (gI ((dgi hp (fa)) + (dgi hp (fb))))), (2, .int (gI (dgi hp (fb)))), (1, .int (gI (dgi hp (fa)))), (0, .ref (B))]) dX10_byX_494 rfl (by decide) rfl ?_
                                    refine g_goto (tgt := 386) dX10_byX_497 rfl ?_
                                    refine Go.sub [0, 3, 4, 5, 6, 7, 8, 9, 10] rfl ?_
                                    exact ih_l1 _ (by omega) (i2 + 1) (M2) hl2 rfl fr_l2 cf_l2_0 (by
                                                            have hkc : k2 = c := by omega
                                                            have e9 := cf_l2_1
                                                            rw [hkc, rwL_0, gup_id] at e9
                                                            exact e9) cf_l2_2 cr_l2_0 cr_l2_1 cr_l2_2 cr_l2_3 (by omega) hB2 hK0 (fun a b a0 => hK a b (by omega)) (fun a b a0 a1 b0 b1 => by
                                                            letI := fR hp
                                                            rcases Int.lt_or_le a i2 with z | z
                                                            · exact hF a b a0 z b0 b1
                                                            · have ea : a = i2 := by omega
                                                              have e9 : zi hp (M1 a c * ivr p (M1 c c)) = 0 := by
                                                                rw [ea, ← hK i2 c (by omega), ← zi_mod, ← hfe, hf0, zi_0]
                                                              rw [e9, hK a b (by omega)]
                                                              generalize zi hp (M1 a b) = x
                                                              generalize zi hp (M1 c b) = y
                                                              grind)
                                  · skip
                                    have hf0 : ¬ f = 0 := fun z => c630 (gcmp_eq.mpr z)
                                    refine g_aload_n 10 dX10_byX_433 rfl ?_
                                    refine g_getf 7 dX10_byX_434 kX10 (by decide) fX10_29 cg_l2_0 rfl ?_
                                    refine g_bipush dX10_byX_437 (by decide) ?_
                                    refine g_iload 2 dX10_byX_439 rfl ?_
                                    refine g_imul dX10_byX_441 ?_
                                    refine g_iload 0 dX10_byX_442 rfl ?_
                                    refine g_iadd dX10_byX_444 ?_
                                    refine g_aload_n 10 dX10_byX_445 rfl ?_
                                    refine g_getf 7 dX10_byX_446 kX10 (by decide) fX10_29 cg_l2_0 rfl ?_
                                    refine g_bipush dX10_byX_449 (by decide) ?_
                                    refine g_iload 2 dX10_byX_451 rfl ?_
                                    refine g_imul dX10_byX_453 ?_
                                    refine g_iload 0 dX10_byX_454 rfl ?_
                                    refine g_iadd dX10_byX_456 ?_
                                    refine g_laload dX10_byX_457 cf_l2_1 (by omega) (by omega) (by omega) ?_
                                    have hq4 : a8 (gup M2 i2 (rwL p M2 f c i2 k2)) (80 * i2 + k2) = M2 i2 k2 := by rw [a8_r _ (by omega) (by omega), gup_s, rwL_at]
                                    rw [hq4]
                                    have hb4 := hB2 i2 k2 (by omega) (by omega) (by omega) (by omega)
                                    refine g_aload_n 10 dX10_byX_458 rfl ?_
                                    refine g_getf 0 dX10_byX_459 kX10 (by decide) fX10_78 cg_l2_0 rfl ?_
                                    refine g_i2l dX10_byX_462 (by first | (unfold gW; omega) | (unfold gW; split <;> omega)) ?_
                                    refine g_lload 1 dX10_byX_463 rfl ?_
                                    refine g_lsub dX10_byX_465 ?_
                                    refine g_aload_n 10 dX10_byX_466 rfl ?_
                                    refine g_getf 7 dX10_byX_467 kX10 (by decide) fX10_29 cg_l2_0 rfl ?_
                                    refine g_bipush dX10_byX_470 (by decide) ?_
                                    refine g_iload 6 dX10_byX_472 rfl ?_
                                    refine g_imul dX10_byX_474 ?_
                                    refine g_iload 0 dX10_byX_475 rfl ?_
                                    refine g_iadd dX10_byX_477 ?_
                                    refine g_laload dX10_byX_478 cf_l2_1 (by omega) (by omega) (by omega) ?_
                                    have hq5 : a8 (gup M2 i2 (rwL p M2 f c i2 k2)) (80 * c + k2) = M2 c k2 := by rw [a8_r _ (by omega) (by omega), gup_n _ _ (by omega)]
                                    rw [hq5]
                                    have hb5 := hB2 c k2 (by omega) (by omega) (by omega) (by omega)
                                    have bm : 0 ≤ (p - f) * M2 c k2 ∧ (p - f) * M2 c k2 ≤ 65536 * 65536 := ⟨Int.mul_nonneg (by omega) hb5.1, Int.mul_le_mul (by omega) (by omega) hb5.1 (by omega)⟩
                                    refine g_lmul dX10_byX_479 ?_
                                    refine g_ladd dX10_byX_480 ?_
                                    refine g_aload_n 10 dX10_byX_481 rfl ?_
                                    refine g_getf 0 dX10_byX_482 kX10 (by decide) fX10_78 cg_l2_0 rfl ?_
                                    refine g_i2l dX10_byX_485 (by first | (unfold gW; omega) | (unfold gW; split <;> omega)) ?_
                                    refine g_lrem dX10_byX_486 (by unfold gX; omega) (by unfold gX; omega) (by omega) ?_
                                    rw [tm_em (show 0 ≤ M2 i2 k2 + (p - f) * M2 c k2 by omega)]
                                    refine g_lastore dX10_byX_487 cf_l2_1 (by omega) (by omega) (by omega) ?_
                                    obtain ⟨hh631, eh631⟩ : ∃ z : GH, z = hset hl2 (B + 7) (aJ 6400 (gup (a8 (gup M2 i2 (rwL p M2 f c i2 k2))) (((80) * (i2)) + (k2)) ((M2 i2 k2 + (p - f) * M2 c k2) % p))) := ⟨_, rfl⟩
                                    refine Go.hp eh631.symm ?_
                                    have fx631 : Fr [B + 7] hl2 hh631 := Fr.w0 (Fr.rf _ _) (List.Mem.head _) eh631
                                    have fh631_3 : hh631.2 (B + 8) = some (aI 11520 (g8)) := hs_n eh631 (ne35).s cf_l2_2
                                    have fhw631 : hh631.2 (B + 7) = some (aJ 6400 (gup (a8 (gup M2 i2 (rwL p M2 f c i2 k2))) (((80) * (i2)) + (k2)) ((M2 i2 k2 + (p - f) * M2 c k2) % p))) := hs_s eh631
                                    have mfz632 : MF B [B + 7] [] hl2 hh631 := MF.of fx631 (fr_l2).2.1 (Ni.c ⟨ne31, ne32⟩ (Ni.n _)) (Ni.c ⟨ne33, ne34⟩ (Ni.n _)) []
                                    have fk633_0 : hh631.2 (B) = some (mO B ((p : Int)) (hf) (le) (fc) (pn) (rn) (hn) (qn)) := Fr.at0 (mfz632).1 (Ni.c ⟨ne4, ne5⟩ (Ni.c ⟨ne6, ne7⟩ (Ni.n _))) cg_l2_0
                                    have fk633_1 : hh631.2 (B + 4) = some (aI 1500 (gm)) := Fr.at0 (mfz632).1 (Ni.c ⟨ne26, ne27⟩ (Ni.c ⟨ne28, ne29⟩ (Ni.n _))) cf_l2_0
                                    have rk633_0 : MP hp B hh631 (T) := (cr_l2_0).fr (mfz632).1 (Ni.c ⟨ne11, ne12⟩ (Ni.c ⟨ne13, ne14⟩ (Ni.n _))) (Ni.c ⟨ne17, ne18⟩ (Ni.c ⟨ne19, ne20⟩ (Ni.n _)))
                                    have rk633_1 : MWA B hh631 := (cr_l2_1).fr (mfz632).1 (Ni.c ⟨ne22, ne23⟩ (Ni.c ⟨ne24, ne25⟩ (Ni.n _)))
                                    have rk633_2 : MG hp B hh631 (0) (fa) := (cr_l2_2).fr hp2 mfz632 Nr.n
                                    have rk633_3 : MG hp B hh631 (1) (fb) := (cr_l2_3).fr hp2 mfz632 Nr.n
                                    have fr633 : MF B [B + 1, B + 3, B + 7] [2] h hh631 := (fr_l2).tr ((mfz632).mo (sub_c (List.Mem.tail _ (List.Mem.tail _ (List.Mem.head _))) sub_n) sbI_n)
                                    refine g_iinc 0 (ls2 := [(13, .int (gI (k2 + 1))), (11, .long (gJ (f))), (10, .int (gI (i2))), (8, .long (gJ (ivr p (M1 c c)))), (4, .long (gJ (r2))), (7, .int (gI (w))), (6, .int (gI (c))), (3, .int (gI ((dgi hp (fa)) + (dgi hp (fb))))), (2, .int (gI (dgi hp (fb)))), (1, .int (gI (dgi hp (fa)))), (0, .ref (B))]) dX10_byX_488 rfl (by decide) rfl ?_
                                    refine g_goto (tgt := 420) dX10_byX_491 rfl ?_
                                    exact ih_l2 _ (by omega) (k2 + 1) hh631 rfl fr633 fk633_1 (by
                                                            have e9 := fhw631
                                                            rw [a8_wg _ _ (by omega) (by omega), rwL_s M2 hk2.1] at e9
                                                            exact e9) fh631_3 rk633_0 rk633_1 rk633_2 rk633_3 (by omega) (Or.inr (by omega))
                              exact l2 _ (c) hl1 rfl fr_l1 cf_l1_0 (by rw [rwL_0, gup_id]; exact cf_l1_1) cf_l1_2 cr_l1_0 cr_l1_1 cr_l1_2 cr_l1_3 (by omega) (Or.inl rfl)
                          exact l1 _ (c + 1) (M1) hls rfl fr_ls cf_ls_0 f7b cf_ls_2 cr_ls_0 cr_ls_1 cr_ls_2 cr_ls_3 (by omega) hB1 (fun b => rfl) (fun a b _ => rfl) (fun a b a0 a1 b0 b1 => by omega)
                        · skip
                          refine g_iload 1 dX10_byX_238 rfl ?_
                          refine g_iload 2 dX10_byX_240 rfl ?_
                          refine g_icmp_eq (tgt := 307) dX10_byX_242 rfl (by first | (unfold gW; omega) | (unfold gW; split <;> omega)) (by first | (unfold gW; omega) | (unfold gW; split <;> omega)) (fun c834 => ?_) (fun c834 => ?_)
                          · skip
                            have hk0 : k = 0 := by omega
                            have hwc : w = c := by omega
                            obtain ⟨M1, hM1e⟩ : ∃ M1 : Int → Int → Int, M1 = M := ⟨_, rfl⟩
                            have f7b : hls.2 (B + 7) = some (aJ 6400 (a8 M1)) := by
                              have e9 := cf_ls_1
                              rw [hk0, swK_0] at e9
                              rw [hM1e]; exact e9
                            have hB1 : ∀ a b : Int, 0 ≤ a → a < dgi hp fa + dgi hp fb → 0 ≤ b → b < dgi hp fa + dgi hp fb → 0 ≤ M1 a b ∧ M1 a b < p := by rw [hM1e]; exact hB
                            have hpv : M1 c c = M w c := by rw [hM1e, hwc]
                            have hbw9 := hB w c (by omega) (by omega) (by omega) (by omega)
                            have hpv0 : 0 < M1 c c ∧ M1 c c < p := by rw [hpv]; omega
                            refine g_iload 1 dX10_byX_307 rfl ?_
                            refine g_iload 2 dX10_byX_309 rfl ?_
                            refine g_icmp_eq (tgt := 331) dX10_byX_311 rfl (by first | (unfold gW; omega) | (unfold gW; split <;> omega)) (by first | (unfold gW; omega) | (unfold gW; split <;> omega)) (fun c835 => ?_) (fun c835 => absurd c835 (by omega))
                            refine g_lload 3 dX10_byX_331 rfl ?_
                            obtain ⟨r1, hr1e⟩ : ∃ r1 : Int, r1 = r := ⟨_, rfl⟩
                            rw [← hr1e]
                            have hr1 : 0 ≤ r1 ∧ r1 < p := by rw [hr1e]; exact hr
                            have hG1 : gIv hp (dgi hp fa + dgi hp fb) c M1 r1 (rsD hp (dgi hp fa).toNat (dgi hp fb).toNat fa fb) := by rw [hM1e, hr1e]; exact hG
                            refine g_lstore (ls2 := [(4, .long (gJ (r1))), (8, .int (gI (k))), (7, .int (gI (w))), (6, .int (gI (c))), (3, .int (gI ((dgi hp (fa)) + (dgi hp (fb))))), (2, .int (gI (dgi hp (fb)))), (1, .int (gI (dgi hp (fa)))), (0, .ref (B))]) dX10_byX_333 (by decide) rfl ?_
                            refine g_lload 0 dX10_byX_335 rfl ?_
                            refine g_aload_n 7 dX10_byX_337 rfl ?_
                            refine g_getf 7 dX10_byX_338 kX10 (by decide) fX10_29 cg_ls_0 rfl ?_
                            refine g_bipush dX10_byX_341 (by decide) ?_
                            refine g_iload 3 dX10_byX_343 rfl ?_
                            refine g_imul dX10_byX_345 ?_
                            refine g_iload 3 dX10_byX_346 rfl ?_
                            refine g_iadd dX10_byX_348 ?_
                            refine g_laload dX10_byX_349 f7b (by omega) (by omega) (by omega) ?_
                            have hq1 : a8 M1 (80 * c + c) = M1 c c := a8_r _ (by omega) (by omega)
                            rw [hq1]
                            have bp1 := g_prod hr1.1 hr1.2 (show 0 ≤ M1 c c by omega) hpv0.2 (show (p : Int) ≤ 65536 by omega)
                            refine g_lmul dX10_byX_350 ?_
                            refine g_aload_n 7 dX10_byX_351 rfl ?_
                            refine g_getf 0 dX10_byX_352 kX10 (by decide) fX10_78 cg_ls_0 rfl ?_
                            refine g_i2l dX10_byX_355 (by first | (unfold gW; omega) | (unfold gW; split <;> omega)) ?_
                            refine g_lrem dX10_byX_356 (by unfold gX; omega) (by unfold gX; omega) (by omega) ?_
                            rw [tm_em bp1.1]
                            obtain ⟨r2, hr2⟩ : ∃ r2 : Int, r2 = r1 * M1 c c % p := ⟨_, rfl⟩
                            rw [← hr2]
                            have hr2b : 0 ≤ r2 ∧ r2 < p := by rw [hr2]; exact em_in hp _
                            refine g_lstore (ls2 := [(4, .long (gJ (r2))), (8, .int (gI (k))), (7, .int (gI (w))), (6, .int (gI (c))), (3, .int (gI ((dgi hp (fa)) + (dgi hp (fb))))), (2, .int (gI (dgi hp (fb)))), (1, .int (gI (dgi hp (fa)))), (0, .ref (B))]) dX10_byX_357 (by decide) rfl ?_
                            refine g_aload_n 7 dX10_byX_359 rfl ?_
                            refine g_aload_n 7 dX10_byX_360 rfl ?_
                            refine g_getf 7 dX10_byX_361 kX10 (by decide) fX10_29 cg_ls_0 rfl ?_
                            refine g_bipush dX10_byX_364 (by decide) ?_
                            refine g_iload 3 dX10_byX_366 rfl ?_
                            refine g_imul dX10_byX_368 ?_
                            refine g_iload 3 dX10_byX_369 rfl ?_
                            refine g_iadd dX10_byX_371 ?_
                            refine g_laload dX10_byX_372 f7b (by omega) (by omega) (by omega) ?_
                            have hq2 : a8 M1 (80 * c + c) = M1 c c := a8_r _ (by omega) (by omega)
                            rw [hq2]
                            refine g_l2i dX10_byX_373 ?_
                            refine g_callV (nc2 := 0) (ns2 := 0) (ci := 10) (As := [.int (gI (M1 c c))]) (st := []) rfl dX10_byX_374 okX10_inverse lX10_173 itX10_inverse seX10_inverse rfl cg_ls_0 (by decide) (by decide) rfl (Nat.le_of_ble_eq_true rfl) (sM_inverse N _ B p hp hp2 hf le fc pn rn hn qn (M1 c c) cg_ls_0 (by omega) (by omega)) (by omega) (by omega) (fun v836 hc836 q836 => ?_)
                            obtain ⟨hq837, rfl⟩ := q836
                            refine Go.nf (h' := hls) (st' := [.int (gI (ivr p (M1 c c)))]) hq837 rfl (Nat.le_refl _) (Nat.le_refl _) ?_
                            have hiv := ivr_in hp (M1 c c)
                            refine g_i2l dX10_byX_377 (by first | (unfold gW; omega) | (unfold gW; split <;> omega)) ?_
                            refine g_lstore (ls2 := [(8, .long (gJ (ivr p (M1 c c)))), (4, .long (gJ (r2))), (7, .int (gI (w))), (6, .int (gI (c))), (3, .int (gI ((dgi hp (fa)) + (dgi hp (fb))))), (2, .int (gI (dgi hp (fb)))), (1, .int (gI (dgi hp (fa)))), (0, .ref (B))]) dX10_byX_378 (by decide) rfl ?_
                            refine g_iload 3 dX10_byX_380 rfl ?_
                            refine g_iconst dX10_byX_382 ?_
                            refine g_iadd dX10_byX_383 ?_
                            refine g_istore (ls2 := [(10, .int (gI ((c) + (1)))), (8, .long (gJ (ivr p (M1 c c)))), (4, .long (gJ (r2))), (7, .int (gI (w))), (6, .int (gI (c))), (3, .int (gI ((dgi hp (fa)) + (dgi hp (fb))))), (2, .int (gI (dgi hp (fb)))), (1, .int (gI (dgi hp (fa)))), (0, .ref (B))]) dX10_byX_384 (by decide) rfl ?_
                            have l1 : ∀ (kk : Nat) (i2 : Int) (M2 : Int → Int → Int) (hl1 : GH), kk = (80 - i2).toNat → MF B [B + 1, B + 3, B + 7] [2] h hl1 → hl1.2 (B + 4) = some (aI 1500 (gm)) → hl1.2 (B + 7) = some (aJ 6400 (a8 M2)) → hl1.2 (B + 8) = some (aI 11520 (g8)) → MP hp B hl1 (T) → MWA B hl1 → MG hp B hl1 (0) (fa) → MG hp B hl1 (1) (fb) → (c + 1 ≤ i2 ∧ i2 ≤ dgi hp fa + dgi hp fb) → (∀ a b : Int, 0 ≤ a → a < dgi hp fa + dgi hp fb → 0 ≤ b → b < dgi hp fa + dgi hp fb → 0 ≤ M2 a b ∧ M2 a b < p) → (∀ b, M2 c b = M1 c b) → (∀ a b, i2 ≤ a → M2 a b = M1 a b) → (letI := fR hp; ∀ a b, c < a → a < i2 → c ≤ b → b < dgi hp fa + dgi hp fb → zi hp (M2 a b) = zi hp (M1 a b) + (- (zi hp (M1 a c * ivr p (M1 c c)))) * zi hp (M1 c b)) → Go N mX10_byX (fun v h1 => Fr [B + 1, B + 3, B + 5, B + 7] h h1 ∧ MS B h1 ∧ ∃ w T2, Ou T (pa13 hp fa fb) w T2 ∧ v = some (.int (gI w)) ∧ MP hp B h1 T2) 0 0 hl1 386 [(10, .int (gI (i2))), (8, .long (gJ (ivr p (M1 c c)))), (4, .long (gJ (r2))), (7, .int (gI (w))), (6, .int (gI (c))), (3, .int (gI ((dgi hp (fa)) + (dgi hp (fb))))), (2, .int (gI (dgi hp (fb)))), (1, .int (gI (dgi hp (fa)))), (0, .ref (B))] [] := by
                              refine Go.ind (fun kk ih_l1 => ?_)
                              intro i2 M2 hl1 hkk_l1 fr_l1 cf_l1_0 cf_l1_1 cf_l1_2 cr_l1_0 cr_l1_1 cr_l1_2 cr_l1_3 hi2 hB2 hK0 hK hF
                              have cg_l1_0 : hl1.2 (B) = some (mO B ((p : Int)) (hf) (le) (fc) (pn) (rn) (hn) (qn)) := Fr.at0 (fr_l1).1 (Ni.c ⟨ne4, ne5⟩ (Ni.c ⟨ne0, ne1⟩ (Ni.c ⟨ne2, ne3⟩ (Ni.c ⟨ne6, ne7⟩ (Ni.n _))))) hm
                              refine g_iload 0 dX10_byX_386 rfl ?_
                              refine g_iload_n 5 dX10_byX_388 rfl ?_
                              refine g_icmp_ge (tgt := 500) dX10_byX_389 rfl (by first | (unfold gW; omega) | (unfold gW; split <;> omega)) (by first | (unfold gW; omega) | (unfold gW; split <;> omega)) (fun c938 => ?_) (fun c938 => ?_)
                              · skip
                                refine g_iinc 4 (ls2 := [(6, .int (gI (c + 1))), (10, .int (gI (i2))), (8, .long (gJ (ivr p (M1 c c)))), (4, .long (gJ (r2))), (7, .int (gI (w))), (3, .int (gI ((dgi hp (fa)) + (dgi hp (fb))))), (2, .int (gI (dgi hp (fb)))), (1, .int (gI (dgi hp (fa)))), (0, .ref (B))]) dX10_byX_500 rfl (by decide) rfl ?_
                                refine g_goto (tgt := 170) dX10_byX_503 rfl ?_
                                refine Go.sub [0, 3, 5, 6, 7, 8] rfl ?_
                                exact ih_lc _ (by omega) (c + 1) (r2) (M2) hl1 rfl fr_l1 cf_l1_0 cf_l1_1 cf_l1_2 cr_l1_0 cr_l1_1 cr_l1_2 cr_l1_3 (by omega) hr2b hB2 (gIv_s hp hG1 hc.1 (by omega) hpv0 hr2 hK0 (fun a b a0 a1 b0 b1 => hF a b a0 (by omega) b0 b1))
                              · skip
                                refine g_aload_n 8 dX10_byX_392 rfl ?_
                                refine g_getf 7 dX10_byX_393 kX10 (by decide) fX10_29 cg_l1_0 rfl ?_
                                refine g_bipush dX10_byX_396 (by decide) ?_
                                refine g_iload 0 dX10_byX_398 rfl ?_
                                refine g_imul dX10_byX_400 ?_
                                refine g_iload 4 dX10_byX_401 rfl ?_
                                refine g_iadd dX10_byX_403 ?_
                                refine g_laload dX10_byX_404 cf_l1_1 (by omega) (by omega) (by omega) ?_
                                have hq3 : a8 M2 (80 * i2 + c) = M2 i2 c := a8_r _ (by omega) (by omega)
                                rw [hq3]
                                have hb3 := hB2 i2 c (by omega) (by omega) (by omega) (by omega)
                                have bp3 := g_prod hb3.1 hb3.2 hiv.1 hiv.2 (show (p : Int) ≤ 65536 by omega)
                                refine g_lload 1 dX10_byX_405 rfl ?_
                                refine g_lmul dX10_byX_407 ?_
                                refine g_aload_n 8 dX10_byX_408 rfl ?_
                                refine g_getf 0 dX10_byX_409 kX10 (by decide) fX10_78 cg_l1_0 rfl ?_
                                refine g_i2l dX10_byX_412 (by first | (unfold gW; omega) | (unfold gW; split <;> omega)) ?_
                                refine g_lrem dX10_byX_413 (by unfold gX; omega) (by unfold gX; omega) (by omega) ?_
                                rw [tm_em bp3.1]
                                obtain ⟨f, hfe⟩ : ∃ f : Int, f = M2 i2 c * ivr p (M1 c c) % p := ⟨_, rfl⟩
                                rw [← hfe]
                                have hfb : 0 ≤ f ∧ f < p := by rw [hfe]; exact em_in hp _
                                refine g_lstore (ls2 := [(11, .long (gJ (f))), (10, .int (gI (i2))), (8, .long (gJ (ivr p (M1 c c)))), (4, .long (gJ (r2))), (7, .int (gI (w))), (6, .int (gI (c))), (3, .int (gI ((dgi hp (fa)) + (dgi hp (fb))))), (2, .int (gI (dgi hp (fb)))), (1, .int (gI (dgi hp (fa)))), (0, .ref (B))]) dX10_byX_414 (by decide) rfl ?_
                                refine g_iload 5 dX10_byX_416 rfl ?_
                                refine g_istore (ls2 := [(13, .int (gI (c))), (11, .long (gJ (f))), (10, .int (gI (i2))), (8, .long (gJ (ivr p (M1 c c)))), (4, .long (gJ (r2))), (7, .int (gI (w))), (6, .int (gI (c))), (3, .int (gI ((dgi hp (fa)) + (dgi hp (fb))))), (2, .int (gI (dgi hp (fb)))), (1, .int (gI (dgi hp (fa)))), (0, .ref (B))]) dX10_byX_418 (by decide) rfl ?_
                                have l2 : ∀ (kk : Nat) (k2 : Int) (hl2 : GH), kk = (80 - k2).toNat → MF B [B + 1, B + 3, B + 7] [2] h hl2 → hl2.2 (B + 4) = some (aI 1500 (gm)) → hl2.2 (B + 7) = some (aJ 6400 (a8 (gup M2 i2 (rwL p M2 f c i2 k2)))) → hl2.2 (B + 8) = some (aI 11520 (g8)) → MP hp B hl2 (T) → MWA B hl2 → MG hp B hl2 (0) (fa) → MG hp B hl2 (1) (fb) → (c ≤ k2 ∧ k2 ≤ dgi hp fa + dgi hp fb) → (k2 = c ∨ f ≠ 0) → Go N mX10_byX (fun v h1 => Fr [B + 1, B + 3, B + 5, B + 7] h h1 ∧ MS B h1 ∧ ∃ w T2, Ou T (pa13 hp fa fb) w T2 ∧ v = some (.int (gI w)) ∧ MP hp B h1 T2) 0 0 hl2 420 [(13, .int (gI (k2))), (11, .long (gJ (f))), (10, .int (gI (i2))), (8, .long (gJ (ivr p (M1 c c)))), (4, .long (gJ (r2))), (7, .int (gI (w))), (6, .int (gI (c))), (3, .int (gI ((dgi hp (fa)) + (dgi hp (fb))))), (2, .int (gI (dgi hp (fb)))), (1, .int (gI (dgi hp (fa)))), (0, .ref (B))] [] := by
                                  refine Go.ind (fun kk ih_l2 => ?_)
                                  intro k2 hl2 hkk_l2 fr_l2 cf_l2_0 cf_l2_1 cf_l2_2 cr_l2_0 cr_l2_1 cr_l2_2 cr_l2_3 hk2 hkf
                                  have cg_l2_0 : hl2.2 (B) = some (mO B ((p : Int)) (hf) (le) (fc) (pn) (rn) (hn) (qn)) := Fr.at0 (fr_l2).1 (Ni.c ⟨ne4, ne5⟩ (Ni.c ⟨ne0, ne1⟩ (Ni.c ⟨ne2, ne3⟩ (Ni.c ⟨ne6, ne7⟩ (Ni.n _))))) hm
                                  refine g_iload 0 dX10_byX_420 rfl ?_
                                  refine g_iload_n 7 dX10_byX_422 rfl ?_
                                  refine g_icmp_ge (tgt := 494) dX10_byX_423 rfl (by first | (unfold gW; omega) | (unfold gW; split <;> omega)) (by first | (unfold gW; omega) | (unfold gW; split <;> omega)) (fun c1039 => ?_) (fun c1039 => ?_)
                                  · skip
                                    refine g_iinc 2 (ls2 := [(10, .int (gI (i2 + 1))), (13, .int (gI (k2))), (11, .long (gJ (f))), (8, .long (gJ (ivr p (M1 c c)))), (4, .long (gJ (r2))), (7, .int (gI (w))), (6, .int (gI (c))), (3, .int (gI ((dgi hp (fa)) + (dgi hp (fb))))), (2, .int (gI (dgi hp (fb)))), (1, .int (gI (dgi hp (fa)))), (0, .ref (B))]) dX10_byX_494 rfl (by decide) rfl ?_
                                    refine g_goto (tgt := 386) dX10_byX_497 rfl ?_
                                    refine Go.sub [0, 3, 4, 5, 6, 7, 8, 9, 10] rfl ?_
                                    exact ih_l1 _ (by omega) (i2 + 1) (gup M2 i2 (rwL p M2 f c i2 k2)) hl2 rfl fr_l2 cf_l2_0 cf_l2_1 cf_l2_2 cr_l2_0 cr_l2_1 cr_l2_2 cr_l2_3 (by omega) (fun a b a0 a1 b0 b1 => by
                                                            by_cases z : a = i2
                                                            · rw [z, gup_s]; exact rwL_bd hp (hB2 i2 b (by omega) (by omega) b0 b1)
                                                            · rw [gup_n _ _ z]; exact hB2 a b a0 a1 b0 b1) (fun b => by rw [gup_n _ _ (by omega)]; exact hK0 b) (fun a b a0 => by rw [gup_n _ _ (by omega)]; exact hK a b (by omega)) (fun a b a0 a1 b0 b1 => by
                                                            letI := fR hp
                                                            by_cases z : a = i2
                                                            · rw [z, gup_s]
                                                              unfold rwL
                                                              rw [if_pos (by omega), zi_mod, zi_add, zi_mul, zi_sub, zi_p, hK i2 b (by omega), hK0 b, hfe, zi_mod, hK i2 c (by omega)]
                                                              generalize zi hp (M1 i2 b) = x
                                                              generalize zi hp (M1 c b) = y
                                                              generalize zi hp (M1 i2 c * ivr p (M1 c c)) = u
                                                              grind
                                                            · rw [gup_n _ _ z]; exact hF a b a0 (by omega) b0 b1)
                                  · skip
                                    refine g_lload 1 dX10_byX_426 rfl ?_
                                    refine g_lconst0 dX10_byX_428 ?_
                                    refine g_lcmp dX10_byX_429 (by unfold gX; omega) (by unfold gX; omega) ?_
                                    refine g_if_eq (tgt := 494) dX10_byX_430 rfl (gW_cmp _ _) (fun c1040 => ?_) (fun c1040 => ?_)
                                    · skip
                                      have hf0 := gcmp_eq.mp c1040
                                      refine g_iinc 2 (ls2 := [(10, .int (gI (i2 + 1))), (13, .int (gI (k2))), (11, .long (gJ (f))), (8, .long (gJ (ivr p (M1 c c)))), (4, .long (gJ (r2))), (7, .int (gI (w))), (6, .int (gI (c))), (3, .int (gI ((dgi hp (fa)) + (dgi hp (fb))))), (2, .int (gI (dgi hp (fb)))), (1, .int (gI (dgi hp (fa)))), (0, .ref (B))]) dX10_byX_494 rfl (by decide) rfl ?_
                                      refine g_goto (tgt := 386) dX10_byX_497 rfl ?_
                                      refine Go.sub [0, 3, 4, 5, 6, 7, 8, 9, 10] rfl ?_
                                      exact ih_l1 _ (by omega) (i2 + 1) (M2) hl2 rfl fr_l2 cf_l2_0 (by
                                                            have hkc : k2 = c := by omega
                                                            have e9 := cf_l2_1
                                                            rw [hkc, rwL_0, gup_id] at e9
                                                            exact e9) cf_l2_2 cr_l2_0 cr_l2_1 cr_l2_2 cr_l2_3 (by omega) hB2 hK0 (fun a b a0 => hK a b (by omega)) (fun a b a0 a1 b0 b1 => by
                                                            letI := fR hp
                                                            rcases Int.lt_or_le a i2 with z | z
                                                            · exact hF a b a0 z b0 b1
                                                            · have ea : a = i2 := by omega
                                                              have e9 : zi hp (M1 a c * ivr p (M1 c c)) = 0 := by
                                                                rw [ea, ← hK i2 c (by omega), ← zi_mod, ← hfe, hf0, zi_0]
                                                              rw [e9, hK a b (by omega)]
                                                              generalize zi hp (M1 a b) = x
                                                              generalize zi hp (M1 c b) = y
                                                              grind)
                                    · skip
                                      have hf0 : ¬ f = 0 := fun z => c1040 (gcmp_eq.mpr z)
                                      refine g_aload_n 10 dX10_byX_433 rfl ?_
                                      refine g_getf 7 dX10_byX_434 kX10 (by decide) fX10_29 cg_l2_0 rfl ?_
                                      refine g_bipush dX10_byX_437 (by decide) ?_
                                      refine g_iload 2 dX10_byX_439 rfl ?_
                                      refine g_imul dX10_byX_441 ?_
                                      refine g_iload 0 dX10_byX_442 rfl ?_
                                      refine g_iadd dX10_byX_444 ?_
                                      refine g_aload_n 10 dX10_byX_445 rfl ?_
                                      refine g_getf 7 dX10_byX_446 kX10 (by decide) fX10_29 cg_l2_0 rfl ?_
                                      refine g_bipush dX10_byX_449 (by decide) ?_
                                      refine g_iload 2 dX10_byX_451 rfl ?_
                                      refine g_imul dX10_byX_453 ?_
                                      refine g_iload 0 dX10_byX_454 rfl ?_
                                      refine g_iadd dX10_byX_456 ?_
                                      refine g_laload dX10_byX_457 cf_l2_1 (by omega) (by omega) (by omega) ?_
                                      have hq4 : a8 (gup M2 i2 (rwL p M2 f c i2 k2)) (80 * i2 + k2) = M2 i2 k2 := by rw [a8_r _ (by omega) (by omega), gup_s, rwL_at]
                                      rw [hq4]
                                      have hb4 := hB2 i2 k2 (by omega) (by omega) (by omega) (by omega)
                                      refine g_aload_n 10 dX10_byX_458 rfl ?_
                                      refine g_getf 0 dX10_byX_459 kX10 (by decide) fX10_78 cg_l2_0 rfl ?_
                                      refine g_i2l dX10_byX_462 (by first | (unfold gW; omega) | (unfold gW; split <;> omega)) ?_
                                      refine g_lload 1 dX10_byX_463 rfl ?_
                                      refine g_lsub dX10_byX_465 ?_
                                      refine g_aload_n 10 dX10_byX_466 rfl ?_
                                      refine g_getf 7 dX10_byX_467 kX10 (by decide) fX10_29 cg_l2_0 rfl ?_
                                      refine g_bipush dX10_byX_470 (by decide) ?_
                                      refine g_iload 6 dX10_byX_472 rfl ?_
                                      refine g_imul dX10_byX_474 ?_
                                      refine g_iload 0 dX10_byX_475 rfl ?_
                                      refine g_iadd dX10_byX_477 ?_
                                      refine g_laload dX10_byX_478 cf_l2_1 (by omega) (by omega) (by omega) ?_
                                      have hq5 : a8 (gup M2 i2 (rwL p M2 f c i2 k2)) (80 * c + k2) = M2 c k2 := by rw [a8_r _ (by omega) (by omega), gup_n _ _ (by omega)]
                                      rw [hq5]
                                      have hb5 := hB2 c k2 (by omega) (by omega) (by omega) (by omega)
                                      have bm : 0 ≤ (p - f) * M2 c k2 ∧ (p - f) * M2 c k2 ≤ 65536 * 65536 := ⟨Int.mul_nonneg (by omega) hb5.1, Int.mul_le_mul (by omega) (by omega) hb5.1 (by omega)⟩
                                      refine g_lmul dX10_byX_479 ?_
                                      refine g_ladd dX10_byX_480 ?_
                                      refine g_aload_n 10 dX10_byX_481 rfl ?_
                                      refine g_getf 0 dX10_byX_482 kX10 (by decide) fX10_78 cg_l2_0 rfl ?_
                                      refine g_i2l dX10_byX_485 (by first | (unfold gW; omega) | (unfold gW; split <;> omega)) ?_
                                      refine g_lrem dX10_byX_486 (by unfold gX; omega) (by unfold gX; omega) (by omega) ?_
                                      rw [tm_em (show 0 ≤ M2 i2 k2 + (p - f) * M2 c k2 by omega)]
                                      refine g_lastore dX10_byX_487 cf_l2_1 (by omega) (by omega) (by omega) ?_
                                      obtain ⟨hh1041, eh1041⟩ : ∃ z : GH, z = hset hl2 (B + 7) (aJ 6400 (gup (a8 (gup M2 i2 (rwL p M2 f c i2 k2))) (((80) * (i2)) + (k2)) ((M2 i2 k2 + (p - f) * M2 c k2) % p))) := ⟨_, rfl⟩
                                      refine Go.hp eh1041.symm ?_
                                      have fx1041 : Fr [B + 7] hl2 hh1041 := Fr.w0 (Fr.rf _ _) (List.Mem.head _) eh1041
                                      have fh1041_3 : hh1041.2 (B + 8) = some (aI 11520 (g8)) := hs_n eh1041 (ne35).s cf_l2_2
                                      have fhw1041 : hh1041.2 (B + 7) = some (aJ 6400 (gup (a8 (gup M2 i2 (rwL p M2 f c i2 k2))) (((80) * (i2)) + (k2)) ((M2 i2 k2 + (p - f) * M2 c k2) % p))) := hs_s eh1041
                                      have mfz1042 : MF B [B + 7] [] hl2 hh1041 := MF.of fx1041 (fr_l2).2.1 (Ni.c ⟨ne31, ne32⟩ (Ni.n _)) (Ni.c ⟨ne33, ne34⟩ (Ni.n _)) []
                                      have fk1043_0 : hh1041.2 (B) = some (mO B ((p : Int)) (hf) (le) (fc) (pn) (rn) (hn) (qn)) := Fr.at0 (mfz1042).1 (Ni.c ⟨ne4, ne5⟩ (Ni.c ⟨ne6, ne7⟩ (Ni.n _))) cg_l2_0
                                      have fk1043_1 : hh1041.2 (B + 4) = some (aI 1500 (gm)) := Fr.at0 (mfz1042).1 (Ni.c ⟨ne26, ne27⟩ (Ni.c ⟨ne28, ne29⟩ (Ni.n _))) cf_l2_0
                                      have rk1043_0 : MP hp B hh1041 (T) := (cr_l2_0).fr (mfz1042).1 (Ni.c ⟨ne11, ne12⟩ (Ni.c ⟨ne13, ne14⟩ (Ni.n _))) (Ni.c ⟨ne17, ne18⟩ (Ni.c ⟨ne19, ne20⟩ (Ni.n _)))
                                      have rk1043_1 : MWA B hh1041 := (cr_l2_1).fr (mfz1042).1 (Ni.c ⟨ne22, ne23⟩ (Ni.c ⟨ne24, ne25⟩ (Ni.n _)))
                                      have rk1043_2 : MG hp B hh1041 (0) (fa) := (cr_l2_2).fr hp2 mfz1042 Nr.n
                                      have rk1043_3 : MG hp B hh1041 (1) (fb) := (cr_l2_3).fr hp2 mfz1042 Nr.n
                                      have fr1043 : MF B [B + 1, B + 3, B + 7] [2] h hh1041 := (fr_l2).tr ((mfz1042).mo (sub_c (List.Mem.tail _ (List.Mem.tail _ (List.Mem.head _))) sub_n) sbI_n)
                                      refine g_iinc 0 (ls2 := [(13, .int (gI (k2 + 1))), (11, .long (gJ (f))), (10, .int (gI (i2))), (8, .long (gJ (ivr p (M1 c c)))), (4, .long (gJ (r2))), (7, .int (gI (w))), (6, .int (gI (c))), (3, .int (gI ((dgi hp (fa)) + (dgi hp (fb))))), (2, .int (gI (dgi hp (fb)))), (1, .int (gI (dgi hp (fa)))), (0, .ref (B))]) dX10_byX_488 rfl (by decide) rfl ?_
                                      refine g_goto (tgt := 420) dX10_byX_491 rfl ?_
                                      exact ih_l2 _ (by omega) (k2 + 1) hh1041 rfl fr1043 fk1043_1 (by
                                                            have e9 := fhw1041
                                                            rw [a8_wg _ _ (by omega) (by omega), rwL_s M2 hk2.1] at e9
                                                            exact e9) fh1041_3 rk1043_0 rk1043_1 rk1043_2 rk1043_3 (by omega) (Or.inr (by omega))
                                exact l2 _ (c) hl1 rfl fr_l1 cf_l1_0 (by rw [rwL_0, gup_id]; exact cf_l1_1) cf_l1_2 cr_l1_0 cr_l1_1 cr_l1_2 cr_l1_3 (by omega) (Or.inl rfl)
                            exact l1 _ (c + 1) (M1) hls rfl fr_ls cf_ls_0 f7b cf_ls_2 cr_ls_0 cr_ls_1 cr_ls_2 cr_ls_3 (by omega) hB1 (fun b => rfl) (fun a b _ => rfl) (fun a b a0 a1 b0 b1 => by omega)
                          · skip
                            refine g_aload_n 7 dX10_byX_245 rfl ?_
                            refine g_getf 7 dX10_byX_246 kX10 (by decide) fX10_29 cg_ls_0 rfl ?_
                            refine g_bipush dX10_byX_249 (by decide) ?_
                            refine g_iload 1 dX10_byX_251 rfl ?_
                            refine g_imul dX10_byX_253 ?_
                            refine g_iload 0 dX10_byX_254 rfl ?_
                            refine g_iadd dX10_byX_256 ?_
                            refine g_laload dX10_byX_257 cf_ls_1 (by omega) (by omega) (by omega) ?_
                            have hrd2 : a8 (swK M w c k) (80 * w + k) = M w k := by rw [a8_r _ (by omega) (by omega), swK_at]
                            rw [hrd2]
                            refine g_lstore (ls2 := [(9, .long (gJ (M w k))), (8, .int (gI (k))), (7, .int (gI (w))), (6, .int (gI (c))), (4, .long (gJ (r))), (3, .int (gI ((dgi hp (fa)) + (dgi hp (fb))))), (2, .int (gI (dgi hp (fb)))), (1, .int (gI (dgi hp (fa)))), (0, .ref (B))]) dX10_byX_258 (by decide) rfl ?_
                            refine g_aload_n 8 dX10_byX_260 rfl ?_
                            refine g_getf 7 dX10_byX_261 kX10 (by decide) fX10_29 cg_ls_0 rfl ?_
                            refine g_bipush dX10_byX_264 (by decide) ?_
                            refine g_iload 2 dX10_byX_266 rfl ?_
                            refine g_imul dX10_byX_268 ?_
                            refine g_iload 1 dX10_byX_269 rfl ?_
                            refine g_iadd dX10_byX_271 ?_
                            refine g_aload_n 8 dX10_byX_272 rfl ?_
                            refine g_getf 7 dX10_byX_273 kX10 (by decide) fX10_29 cg_ls_0 rfl ?_
                            refine g_bipush dX10_byX_276 (by decide) ?_
                            refine g_iload 3 dX10_byX_278 rfl ?_
                            refine g_imul dX10_byX_280 ?_
                            refine g_iload 1 dX10_byX_281 rfl ?_
                            refine g_iadd dX10_byX_283 ?_
                            refine g_laload dX10_byX_284 cf_ls_1 (by omega) (by omega) (by omega) ?_
                            have hrd3 : a8 (swK M w c k) (80 * c + k) = M c k := by rw [a8_r _ (by omega) (by omega), swK_at]
                            rw [hrd3]
                            refine g_lastore dX10_byX_285 cf_ls_1 (by omega) (by omega) (by omega) ?_
                            obtain ⟨hh1244, eh1244⟩ : ∃ z : GH, z = hset hls (B + 7) (aJ 6400 (gup (a8 (swK M w c k)) (((80) * (w)) + (k)) (M c k))) := ⟨_, rfl⟩
                            refine Go.hp eh1244.symm ?_
                            have fx1244 : Fr [B + 7] hls hh1244 := Fr.w0 (Fr.rf _ _) (List.Mem.head _) eh1244
                            have fh1244_3 : hh1244.2 (B + 8) = some (aI 11520 (g8)) := hs_n eh1244 (ne35).s cf_ls_2
                            have fhw1244 : hh1244.2 (B + 7) = some (aJ 6400 (gup (a8 (swK M w c k)) (((80) * (w)) + (k)) (M c k))) := hs_s eh1244
                            have mfz1245 : MF B [B + 7] [] hls hh1244 := MF.of fx1244 (fr_ls).2.1 (Ni.c ⟨ne31, ne32⟩ (Ni.n _)) (Ni.c ⟨ne33, ne34⟩ (Ni.n _)) []
                            have fk1246_0 : hh1244.2 (B) = some (mO B ((p : Int)) (hf) (le) (fc) (pn) (rn) (hn) (qn)) := Fr.at0 (mfz1245).1 (Ni.c ⟨ne4, ne5⟩ (Ni.c ⟨ne6, ne7⟩ (Ni.n _))) cg_ls_0
                            have fk1246_1 : hh1244.2 (B + 4) = some (aI 1500 (gm)) := Fr.at0 (mfz1245).1 (Ni.c ⟨ne26, ne27⟩ (Ni.c ⟨ne28, ne29⟩ (Ni.n _))) cf_ls_0
                            have rk1246_0 : MP hp B hh1244 (T) := (cr_ls_0).fr (mfz1245).1 (Ni.c ⟨ne11, ne12⟩ (Ni.c ⟨ne13, ne14⟩ (Ni.n _))) (Ni.c ⟨ne17, ne18⟩ (Ni.c ⟨ne19, ne20⟩ (Ni.n _)))
                            have rk1246_1 : MWA B hh1244 := (cr_ls_1).fr (mfz1245).1 (Ni.c ⟨ne22, ne23⟩ (Ni.c ⟨ne24, ne25⟩ (Ni.n _)))
                            have rk1246_2 : MG hp B hh1244 (0) (fa) := (cr_ls_2).fr hp2 mfz1245 Nr.n
                            have rk1246_3 : MG hp B hh1244 (1) (fb) := (cr_ls_3).fr hp2 mfz1245 Nr.n
                            have fr1246 : MF B [B + 1, B + 3, B + 7] [2] h hh1244 := (fr_ls).tr ((mfz1245).mo (sub_c (List.Mem.tail _ (List.Mem.tail _ (List.Mem.head _))) sub_n) sbI_n)
                            refine g_aload_n 8 dX10_byX_286 rfl ?_
                            refine g_getf 7 dX10_byX_287 kX10 (by decide) fX10_29 fk1246_0 rfl ?_
                            refine g_bipush dX10_byX_290 (by decide) ?_
                            refine g_iload 3 dX10_byX_292 rfl ?_
                            refine g_imul dX10_byX_294 ?_
                            refine g_iload 1 dX10_byX_295 rfl ?_
                            refine g_iadd dX10_byX_297 ?_
                            refine g_lload 0 dX10_byX_298 rfl ?_
                            refine g_lastore dX10_byX_300 fhw1244 (by omega) (by omega) (by omega) ?_
                            obtain ⟨hh1247, eh1247⟩ : ∃ z : GH, z = hset hh1244 (B + 7) (aJ 6400 (gup (gup (a8 (swK M w c k)) (((80) * (w)) + (k)) (M c k)) (((80) * (c)) + (k)) (M w k))) := ⟨_, rfl⟩
                            refine Go.hp eh1247.symm ?_
                            have fx1247 : Fr [B + 7] hh1244 hh1247 := Fr.w0 (Fr.rf _ _) (List.Mem.head _) eh1247
                            have fh1247_2 : hh1247.2 (B + 8) = some (aI 11520 (g8)) := hs_n eh1247 (ne35).s fh1244_3
                            have fhw1247 : hh1247.2 (B + 7) = some (aJ 6400 (gup (gup (a8 (swK M w c k)) (((80) * (w)) + (k)) (M c k)) (((80) * (c)) + (k)) (M w k))) := hs_s eh1247
                            have mfz1248 : MF B [B + 7] [] hh1244 hh1247 := MF.of fx1247 (fr1246).2.1 (Ni.c ⟨ne31, ne32⟩ (Ni.n _)) (Ni.c ⟨ne33, ne34⟩ (Ni.n _)) []
                            have fk1249_0 : hh1247.2 (B) = some (mO B ((p : Int)) (hf) (le) (fc) (pn) (rn) (hn) (qn)) := Fr.at0 (mfz1248).1 (Ni.c ⟨ne4, ne5⟩ (Ni.c ⟨ne6, ne7⟩ (Ni.n _))) fk1246_0
                            have fk1249_1 : hh1247.2 (B + 4) = some (aI 1500 (gm)) := Fr.at0 (mfz1248).1 (Ni.c ⟨ne26, ne27⟩ (Ni.c ⟨ne28, ne29⟩ (Ni.n _))) fk1246_1
                            have rk1249_0 : MP hp B hh1247 (T) := (rk1246_0).fr (mfz1248).1 (Ni.c ⟨ne11, ne12⟩ (Ni.c ⟨ne13, ne14⟩ (Ni.n _))) (Ni.c ⟨ne17, ne18⟩ (Ni.c ⟨ne19, ne20⟩ (Ni.n _)))
                            have rk1249_1 : MWA B hh1247 := (rk1246_1).fr (mfz1248).1 (Ni.c ⟨ne22, ne23⟩ (Ni.c ⟨ne24, ne25⟩ (Ni.n _)))
                            have rk1249_2 : MG hp B hh1247 (0) (fa) := (rk1246_2).fr hp2 mfz1248 Nr.n
                            have rk1249_3 : MG hp B hh1247 (1) (fb) := (rk1246_3).fr hp2 mfz1248 Nr.n
                            have fr1249 : MF B [B + 1, B + 3, B + 7] [2] h hh1247 := (fr1246).tr ((mfz1248).mo (sub_c (List.Mem.tail _ (List.Mem.tail _ (List.Mem.head _))) sub_n) sbI_n)
                            refine g_iinc 1 (ls2 := [(8, .int (gI (k + 1))), (9, .long (gJ (M w k))), (7, .int (gI (w))), (6, .int (gI (c))), (4, .long (gJ (r))), (3, .int (gI ((dgi hp (fa)) + (dgi hp (fb))))), (2, .int (gI (dgi hp (fb)))), (1, .int (gI (dgi hp (fa)))), (0, .ref (B))]) dX10_byX_301 rfl (by decide) rfl ?_
                            refine g_goto (tgt := 232) dX10_byX_304 rfl ?_
                            refine Go.sub [0, 2, 3, 4, 5, 6, 7, 8] rfl ?_
                            exact ih_ls _ (by omega) (k + 1) hh1247 rfl fr1249 fk1249_1 (by rw [← swK_s M hk.1 (by omega) (show w ≠ c by omega)]; exact fhw1247) fh1247_2 rk1249_0 rk1249_1 rk1249_2 rk1249_3 (by omega) (Or.inr (by omega))
                      exact ls _ (0) hlw rfl fr_lw cf_lw_0 (by rw [swK_0]; exact cf_lw_1) cf_lw_2 cr_lw_0 cr_lw_1 cr_lw_2 cr_lw_3 (by omega) (Or.inl rfl)
                    · skip
                      refine g_lconst0 dX10_byX_223 ?_
                      refine g_lstore (ls2 := [(4, .long (gJ (0))), (7, .int (gI (w))), (6, .int (gI (c))), (3, .int (gI ((dgi hp (fa)) + (dgi hp (fb))))), (2, .int (gI (dgi hp (fb)))), (1, .int (gI (dgi hp (fa)))), (0, .ref (B))]) dX10_byX_224 (by decide) rfl ?_
                      refine g_goto (tgt := 500) dX10_byX_226 rfl ?_
                      refine g_iinc 2 (ls2 := [(6, .int (gI (c + 1))), (4, .long (gJ (0))), (7, .int (gI (w))), (3, .int (gI ((dgi hp (fa)) + (dgi hp (fb))))), (2, .int (gI (dgi hp (fb)))), (1, .int (gI (dgi hp (fa)))), (0, .ref (B))]) dX10_byX_500 rfl (by decide) rfl ?_
                      refine g_goto (tgt := 170) dX10_byX_503 rfl ?_
                      refine Go.sub [0, 1, 3, 4, 5, 6] rfl ?_
                      exact ih_lc _ (by omega) (c + 1) (0) (M) hlw rfl fr_lw cf_lw_0 cf_lw_1 cf_lw_2 cr_lw_0 cr_lw_1 cr_lw_2 cr_lw_3 (by omega) (by omega) hB (gIv_z hp hG hc.1 (by omega) (fun a a0 a1 => hZ a a0 (by omega)))
                  · skip
                    refine g_aload_n 6 dX10_byX_193 rfl ?_
                    refine g_getf 7 dX10_byX_194 kX10 (by decide) fX10_29 cg_lw_0 rfl ?_
                    refine g_bipush dX10_byX_197 (by decide) ?_
                    refine g_iload 0 dX10_byX_199 rfl ?_
                    refine g_imul dX10_byX_201 ?_
                    refine g_iload 1 dX10_byX_202 rfl ?_
                    refine g_iadd dX10_byX_204 ?_
                    refine g_laload dX10_byX_205 cf_lw_1 (by omega) (by omega) (by omega) ?_
                    have hrd : a8 M (80 * w + c) = M w c := a8_r _ (by omega) (by omega)
                    rw [hrd]
                    have hbw := hB w c (by omega) (by omega) (by omega) (by omega)
                    refine g_lconst0 dX10_byX_206 ?_
                    refine g_lcmp dX10_byX_207 (by unfold gX; omega) (by unfold gX; omega) ?_
                    refine g_if_ne (tgt := 217) dX10_byX_208 rfl (gW_cmp _ _) (fun c1350 => ?_) (fun c1350 => ?_)
                    · skip
                      have hnz : ¬ M w c = 0 := fun z => c1350 (gcmp_eq.mpr z)
                      refine g_iload 0 dX10_byX_217 rfl ?_
                      refine g_iload_n 3 dX10_byX_219 rfl ?_
                      refine g_icmp_ne (tgt := 229) dX10_byX_220 rfl (by first | (unfold gW; omega) | (unfold gW; split <;> omega)) (by first | (unfold gW; omega) | (unfold gW; split <;> omega)) (fun c1351 => ?_) (fun c1351 => ?_)
                      · skip
                        refine g_iconst dX10_byX_229 ?_
                        refine g_istore (ls2 := [(8, .int (gI (0))), (7, .int (gI (w))), (6, .int (gI (c))), (4, .long (gJ (r))), (3, .int (gI ((dgi hp (fa)) + (dgi hp (fb))))), (2, .int (gI (dgi hp (fb)))), (1, .int (gI (dgi hp (fa)))), (0, .ref (B))]) dX10_byX_230 (by decide) rfl ?_
                        have ls : ∀ (kk : Nat) (k : Int) (hls : GH), kk = (80 - k).toNat → MF B [B + 1, B + 3, B + 7] [2] h hls → hls.2 (B + 4) = some (aI 1500 (gm)) → hls.2 (B + 7) = some (aJ 6400 (a8 (swK M w c k))) → hls.2 (B + 8) = some (aI 11520 (g8)) → MP hp B hls (T) → MWA B hls → MG hp B hls (0) (fa) → MG hp B hls (1) (fb) → (0 ≤ k ∧ k ≤ dgi hp fa + dgi hp fb) → (k = 0 ∨ w ≠ c) → Go N mX10_byX (fun v h1 => Fr [B + 1, B + 3, B + 5, B + 7] h h1 ∧ MS B h1 ∧ ∃ w T2, Ou T (pa13 hp fa fb) w T2 ∧ v = some (.int (gI w)) ∧ MP hp B h1 T2) 0 0 hls 232 [(8, .int (gI (k))), (7, .int (gI (w))), (6, .int (gI (c))), (4, .long (gJ (r))), (3, .int (gI ((dgi hp (fa)) + (dgi hp (fb))))), (2, .int (gI (dgi hp (fb)))), (1, .int (gI (dgi hp (fa)))), (0, .ref (B))] [] := by
                          refine Go.ind (fun kk ih_ls => ?_)
                          intro k hls hkk_ls fr_ls cf_ls_0 cf_ls_1 cf_ls_2 cr_ls_0 cr_ls_1 cr_ls_2 cr_ls_3 hk hkw
                          have cg_ls_0 : hls.2 (B) = some (mO B ((p : Int)) (hf) (le) (fc) (pn) (rn) (hn) (qn)) := Fr.at0 (fr_ls).1 (Ni.c ⟨ne4, ne5⟩ (Ni.c ⟨ne0, ne1⟩ (Ni.c ⟨ne2, ne3⟩ (Ni.c ⟨ne6, ne7⟩ (Ni.n _))))) hm
                          refine g_iload 0 dX10_byX_232 rfl ?_
                          refine g_iload_n 4 dX10_byX_234 rfl ?_
                          refine g_icmp_ge (tgt := 307) dX10_byX_235 rfl (by first | (unfold gW; omega) | (unfold gW; split <;> omega)) (by first | (unfold gW; omega) | (unfold gW; split <;> omega)) (fun c1452 => ?_) (fun c1452 => ?_)
                          · skip
                            have hkS : k = dgi hp fa + dgi hp fb := by omega
                            have hwc : c < w := by omega
                            obtain ⟨M1, hM1e⟩ : ∃ M1 : Int → Int → Int, M1 = swK M w c k := ⟨_, rfl⟩
                            have f7b : hls.2 (B + 7) = some (aJ 6400 (a8 M1)) := by rw [hM1e]; exact cf_ls_1
                            have hB1 : ∀ a b : Int, 0 ≤ a → a < dgi hp fa + dgi hp fb → 0 ≤ b → b < dgi hp fa + dgi hp fb → 0 ≤ M1 a b ∧ M1 a b < p := fun a b a0 a1 b0 b1 => by
                              rw [hM1e]
                              unfold swK
                              rw [if_pos (by omega)]
                              split
                              · exact hB c b (by omega) (by omega) b0 b1
                              · split
                                · exact hB w b (by omega) (by omega) b0 b1
                                · exact hB a b a0 a1 b0 b1
                            have hpv : M1 c c = M w c := by rw [hM1e]; unfold swK; rw [if_pos (by omega), if_neg (by omega), if_pos rfl]
                            have hbw9 := hB w c (by omega) (by omega) (by omega) (by omega)
                            have hpv0 : 0 < M1 c c ∧ M1 c c < p := by rw [hpv]; omega
                            refine g_iload 1 dX10_byX_307 rfl ?_
                            refine g_iload 2 dX10_byX_309 rfl ?_
                            refine g_icmp_eq (tgt := 331) dX10_byX_311 rfl (by first | (unfold gW; omega) | (unfold gW; split <;> omega)) (by first | (unfold gW; omega) | (unfold gW; split <;> omega)) (fun c1453 => absurd c1453 (by omega)) (fun c1453 => ?_)
                            refine g_aload_n 7 dX10_byX_314 rfl ?_
                            refine g_getf 0 dX10_byX_315 kX10 (by decide) fX10_78 cg_ls_0 rfl ?_
                            refine g_i2l dX10_byX_318 (by first | (unfold gW; omega) | (unfold gW; split <;> omega)) ?_
                            refine g_lload 3 dX10_byX_319 rfl ?_
                            refine g_lsub dX10_byX_321 ?_
                            refine g_aload_n 7 dX10_byX_322 rfl ?_
                            refine g_getf 0 dX10_byX_323 kX10 (by decide) fX10_78 cg_ls_0 rfl ?_
                            refine g_i2l dX10_byX_326 (by first | (unfold gW; omega) | (unfold gW; split <;> omega)) ?_
                            refine g_lrem dX10_byX_327 (by unfold gX; omega) (by unfold gX; omega) (by omega) ?_
                            rw [tm_em (show 0 ≤ (p : Int) - r by omega)]
                            refine g_goto (tgt := 333) dX10_byX_328 rfl ?_
                            obtain ⟨r1, hr1e⟩ : ∃ r1 : Int, r1 = ((p : Int) - r) % p := ⟨_, rfl⟩
                            rw [← hr1e]
                            have hr1 : 0 ≤ r1 ∧ r1 < p := by rw [hr1e]; exact em_in hp _
                            have hG1 : gIv hp (dgi hp fa + dgi hp fb) c M1 r1 (rsD hp (dgi hp fa).toNat (dgi hp fb).toNat fa fb) := by
                              rw [hM1e]
                              refine gIv_sw hp hG hc.1 hwc (by omega) hkS ?_
                              rw [hr1e, zi_mod, zi_sub, zi_p]
                              letI := fR hp
                              generalize zi hp r = x
                              grind
                            refine g_lstore (ls2 := [(4, .long (gJ (r1))), (8, .int (gI (k))), (7, .int (gI (w))), (6, .int (gI (c))), (3, .int (gI ((dgi hp (fa)) + (dgi hp (fb))))), (2, .int (gI (dgi hp (fb)))), (1, .int (gI (dgi hp (fa)))), (0, .ref (B))]) dX10_byX_333 (by decide) rfl ?_
                            refine g_lload 0 dX10_byX_335 rfl ?_
                            refine g_aload_n 7 dX10_byX_337 rfl ?_
                            refine g_getf 7 dX10_byX_338 kX10 (by decide) fX10_29 cg_ls_0 rfl ?_
                            refine g_bipush dX10_byX_341 (by decide) ?_
                            refine g_iload 3 dX10_byX_343 rfl ?_
                            refine g_imul dX10_byX_345 ?_
                            refine g_iload 3 dX10_byX_346 rfl ?_
                            refine g_iadd dX10_byX_348 ?_
                            refine g_laload dX10_byX_349 f7b (by omega) (by omega) (by omega) ?_
                            have hq1 : a8 M1 (80 * c + c) = M1 c c := a8_r _ (by omega) (by omega)
                            rw [hq1]
                            have bp1 := g_prod hr1.1 hr1.2 (show 0 ≤ M1 c c by omega) hpv0.2 (show (p : Int) ≤ 65536 by omega)
                            refine g_lmul dX10_byX_350 ?_
                            refine g_aload_n 7 dX10_byX_351 rfl ?_
                            refine g_getf 0 dX10_byX_352 kX10 (by decide) fX10_78 cg_ls_0 rfl ?_
                            refine g_i2l dX10_byX_355 (by first | (unfold gW; omega) | (unfold gW; split <;> omega)) ?_
                            refine g_lrem dX10_byX_356 (by unfold gX; omega) (by unfold gX; omega) (by omega) ?_
                            rw [tm_em bp1.1]
                            obtain ⟨r2, hr2⟩ : ∃ r2 : Int, r2 = r1 * M1 c c % p := ⟨_, rfl⟩
                            rw [← hr2]
                            have hr2b : 0 ≤ r2 ∧ r2 < p := by rw [hr2]; exact em_in hp _
                            refine g_lstore (ls2 := [(4, .long (gJ (r2))), (8, .int (gI (k))), (7, .int (gI (w))), (6, .int (gI (c))), (3, .int (gI ((dgi hp (fa)) + (dgi hp (fb))))), (2, .int (gI (dgi hp (fb)))), (1, .int (gI (dgi hp (fa)))), (0, .ref (B))]) dX10_byX_357 (by decide) rfl ?_
                            refine g_aload_n 7 dX10_byX_359 rfl ?_
                            refine g_aload_n 7 dX10_byX_360 rfl ?_
                            refine g_getf 7 dX10_byX_361 kX10 (by decide) fX10_29 cg_ls_0 rfl ?_
                            refine g_bipush dX10_byX_364 (by decide) ?_
                            refine g_iload 3 dX10_byX_366 rfl ?_
                            refine g_imul dX10_byX_368 ?_
                            refine g_iload 3 dX10_byX_369 rfl ?_
                            refine g_iadd dX10_byX_371 ?_
                            refine g_laload dX10_byX_372 f7b (by omega) (by omega) (by omega) ?_
                            have hq2 : a8 M1 (80 * c + c) = M1 c c := a8_r _ (by omega) (by omega)
                            rw [hq2]
                            refine g_l2i dX10_byX_373 ?_
                            refine g_callV (nc2 := 0) (ns2 := 0) (ci := 10) (As := [.int (gI (M1 c c))]) (st := []) rfl dX10_byX_374 okX10_inverse lX10_173 itX10_inverse seX10_inverse rfl cg_ls_0 (by decide) (by decide) rfl (Nat.le_of_ble_eq_true rfl) (sM_inverse N _ B p hp hp2 hf le fc pn rn hn qn (M1 c c) cg_ls_0 (by omega) (by omega)) (by omega) (by omega) (fun v1454 hc1454 q1454 => ?_)
                            obtain ⟨hq1455, rfl⟩ := q1454
                            refine Go.nf (h' := hls) (st' := [.int (gI (ivr p (M1 c c)))]) hq1455 rfl (Nat.le_refl _) (Nat.le_refl _) ?_
                            have hiv := ivr_in hp (M1 c c)
                            refine g_i2l dX10_byX_377 (by first | (unfold gW; omega) | (unfold gW; split <;> omega)) ?_
                            refine g_lstore (ls2 := [(8, .long (gJ (ivr p (M1 c c)))), (4, .long (gJ (r2))), (7, .int (gI (w))), (6, .int (gI (c))), (3, .int (gI ((dgi hp (fa)) + (dgi hp (fb))))), (2, .int (gI (dgi hp (fb)))), (1, .int (gI (dgi hp (fa)))), (0, .ref (B))]) dX10_byX_378 (by decide) rfl ?_
                            refine g_iload 3 dX10_byX_380 rfl ?_
                            refine g_iconst dX10_byX_382 ?_
                            refine g_iadd dX10_byX_383 ?_
                            refine g_istore (ls2 := [(10, .int (gI ((c) + (1)))), (8, .long (gJ (ivr p (M1 c c)))), (4, .long (gJ (r2))), (7, .int (gI (w))), (6, .int (gI (c))), (3, .int (gI ((dgi hp (fa)) + (dgi hp (fb))))), (2, .int (gI (dgi hp (fb)))), (1, .int (gI (dgi hp (fa)))), (0, .ref (B))]) dX10_byX_384 (by decide) rfl ?_
                            have l1 : ∀ (kk : Nat) (i2 : Int) (M2 : Int → Int → Int) (hl1 : GH), kk = (80 - i2).toNat → MF B [B + 1, B + 3, B + 7] [2] h hl1 → hl1.2 (B + 4) = some (aI 1500 (gm)) → hl1.2 (B + 7) = some (aJ 6400 (a8 M2)) → hl1.2 (B + 8) = some (aI 11520 (g8)) → MP hp B hl1 (T) → MWA B hl1 → MG hp B hl1 (0) (fa) → MG hp B hl1 (1) (fb) → (c + 1 ≤ i2 ∧ i2 ≤ dgi hp fa + dgi hp fb) → (∀ a b : Int, 0 ≤ a → a < dgi hp fa + dgi hp fb → 0 ≤ b → b < dgi hp fa + dgi hp fb → 0 ≤ M2 a b ∧ M2 a b < p) → (∀ b, M2 c b = M1 c b) → (∀ a b, i2 ≤ a → M2 a b = M1 a b) → (letI := fR hp; ∀ a b, c < a → a < i2 → c ≤ b → b < dgi hp fa + dgi hp fb → zi hp (M2 a b) = zi hp (M1 a b) + (- (zi hp (M1 a c * ivr p (M1 c c)))) * zi hp (M1 c b)) → Go N mX10_byX (fun v h1 => Fr [B + 1, B + 3, B + 5, B + 7] h h1 ∧ MS B h1 ∧ ∃ w T2, Ou T (pa13 hp fa fb) w T2 ∧ v = some (.int (gI w)) ∧ MP hp B h1 T2) 0 0 hl1 386 [(10, .int (gI (i2))), (8, .long (gJ (ivr p (M1 c c)))), (4, .long (gJ (r2))), (7, .int (gI (w))), (6, .int (gI (c))), (3, .int (gI ((dgi hp (fa)) + (dgi hp (fb))))), (2, .int (gI (dgi hp (fb)))), (1, .int (gI (dgi hp (fa)))), (0, .ref (B))] [] := by
                              refine Go.ind (fun kk ih_l1 => ?_)
                              intro i2 M2 hl1 hkk_l1 fr_l1 cf_l1_0 cf_l1_1 cf_l1_2 cr_l1_0 cr_l1_1 cr_l1_2 cr_l1_3 hi2 hB2 hK0 hK hF
                              have cg_l1_0 : hl1.2 (B) = some (mO B ((p : Int)) (hf) (le) (fc) (pn) (rn) (hn) (qn)) := Fr.at0 (fr_l1).1 (Ni.c ⟨ne4, ne5⟩ (Ni.c ⟨ne0, ne1⟩ (Ni.c ⟨ne2, ne3⟩ (Ni.c ⟨ne6, ne7⟩ (Ni.n _))))) hm
                              refine g_iload 0 dX10_byX_386 rfl ?_
                              refine g_iload_n 5 dX10_byX_388 rfl ?_
                              refine g_icmp_ge (tgt := 500) dX10_byX_389 rfl (by first | (unfold gW; omega) | (unfold gW; split <;> omega)) (by first | (unfold gW; omega) | (unfold gW; split <;> omega)) (fun c1556 => ?_) (fun c1556 => ?_)
                              · skip
                                refine g_iinc 4 (ls2 := [(6, .int (gI (c + 1))), (10, .int (gI (i2))), (8, .long (gJ (ivr p (M1 c c)))), (4, .long (gJ (r2))), (7, .int (gI (w))), (3, .int (gI ((dgi hp (fa)) + (dgi hp (fb))))), (2, .int (gI (dgi hp (fb)))), (1, .int (gI (dgi hp (fa)))), (0, .ref (B))]) dX10_byX_500 rfl (by decide) rfl ?_
                                refine g_goto (tgt := 170) dX10_byX_503 rfl ?_
                                refine Go.sub [0, 3, 5, 6, 7, 8] rfl ?_
                                exact ih_lc _ (by omega) (c + 1) (r2) (M2) hl1 rfl fr_l1 cf_l1_0 cf_l1_1 cf_l1_2 cr_l1_0 cr_l1_1 cr_l1_2 cr_l1_3 (by omega) hr2b hB2 (gIv_s hp hG1 hc.1 (by omega) hpv0 hr2 hK0 (fun a b a0 a1 b0 b1 => hF a b a0 (by omega) b0 b1))
                              · skip
                                refine g_aload_n 8 dX10_byX_392 rfl ?_
                                refine g_getf 7 dX10_byX_393 kX10 (by decide) fX10_29 cg_l1_0 rfl ?_
                                refine g_bipush dX10_byX_396 (by decide) ?_
                                refine g_iload 0 dX10_byX_398 rfl ?_
                                refine g_imul dX10_byX_400 ?_
                                refine g_iload 4 dX10_byX_401 rfl ?_
                                refine g_iadd dX10_byX_403 ?_
                                refine g_laload dX10_byX_404 cf_l1_1 (by omega) (by omega) (by omega) ?_
                                have hq3 : a8 M2 (80 * i2 + c) = M2 i2 c := a8_r _ (by omega) (by omega)
                                rw [hq3]
                                have hb3 := hB2 i2 c (by omega) (by omega) (by omega) (by omega)
                                have bp3 := g_prod hb3.1 hb3.2 hiv.1 hiv.2 (show (p : Int) ≤ 65536 by omega)
                                refine g_lload 1 dX10_byX_405 rfl ?_
                                refine g_lmul dX10_byX_407 ?_
                                refine g_aload_n 8 dX10_byX_408 rfl ?_
                                refine g_getf 0 dX10_byX_409 kX10 (by decide) fX10_78 cg_l1_0 rfl ?_
                                refine g_i2l dX10_byX_412 (by first | (unfold gW; omega) | (unfold gW; split <;> omega)) ?_
                                refine g_lrem dX10_byX_413 (by unfold gX; omega) (by unfold gX; omega) (by omega) ?_
                                rw [tm_em bp3.1]
                                obtain ⟨f, hfe⟩ : ∃ f : Int, f = M2 i2 c * ivr p (M1 c c) % p := ⟨_, rfl⟩
                                rw [← hfe]
                                have hfb : 0 ≤ f ∧ f < p := by rw [hfe]; exact em_in hp _
                                refine g_lstore (ls2 := [(11, .long (gJ (f))), (10, .int (gI (i2))), (8, .long (gJ (ivr p (M1 c c)))), (4, .long (gJ (r2))), (7, .int (gI (w))), (6, .int (gI (c))), (3, .int (gI ((dgi hp (fa)) + (dgi hp (fb))))), (2, .int (gI (dgi hp (fb)))), (1, .int (gI (dgi hp (fa)))), (0, .ref (B))]) dX10_byX_414 (by decide) rfl ?_
                                refine g_iload 5 dX10_byX_416 rfl ?_
                                refine g_istore (ls2 := [(13, .int (gI (c))), (11, .long (gJ (f))), (10, .int (gI (i2))), (8, .long (gJ (ivr p (M1 c c)))), (4, .long (gJ (r2))), (7, .int (gI (w))), (6, .int (gI (c))), (3, .int (gI ((dgi hp (fa)) + (dgi hp (fb))))), (2, .int (gI (dgi hp (fb)))), (1, .int (gI (dgi hp (fa)))), (0, .ref (B))]) dX10_byX_418 (by decide) rfl ?_
                                have l2 : ∀ (kk : Nat) (k2 : Int) (hl2 : GH), kk = (80 - k2).toNat → MF B [B + 1, B + 3, B + 7] [2] h hl2 → hl2.2 (B + 4) = some (aI 1500 (gm)) → hl2.2 (B + 7) = some (aJ 6400 (a8 (gup M2 i2 (rwL p M2 f c i2 k2)))) → hl2.2 (B + 8) = some (aI 11520 (g8)) → MP hp B hl2 (T) → MWA B hl2 → MG hp B hl2 (0) (fa) → MG hp B hl2 (1) (fb) → (c ≤ k2 ∧ k2 ≤ dgi hp fa + dgi hp fb) → (k2 = c ∨ f ≠ 0) → Go N mX10_byX (fun v h1 => Fr [B + 1, B + 3, B + 5, B + 7] h h1 ∧ MS B h1 ∧ ∃ w T2, Ou T (pa13 hp fa fb) w T2 ∧ v = some (.int (gI w)) ∧ MP hp B h1 T2) 0 0 hl2 420 [(13, .int (gI (k2))), (11, .long (gJ (f))), (10, .int (gI (i2))), (8, .long (gJ (ivr p (M1 c c)))), (4, .long (gJ (r2))), (7, .int (gI (w))), (6, .int (gI (c))), (3, .int (gI ((dgi hp (fa)) + (dgi hp (fb))))), (2, .int (gI (dgi hp (fb)))), (1, .int (gI (dgi hp (fa)))), (0, .ref (B))] [] := by
                                  refine Go.ind (fun kk ih_l2 => ?_)
                                  intro k2 hl2 hkk_l2 fr_l2 cf_l2_0 cf_l2_1 cf_l2_2 cr_l2_0 cr_l2_1 cr_l2_2 cr_l2_3 hk2 hkf
                                  have cg_l2_0 : hl2.2 (B) = some (mO B ((p : Int)) (hf) (le) (fc) (pn) (rn) (hn) (qn)) := Fr.at0 (fr_l2).1 (Ni.c ⟨ne4, ne5⟩ (Ni.c ⟨ne0, ne1⟩ (Ni.c ⟨ne2, ne3⟩ (Ni.c ⟨ne6, ne7⟩ (Ni.n _))))) hm
                                  refine g_iload 0 dX10_byX_420 rfl ?_
                                  refine g_iload_n 7 dX10_byX_422 rfl ?_
                                  refine g_icmp_ge (tgt := 494) dX10_byX_423 rfl (by first | (unfold gW; omega) | (unfold gW; split <;> omega)) (by first | (unfold gW; omega) | (unfold gW; split <;> omega)) (fun c1657 => ?_) (fun c1657 => ?_)
                                  · skip
                                    refine g_iinc 2 (ls2 := [(10, .int (gI (i2 + 1))), (13, .int (gI (k2))), (11, .long (gJ (f))), (8, .long (gJ (ivr p (M1 c c)))), (4, .long (gJ (r2))), (7, .int (gI (w))), (6, .int (gI (c))), (3, .int (gI ((dgi hp (fa)) + (dgi hp (fb))))), (2, .int (gI (dgi hp (fb)))), (1, .int (gI (dgi hp (fa)))), (0, .ref (B))]) dX10_byX_494 rfl (by decide) rfl ?_
                                    refine g_goto (tgt := 386) dX10_byX_497 rfl ?_
                                    refine Go.sub [0, 3, 4, 5, 6, 7, 8, 9, 10] rfl ?_
                                    exact ih_l1 _ (by omega) (i2 + 1) (gup M2 i2 (rwL p M2 f c i2 k2)) hl2 rfl fr_l2 cf_l2_0 cf_l2_1 cf_l2_2 cr_l2_0 cr_l2_1 cr_l2_2 cr_l2_3 (by omega) (fun a b a0 a1 b0 b1 => by
                                                            by_cases z : a = i2
                                                            · rw [z, gup_s]; exact rwL_bd hp (hB2 i2 b (by omega) (by omega) b0 b1)
                                                            · rw [gup_n _ _ z]; exact hB2 a b a0 a1 b0 b1) (fun b => by rw [gup_n _ _ (by omega)]; exact hK0 b) (fun a b a0 => by rw [gup_n _ _ (by omega)]; exact hK a b (by omega)) (fun a b a0 a1 b0 b1 => by
                                                            letI := fR hp
                                                            by_cases z : a = i2
                                                            · rw [z, gup_s]
                                                              unfold rwL
                                                              rw [if_pos (by omega), zi_mod, zi_add, zi_mul, zi_sub, zi_p, hK i2 b (by omega), hK0 b, hfe, zi_mod, hK i2 c (by omega)]
                                                              generalize zi hp (M1 i2 b) = x
                                                              generalize zi hp (M1 c b) = y
                                                              generalize zi hp (M1 i2 c * ivr p (M1 c c)) = u
                                                              grind
                                                            · rw [gup_n _ _ z]; exact hF a b a0 (by omega) b0 b1)
                                  · skip
                                    refine g_lload 1 dX10_byX_426 rfl ?_
                                    refine g_lconst0 dX10_byX_428 ?_
                                    refine g_lcmp dX10_byX_429 (by unfold gX; omega) (by unfold gX; omega) ?_
                                    refine g_if_eq (tgt := 494) dX10_byX_430 rfl (gW_cmp _ _) (fun c1658 => ?_) (fun c1658 => ?_)
                                    · skip
                                      have hf0 := gcmp_eq.mp c1658
                                      refine g_iinc 2 (ls2 := [(10, .int (gI (i2 + 1))), (13, .int (gI (k2))), (11, .long (gJ (f))), (8, .long (gJ (ivr p (M1 c c)))), (4, .long (gJ (r2))), (7, .int (gI (w))), (6, .int (gI (c))), (3, .int (gI ((dgi hp (fa)) + (dgi hp (fb))))), (2, .int (gI (dgi hp (fb)))), (1, .int (gI (dgi hp (fa)))), (0, .ref (B))]) dX10_byX_494 rfl (by decide) rfl ?_
                                      refine g_goto (tgt := 386) dX10_byX_497 rfl ?_
                                      refine Go.sub [0, 3, 4, 5, 6, 7, 8, 9, 10] rfl ?_
                                      exact ih_l1 _ (by omega) (i2 + 1) (M2) hl2 rfl fr_l2 cf_l2_0 (by
                                                            have hkc : k2 = c := by omega
                                                            have e9 := cf_l2_1
                                                            rw [hkc, rwL_0, gup_id] at e9
                                                            exact e9) cf_l2_2 cr_l2_0 cr_l2_1 cr_l2_2 cr_l2_3 (by omega) hB2 hK0 (fun a b a0 => hK a b (by omega)) (fun a b a0 a1 b0 b1 => by
                                                            letI := fR hp
                                                            rcases Int.lt_or_le a i2 with z | z
                                                            · exact hF a b a0 z b0 b1
                                                            · have ea : a = i2 := by omega
                                                              have e9 : zi hp (M1 a c * ivr p (M1 c c)) = 0 := by
                                                                rw [ea, ← hK i2 c (by omega), ← zi_mod, ← hfe, hf0, zi_0]
                                                              rw [e9, hK a b (by omega)]
                                                              generalize zi hp (M1 a b) = x
                                                              generalize zi hp (M1 c b) = y
                                                              grind)
                                    · skip
                                      have hf0 : ¬ f = 0 := fun z => c1658 (gcmp_eq.mpr z)
                                      refine g_aload_n 10 dX10_byX_433 rfl ?_
                                      refine g_getf 7 dX10_byX_434 kX10 (by decide) fX10_29 cg_l2_0 rfl ?_
                                      refine g_bipush dX10_byX_437 (by decide) ?_
                                      refine g_iload 2 dX10_byX_439 rfl ?_
                                      refine g_imul dX10_byX_441 ?_
                                      refine g_iload 0 dX10_byX_442 rfl ?_
                                      refine g_iadd dX10_byX_444 ?_
                                      refine g_aload_n 10 dX10_byX_445 rfl ?_
                                      refine g_getf 7 dX10_byX_446 kX10 (by decide) fX10_29 cg_l2_0 rfl ?_
                                      refine g_bipush dX10_byX_449 (by decide) ?_
                                      refine g_iload 2 dX10_byX_451 rfl ?_
                                      refine g_imul dX10_byX_453 ?_
                                      refine g_iload 0 dX10_byX_454 rfl ?_
                                      refine g_iadd dX10_byX_456 ?_
                                      refine g_laload dX10_byX_457 cf_l2_1 (by omega) (by omega) (by omega) ?_
                                      have hq4 : a8 (gup M2 i2 (rwL p M2 f c i2 k2)) (80 * i2 + k2) = M2 i2 k2 := by rw [a8_r _ (by omega) (by omega), gup_s, rwL_at]
                                      rw [hq4]
                                      have hb4 := hB2 i2 k2 (by omega) (by omega) (by omega) (by omega)
                                      refine g_aload_n 10 dX10_byX_458 rfl ?_
                                      refine g_getf 0 dX10_byX_459 kX10 (by decide) fX10_78 cg_l2_0 rfl ?_
                                      refine g_i2l dX10_byX_462 (by first | (unfold gW; omega) | (unfold gW; split <;> omega)) ?_
                                      refine g_lload 1 dX10_byX_463 rfl ?_
                                      refine g_lsub dX10_byX_465 ?_
                                      refine g_aload_n 10 dX10_byX_466 rfl ?_
                                      refine g_getf 7 dX10_byX_467 kX10 (by decide) fX10_29 cg_l2_0 rfl ?_
                                      refine g_bipush dX10_byX_470 (by decide) ?_
                                      refine g_iload 6 dX10_byX_472 rfl ?_
                                      refine g_imul dX10_byX_474 ?_
                                      refine g_iload 0 dX10_byX_475 rfl ?_
                                      refine g_iadd dX10_byX_477 ?_
                                      refine g_laload dX10_byX_478 cf_l2_1 (by omega) (by omega) (by omega) ?_
                                      have hq5 : a8 (gup M2 i2 (rwL p M2 f c i2 k2)) (80 * c + k2) = M2 c k2 := by rw [a8_r _ (by omega) (by omega), gup_n _ _ (by omega)]
                                      rw [hq5]
                                      have hb5 := hB2 c k2 (by omega) (by omega) (by omega) (by omega)
                                      have bm : 0 ≤ (p - f) * M2 c k2 ∧ (p - f) * M2 c k2 ≤ 65536 * 65536 := ⟨Int.mul_nonneg (by omega) hb5.1, Int.mul_le_mul (by omega) (by omega) hb5.1 (by omega)⟩
                                      refine g_lmul dX10_byX_479 ?_
                                      refine g_ladd dX10_byX_480 ?_
                                      refine g_aload_n 10 dX10_byX_481 rfl ?_
                                      refine g_getf 0 dX10_byX_482 kX10 (by decide) fX10_78 cg_l2_0 rfl ?_
                                      refine g_i2l dX10_byX_485 (by first | (unfold gW; omega) | (unfold gW; split <;> omega)) ?_
                                      refine g_lrem dX10_byX_486 (by unfold gX; omega) (by unfold gX; omega) (by omega) ?_
                                      rw [tm_em (show 0 ≤ M2 i2 k2 + (p - f) * M2 c k2 by omega)]
                                      refine g_lastore dX10_byX_487 cf_l2_1 (by omega) (by omega) (by omega) ?_
                                      obtain ⟨hh1659, eh1659⟩ : ∃ z : GH, z = hset hl2 (B + 7) (aJ 6400 (gup (a8 (gup M2 i2 (rwL p M2 f c i2 k2))) (((80) * (i2)) + (k2)) ((M2 i2 k2 + (p - f) * M2 c k2) % p))) := ⟨_, rfl⟩
                                      refine Go.hp eh1659.symm ?_
                                      have fx1659 : Fr [B + 7] hl2 hh1659 := Fr.w0 (Fr.rf _ _) (List.Mem.head _) eh1659
                                      have fh1659_3 : hh1659.2 (B + 8) = some (aI 11520 (g8)) := hs_n eh1659 (ne35).s cf_l2_2
                                      have fhw1659 : hh1659.2 (B + 7) = some (aJ 6400 (gup (a8 (gup M2 i2 (rwL p M2 f c i2 k2))) (((80) * (i2)) + (k2)) ((M2 i2 k2 + (p - f) * M2 c k2) % p))) := hs_s eh1659
                                      have mfz1660 : MF B [B + 7] [] hl2 hh1659 := MF.of fx1659 (fr_l2).2.1 (Ni.c ⟨ne31, ne32⟩ (Ni.n _)) (Ni.c ⟨ne33, ne34⟩ (Ni.n _)) []
                                      have fk1661_0 : hh1659.2 (B) = some (mO B ((p : Int)) (hf) (le) (fc) (pn) (rn) (hn) (qn)) := Fr.at0 (mfz1660).1 (Ni.c ⟨ne4, ne5⟩ (Ni.c ⟨ne6, ne7⟩ (Ni.n _))) cg_l2_0
                                      have fk1661_1 : hh1659.2 (B + 4) = some (aI 1500 (gm)) := Fr.at0 (mfz1660).1 (Ni.c ⟨ne26, ne27⟩ (Ni.c ⟨ne28, ne29⟩ (Ni.n _))) cf_l2_0
                                      have rk1661_0 : MP hp B hh1659 (T) := (cr_l2_0).fr (mfz1660).1 (Ni.c ⟨ne11, ne12⟩ (Ni.c ⟨ne13, ne14⟩ (Ni.n _))) (Ni.c ⟨ne17, ne18⟩ (Ni.c ⟨ne19, ne20⟩ (Ni.n _)))
                                      have rk1661_1 : MWA B hh1659 := (cr_l2_1).fr (mfz1660).1 (Ni.c ⟨ne22, ne23⟩ (Ni.c ⟨ne24, ne25⟩ (Ni.n _)))
                                      have rk1661_2 : MG hp B hh1659 (0) (fa) := (cr_l2_2).fr hp2 mfz1660 Nr.n
                                      have rk1661_3 : MG hp B hh1659 (1) (fb) := (cr_l2_3).fr hp2 mfz1660 Nr.n
                                      have fr1661 : MF B [B + 1, B + 3, B + 7] [2] h hh1659 := (fr_l2).tr ((mfz1660).mo (sub_c (List.Mem.tail _ (List.Mem.tail _ (List.Mem.head _))) sub_n) sbI_n)
                                      refine g_iinc 0 (ls2 := [(13, .int (gI (k2 + 1))), (11, .long (gJ (f))), (10, .int (gI (i2))), (8, .long (gJ (ivr p (M1 c c)))), (4, .long (gJ (r2))), (7, .int (gI (w))), (6, .int (gI (c))), (3, .int (gI ((dgi hp (fa)) + (dgi hp (fb))))), (2, .int (gI (dgi hp (fb)))), (1, .int (gI (dgi hp (fa)))), (0, .ref (B))]) dX10_byX_488 rfl (by decide) rfl ?_
                                      refine g_goto (tgt := 420) dX10_byX_491 rfl ?_
                                      exact ih_l2 _ (by omega) (k2 + 1) hh1659 rfl fr1661 fk1661_1 (by
                                                            have e9 := fhw1659
                                                            rw [a8_wg _ _ (by omega) (by omega), rwL_s M2 hk2.1] at e9
                                                            exact e9) fh1659_3 rk1661_0 rk1661_1 rk1661_2 rk1661_3 (by omega) (Or.inr (by omega))
                                exact l2 _ (c) hl1 rfl fr_l1 cf_l1_0 (by rw [rwL_0, gup_id]; exact cf_l1_1) cf_l1_2 cr_l1_0 cr_l1_1 cr_l1_2 cr_l1_3 (by omega) (Or.inl rfl)
                            exact l1 _ (c + 1) (M1) hls rfl fr_ls cf_ls_0 f7b cf_ls_2 cr_ls_0 cr_ls_1 cr_ls_2 cr_ls_3 (by omega) hB1 (fun b => rfl) (fun a b _ => rfl) (fun a b a0 a1 b0 b1 => by omega)
                          · skip
                            refine g_iload 1 dX10_byX_238 rfl ?_
                            refine g_iload 2 dX10_byX_240 rfl ?_
                            refine g_icmp_eq (tgt := 307) dX10_byX_242 rfl (by first | (unfold gW; omega) | (unfold gW; split <;> omega)) (by first | (unfold gW; omega) | (unfold gW; split <;> omega)) (fun c1862 => ?_) (fun c1862 => ?_)
                            · skip
                              have hk0 : k = 0 := by omega
                              have hwc : w = c := by omega
                              obtain ⟨M1, hM1e⟩ : ∃ M1 : Int → Int → Int, M1 = M := ⟨_, rfl⟩
                              have f7b : hls.2 (B + 7) = some (aJ 6400 (a8 M1)) := by
                                have e9 := cf_ls_1
                                rw [hk0, swK_0] at e9
                                rw [hM1e]; exact e9
                              have hB1 : ∀ a b : Int, 0 ≤ a → a < dgi hp fa + dgi hp fb → 0 ≤ b → b < dgi hp fa + dgi hp fb → 0 ≤ M1 a b ∧ M1 a b < p := by rw [hM1e]; exact hB
                              have hpv : M1 c c = M w c := by rw [hM1e, hwc]
                              have hbw9 := hB w c (by omega) (by omega) (by omega) (by omega)
                              have hpv0 : 0 < M1 c c ∧ M1 c c < p := by rw [hpv]; omega
                              refine g_iload 1 dX10_byX_307 rfl ?_
                              refine g_iload 2 dX10_byX_309 rfl ?_
                              refine g_icmp_eq (tgt := 331) dX10_byX_311 rfl (by first | (unfold gW; omega) | (unfold gW; split <;> omega)) (by first | (unfold gW; omega) | (unfold gW; split <;> omega)) (fun c1863 => ?_) (fun c1863 => absurd c1863 (by omega))
                              refine g_lload 3 dX10_byX_331 rfl ?_
                              obtain ⟨r1, hr1e⟩ : ∃ r1 : Int, r1 = r := ⟨_, rfl⟩
                              rw [← hr1e]
                              have hr1 : 0 ≤ r1 ∧ r1 < p := by rw [hr1e]; exact hr
                              have hG1 : gIv hp (dgi hp fa + dgi hp fb) c M1 r1 (rsD hp (dgi hp fa).toNat (dgi hp fb).toNat fa fb) := by rw [hM1e, hr1e]; exact hG
                              refine g_lstore (ls2 := [(4, .long (gJ (r1))), (8, .int (gI (k))), (7, .int (gI (w))), (6, .int (gI (c))), (3, .int (gI ((dgi hp (fa)) + (dgi hp (fb))))), (2, .int (gI (dgi hp (fb)))), (1, .int (gI (dgi hp (fa)))), (0, .ref (B))]) dX10_byX_333 (by decide) rfl ?_
                              refine g_lload 0 dX10_byX_335 rfl ?_
                              refine g_aload_n 7 dX10_byX_337 rfl ?_
                              refine g_getf 7 dX10_byX_338 kX10 (by decide) fX10_29 cg_ls_0 rfl ?_
                              refine g_bipush dX10_byX_341 (by decide) ?_
                              refine g_iload 3 dX10_byX_343 rfl ?_
                              refine g_imul dX10_byX_345 ?_
                              refine g_iload 3 dX10_byX_346 rfl ?_
                              refine g_iadd dX10_byX_348 ?_
                              refine g_laload dX10_byX_349 f7b (by omega) (by omega) (by omega) ?_
                              have hq1 : a8 M1 (80 * c + c) = M1 c c := a8_r _ (by omega) (by omega)
                              rw [hq1]
                              have bp1 := g_prod hr1.1 hr1.2 (show 0 ≤ M1 c c by omega) hpv0.2 (show (p : Int) ≤ 65536 by omega)
                              refine g_lmul dX10_byX_350 ?_
                              refine g_aload_n 7 dX10_byX_351 rfl ?_
                              refine g_getf 0 dX10_byX_352 kX10 (by decide) fX10_78 cg_ls_0 rfl ?_
                              refine g_i2l dX10_byX_355 (by first | (unfold gW; omega) | (unfold gW; split <;> omega)) ?_
                              refine g_lrem dX10_byX_356 (by unfold gX; omega) (by unfold gX; omega) (by omega) ?_
                              rw [tm_em bp1.1]
                              obtain ⟨r2, hr2⟩ : ∃ r2 : Int, r2 = r1 * M1 c c % p := ⟨_, rfl⟩
                              rw [← hr2]
                              have hr2b : 0 ≤ r2 ∧ r2 < p := by rw [hr2]; exact em_in hp _
                              refine g_lstore (ls2 := [(4, .long (gJ (r2))), (8, .int (gI (k))), (7, .int (gI (w))), (6, .int (gI (c))), (3, .int (gI ((dgi hp (fa)) + (dgi hp (fb))))), (2, .int (gI (dgi hp (fb)))), (1, .int (gI (dgi hp (fa)))), (0, .ref (B))]) dX10_byX_357 (by decide) rfl ?_
                              refine g_aload_n 7 dX10_byX_359 rfl ?_
                              refine g_aload_n 7 dX10_byX_360 rfl ?_
                              refine g_getf 7 dX10_byX_361 kX10 (by decide) fX10_29 cg_ls_0 rfl ?_
                              refine g_bipush dX10_byX_364 (by decide) ?_
                              refine g_iload 3 dX10_byX_366 rfl ?_
                              refine g_imul dX10_byX_368 ?_
                              refine g_iload 3 dX10_byX_369 rfl ?_
                              refine g_iadd dX10_byX_371 ?_
                              refine g_laload dX10_byX_372 f7b (by omega) (by omega) (by omega) ?_
                              have hq2 : a8 M1 (80 * c + c) = M1 c c := a8_r _ (by omega) (by omega)
                              rw [hq2]
                              refine g_l2i dX10_byX_373 ?_
                              refine g_callV (nc2 := 0) (ns2 := 0) (ci := 10) (As := [.int (gI (M1 c c))]) (st := []) rfl dX10_byX_374 okX10_inverse lX10_173 itX10_inverse seX10_inverse rfl cg_ls_0 (by decide) (by decide) rfl (Nat.le_of_ble_eq_true rfl) (sM_inverse N _ B p hp hp2 hf le fc pn rn hn qn (M1 c c) cg_ls_0 (by omega) (by omega)) (by omega) (by omega) (fun v1864 hc1864 q1864 => ?_)
                              obtain ⟨hq1865, rfl⟩ := q1864
                              refine Go.nf (h' := hls) (st' := [.int (gI (ivr p (M1 c c)))]) hq1865 rfl (Nat.le_refl _) (Nat.le_refl _) ?_
                              have hiv := ivr_in hp (M1 c c)
                              refine g_i2l dX10_byX_377 (by first | (unfold gW; omega) | (unfold gW; split <;> omega)) ?_
                              refine g_lstore (ls2 := [(8, .long (gJ (ivr p (M1 c c)))), (4, .long (gJ (r2))), (7, .int (gI (w))), (6, .int (gI (c))), (3, .int (gI ((dgi hp (fa)) + (dgi hp (fb))))), (2, .int (gI (dgi hp (fb)))), (1, .int (gI (dgi hp (fa)))), (0, .ref (B))]) dX10_byX_378 (by decide) rfl ?_
                              refine g_iload 3 dX10_byX_380 rfl ?_
                              refine g_iconst dX10_byX_382 ?_
                              refine g_iadd dX10_byX_383 ?_
                              refine g_istore (ls2 := [(10, .int (gI ((c) + (1)))), (8, .long (gJ (ivr p (M1 c c)))), (4, .long (gJ (r2))), (7, .int (gI (w))), (6, .int (gI (c))), (3, .int (gI ((dgi hp (fa)) + (dgi hp (fb))))), (2, .int (gI (dgi hp (fb)))), (1, .int (gI (dgi hp (fa)))), (0, .ref (B))]) dX10_byX_384 (by decide) rfl ?_
                              have l1 : ∀ (kk : Nat) (i2 : Int) (M2 : Int → Int → Int) (hl1 : GH), kk = (80 - i2).toNat → MF B [B + 1, B + 3, B + 7] [2] h hl1 → hl1.2 (B + 4) = some (aI 1500 (gm)) → hl1.2 (B + 7) = some (aJ 6400 (a8 M2)) → hl1.2 (B + 8) = some (aI 11520 (g8)) → MP hp B hl1 (T) → MWA B hl1 → MG hp B hl1 (0) (fa) → MG hp B hl1 (1) (fb) → (c + 1 ≤ i2 ∧ i2 ≤ dgi hp fa + dgi hp fb) → (∀ a b : Int, 0 ≤ a → a < dgi hp fa + dgi hp fb → 0 ≤ b → b < dgi hp fa + dgi hp fb → 0 ≤ M2 a b ∧ M2 a b < p) → (∀ b, M2 c b = M1 c b) → (∀ a b, i2 ≤ a → M2 a b = M1 a b) → (letI := fR hp; ∀ a b, c < a → a < i2 → c ≤ b → b < dgi hp fa + dgi hp fb → zi hp (M2 a b) = zi hp (M1 a b) + (- (zi hp (M1 a c * ivr p (M1 c c)))) * zi hp (M1 c b)) → Go N mX10_byX (fun v h1 => Fr [B + 1, B + 3, B + 5, B + 7] h h1 ∧ MS B h1 ∧ ∃ w T2, Ou T (pa13 hp fa fb) w T2 ∧ v = some (.int (gI w)) ∧ MP hp B h1 T2) 0 0 hl1 386 [(10, .int (gI (i2))), (8, .long (gJ (ivr p (M1 c c)))), (4, .long (gJ (r2))), (7, .int (gI (w))), (6, .int (gI (c))), (3, .int (gI ((dgi hp (fa)) + (dgi hp (fb))))), (2, .int (gI (dgi hp (fb)))), (1, .int (gI (dgi hp (fa)))), (0, .ref (B))] [] := by
                                refine Go.ind (fun kk ih_l1 => ?_)
                                intro i2 M2 hl1 hkk_l1 fr_l1 cf_l1_0 cf_l1_1 cf_l1_2 cr_l1_0 cr_l1_1 cr_l1_2 cr_l1_3 hi2 hB2 hK0 hK hF
                                have cg_l1_0 : hl1.2 (B) = some (mO B ((p : Int)) (hf) (le) (fc) (pn) (rn) (hn) (qn)) := Fr.at0 (fr_l1).1 (Ni.c ⟨ne4, ne5⟩ (Ni.c ⟨ne0, ne1⟩ (Ni.c ⟨ne2, ne3⟩ (Ni.c ⟨ne6, ne7⟩ (Ni.n _))))) hm
                                refine g_iload 0 dX10_byX_386 rfl ?_
                                refine g_iload_n 5 dX10_byX_388 rfl ?_
                                refine g_icmp_ge (tgt := 500) dX10_byX_389 rfl (by first | (unfold gW; omega) | (unfold gW; split <;> omega)) (by first | (unfold gW; omega) | (unfold gW; split <;> omega)) (fun c1966 => ?_) (fun c1966 => ?_)
                                · skip
                                  refine g_iinc 4 (ls2 := [(6, .int (gI (c + 1))), (10, .int (gI (i2))), (8, .long (gJ (ivr p (M1 c c)))), (4, .long (gJ (r2))), (7, .int (gI (w))), (3, .int (gI ((dgi hp (fa)) + (dgi hp (fb))))), (2, .int (gI (dgi hp (fb)))), (1, .int (gI (dgi hp (fa)))), (0, .ref (B))]) dX10_byX_500 rfl (by decide) rfl ?_
                                  refine g_goto (tgt := 170) dX10_byX_503 rfl ?_
                                  refine Go.sub [0, 3, 5, 6, 7, 8] rfl ?_
                                  exact ih_lc _ (by omega) (c + 1) (r2) (M2) hl1 rfl fr_l1 cf_l1_0 cf_l1_1 cf_l1_2 cr_l1_0 cr_l1_1 cr_l1_2 cr_l1_3 (by omega) hr2b hB2 (gIv_s hp hG1 hc.1 (by omega) hpv0 hr2 hK0 (fun a b a0 a1 b0 b1 => hF a b a0 (by omega) b0 b1))
                                · skip
                                  refine g_aload_n 8 dX10_byX_392 rfl ?_
                                  refine g_getf 7 dX10_byX_393 kX10 (by decide) fX10_29 cg_l1_0 rfl ?_
                                  refine g_bipush dX10_byX_396 (by decide) ?_
                                  refine g_iload 0 dX10_byX_398 rfl ?_
                                  refine g_imul dX10_byX_400 ?_
                                  refine g_iload 4 dX10_byX_401 rfl ?_
                                  refine g_iadd dX10_byX_403 ?_
                                  refine g_laload dX10_byX_404 cf_l1_1 (by omega) (by omega) (by omega) ?_
                                  have hq3 : a8 M2 (80 * i2 + c) = M2 i2 c := a8_r _ (by omega) (by omega)
                                  rw [hq3]
                                  have hb3 := hB2 i2 c (by omega) (by omega) (by omega) (by omega)
                                  have bp3 := g_prod hb3.1 hb3.2 hiv.1 hiv.2 (show (p : Int) ≤ 65536 by omega)
                                  refine g_lload 1 dX10_byX_405 rfl ?_
                                  refine g_lmul dX10_byX_407 ?_
                                  refine g_aload_n 8 dX10_byX_408 rfl ?_
                                  refine g_getf 0 dX10_byX_409 kX10 (by decide) fX10_78 cg_l1_0 rfl ?_
                                  refine g_i2l dX10_byX_412 (by first | (unfold gW; omega) | (unfold gW; split <;> omega)) ?_
                                  refine g_lrem dX10_byX_413 (by unfold gX; omega) (by unfold gX; omega) (by omega) ?_
                                  rw [tm_em bp3.1]
                                  obtain ⟨f, hfe⟩ : ∃ f : Int, f = M2 i2 c * ivr p (M1 c c) % p := ⟨_, rfl⟩
                                  rw [← hfe]
                                  have hfb : 0 ≤ f ∧ f < p := by rw [hfe]; exact em_in hp _
                                  refine g_lstore (ls2 := [(11, .long (gJ (f))), (10, .int (gI (i2))), (8, .long (gJ (ivr p (M1 c c)))), (4, .long (gJ (r2))), (7, .int (gI (w))), (6, .int (gI (c))), (3, .int (gI ((dgi hp (fa)) + (dgi hp (fb))))), (2, .int (gI (dgi hp (fb)))), (1, .int (gI (dgi hp (fa)))), (0, .ref (B))]) dX10_byX_414 (by decide) rfl ?_
                                  refine g_iload 5 dX10_byX_416 rfl ?_
                                  refine g_istore (ls2 := [(13, .int (gI (c))), (11, .long (gJ (f))), (10, .int (gI (i2))), (8, .long (gJ (ivr p (M1 c c)))), (4, .long (gJ (r2))), (7, .int (gI (w))), (6, .int (gI (c))), (3, .int (gI ((dgi hp (fa)) + (dgi hp (fb))))), (2, .int (gI (dgi hp (fb)))), (1, .int (gI (dgi hp (fa)))), (0, .ref (B))]) dX10_byX_418 (by decide) rfl ?_
                                  have l2 : ∀ (kk : Nat) (k2 : Int) (hl2 : GH), kk = (80 - k2).toNat → MF B [B + 1, B + 3, B + 7] [2] h hl2 → hl2.2 (B + 4) = some (aI 1500 (gm)) → hl2.2 (B + 7) = some (aJ 6400 (a8 (gup M2 i2 (rwL p M2 f c i2 k2)))) → hl2.2 (B + 8) = some (aI 11520 (g8)) → MP hp B hl2 (T) → MWA B hl2 → MG hp B hl2 (0) (fa) → MG hp B hl2 (1) (fb) → (c ≤ k2 ∧ k2 ≤ dgi hp fa + dgi hp fb) → (k2 = c ∨ f ≠ 0) → Go N mX10_byX (fun v h1 => Fr [B + 1, B + 3, B + 5, B + 7] h h1 ∧ MS B h1 ∧ ∃ w T2, Ou T (pa13 hp fa fb) w T2 ∧ v = some (.int (gI w)) ∧ MP hp B h1 T2) 0 0 hl2 420 [(13, .int (gI (k2))), (11, .long (gJ (f))), (10, .int (gI (i2))), (8, .long (gJ (ivr p (M1 c c)))), (4, .long (gJ (r2))), (7, .int (gI (w))), (6, .int (gI (c))), (3, .int (gI ((dgi hp (fa)) + (dgi hp (fb))))), (2, .int (gI (dgi hp (fb)))), (1, .int (gI (dgi hp (fa)))), (0, .ref (B))] [] := by
                                    refine Go.ind (fun kk ih_l2 => ?_)
                                    intro k2 hl2 hkk_l2 fr_l2 cf_l2_0 cf_l2_1 cf_l2_2 cr_l2_0 cr_l2_1 cr_l2_2 cr_l2_3 hk2 hkf
                                    have cg_l2_0 : hl2.2 (B) = some (mO B ((p : Int)) (hf) (le) (fc) (pn) (rn) (hn) (qn)) := Fr.at0 (fr_l2).1 (Ni.c ⟨ne4, ne5⟩ (Ni.c ⟨ne0, ne1⟩ (Ni.c ⟨ne2, ne3⟩ (Ni.c ⟨ne6, ne7⟩ (Ni.n _))))) hm
                                    refine g_iload 0 dX10_byX_420 rfl ?_
                                    refine g_iload_n 7 dX10_byX_422 rfl ?_
                                    refine g_icmp_ge (tgt := 494) dX10_byX_423 rfl (by first | (unfold gW; omega) | (unfold gW; split <;> omega)) (by first | (unfold gW; omega) | (unfold gW; split <;> omega)) (fun c2067 => ?_) (fun c2067 => ?_)
                                    · skip
                                      refine g_iinc 2 (ls2 := [(10, .int (gI (i2 + 1))), (13, .int (gI (k2))), (11, .long (gJ (f))), (8, .long (gJ (ivr p (M1 c c)))), (4, .long (gJ (r2))), (7, .int (gI (w))), (6, .int (gI (c))), (3, .int (gI ((dgi hp (fa)) + (dgi hp (fb))))), (2, .int (gI (dgi hp (fb)))), (1, .int (gI (dgi hp (fa)))), (0, .ref (B))]) dX10_byX_494 rfl (by decide) rfl ?_
                                      refine g_goto (tgt := 386) dX10_byX_497 rfl ?_
                                      refine Go.sub [0, 3, 4, 5, 6, 7, 8, 9, 10] rfl ?_
                                      exact ih_l1 _ (by omega) (i2 + 1) (gup M2 i2 (rwL p M2 f c i2 k2)) hl2 rfl fr_l2 cf_l2_0 cf_l2_1 cf_l2_2 cr_l2_0 cr_l2_1 cr_l2_2 cr_l2_3 (by omega) (fun a b a0 a1 b0 b1 => by
                                                            by_cases z : a = i2
                                                            · rw [z, gup_s]; exact rwL_bd hp (hB2 i2 b (by omega) (by omega) b0 b1)
                                                            · rw [gup_n _ _ z]; exact hB2 a b a0 a1 b0 b1) (fun b => by rw [gup_n _ _ (by omega)]; exact hK0 b) (fun a b a0 => by rw [gup_n _ _ (by omega)]; exact hK a b (by omega)) (fun a b a0 a1 b0 b1 => by
                                                            letI := fR hp
                                                            by_cases z : a = i2
                                                            · rw [z, gup_s]
                                                              unfold rwL
                                                              rw [if_pos (by omega), zi_mod, zi_add, zi_mul, zi_sub, zi_p, hK i2 b (by omega), hK0 b, hfe, zi_mod, hK i2 c (by omega)]
                                                              generalize zi hp (M1 i2 b) = x
                                                              generalize zi hp (M1 c b) = y
                                                              generalize zi hp (M1 i2 c * ivr p (M1 c c)) = u
                                                              grind
                                                            · rw [gup_n _ _ z]; exact hF a b a0 (by omega) b0 b1)
                                    · skip
                                      refine g_lload 1 dX10_byX_426 rfl ?_
                                      refine g_lconst0 dX10_byX_428 ?_
                                      refine g_lcmp dX10_byX_429 (by unfold gX; omega) (by unfold gX; omega) ?_
                                      refine g_if_eq (tgt := 494) dX10_byX_430 rfl (gW_cmp _ _) (fun c2068 => ?_) (fun c2068 => ?_)
                                      · skip
                                        have hf0 := gcmp_eq.mp c2068
                                        refine g_iinc 2 (ls2 := [(10, .int (gI (i2 + 1))), (13, .int (gI (k2))), (11, .long (gJ (f))), (8, .long (gJ (ivr p (M1 c c)))), (4, .long (gJ (r2))), (7, .int (gI (w))), (6, .int (gI (c))), (3, .int (gI ((dgi hp (fa)) + (dgi hp (fb))))), (2, .int (gI (dgi hp (fb)))), (1, .int (gI (dgi hp (fa)))), (0, .ref (B))]) dX10_byX_494 rfl (by decide) rfl ?_
                                        refine g_goto (tgt := 386) dX10_byX_497 rfl ?_
                                        refine Go.sub [0, 3, 4, 5, 6, 7, 8, 9, 10] rfl ?_
                                        exact ih_l1 _ (by omega) (i2 + 1) (M2) hl2 rfl fr_l2 cf_l2_0 (by
                                                            have hkc : k2 = c := by omega
                                                            have e9 := cf_l2_1
                                                            rw [hkc, rwL_0, gup_id] at e9
                                                            exact e9) cf_l2_2 cr_l2_0 cr_l2_1 cr_l2_2 cr_l2_3 (by omega) hB2 hK0 (fun a b a0 => hK a b (by omega)) (fun a b a0 a1 b0 b1 => by
                                                            letI := fR hp
                                                            rcases Int.lt_or_le a i2 with z | z
                                                            · exact hF a b a0 z b0 b1
                                                            · have ea : a = i2 := by omega
                                                              have e9 : zi hp (M1 a c * ivr p (M1 c c)) = 0 := by
                                                                rw [ea, ← hK i2 c (by omega), ← zi_mod, ← hfe, hf0, zi_0]
                                                              rw [e9, hK a b (by omega)]
                                                              generalize zi hp (M1 a b) = x
                                                              generalize zi hp (M1 c b) = y
                                                              grind)
                                      · skip
                                        have hf0 : ¬ f = 0 := fun z => c2068 (gcmp_eq.mpr z)
                                        refine g_aload_n 10 dX10_byX_433 rfl ?_
                                        refine g_getf 7 dX10_byX_434 kX10 (by decide) fX10_29 cg_l2_0 rfl ?_
                                        refine g_bipush dX10_byX_437 (by decide) ?_
                                        refine g_iload 2 dX10_byX_439 rfl ?_
                                        refine g_imul dX10_byX_441 ?_
                                        refine g_iload 0 dX10_byX_442 rfl ?_
                                        refine g_iadd dX10_byX_444 ?_
                                        refine g_aload_n 10 dX10_byX_445 rfl ?_
                                        refine g_getf 7 dX10_byX_446 kX10 (by decide) fX10_29 cg_l2_0 rfl ?_
                                        refine g_bipush dX10_byX_449 (by decide) ?_
                                        refine g_iload 2 dX10_byX_451 rfl ?_
                                        refine g_imul dX10_byX_453 ?_
                                        refine g_iload 0 dX10_byX_454 rfl ?_
                                        refine g_iadd dX10_byX_456 ?_
                                        refine g_laload dX10_byX_457 cf_l2_1 (by omega) (by omega) (by omega) ?_
                                        have hq4 : a8 (gup M2 i2 (rwL p M2 f c i2 k2)) (80 * i2 + k2) = M2 i2 k2 := by rw [a8_r _ (by omega) (by omega), gup_s, rwL_at]
                                        rw [hq4]
                                        have hb4 := hB2 i2 k2 (by omega) (by omega) (by omega) (by omega)
                                        refine g_aload_n 10 dX10_byX_458 rfl ?_
                                        refine g_getf 0 dX10_byX_459 kX10 (by decide) fX10_78 cg_l2_0 rfl ?_
                                        refine g_i2l dX10_byX_462 (by first | (unfold gW; omega) | (unfold gW; split <;> omega)) ?_
                                        refine g_lload 1 dX10_byX_463 rfl ?_
                                        refine g_lsub dX10_byX_465 ?_
                                        refine g_aload_n 10 dX10_byX_466 rfl ?_
                                        refine g_getf 7 dX10_byX_467 kX10 (by decide) fX10_29 cg_l2_0 rfl ?_
                                        refine g_bipush dX10_byX_470 (by decide) ?_
                                        refine g_iload 6 dX10_byX_472 rfl ?_
                                        refine g_imul dX10_byX_474 ?_
                                        refine g_iload 0 dX10_byX_475 rfl ?_
                                        refine g_iadd dX10_byX_477 ?_
                                        refine g_laload dX10_byX_478 cf_l2_1 (by omega) (by omega) (by omega) ?_
                                        have hq5 : a8 (gup M2 i2 (rwL p M2 f c i2 k2)) (80 * c + k2) = M2 c k2 := by rw [a8_r _ (by omega) (by omega), gup_n _ _ (by omega)]
                                        rw [hq5]
                                        have hb5 := hB2 c k2 (by omega) (by omega) (by omega) (by omega)
                                        have bm : 0 ≤ (p - f) * M2 c k2 ∧ (p - f) * M2 c k2 ≤ 65536 * 65536 := ⟨Int.mul_nonneg (by omega) hb5.1, Int.mul_le_mul (by omega) (by omega) hb5.1 (by omega)⟩
                                        refine g_lmul dX10_byX_479 ?_
                                        refine g_ladd dX10_byX_480 ?_
                                        refine g_aload_n 10 dX10_byX_481 rfl ?_
                                        refine g_getf 0 dX10_byX_482 kX10 (by decide) fX10_78 cg_l2_0 rfl ?_
                                        refine g_i2l dX10_byX_485 (by first | (unfold gW; omega) | (unfold gW; split <;> omega)) ?_
                                        refine g_lrem dX10_byX_486 (by unfold gX; omega) (by unfold gX; omega) (by omega) ?_
                                        rw [tm_em (show 0 ≤ M2 i2 k2 + (p - f) * M2 c k2 by omega)]
                                        refine g_lastore dX10_byX_487 cf_l2_1 (by omega) (by omega) (by omega) ?_
                                        obtain ⟨hh2069, eh2069⟩ : ∃ z : GH, z = hset hl2 (B + 7) (aJ 6400 (gup (a8 (gup M2 i2 (rwL p M2 f c i2 k2))) (((80) * (i2)) + (k2)) ((M2 i2 k2 + (p - f) * M2 c k2) % p))) := ⟨_, rfl⟩
                                        refine Go.hp eh2069.symm ?_
                                        have fx2069 : Fr [B + 7] hl2 hh2069 := Fr.w0 (Fr.rf _ _) (List.Mem.head _) eh2069
                                        have fh2069_3 : hh2069.2 (B + 8) = some (aI 11520 (g8)) := hs_n eh2069 (ne35).s cf_l2_2
                                        have fhw2069 : hh2069.2 (B + 7) = some (aJ 6400 (gup (a8 (gup M2 i2 (rwL p M2 f c i2 k2))) (((80) * (i2)) + (k2)) ((M2 i2 k2 + (p - f) * M2 c k2) % p))) := hs_s eh2069
                                        have mfz2070 : MF B [B + 7] [] hl2 hh2069 := MF.of fx2069 (fr_l2).2.1 (Ni.c ⟨ne31, ne32⟩ (Ni.n _)) (Ni.c ⟨ne33, ne34⟩ (Ni.n _)) []
                                        have fk2071_0 : hh2069.2 (B) = some (mO B ((p : Int)) (hf) (le) (fc) (pn) (rn) (hn) (qn)) := Fr.at0 (mfz2070).1 (Ni.c ⟨ne4, ne5⟩ (Ni.c ⟨ne6, ne7⟩ (Ni.n _))) cg_l2_0
                                        have fk2071_1 : hh2069.2 (B + 4) = some (aI 1500 (gm)) := Fr.at0 (mfz2070).1 (Ni.c ⟨ne26, ne27⟩ (Ni.c ⟨ne28, ne29⟩ (Ni.n _))) cf_l2_0
                                        have rk2071_0 : MP hp B hh2069 (T) := (cr_l2_0).fr (mfz2070).1 (Ni.c ⟨ne11, ne12⟩ (Ni.c ⟨ne13, ne14⟩ (Ni.n _))) (Ni.c ⟨ne17, ne18⟩ (Ni.c ⟨ne19, ne20⟩ (Ni.n _)))
                                        have rk2071_1 : MWA B hh2069 := (cr_l2_1).fr (mfz2070).1 (Ni.c ⟨ne22, ne23⟩ (Ni.c ⟨ne24, ne25⟩ (Ni.n _)))
                                        have rk2071_2 : MG hp B hh2069 (0) (fa) := (cr_l2_2).fr hp2 mfz2070 Nr.n
                                        have rk2071_3 : MG hp B hh2069 (1) (fb) := (cr_l2_3).fr hp2 mfz2070 Nr.n
                                        have fr2071 : MF B [B + 1, B + 3, B + 7] [2] h hh2069 := (fr_l2).tr ((mfz2070).mo (sub_c (List.Mem.tail _ (List.Mem.tail _ (List.Mem.head _))) sub_n) sbI_n)
                                        refine g_iinc 0 (ls2 := [(13, .int (gI (k2 + 1))), (11, .long (gJ (f))), (10, .int (gI (i2))), (8, .long (gJ (ivr p (M1 c c)))), (4, .long (gJ (r2))), (7, .int (gI (w))), (6, .int (gI (c))), (3, .int (gI ((dgi hp (fa)) + (dgi hp (fb))))), (2, .int (gI (dgi hp (fb)))), (1, .int (gI (dgi hp (fa)))), (0, .ref (B))]) dX10_byX_488 rfl (by decide) rfl ?_
                                        refine g_goto (tgt := 420) dX10_byX_491 rfl ?_
                                        exact ih_l2 _ (by omega) (k2 + 1) hh2069 rfl fr2071 fk2071_1 (by
                                                            have e9 := fhw2069
                                                            rw [a8_wg _ _ (by omega) (by omega), rwL_s M2 hk2.1] at e9
                                                            exact e9) fh2069_3 rk2071_0 rk2071_1 rk2071_2 rk2071_3 (by omega) (Or.inr (by omega))
                                  exact l2 _ (c) hl1 rfl fr_l1 cf_l1_0 (by rw [rwL_0, gup_id]; exact cf_l1_1) cf_l1_2 cr_l1_0 cr_l1_1 cr_l1_2 cr_l1_3 (by omega) (Or.inl rfl)
                              exact l1 _ (c + 1) (M1) hls rfl fr_ls cf_ls_0 f7b cf_ls_2 cr_ls_0 cr_ls_1 cr_ls_2 cr_ls_3 (by omega) hB1 (fun b => rfl) (fun a b _ => rfl) (fun a b a0 a1 b0 b1 => by omega)
                            · skip
                              refine g_aload_n 7 dX10_byX_245 rfl ?_
                              refine g_getf 7 dX10_byX_246 kX10 (by decide) fX10_29 cg_ls_0 rfl ?_
                              refine g_bipush dX10_byX_249 (by decide) ?_
                              refine g_iload 1 dX10_byX_251 rfl ?_
                              refine g_imul dX10_byX_253 ?_
                              refine g_iload 0 dX10_byX_254 rfl ?_
                              refine g_iadd dX10_byX_256 ?_
                              refine g_laload dX10_byX_257 cf_ls_1 (by omega) (by omega) (by omega) ?_
                              have hrd2 : a8 (swK M w c k) (80 * w + k) = M w k := by rw [a8_r _ (by omega) (by omega), swK_at]
                              rw [hrd2]
                              refine g_lstore (ls2 := [(9, .long (gJ (M w k))), (8, .int (gI (k))), (7, .int (gI (w))), (6, .int (gI (c))), (4, .long (gJ (r))), (3, .int (gI ((dgi hp (fa)) + (dgi hp (fb))))), (2, .int (gI (dgi hp (fb)))), (1, .int (gI (dgi hp (fa)))), (0, .ref (B))]) dX10_byX_258 (by decide) rfl ?_
                              refine g_aload_n 8 dX10_byX_260 rfl ?_
                              refine g_getf 7 dX10_byX_261 kX10 (by decide) fX10_29 cg_ls_0 rfl ?_
                              refine g_bipush dX10_byX_264 (by decide) ?_
                              refine g_iload 2 dX10_byX_266 rfl ?_
                              refine g_imul dX10_byX_268 ?_
                              refine g_iload 1 dX10_byX_269 rfl ?_
                              refine g_iadd dX10_byX_271 ?_
                              refine g_aload_n 8 dX10_byX_272 rfl ?_
                              refine g_getf 7 dX10_byX_273 kX10 (by decide) fX10_29 cg_ls_0 rfl ?_
                              refine g_bipush dX10_byX_276 (by decide) ?_
                              refine g_iload 3 dX10_byX_278 rfl ?_
                              refine g_imul dX10_byX_280 ?_
                              refine g_iload 1 dX10_byX_281 rfl ?_
                              refine g_iadd dX10_byX_283 ?_
                              refine g_laload dX10_byX_284 cf_ls_1 (by omega) (by omega) (by omega) ?_
                              have hrd3 : a8 (swK M w c k) (80 * c + k) = M c k := by rw [a8_r _ (by omega) (by omega), swK_at]
                              rw [hrd3]
                              refine g_lastore dX10_byX_285 cf_ls_1 (by omega) (by omega) (by omega) ?_
                              obtain ⟨hh2272, eh2272⟩ : ∃ z : GH, z = hset hls (B + 7) (aJ 6400 (gup (a8 (swK M w c k)) (((80) * (w)) + (k)) (M c k))) := ⟨_, rfl⟩
                              refine Go.hp eh2272.symm ?_
                              have fx2272 : Fr [B + 7] hls hh2272 := Fr.w0 (Fr.rf _ _) (List.Mem.head _) eh2272
                              have fh2272_3 : hh2272.2 (B + 8) = some (aI 11520 (g8)) := hs_n eh2272 (ne35).s cf_ls_2
                              have fhw2272 : hh2272.2 (B + 7) = some (aJ 6400 (gup (a8 (swK M w c k)) (((80) * (w)) + (k)) (M c k))) := hs_s eh2272
                              have mfz2273 : MF B [B + 7] [] hls hh2272 := MF.of fx2272 (fr_ls).2.1 (Ni.c ⟨ne31, ne32⟩ (Ni.n _)) (Ni.c ⟨ne33, ne34⟩ (Ni.n _)) []
                              have fk2274_0 : hh2272.2 (B) = some (mO B ((p : Int)) (hf) (le) (fc) (pn) (rn) (hn) (qn)) := Fr.at0 (mfz2273).1 (Ni.c ⟨ne4, ne5⟩ (Ni.c ⟨ne6, ne7⟩ (Ni.n _))) cg_ls_0
                              have fk2274_1 : hh2272.2 (B + 4) = some (aI 1500 (gm)) := Fr.at0 (mfz2273).1 (Ni.c ⟨ne26, ne27⟩ (Ni.c ⟨ne28, ne29⟩ (Ni.n _))) cf_ls_0
                              have rk2274_0 : MP hp B hh2272 (T) := (cr_ls_0).fr (mfz2273).1 (Ni.c ⟨ne11, ne12⟩ (Ni.c ⟨ne13, ne14⟩ (Ni.n _))) (Ni.c ⟨ne17, ne18⟩ (Ni.c ⟨ne19, ne20⟩ (Ni.n _)))
                              have rk2274_1 : MWA B hh2272 := (cr_ls_1).fr (mfz2273).1 (Ni.c ⟨ne22, ne23⟩ (Ni.c ⟨ne24, ne25⟩ (Ni.n _)))
                              have rk2274_2 : MG hp B hh2272 (0) (fa) := (cr_ls_2).fr hp2 mfz2273 Nr.n
                              have rk2274_3 : MG hp B hh2272 (1) (fb) := (cr_ls_3).fr hp2 mfz2273 Nr.n
                              have fr2274 : MF B [B + 1, B + 3, B + 7] [2] h hh2272 := (fr_ls).tr ((mfz2273).mo (sub_c (List.Mem.tail _ (List.Mem.tail _ (List.Mem.head _))) sub_n) sbI_n)
                              refine g_aload_n 8 dX10_byX_286 rfl ?_
                              refine g_getf 7 dX10_byX_287 kX10 (by decide) fX10_29 fk2274_0 rfl ?_
                              refine g_bipush dX10_byX_290 (by decide) ?_
                              refine g_iload 3 dX10_byX_292 rfl ?_
                              refine g_imul dX10_byX_294 ?_
                              refine g_iload 1 dX10_byX_295 rfl ?_
                              refine g_iadd dX10_byX_297 ?_
                              refine g_lload 0 dX10_byX_298 rfl ?_
                              refine g_lastore dX10_byX_300 fhw2272 (by omega) (by omega) (by omega) ?_
                              obtain ⟨hh2275, eh2275⟩ : ∃ z : GH, z = hset hh2272 (B + 7) (aJ 6400 (gup (gup (a8 (swK M w c k)) (((80) * (w)) + (k)) (M c k)) (((80) * (c)) + (k)) (M w k))) := ⟨_, rfl⟩
                              refine Go.hp eh2275.symm ?_
                              have fx2275 : Fr [B + 7] hh2272 hh2275 := Fr.w0 (Fr.rf _ _) (List.Mem.head _) eh2275
                              have fh2275_2 : hh2275.2 (B + 8) = some (aI 11520 (g8)) := hs_n eh2275 (ne35).s fh2272_3
                              have fhw2275 : hh2275.2 (B + 7) = some (aJ 6400 (gup (gup (a8 (swK M w c k)) (((80) * (w)) + (k)) (M c k)) (((80) * (c)) + (k)) (M w k))) := hs_s eh2275
                              have mfz2276 : MF B [B + 7] [] hh2272 hh2275 := MF.of fx2275 (fr2274).2.1 (Ni.c ⟨ne31, ne32⟩ (Ni.n _)) (Ni.c ⟨ne33, ne34⟩ (Ni.n _)) []
                              have fk2277_0 : hh2275.2 (B) = some (mO B ((p : Int)) (hf) (le) (fc) (pn) (rn) (hn) (qn)) := Fr.at0 (mfz2276).1 (Ni.c ⟨ne4, ne5⟩ (Ni.c ⟨ne6, ne7⟩ (Ni.n _))) fk2274_0
                              have fk2277_1 : hh2275.2 (B + 4) = some (aI 1500 (gm)) := Fr.at0 (mfz2276).1 (Ni.c ⟨ne26, ne27⟩ (Ni.c ⟨ne28, ne29⟩ (Ni.n _))) fk2274_1
                              have rk2277_0 : MP hp B hh2275 (T) := (rk2274_0).fr (mfz2276).1 (Ni.c ⟨ne11, ne12⟩ (Ni.c ⟨ne13, ne14⟩ (Ni.n _))) (Ni.c ⟨ne17, ne18⟩ (Ni.c ⟨ne19, ne20⟩ (Ni.n _)))
                              have rk2277_1 : MWA B hh2275 := (rk2274_1).fr (mfz2276).1 (Ni.c ⟨ne22, ne23⟩ (Ni.c ⟨ne24, ne25⟩ (Ni.n _)))
                              have rk2277_2 : MG hp B hh2275 (0) (fa) := (rk2274_2).fr hp2 mfz2276 Nr.n
                              have rk2277_3 : MG hp B hh2275 (1) (fb) := (rk2274_3).fr hp2 mfz2276 Nr.n
                              have fr2277 : MF B [B + 1, B + 3, B + 7] [2] h hh2275 := (fr2274).tr ((mfz2276).mo (sub_c (List.Mem.tail _ (List.Mem.tail _ (List.Mem.head _))) sub_n) sbI_n)
                              refine g_iinc 1 (ls2 := [(8, .int (gI (k + 1))), (9, .long (gJ (M w k))), (7, .int (gI (w))), (6, .int (gI (c))), (4, .long (gJ (r))), (3, .int (gI ((dgi hp (fa)) + (dgi hp (fb))))), (2, .int (gI (dgi hp (fb)))), (1, .int (gI (dgi hp (fa)))), (0, .ref (B))]) dX10_byX_301 rfl (by decide) rfl ?_
                              refine g_goto (tgt := 232) dX10_byX_304 rfl ?_
                              refine Go.sub [0, 2, 3, 4, 5, 6, 7, 8] rfl ?_
                              exact ih_ls _ (by omega) (k + 1) hh2275 rfl fr2277 fk2277_1 (by rw [← swK_s M hk.1 (by omega) (show w ≠ c by omega)]; exact fhw2275) fh2275_2 rk2277_0 rk2277_1 rk2277_2 rk2277_3 (by omega) (Or.inr (by omega))
                        exact ls _ (0) hlw rfl fr_lw cf_lw_0 (by rw [swK_0]; exact cf_lw_1) cf_lw_2 cr_lw_0 cr_lw_1 cr_lw_2 cr_lw_3 (by omega) (Or.inl rfl)
                      · skip
                        refine g_lconst0 dX10_byX_223 ?_
                        refine g_lstore (ls2 := [(4, .long (gJ (0))), (7, .int (gI (w))), (6, .int (gI (c))), (3, .int (gI ((dgi hp (fa)) + (dgi hp (fb))))), (2, .int (gI (dgi hp (fb)))), (1, .int (gI (dgi hp (fa)))), (0, .ref (B))]) dX10_byX_224 (by decide) rfl ?_
                        refine g_goto (tgt := 500) dX10_byX_226 rfl ?_
                        refine g_iinc 2 (ls2 := [(6, .int (gI (c + 1))), (4, .long (gJ (0))), (7, .int (gI (w))), (3, .int (gI ((dgi hp (fa)) + (dgi hp (fb))))), (2, .int (gI (dgi hp (fb)))), (1, .int (gI (dgi hp (fa)))), (0, .ref (B))]) dX10_byX_500 rfl (by decide) rfl ?_
                        refine g_goto (tgt := 170) dX10_byX_503 rfl ?_
                        refine Go.sub [0, 1, 3, 4, 5, 6] rfl ?_
                        exact ih_lc _ (by omega) (c + 1) (0) (M) hlw rfl fr_lw cf_lw_0 cf_lw_1 cf_lw_2 cr_lw_0 cr_lw_1 cr_lw_2 cr_lw_3 (by omega) (by omega) hB (gIv_z hp hG hc.1 (by omega) (fun a a0 a1 => hZ a a0 (by omega)))
                    · skip
                      have hz0 := gcmp_eq.mp c1350
                      refine g_iinc 0 (ls2 := [(7, .int (gI (w + 1))), (6, .int (gI (c))), (4, .long (gJ (r))), (3, .int (gI ((dgi hp (fa)) + (dgi hp (fb))))), (2, .int (gI (dgi hp (fb)))), (1, .int (gI (dgi hp (fa)))), (0, .ref (B))]) dX10_byX_211 rfl (by decide) rfl ?_
                      refine g_goto (tgt := 187) dX10_byX_214 rfl ?_
                      exact ih_lw _ (by omega) (w + 1) hlw rfl fr_lw cf_lw_0 cf_lw_1 cf_lw_2 cr_lw_0 cr_lw_1 cr_lw_2 cr_lw_3 (by omega) (fun a a0 a1 => by
                                                            rcases Int.lt_or_le a w with z | z
                                                            · exact hZ a a0 z
                                                            · rw [show a = w by omega]; exact hz0)
                exact lw _ (c) hlc rfl fr_lc cf_lc_0 cf_lc_1 cf_lc_2 cr_lc_0 cr_lc_1 cr_lc_2 cr_lc_3 (by omega) (fun a a0 a1 => by omega)
          exact lc _ (0) (1) (M0) hli rfl fr_li cf_li_0 f7 cf_li_2 cr_li_0 cr_li_1 cr_li_2 cr_li_3 (by omega) (by omega) (fun a b a0 a1 b0 b1 => by rw [hM1 a b a0 a1 b0 b1]; exact syE_bd hp fa fb a b) (by rw [hD0]; unfold gIv; rw [zi_1]; exact gaI_0 hp _ _)
        · skip
          refine g_iconst dX10_byX_48 ?_
          refine g_istore (ls2 := [(5, .int (gI (0))), (4, .int (gI (i))), (3, .int (gI ((dgi hp (fa)) + (dgi hp (fb))))), (2, .int (gI (dgi hp (fb)))), (1, .int (gI (dgi hp (fa)))), (0, .ref (B))]) dX10_byX_49 (by decide) rfl ?_
          have lk : ∀ (kk : Nat) (k : Int) (hlk : GH), kk = (80 - k).toNat → MF B [B + 1, B + 3, B + 7] [2] h hlk → hlk.2 (B + 4) = some (aI 1500 (gm)) → hlk.2 (B + 7) = some (aJ 6400 (flM g7 (syE hp fa fb) (dgi hp fa + dgi hp fb) (80 * i + k))) → hlk.2 (B + 8) = some (aI 11520 (g8)) → MP hp B hlk (T) → MWA B hlk → MG hp B hlk (0) (fa) → MG hp B hlk (1) (fb) → (0 ≤ k ∧ k ≤ dgi hp fa + dgi hp fb) → Go N mX10_byX (fun v h1 => Fr [B + 1, B + 3, B + 5, B + 7] h h1 ∧ MS B h1 ∧ ∃ w T2, Ou T (pa13 hp fa fb) w T2 ∧ v = some (.int (gI w)) ∧ MP hp B h1 T2) 0 0 hlk 51 [(5, .int (gI (k))), (4, .int (gI (i))), (3, .int (gI ((dgi hp (fa)) + (dgi hp (fb))))), (2, .int (gI (dgi hp (fb)))), (1, .int (gI (dgi hp (fa)))), (0, .ref (B))] [] := by
            refine Go.ind (fun kk ih_lk => ?_)
            intro k hlk hkk_lk fr_lk cf_lk_0 cf_lk_1 cf_lk_2 cr_lk_0 cr_lk_1 cr_lk_2 cr_lk_3 hk
            have cg_lk_0 : hlk.2 (B) = some (mO B ((p : Int)) (hf) (le) (fc) (pn) (rn) (hn) (qn)) := Fr.at0 (fr_lk).1 (Ni.c ⟨ne4, ne5⟩ (Ni.c ⟨ne0, ne1⟩ (Ni.c ⟨ne2, ne3⟩ (Ni.c ⟨ne6, ne7⟩ (Ni.n _))))) hm
            refine g_iload 0 dX10_byX_51 rfl ?_
            refine g_iload_n 2 dX10_byX_53 rfl ?_
            refine g_icmp_ge (tgt := 158) dX10_byX_54 rfl (by first | (unfold gW; omega) | (unfold gW; split <;> omega)) (by first | (unfold gW; omega) | (unfold gW; split <;> omega)) (fun c2678 => ?_) (fun c2678 => ?_)
            · skip
              refine g_iinc 1 (ls2 := [(4, .int (gI (i + 1))), (5, .int (gI (k))), (3, .int (gI ((dgi hp (fa)) + (dgi hp (fb))))), (2, .int (gI (dgi hp (fb)))), (1, .int (gI (dgi hp (fa)))), (0, .ref (B))]) dX10_byX_158 rfl (by decide) rfl ?_
              refine g_goto (tgt := 42) dX10_byX_161 rfl ?_
              refine Go.sub [0, 2, 3, 4, 5] rfl ?_
              exact ih_li _ (by omega) (i + 1) hlk rfl fr_lk cf_lk_0 (by rw [← flM_r g7 (syE hp fa fb) hi.1 (show k = dgi hp fa + dgi hp fb by omega) (by omega)]; exact cf_lk_1) cf_lk_2 cr_lk_0 cr_lk_1 cr_lk_2 cr_lk_3 (by omega)
            · skip
              refine g_iload 1 dX10_byX_57 rfl ?_
              refine g_iload_n 3 dX10_byX_59 rfl ?_
              refine g_icmp_ge (tgt := 67) dX10_byX_60 rfl (by first | (unfold gW; omega) | (unfold gW; split <;> omega)) (by first | (unfold gW; omega) | (unfold gW; split <;> omega)) (fun c2679 => ?_) (fun c2679 => ?_)
              · skip
                refine g_iconst dX10_byX_67 ?_
                refine g_istore (ls2 := [(6, .int (gI (1))), (5, .int (gI (k))), (4, .int (gI (i))), (3, .int (gI ((dgi hp (fa)) + (dgi hp (fb))))), (2, .int (gI (dgi hp (fb)))), (1, .int (gI (dgi hp (fa)))), (0, .ref (B))]) dX10_byX_68 (by decide) rfl ?_
                refine g_iload 0 dX10_byX_70 rfl ?_
                refine g_if_ne (tgt := 79) dX10_byX_72 rfl (by first | (unfold gW; omega) | (unfold gW; split <;> omega)) (fun c2680 => ?_) (fun c2680 => absurd c2680 (by omega))
                refine g_iload_n 4 dX10_byX_79 rfl ?_
                refine g_iload 1 dX10_byX_80 rfl ?_
                refine g_iload 0 dX10_byX_82 rfl ?_
                refine g_if_ne (tgt := 92) dX10_byX_84 rfl (by first | (unfold gW; omega) | (unfold gW; split <;> omega)) (fun c2681 => ?_) (fun c2681 => absurd c2681 (by omega))
                refine g_iload 2 dX10_byX_92 rfl ?_
                refine g_iload_n 4 dX10_byX_94 rfl ?_
                refine g_isub dX10_byX_95 ?_
                refine g_isub dX10_byX_96 ?_
                refine g_isub dX10_byX_97 ?_
                refine g_istore (ls2 := [(7, .int (gI ((dgi hp (fb)) - ((k) - ((i) - (dgi hp (fb))))))), (6, .int (gI (1))), (5, .int (gI (k))), (4, .int (gI (i))), (3, .int (gI ((dgi hp (fa)) + (dgi hp (fb))))), (2, .int (gI (dgi hp (fb)))), (1, .int (gI (dgi hp (fa)))), (0, .ref (B))]) dX10_byX_98 (by decide) rfl ?_
                refine g_aload_n 7 dX10_byX_100 rfl ?_
                refine g_getf 7 dX10_byX_101 kX10 (by decide) fX10_29 cg_lk_0 rfl ?_
                refine g_bipush dX10_byX_104 (by decide) ?_
                refine g_iload 3 dX10_byX_106 rfl ?_
                refine g_imul dX10_byX_108 ?_
                refine g_iload 2 dX10_byX_109 rfl ?_
                refine g_iadd dX10_byX_111 ?_
                refine g_iload 0 dX10_byX_112 rfl ?_
                refine g_if_lt (tgt := 150) dX10_byX_114 rfl (by first | (unfold gW; omega) | (unfold gW; split <;> omega)) (fun c2682 => ?_) (fun c2682 => ?_)
                · skip
                  refine g_lconst0 dX10_byX_150 ?_
                  refine g_lastore dX10_byX_151 cf_lk_1 (by omega) (by omega) (by omega) ?_
                  obtain ⟨hh2683, eh2683⟩ : ∃ z : GH, z = hset hlk (B + 7) (aJ 6400 (gup (flM g7 (syE hp fa fb) (dgi hp fa + dgi hp fb) (80 * i + k)) (((80) * (i)) + (k)) (0))) := ⟨_, rfl⟩
                  refine Go.hp eh2683.symm ?_
                  have fx2683 : Fr [B + 7] hlk hh2683 := Fr.w0 (Fr.rf _ _) (List.Mem.head _) eh2683
                  have fh2683_3 : hh2683.2 (B + 8) = some (aI 11520 (g8)) := hs_n eh2683 (ne35).s cf_lk_2
                  have fhw2683 : hh2683.2 (B + 7) = some (aJ 6400 (gup (flM g7 (syE hp fa fb) (dgi hp fa + dgi hp fb) (80 * i + k)) (((80) * (i)) + (k)) (0))) := hs_s eh2683
                  have mfz2684 : MF B [B + 7] [] hlk hh2683 := MF.of fx2683 (fr_lk).2.1 (Ni.c ⟨ne31, ne32⟩ (Ni.n _)) (Ni.c ⟨ne33, ne34⟩ (Ni.n _)) []
                  have fk2685_0 : hh2683.2 (B) = some (mO B ((p : Int)) (hf) (le) (fc) (pn) (rn) (hn) (qn)) := Fr.at0 (mfz2684).1 (Ni.c ⟨ne4, ne5⟩ (Ni.c ⟨ne6, ne7⟩ (Ni.n _))) cg_lk_0
                  have fk2685_1 : hh2683.2 (B + 4) = some (aI 1500 (gm)) := Fr.at0 (mfz2684).1 (Ni.c ⟨ne26, ne27⟩ (Ni.c ⟨ne28, ne29⟩ (Ni.n _))) cf_lk_0
                  have rk2685_0 : MP hp B hh2683 (T) := (cr_lk_0).fr (mfz2684).1 (Ni.c ⟨ne11, ne12⟩ (Ni.c ⟨ne13, ne14⟩ (Ni.n _))) (Ni.c ⟨ne17, ne18⟩ (Ni.c ⟨ne19, ne20⟩ (Ni.n _)))
                  have rk2685_1 : MWA B hh2683 := (cr_lk_1).fr (mfz2684).1 (Ni.c ⟨ne22, ne23⟩ (Ni.c ⟨ne24, ne25⟩ (Ni.n _)))
                  have rk2685_2 : MG hp B hh2683 (0) (fa) := (cr_lk_2).fr hp2 mfz2684 Nr.n
                  have rk2685_3 : MG hp B hh2683 (1) (fb) := (cr_lk_3).fr hp2 mfz2684 Nr.n
                  have fr2685 : MF B [B + 1, B + 3, B + 7] [2] h hh2683 := (fr_lk).tr ((mfz2684).mo (sub_c (List.Mem.tail _ (List.Mem.tail _ (List.Mem.head _))) sub_n) sbI_n)
                  refine g_iinc 2 (ls2 := [(5, .int (gI (k + 1))), (7, .int (gI ((dgi hp (fb)) - ((k) - ((i) - (dgi hp (fb))))))), (6, .int (gI (1))), (4, .int (gI (i))), (3, .int (gI ((dgi hp (fa)) + (dgi hp (fb))))), (2, .int (gI (dgi hp (fb)))), (1, .int (gI (dgi hp (fa)))), (0, .ref (B))]) dX10_byX_152 rfl (by decide) rfl ?_
                  refine g_goto (tgt := 51) dX10_byX_155 rfl ?_
                  refine Go.sub [0, 3, 4, 5, 6, 7] rfl ?_
                  exact ih_lk _ (by omega) (k + 1) hh2683 rfl fr2685 fk2685_1 (by
                                                            rw [← flM_s (v := 0) g7 (syE hp fa fb) hi.1 hk.1 (by omega) (by omega) (by
                                                              unfold syE
                                                              rw [if_neg (by omega)]
                                                              rcases Int.lt_or_le ((dgi hp (fb)) - ((k) - ((i) - (dgi hp (fb))))) 0 with z | z
                                                              · exact (cf_ng fb z).symm
                                                              · exact (cf_hi hp hpb (by omega)).symm)]; exact fhw2683) fh2683_3 rk2685_0 rk2685_1 rk2685_2 rk2685_3 (by omega)
                · skip
                  refine g_iload 0 dX10_byX_117 rfl ?_
                  refine g_iload 1 dX10_byX_119 rfl ?_
                  refine g_if_ne (tgt := 128) dX10_byX_121 rfl (by first | (unfold gW; omega) | (unfold gW; split <;> omega)) (fun c2686 => ?_) (fun c2686 => absurd c2686 (by omega))
                  refine g_iload_n 5 dX10_byX_128 rfl ?_
                  refine g_icmp_gt (tgt := 150) dX10_byX_129 rfl (by first | (unfold gW; omega) | (unfold gW; split <;> omega)) (by first | (unfold gW; omega) | (unfold gW; split <;> omega)) (fun c2687 => ?_) (fun c2687 => ?_)
                  · skip
                    refine g_lconst0 dX10_byX_150 ?_
                    refine g_lastore dX10_byX_151 cf_lk_1 (by omega) (by omega) (by omega) ?_
                    obtain ⟨hh2688, eh2688⟩ : ∃ z : GH, z = hset hlk (B + 7) (aJ 6400 (gup (flM g7 (syE hp fa fb) (dgi hp fa + dgi hp fb) (80 * i + k)) (((80) * (i)) + (k)) (0))) := ⟨_, rfl⟩
                    refine Go.hp eh2688.symm ?_
                    have fx2688 : Fr [B + 7] hlk hh2688 := Fr.w0 (Fr.rf _ _) (List.Mem.head _) eh2688
                    have fh2688_3 : hh2688.2 (B + 8) = some (aI 11520 (g8)) := hs_n eh2688 (ne35).s cf_lk_2
                    have fhw2688 : hh2688.2 (B + 7) = some (aJ 6400 (gup (flM g7 (syE hp fa fb) (dgi hp fa + dgi hp fb) (80 * i + k)) (((80) * (i)) + (k)) (0))) := hs_s eh2688
                    have mfz2689 : MF B [B + 7] [] hlk hh2688 := MF.of fx2688 (fr_lk).2.1 (Ni.c ⟨ne31, ne32⟩ (Ni.n _)) (Ni.c ⟨ne33, ne34⟩ (Ni.n _)) []
                    have fk2690_0 : hh2688.2 (B) = some (mO B ((p : Int)) (hf) (le) (fc) (pn) (rn) (hn) (qn)) := Fr.at0 (mfz2689).1 (Ni.c ⟨ne4, ne5⟩ (Ni.c ⟨ne6, ne7⟩ (Ni.n _))) cg_lk_0
                    have fk2690_1 : hh2688.2 (B + 4) = some (aI 1500 (gm)) := Fr.at0 (mfz2689).1 (Ni.c ⟨ne26, ne27⟩ (Ni.c ⟨ne28, ne29⟩ (Ni.n _))) cf_lk_0
                    have rk2690_0 : MP hp B hh2688 (T) := (cr_lk_0).fr (mfz2689).1 (Ni.c ⟨ne11, ne12⟩ (Ni.c ⟨ne13, ne14⟩ (Ni.n _))) (Ni.c ⟨ne17, ne18⟩ (Ni.c ⟨ne19, ne20⟩ (Ni.n _)))
                    have rk2690_1 : MWA B hh2688 := (cr_lk_1).fr (mfz2689).1 (Ni.c ⟨ne22, ne23⟩ (Ni.c ⟨ne24, ne25⟩ (Ni.n _)))
                    have rk2690_2 : MG hp B hh2688 (0) (fa) := (cr_lk_2).fr hp2 mfz2689 Nr.n
                    have rk2690_3 : MG hp B hh2688 (1) (fb) := (cr_lk_3).fr hp2 mfz2689 Nr.n
                    have fr2690 : MF B [B + 1, B + 3, B + 7] [2] h hh2688 := (fr_lk).tr ((mfz2689).mo (sub_c (List.Mem.tail _ (List.Mem.tail _ (List.Mem.head _))) sub_n) sbI_n)
                    refine g_iinc 2 (ls2 := [(5, .int (gI (k + 1))), (7, .int (gI ((dgi hp (fb)) - ((k) - ((i) - (dgi hp (fb))))))), (6, .int (gI (1))), (4, .int (gI (i))), (3, .int (gI ((dgi hp (fa)) + (dgi hp (fb))))), (2, .int (gI (dgi hp (fb)))), (1, .int (gI (dgi hp (fa)))), (0, .ref (B))]) dX10_byX_152 rfl (by decide) rfl ?_
                    refine g_goto (tgt := 51) dX10_byX_155 rfl ?_
                    refine Go.sub [0, 3, 4, 5, 6, 7] rfl ?_
                    exact ih_lk _ (by omega) (k + 1) hh2688 rfl fr2690 fk2690_1 (by
                                                            rw [← flM_s (v := 0) g7 (syE hp fa fb) hi.1 hk.1 (by omega) (by omega) (by
                                                              unfold syE
                                                              rw [if_neg (by omega)]
                                                              rcases Int.lt_or_le ((dgi hp (fb)) - ((k) - ((i) - (dgi hp (fb))))) 0 with z | z
                                                              · exact (cf_ng fb z).symm
                                                              · exact (cf_hi hp hpb (by omega)).symm)]; exact fhw2688) fh2688_3 rk2690_0 rk2690_1 rk2690_2 rk2690_3 (by omega)
                  · skip
                    obtain ⟨R2691, hR2691, hv2691⟩ := MG.num cr_lk_3
                    refine g_aload_n 7 dX10_byX_132 rfl ?_
                    refine g_getf 5 dX10_byX_133 kX10 (by decide) fX10_23 cg_lk_0 rfl ?_
                    refine g_sipush dX10_byX_136 (by decide) ?_
                    refine g_iload 1 dX10_byX_139 rfl ?_
                    refine g_imul dX10_byX_141 ?_
                    refine g_iload 0 dX10_byX_142 rfl ?_
                    refine g_iadd dX10_byX_144 ?_
                    refine g_iaload dX10_byX_145 hR2691 (by omega) (by omega) (by omega) ?_
                    have hv_ : (ar R2691) (((200) * (1)) + ((dgi hp (fb)) - ((k) - ((i) - (dgi hp (fb)))))) = cf fb ((dgi hp (fb)) - ((k) - ((i) - (dgi hp (fb))))) := by
                      rw [ar_r _ (by omega) (by omega)]; exact hv2691 _ (by omega) (by omega)
                    rw [hv_]
                    have hcb := cf_in fb hp ((dgi hp (fb)) - ((k) - ((i) - (dgi hp (fb)))))
                    refine g_i2l dX10_byX_146 (by first | (unfold gW; omega) | (unfold gW; split <;> omega)) ?_
                    refine g_goto (tgt := 151) dX10_byX_147 rfl ?_
                    refine g_lastore dX10_byX_151 cf_lk_1 (by omega) (by omega) (by omega) ?_
                    obtain ⟨hh2692, eh2692⟩ : ∃ z : GH, z = hset hlk (B + 7) (aJ 6400 (gup (flM g7 (syE hp fa fb) (dgi hp fa + dgi hp fb) (80 * i + k)) (((80) * (i)) + (k)) (cf fb ((dgi hp (fb)) - ((k) - ((i) - (dgi hp (fb)))))))) := ⟨_, rfl⟩
                    refine Go.hp eh2692.symm ?_
                    have fx2692 : Fr [B + 7] hlk hh2692 := Fr.w0 (Fr.rf _ _) (List.Mem.head _) eh2692
                    have fh2692_3 : hh2692.2 (B + 8) = some (aI 11520 (g8)) := hs_n eh2692 (ne35).s cf_lk_2
                    have fhw2692 : hh2692.2 (B + 7) = some (aJ 6400 (gup (flM g7 (syE hp fa fb) (dgi hp fa + dgi hp fb) (80 * i + k)) (((80) * (i)) + (k)) (cf fb ((dgi hp (fb)) - ((k) - ((i) - (dgi hp (fb)))))))) := hs_s eh2692
                    have mfz2693 : MF B [B + 7] [] hlk hh2692 := MF.of fx2692 (fr_lk).2.1 (Ni.c ⟨ne31, ne32⟩ (Ni.n _)) (Ni.c ⟨ne33, ne34⟩ (Ni.n _)) []
                    have fk2694_0 : hh2692.2 (B) = some (mO B ((p : Int)) (hf) (le) (fc) (pn) (rn) (hn) (qn)) := Fr.at0 (mfz2693).1 (Ni.c ⟨ne4, ne5⟩ (Ni.c ⟨ne6, ne7⟩ (Ni.n _))) cg_lk_0
                    have fk2694_1 : hh2692.2 (B + 4) = some (aI 1500 (gm)) := Fr.at0 (mfz2693).1 (Ni.c ⟨ne26, ne27⟩ (Ni.c ⟨ne28, ne29⟩ (Ni.n _))) cf_lk_0
                    have rk2694_0 : MP hp B hh2692 (T) := (cr_lk_0).fr (mfz2693).1 (Ni.c ⟨ne11, ne12⟩ (Ni.c ⟨ne13, ne14⟩ (Ni.n _))) (Ni.c ⟨ne17, ne18⟩ (Ni.c ⟨ne19, ne20⟩ (Ni.n _)))
                    have rk2694_1 : MWA B hh2692 := (cr_lk_1).fr (mfz2693).1 (Ni.c ⟨ne22, ne23⟩ (Ni.c ⟨ne24, ne25⟩ (Ni.n _)))
                    have rk2694_2 : MG hp B hh2692 (0) (fa) := (cr_lk_2).fr hp2 mfz2693 Nr.n
                    have rk2694_3 : MG hp B hh2692 (1) (fb) := (cr_lk_3).fr hp2 mfz2693 Nr.n
                    have fr2694 : MF B [B + 1, B + 3, B + 7] [2] h hh2692 := (fr_lk).tr ((mfz2693).mo (sub_c (List.Mem.tail _ (List.Mem.tail _ (List.Mem.head _))) sub_n) sbI_n)
                    refine g_iinc 2 (ls2 := [(5, .int (gI (k + 1))), (7, .int (gI ((dgi hp (fb)) - ((k) - ((i) - (dgi hp (fb))))))), (6, .int (gI (1))), (4, .int (gI (i))), (3, .int (gI ((dgi hp (fa)) + (dgi hp (fb))))), (2, .int (gI (dgi hp (fb)))), (1, .int (gI (dgi hp (fa)))), (0, .ref (B))]) dX10_byX_152 rfl (by decide) rfl ?_
                    refine g_goto (tgt := 51) dX10_byX_155 rfl ?_
                    refine Go.sub [0, 3, 4, 5, 6, 7] rfl ?_
                    exact ih_lk _ (by omega) (k + 1) hh2692 rfl fr2694 fk2694_1 (by
                                                            rw [← flM_s g7 (syE hp fa fb) hi.1 hk.1 (by omega) (by omega) (by unfold syE; rw [if_neg (by omega)])]; exact fhw2692) fh2692_3 rk2694_0 rk2694_1 rk2694_2 rk2694_3 (by omega)
              · skip
                refine g_iconst dX10_byX_63 ?_
                refine g_goto (tgt := 68) dX10_byX_64 rfl ?_
                refine g_istore (ls2 := [(6, .int (gI (0))), (5, .int (gI (k))), (4, .int (gI (i))), (3, .int (gI ((dgi hp (fa)) + (dgi hp (fb))))), (2, .int (gI (dgi hp (fb)))), (1, .int (gI (dgi hp (fa)))), (0, .ref (B))]) dX10_byX_68 (by decide) rfl ?_
                refine g_iload 0 dX10_byX_70 rfl ?_
                refine g_if_ne (tgt := 79) dX10_byX_72 rfl (by first | (unfold gW; omega) | (unfold gW; split <;> omega)) (fun c2695 => absurd c2695 (by omega)) (fun c2695 => ?_)
                refine g_iload_n 5 dX10_byX_75 rfl ?_
                refine g_goto (tgt := 80) dX10_byX_76 rfl ?_
                refine g_iload 1 dX10_byX_80 rfl ?_
                refine g_iload 0 dX10_byX_82 rfl ?_
                refine g_if_ne (tgt := 92) dX10_byX_84 rfl (by first | (unfold gW; omega) | (unfold gW; split <;> omega)) (fun c2696 => absurd c2696 (by omega)) (fun c2696 => ?_)
                refine g_iload 2 dX10_byX_87 rfl ?_
                refine g_goto (tgt := 96) dX10_byX_89 rfl ?_
                refine g_isub dX10_byX_96 ?_
                refine g_isub dX10_byX_97 ?_
                refine g_istore (ls2 := [(7, .int (gI ((dgi hp (fa)) - ((k) - (i))))), (6, .int (gI (0))), (5, .int (gI (k))), (4, .int (gI (i))), (3, .int (gI ((dgi hp (fa)) + (dgi hp (fb))))), (2, .int (gI (dgi hp (fb)))), (1, .int (gI (dgi hp (fa)))), (0, .ref (B))]) dX10_byX_98 (by decide) rfl ?_
                refine g_aload_n 7 dX10_byX_100 rfl ?_
                refine g_getf 7 dX10_byX_101 kX10 (by decide) fX10_29 cg_lk_0 rfl ?_
                refine g_bipush dX10_byX_104 (by decide) ?_
                refine g_iload 3 dX10_byX_106 rfl ?_
                refine g_imul dX10_byX_108 ?_
                refine g_iload 2 dX10_byX_109 rfl ?_
                refine g_iadd dX10_byX_111 ?_
                refine g_iload 0 dX10_byX_112 rfl ?_
                refine g_if_lt (tgt := 150) dX10_byX_114 rfl (by first | (unfold gW; omega) | (unfold gW; split <;> omega)) (fun c2697 => ?_) (fun c2697 => ?_)
                · skip
                  refine g_lconst0 dX10_byX_150 ?_
                  refine g_lastore dX10_byX_151 cf_lk_1 (by omega) (by omega) (by omega) ?_
                  obtain ⟨hh2698, eh2698⟩ : ∃ z : GH, z = hset hlk (B + 7) (aJ 6400 (gup (flM g7 (syE hp fa fb) (dgi hp fa + dgi hp fb) (80 * i + k)) (((80) * (i)) + (k)) (0))) := ⟨_, rfl⟩
                  refine Go.hp eh2698.symm ?_
                  have fx2698 : Fr [B + 7] hlk hh2698 := Fr.w0 (Fr.rf _ _) (List.Mem.head _) eh2698
                  have fh2698_3 : hh2698.2 (B + 8) = some (aI 11520 (g8)) := hs_n eh2698 (ne35).s cf_lk_2
                  have fhw2698 : hh2698.2 (B + 7) = some (aJ 6400 (gup (flM g7 (syE hp fa fb) (dgi hp fa + dgi hp fb) (80 * i + k)) (((80) * (i)) + (k)) (0))) := hs_s eh2698
                  have mfz2699 : MF B [B + 7] [] hlk hh2698 := MF.of fx2698 (fr_lk).2.1 (Ni.c ⟨ne31, ne32⟩ (Ni.n _)) (Ni.c ⟨ne33, ne34⟩ (Ni.n _)) []
                  have fk2700_0 : hh2698.2 (B) = some (mO B ((p : Int)) (hf) (le) (fc) (pn) (rn) (hn) (qn)) := Fr.at0 (mfz2699).1 (Ni.c ⟨ne4, ne5⟩ (Ni.c ⟨ne6, ne7⟩ (Ni.n _))) cg_lk_0
                  have fk2700_1 : hh2698.2 (B + 4) = some (aI 1500 (gm)) := Fr.at0 (mfz2699).1 (Ni.c ⟨ne26, ne27⟩ (Ni.c ⟨ne28, ne29⟩ (Ni.n _))) cf_lk_0
                  have rk2700_0 : MP hp B hh2698 (T) := (cr_lk_0).fr (mfz2699).1 (Ni.c ⟨ne11, ne12⟩ (Ni.c ⟨ne13, ne14⟩ (Ni.n _))) (Ni.c ⟨ne17, ne18⟩ (Ni.c ⟨ne19, ne20⟩ (Ni.n _)))
                  have rk2700_1 : MWA B hh2698 := (cr_lk_1).fr (mfz2699).1 (Ni.c ⟨ne22, ne23⟩ (Ni.c ⟨ne24, ne25⟩ (Ni.n _)))
                  have rk2700_2 : MG hp B hh2698 (0) (fa) := (cr_lk_2).fr hp2 mfz2699 Nr.n
                  have rk2700_3 : MG hp B hh2698 (1) (fb) := (cr_lk_3).fr hp2 mfz2699 Nr.n
                  have fr2700 : MF B [B + 1, B + 3, B + 7] [2] h hh2698 := (fr_lk).tr ((mfz2699).mo (sub_c (List.Mem.tail _ (List.Mem.tail _ (List.Mem.head _))) sub_n) sbI_n)
                  refine g_iinc 2 (ls2 := [(5, .int (gI (k + 1))), (7, .int (gI ((dgi hp (fa)) - ((k) - (i))))), (6, .int (gI (0))), (4, .int (gI (i))), (3, .int (gI ((dgi hp (fa)) + (dgi hp (fb))))), (2, .int (gI (dgi hp (fb)))), (1, .int (gI (dgi hp (fa)))), (0, .ref (B))]) dX10_byX_152 rfl (by decide) rfl ?_
                  refine g_goto (tgt := 51) dX10_byX_155 rfl ?_
                  refine Go.sub [0, 3, 4, 5, 6, 7] rfl ?_
                  exact ih_lk _ (by omega) (k + 1) hh2698 rfl fr2700 fk2700_1 (by
                                                            rw [← flM_s (v := 0) g7 (syE hp fa fb) hi.1 hk.1 (by omega) (by omega) (by
                                                              unfold syE
                                                              rw [if_pos (by omega)]
                                                              rcases Int.lt_or_le ((dgi hp (fa)) - ((k) - (i))) 0 with z | z
                                                              · exact (cf_ng fa z).symm
                                                              · exact (cf_hi hp hpa (by omega)).symm)]; exact fhw2698) fh2698_3 rk2700_0 rk2700_1 rk2700_2 rk2700_3 (by omega)
                · skip
                  refine g_iload 0 dX10_byX_117 rfl ?_
                  refine g_iload 1 dX10_byX_119 rfl ?_
                  refine g_if_ne (tgt := 128) dX10_byX_121 rfl (by first | (unfold gW; omega) | (unfold gW; split <;> omega)) (fun c2701 => absurd c2701 (by omega)) (fun c2701 => ?_)
                  refine g_iload_n 6 dX10_byX_124 rfl ?_
                  refine g_goto (tgt := 129) dX10_byX_125 rfl ?_
                  refine g_icmp_gt (tgt := 150) dX10_byX_129 rfl (by first | (unfold gW; omega) | (unfold gW; split <;> omega)) (by first | (unfold gW; omega) | (unfold gW; split <;> omega)) (fun c2702 => ?_) (fun c2702 => ?_)
                  · skip
                    refine g_lconst0 dX10_byX_150 ?_
                    refine g_lastore dX10_byX_151 cf_lk_1 (by omega) (by omega) (by omega) ?_
                    obtain ⟨hh2703, eh2703⟩ : ∃ z : GH, z = hset hlk (B + 7) (aJ 6400 (gup (flM g7 (syE hp fa fb) (dgi hp fa + dgi hp fb) (80 * i + k)) (((80) * (i)) + (k)) (0))) := ⟨_, rfl⟩
                    refine Go.hp eh2703.symm ?_
                    have fx2703 : Fr [B + 7] hlk hh2703 := Fr.w0 (Fr.rf _ _) (List.Mem.head _) eh2703
                    have fh2703_3 : hh2703.2 (B + 8) = some (aI 11520 (g8)) := hs_n eh2703 (ne35).s cf_lk_2
                    have fhw2703 : hh2703.2 (B + 7) = some (aJ 6400 (gup (flM g7 (syE hp fa fb) (dgi hp fa + dgi hp fb) (80 * i + k)) (((80) * (i)) + (k)) (0))) := hs_s eh2703
                    have mfz2704 : MF B [B + 7] [] hlk hh2703 := MF.of fx2703 (fr_lk).2.1 (Ni.c ⟨ne31, ne32⟩ (Ni.n _)) (Ni.c ⟨ne33, ne34⟩ (Ni.n _)) []
                    have fk2705_0 : hh2703.2 (B) = some (mO B ((p : Int)) (hf) (le) (fc) (pn) (rn) (hn) (qn)) := Fr.at0 (mfz2704).1 (Ni.c ⟨ne4, ne5⟩ (Ni.c ⟨ne6, ne7⟩ (Ni.n _))) cg_lk_0
                    have fk2705_1 : hh2703.2 (B + 4) = some (aI 1500 (gm)) := Fr.at0 (mfz2704).1 (Ni.c ⟨ne26, ne27⟩ (Ni.c ⟨ne28, ne29⟩ (Ni.n _))) cf_lk_0
                    have rk2705_0 : MP hp B hh2703 (T) := (cr_lk_0).fr (mfz2704).1 (Ni.c ⟨ne11, ne12⟩ (Ni.c ⟨ne13, ne14⟩ (Ni.n _))) (Ni.c ⟨ne17, ne18⟩ (Ni.c ⟨ne19, ne20⟩ (Ni.n _)))
                    have rk2705_1 : MWA B hh2703 := (cr_lk_1).fr (mfz2704).1 (Ni.c ⟨ne22, ne23⟩ (Ni.c ⟨ne24, ne25⟩ (Ni.n _)))
                    have rk2705_2 : MG hp B hh2703 (0) (fa) := (cr_lk_2).fr hp2 mfz2704 Nr.n
                    have rk2705_3 : MG hp B hh2703 (1) (fb) := (cr_lk_3).fr hp2 mfz2704 Nr.n
                    have fr2705 : MF B [B + 1, B + 3, B + 7] [2] h hh2703 := (fr_lk).tr ((mfz2704).mo (sub_c (List.Mem.tail _ (List.Mem.tail _ (List.Mem.head _))) sub_n) sbI_n)
                    refine g_iinc 2 (ls2 := [(5, .int (gI (k + 1))), (7, .int (gI ((dgi hp (fa)) - ((k) - (i))))), (6, .int (gI (0))), (4, .int (gI (i))), (3, .int (gI ((dgi hp (fa)) + (dgi hp (fb))))), (2, .int (gI (dgi hp (fb)))), (1, .int (gI (dgi hp (fa)))), (0, .ref (B))]) dX10_byX_152 rfl (by decide) rfl ?_
                    refine g_goto (tgt := 51) dX10_byX_155 rfl ?_
                    refine Go.sub [0, 3, 4, 5, 6, 7] rfl ?_
                    exact ih_lk _ (by omega) (k + 1) hh2703 rfl fr2705 fk2705_1 (by
                                                            rw [← flM_s (v := 0) g7 (syE hp fa fb) hi.1 hk.1 (by omega) (by omega) (by
                                                              unfold syE
                                                              rw [if_pos (by omega)]
                                                              rcases Int.lt_or_le ((dgi hp (fa)) - ((k) - (i))) 0 with z | z
                                                              · exact (cf_ng fa z).symm
                                                              · exact (cf_hi hp hpa (by omega)).symm)]; exact fhw2703) fh2703_3 rk2705_0 rk2705_1 rk2705_2 rk2705_3 (by omega)
                  · skip
                    obtain ⟨R2706, hR2706, hv2706⟩ := MG.num cr_lk_2
                    refine g_aload_n 7 dX10_byX_132 rfl ?_
                    refine g_getf 5 dX10_byX_133 kX10 (by decide) fX10_23 cg_lk_0 rfl ?_
                    refine g_sipush dX10_byX_136 (by decide) ?_
                    refine g_iload 1 dX10_byX_139 rfl ?_
                    refine g_imul dX10_byX_141 ?_
                    refine g_iload 0 dX10_byX_142 rfl ?_
                    refine g_iadd dX10_byX_144 ?_
                    refine g_iaload dX10_byX_145 hR2706 (by omega) (by omega) (by omega) ?_
                    have hv_ : (ar R2706) (((200) * (0)) + ((dgi hp (fa)) - ((k) - (i)))) = cf fa ((dgi hp (fa)) - ((k) - (i))) := by
                      rw [ar_r _ (by omega) (by omega)]; exact hv2706 _ (by omega) (by omega)
                    rw [hv_]
                    have hcb := cf_in fa hp ((dgi hp (fa)) - ((k) - (i)))
                    refine g_i2l dX10_byX_146 (by first | (unfold gW; omega) | (unfold gW; split <;> omega)) ?_
                    refine g_goto (tgt := 151) dX10_byX_147 rfl ?_
                    refine g_lastore dX10_byX_151 cf_lk_1 (by omega) (by omega) (by omega) ?_
                    obtain ⟨hh2707, eh2707⟩ : ∃ z : GH, z = hset hlk (B + 7) (aJ 6400 (gup (flM g7 (syE hp fa fb) (dgi hp fa + dgi hp fb) (80 * i + k)) (((80) * (i)) + (k)) (cf fa ((dgi hp (fa)) - ((k) - (i)))))) := ⟨_, rfl⟩
                    refine Go.hp eh2707.symm ?_
                    have fx2707 : Fr [B + 7] hlk hh2707 := Fr.w0 (Fr.rf _ _) (List.Mem.head _) eh2707
                    have fh2707_3 : hh2707.2 (B + 8) = some (aI 11520 (g8)) := hs_n eh2707 (ne35).s cf_lk_2
                    have fhw2707 : hh2707.2 (B + 7) = some (aJ 6400 (gup (flM g7 (syE hp fa fb) (dgi hp fa + dgi hp fb) (80 * i + k)) (((80) * (i)) + (k)) (cf fa ((dgi hp (fa)) - ((k) - (i)))))) := hs_s eh2707
                    have mfz2708 : MF B [B + 7] [] hlk hh2707 := MF.of fx2707 (fr_lk).2.1 (Ni.c ⟨ne31, ne32⟩ (Ni.n _)) (Ni.c ⟨ne33, ne34⟩ (Ni.n _)) []
                    have fk2709_0 : hh2707.2 (B) = some (mO B ((p : Int)) (hf) (le) (fc) (pn) (rn) (hn) (qn)) := Fr.at0 (mfz2708).1 (Ni.c ⟨ne4, ne5⟩ (Ni.c ⟨ne6, ne7⟩ (Ni.n _))) cg_lk_0
                    have fk2709_1 : hh2707.2 (B + 4) = some (aI 1500 (gm)) := Fr.at0 (mfz2708).1 (Ni.c ⟨ne26, ne27⟩ (Ni.c ⟨ne28, ne29⟩ (Ni.n _))) cf_lk_0
                    have rk2709_0 : MP hp B hh2707 (T) := (cr_lk_0).fr (mfz2708).1 (Ni.c ⟨ne11, ne12⟩ (Ni.c ⟨ne13, ne14⟩ (Ni.n _))) (Ni.c ⟨ne17, ne18⟩ (Ni.c ⟨ne19, ne20⟩ (Ni.n _)))
                    have rk2709_1 : MWA B hh2707 := (cr_lk_1).fr (mfz2708).1 (Ni.c ⟨ne22, ne23⟩ (Ni.c ⟨ne24, ne25⟩ (Ni.n _)))
                    have rk2709_2 : MG hp B hh2707 (0) (fa) := (cr_lk_2).fr hp2 mfz2708 Nr.n
                    have rk2709_3 : MG hp B hh2707 (1) (fb) := (cr_lk_3).fr hp2 mfz2708 Nr.n
                    have fr2709 : MF B [B + 1, B + 3, B + 7] [2] h hh2707 := (fr_lk).tr ((mfz2708).mo (sub_c (List.Mem.tail _ (List.Mem.tail _ (List.Mem.head _))) sub_n) sbI_n)
                    refine g_iinc 2 (ls2 := [(5, .int (gI (k + 1))), (7, .int (gI ((dgi hp (fa)) - ((k) - (i))))), (6, .int (gI (0))), (4, .int (gI (i))), (3, .int (gI ((dgi hp (fa)) + (dgi hp (fb))))), (2, .int (gI (dgi hp (fb)))), (1, .int (gI (dgi hp (fa)))), (0, .ref (B))]) dX10_byX_152 rfl (by decide) rfl ?_
                    refine g_goto (tgt := 51) dX10_byX_155 rfl ?_
                    refine Go.sub [0, 3, 4, 5, 6, 7] rfl ?_
                    exact ih_lk _ (by omega) (k + 1) hh2707 rfl fr2709 fk2709_1 (by
                                                            rw [← flM_s g7 (syE hp fa fb) hi.1 hk.1 (by omega) (by omega) (by unfold syE; rw [if_pos (by omega)])]; exact fhw2707) fh2707_3 rk2709_0 rk2709_1 rk2709_2 rk2709_3 (by omega)
          exact lk _ (0) hli rfl fr_li cf_li_0 (by rw [Int.add_zero]; exact cf_li_1) cf_li_2 cr_li_0 cr_li_1 cr_li_2 cr_li_3 (by omega)
      exact li _ (0) h rfl (MF.rf [B + 1, B + 3, B + 7] [2] ma) h4 (by rw [Int.mul_zero, flM_0]; exact h7) h8 hT hw hGa hGb (by omega)
    · skip
      refine g_bipush dX10_byX_18 (by decide) ?_
      exact g_iret dX10_byX_20 rfl ⟨(((MF.rf [B + 1, B + 3, B + 7] [2] ma)).1.mo (sub_c (List.Mem.tail _ (List.Mem.tail _ (List.Mem.head _))) (sub_c (List.Mem.head _) (sub_c (List.Mem.tail _ (List.Mem.head _)) (sub_c (List.Mem.tail _ (List.Mem.tail _ (List.Mem.tail _ (List.Mem.head _)))) sub_n))))), ⟨((MF.rf [B + 1, B + 3, B + 7] [2] ma)).2.1, hw, ⟨_, h4⟩, ⟨_, h7⟩, ⟨_, h8⟩⟩, (-3), T, (by unfold pa13; rw [if_pos (by omega)]; exact ⟨rfl, rfl⟩), rfl, hT⟩
set_option maxHeartbeats 4000000 in
set_option maxRecDepth 100000 in
theorem sM_apply13 (N : GN) (h : GH) (B p : Nat) (hp : prm p) (hp2 : p ≤ 65536) (hf le fc pn rn hn qn : Int) (T : PT p) (a b : Int) (gW_a : gW a) (gW_b : gW b) (hm : h.2 B = some (mO B p hf le fc pn rn hn qn)) (hT : MP hp B h T) (ms : MS B h)  : Sp N yX10_apply mX10_apply 0 0 [.ref (B), .int (gI (13)), .int (gI (a)), .int (gI (b))] h (fun v h1 => Fr [B + 1, B + 3, B + 5, B + 7] h h1 ∧ MS B h1 ∧ ∃ w T2, Ou T (ap2 T a b (rac hp 13)) w T2 ∧ v = some (.int (gI w)) ∧ MP hp B h1 T2) := by
  refine Sp.of (by decide) rfl rfl (Nat.le_of_ble_eq_true rfl) ?_
  show Go N mX10_apply _ 0 0 h 0 [(0, .ref (B)), (1, .int (gI (13))), (2, .int (gI (a))), (3, .int (gI (b)))] []
  have hp1 := hp.1
  have neA : NE B (B + 5) := by unfold NE; omega
  have neB : NE B (B + 6) := by unfold NE; omega
  have neC : NE (B + 5) (B + 6) := by unfold NE; omega
  have ne0 : NE (B) (B + 1) := by unfold NE; omega
  have ne1 : NE (B) (B + 2) := by unfold NE; omega
  have ne2 : NE (B) (B + 3) := by unfold NE; omega
  have ne3 : NE (B) (B + 4) := by unfold NE; omega
  have ne4 : NE (B) (B + 5) := by unfold NE; omega
  have ne5 : NE (B) (B + 6) := by unfold NE; omega
  have ne6 : NE (B) (B + 7) := by unfold NE; omega
  have ne7 : NE (B) (B + 8) := by unfold NE; omega
  have ne8 : NE (B + 1) (B + 2) := by unfold NE; omega
  have ne9 : NE (B + 1) (B + 3) := by unfold NE; omega
  have ne10 : NE (B + 1) (B + 4) := by unfold NE; omega
  have ne11 : NE (B + 1) (B + 5) := by unfold NE; omega
  have ne12 : NE (B + 1) (B + 6) := by unfold NE; omega
  have ne13 : NE (B + 1) (B + 7) := by unfold NE; omega
  have ne14 : NE (B + 1) (B + 8) := by unfold NE; omega
  have ne15 : NE (B + 2) (B + 3) := by unfold NE; omega
  have ne16 : NE (B + 2) (B + 4) := by unfold NE; omega
  have ne17 : NE (B + 2) (B + 5) := by unfold NE; omega
  have ne18 : NE (B + 2) (B + 6) := by unfold NE; omega
  have ne19 : NE (B + 2) (B + 7) := by unfold NE; omega
  have ne20 : NE (B + 2) (B + 8) := by unfold NE; omega
  have ne21 : NE (B + 3) (B + 4) := by unfold NE; omega
  have ne22 : NE (B + 3) (B + 5) := by unfold NE; omega
  have ne23 : NE (B + 3) (B + 6) := by unfold NE; omega
  have ne24 : NE (B + 3) (B + 7) := by unfold NE; omega
  have ne25 : NE (B + 3) (B + 8) := by unfold NE; omega
  have ne26 : NE (B + 4) (B + 5) := by unfold NE; omega
  have ne27 : NE (B + 4) (B + 6) := by unfold NE; omega
  have ne28 : NE (B + 4) (B + 7) := by unfold NE; omega
  have ne29 : NE (B + 4) (B + 8) := by unfold NE; omega
  have ne30 : NE (B + 5) (B + 6) := by unfold NE; omega
  have ne31 : NE (B + 5) (B + 7) := by unfold NE; omega
  have ne32 : NE (B + 5) (B + 8) := by unfold NE; omega
  have ne33 : NE (B + 6) (B + 7) := by unfold NE; omega
  have ne34 : NE (B + 6) (B + 8) := by unfold NE; omega
  have ne35 : NE (B + 7) (B + 8) := by unfold NE; omega
  obtain ⟨ma, hw, ⟨gm, h4⟩, ⟨g7, h7⟩, ⟨g8, h8⟩⟩ := ms
  refine g_iload_n 1 dX10_apply_0 rfl ?_
  refine g_if_lt (tgt := 10) dX10_apply_1 rfl (by first | exact gW_a | exact gW_b | (unfold gW; omega) | (unfold gW; split <;> omega)) (fun c1 => absurd c1 (by omega)) (fun c1 => ?_)
  refine g_iload_n 1 dX10_apply_4 rfl ?_
  refine g_bipush dX10_apply_5 (by decide) ?_
  refine g_icmp_le (tgt := 13) dX10_apply_7 rfl (by first | exact gW_a | exact gW_b | (unfold gW; omega) | (unfold gW; split <;> omega)) (by first | exact gW_a | exact gW_b | (unfold gW; omega) | (unfold gW; split <;> omega)) (fun c2 => ?_) (fun c2 => absurd c2 (by omega))
  refine g_iload_n 1 dX10_apply_13 rfl ?_
  refine g_iconst dX10_apply_14 ?_
  refine g_icmp_eq (tgt := 30) dX10_apply_15 rfl (by first | exact gW_a | exact gW_b | (unfold gW; omega) | (unfold gW; split <;> omega)) (by first | exact gW_a | exact gW_b | (unfold gW; omega) | (unfold gW; split <;> omega)) (fun c3 => absurd c3 (by omega)) (fun c3 => ?_)
  refine g_iload_n 1 dX10_apply_18 rfl ?_
  refine g_bipush dX10_apply_19 (by decide) ?_
  refine g_icmp_eq (tgt := 30) dX10_apply_21 rfl (by first | exact gW_a | exact gW_b | (unfold gW; omega) | (unfold gW; split <;> omega)) (by first | exact gW_a | exact gW_b | (unfold gW; omega) | (unfold gW; split <;> omega)) (fun c4 => absurd c4 (by omega)) (fun c4 => ?_)
  refine g_iload_n 1 dX10_apply_24 rfl ?_
  refine g_bipush dX10_apply_25 (by decide) ?_
  refine g_icmp_ne (tgt := 34) dX10_apply_27 rfl (by first | exact gW_a | exact gW_b | (unfold gW; omega) | (unfold gW; split <;> omega)) (by first | exact gW_a | exact gW_b | (unfold gW; omega) | (unfold gW; split <;> omega)) (fun c5 => ?_) (fun c5 => absurd c5 (by omega))
  refine g_iconst dX10_apply_34 ?_
  refine g_istore (ls2 := [(4, .int (gI (0))), (0, .ref (B)), (1, .int (gI (13))), (2, .int (gI (a))), (3, .int (gI (b)))]) dX10_apply_35 (by decide) rfl ?_
  refine g_aload_n 1 dX10_apply_37 rfl ?_
  refine g_iload_n 3 dX10_apply_38 rfl ?_
  refine g_callV (nc2 := 0) (ns2 := 0) (ci := 10) (As := [.int (gI (a))]) (st := []) rfl dX10_apply_39 okX10_isPlace lX10_118 itX10_isPlace seX10_isPlace rfl hm (by decide) (by decide) rfl (Nat.le_of_ble_eq_true rfl) (sM_isPlace N _ B p hp hp2 hf le fc pn rn hn qn T (a) gW_a hm hT) (by omega) (by omega) (fun v6 hc6 q6 => ?_)
  obtain ⟨hq7, hr7⟩ := q6
  rcases hr7 with ⟨rfl, a0, a1, F, ha⟩ | ⟨rfl, na⟩
  · skip
    refine Go.nf (h' := h) (st' := [.int (gI (1))]) hq7 rfl (Nat.le_refl _) (Nat.le_refl _) ?_
    refine g_if_eq (tgt := 58) dX10_apply_42 rfl (by first | exact gW_a | exact gW_b | (unfold gW; omega) | (unfold gW; split <;> omega)) (fun c8 => absurd c8 (by omega)) (fun c8 => ?_)
    refine g_iload 0 dX10_apply_45 rfl ?_
    refine g_if_ne (tgt := 60) dX10_apply_47 rfl (by first | exact gW_a | exact gW_b | (unfold gW; omega) | (unfold gW; split <;> omega)) (fun c9 => absurd c9 (by omega)) (fun c9 => ?_)
    refine g_aload_n 1 dX10_apply_50 rfl ?_
    refine g_iload_n 4 dX10_apply_51 rfl ?_
    refine g_callV (nc2 := 0) (ns2 := 0) (ci := 10) (As := [.int (gI (b))]) (st := []) rfl dX10_apply_52 okX10_isPlace lX10_118 itX10_isPlace seX10_isPlace rfl hm (by decide) (by decide) rfl (Nat.le_of_ble_eq_true rfl) (sM_isPlace N _ B p hp hp2 hf le fc pn rn hn qn T (b) gW_b hm hT) (by omega) (by omega) (fun v10 hc10 q10 => ?_)
    obtain ⟨hq11, hr11⟩ := q10
    rcases hr11 with ⟨rfl, b0, b1, G, hb⟩ | ⟨rfl, nb⟩
    · skip
      refine Go.nf (h' := h) (st' := [.int (gI (1))]) hq11 rfl (Nat.le_refl _) (Nat.le_refl _) ?_
      refine g_if_ne (tgt := 60) dX10_apply_55 rfl (by first | exact gW_a | exact gW_b | (unfold gW; omega) | (unfold gW; split <;> omega)) (fun c12 => ?_) (fun c12 => absurd c12 (by omega))
      refine g_iload_n 2 dX10_apply_60 rfl ?_
      refine g_bipush dX10_apply_61 (by decide) ?_
      refine g_icmp_lt (tgt := 91) dX10_apply_63 rfl (by first | exact gW_a | exact gW_b | (unfold gW; omega) | (unfold gW; split <;> omega)) (by first | exact gW_a | exact gW_b | (unfold gW; omega) | (unfold gW; split <;> omega)) (fun c13 => absurd c13 (by omega)) (fun c13 => ?_)
      refine g_iload_n 2 dX10_apply_66 rfl ?_
      refine g_bipush dX10_apply_67 (by decide) ?_
      refine g_icmp_eq (tgt := 91) dX10_apply_69 rfl (by first | exact gW_a | exact gW_b | (unfold gW; omega) | (unfold gW; split <;> omega)) (by first | exact gW_a | exact gW_b | (unfold gW; omega) | (unfold gW; split <;> omega)) (fun c14 => absurd c14 (by omega)) (fun c14 => ?_)
      refine g_aload_n 1 dX10_apply_72 rfl ?_
      refine g_iload_n 3 dX10_apply_73 rfl ?_
      refine g_callV (nc2 := 0) (ns2 := 0) (ci := 10) (As := [.int (gI (a))]) (st := []) rfl dX10_apply_74 okX10_isPlain lX10_126 itX10_isPlain seX10_isPlain rfl hm (by decide) (by decide) rfl (Nat.le_of_ble_eq_true rfl) (sM_isPlain N _ B p hp hp2 hf le fc pn rn hn qn T F a a0 a1 ha hm hT) (by omega) (by omega) (fun v15 hc15 q15 => ?_)
      obtain ⟨hq16, rfl⟩ := q15
      refine Go.nf (h' := h) (st' := [.int (gI (if dY hp F < 1 then 1 else 0))]) hq16 rfl (Nat.le_refl _) (Nat.le_refl _) ?_
      refine g_if_eq (tgt := 88) dX10_apply_77 rfl (by first | exact gW_a | exact gW_b | (unfold gW; omega) | (unfold gW; split <;> omega)) (fun c17 => ?_) (fun c17 => ?_)
      · skip
        have hyF : ¬ dY hp F < 1 := fun z => by rw [if_pos z] at c17; omega
        clear c17
        refine g_bipush dX10_apply_88 (by decide) ?_
        exact g_iret dX10_apply_90 rfl ⟨(((MF.rf [B + 1, B + 3] [0, 1] ma)).1.mo (sub_c (List.Mem.tail _ (List.Mem.tail _ (List.Mem.head _))) (sub_c (List.Mem.head _) (sub_c (List.Mem.tail _ (List.Mem.head _)) sub_n)))), ⟨((MF.rf [B + 1, B + 3] [0, 1] ma)).2.1, hw, ⟨_, h4⟩, ⟨_, h7⟩, ⟨_, h8⟩⟩, (-2), T, (by rw [ap2_s (gT_s a0 a1 ha) (gT_s b0 b1 hb)]; exact (by show Ou T (pl2 hp F G _) _ _; unfold pl2; rw [if_neg (by omega)]; exact ⟨rfl, rfl⟩)), rfl, hT⟩
      · skip
        have hyF : dY hp F < 1 := by
          by_cases z : dY hp F < 1
          · exact z
          · rw [if_neg z] at c17; omega
        clear c17
        refine g_aload_n 1 dX10_apply_80 rfl ?_
        refine g_iload_n 4 dX10_apply_81 rfl ?_
        refine g_callV (nc2 := 0) (ns2 := 0) (ci := 10) (As := [.int (gI (b))]) (st := []) rfl dX10_apply_82 okX10_isPlain lX10_126 itX10_isPlain seX10_isPlain rfl hm (by decide) (by decide) rfl (Nat.le_of_ble_eq_true rfl) (sM_isPlain N _ B p hp hp2 hf le fc pn rn hn qn T G b b0 b1 hb hm hT) (by omega) (by omega) (fun v18 hc18 q18 => ?_)
        obtain ⟨hq19, rfl⟩ := q18
        refine Go.nf (h' := h) (st' := [.int (gI (if dY hp G < 1 then 1 else 0))]) hq19 rfl (Nat.le_refl _) (Nat.le_refl _) ?_
        refine g_if_ne (tgt := 91) dX10_apply_85 rfl (by first | exact gW_a | exact gW_b | (unfold gW; omega) | (unfold gW; split <;> omega)) (fun c20 => ?_) (fun c20 => ?_)
        · skip
          have hyG : dY hp G < 1 := by
            by_cases z : dY hp G < 1
            · exact z
            · rw [if_neg z] at c20; omega
          clear c20
          refine g_iload_n 2 dX10_apply_91 rfl ?_
          refine g_iconst dX10_apply_92 ?_
          refine g_icmp_le (tgt := 101) dX10_apply_93 rfl (by first | exact gW_a | exact gW_b | (unfold gW; omega) | (unfold gW; split <;> omega)) (by first | exact gW_a | exact gW_b | (unfold gW; omega) | (unfold gW; split <;> omega)) (fun c21 => absurd c21 (by omega)) (fun c21 => ?_)
          refine g_iload_n 2 dX10_apply_96 rfl ?_
          refine g_iconst dX10_apply_97 ?_
          refine g_icmp_ne (tgt := 225) dX10_apply_98 rfl (by first | exact gW_a | exact gW_b | (unfold gW; omega) | (unfold gW; split <;> omega)) (by first | exact gW_a | exact gW_b | (unfold gW; omega) | (unfold gW; split <;> omega)) (fun c22 => ?_) (fun c22 => absurd c22 (by omega))
          refine g_iload_n 2 dX10_apply_225 rfl ?_
          refine g_iconst dX10_apply_226 ?_
          refine g_icmp_ne (tgt := 237) dX10_apply_227 rfl (by first | exact gW_a | exact gW_b | (unfold gW; omega) | (unfold gW; split <;> omega)) (by first | exact gW_a | exact gW_b | (unfold gW; omega) | (unfold gW; split <;> omega)) (fun c23 => ?_) (fun c23 => absurd c23 (by omega))
          refine g_iload_n 2 dX10_apply_237 rfl ?_
          refine g_iconst dX10_apply_238 ?_
          refine g_icmp_eq (tgt := 247) dX10_apply_239 rfl (by first | exact gW_a | exact gW_b | (unfold gW; omega) | (unfold gW; split <;> omega)) (by first | exact gW_a | exact gW_b | (unfold gW; omega) | (unfold gW; split <;> omega)) (fun c24 => absurd c24 (by omega)) (fun c24 => ?_)
          refine g_iload_n 2 dX10_apply_242 rfl ?_
          refine g_iconst dX10_apply_243 ?_
          refine g_icmp_ne (tgt := 264) dX10_apply_244 rfl (by first | exact gW_a | exact gW_b | (unfold gW; omega) | (unfold gW; split <;> omega)) (by first | exact gW_a | exact gW_b | (unfold gW; omega) | (unfold gW; split <;> omega)) (fun c25 => ?_) (fun c25 => absurd c25 (by omega))
          refine g_iload_n 2 dX10_apply_264 rfl ?_
          refine g_bipush dX10_apply_265 (by decide) ?_
          refine g_icmp_gt (tgt := 287) dX10_apply_267 rfl (by first | exact gW_a | exact gW_b | (unfold gW; omega) | (unfold gW; split <;> omega)) (by first | exact gW_a | exact gW_b | (unfold gW; omega) | (unfold gW; split <;> omega)) (fun c26 => ?_) (fun c26 => absurd c26 (by omega))
          refine g_iload_n 2 dX10_apply_287 rfl ?_
          refine g_bipush dX10_apply_288 (by decide) ?_
          refine g_icmp_ne (tgt := 300) dX10_apply_290 rfl (by first | exact gW_a | exact gW_b | (unfold gW; omega) | (unfold gW; split <;> omega)) (by first | exact gW_a | exact gW_b | (unfold gW; omega) | (unfold gW; split <;> omega)) (fun c27 => ?_) (fun c27 => absurd c27 (by omega))
          refine g_aload_n 1 dX10_apply_300 rfl ?_
          refine g_iload_n 3 dX10_apply_301 rfl ?_
          refine g_iconst dX10_apply_302 ?_
          refine g_callV (nc2 := 0) (ns2 := 0) (ci := 10) (As := [.int (gI (a)), .int (gI (0))]) (st := []) rfl dX10_apply_303 okX10_toRegister lX10_144 itX10_toRegister seX10_toRegister rfl hm (by decide) (by decide) rfl (Nat.le_of_ble_eq_true rfl) (sM_toRegister N _ B p hp hp2 hf le fc pn rn hn qn T (F) (a) (0) (by omega) a0 a1 ha hm ((MF.rf [B + 1, B + 3] [0, 1] ma)).2.1 hT) (by omega) (by omega) (fun v28 hc28 q28 => ?_)
          obtain ⟨rfl, mfc29, rn29_0⟩ := q28
          have fk30_0 : hc28.2 (B) = some (mO B ((p : Int)) (hf) (le) (fc) (pn) (rn) (hn) (qn)) := Fr.at0 (mfc29).1 (Ni.c ⟨ne4, ne5⟩ (Ni.n _)) hm
          have fk30_1 : hc28.2 (B + 4) = some (aI 1500 (gm)) := Fr.at0 (mfc29).1 (Ni.c ⟨ne26, ne27⟩ (Ni.n _)) h4
          have fk30_2 : hc28.2 (B + 7) = some (aJ 6400 (g7)) := Fr.at0 (mfc29).1 (Ni.c ⟨(ne31).s, (ne33).s⟩ (Ni.n _)) h7
          have fk30_3 : hc28.2 (B + 8) = some (aI 11520 (g8)) := Fr.at0 (mfc29).1 (Ni.c ⟨(ne32).s, (ne34).s⟩ (Ni.n _)) h8
          have rk30_0 : MP hp B hc28 (T) := (hT).fr (mfc29).1 (Ni.c ⟨ne11, ne12⟩ (Ni.n _)) (Ni.c ⟨ne17, ne18⟩ (Ni.n _))
          have rk30_1 : MWA B hc28 := (hw).fr (mfc29).1 (Ni.c ⟨ne22, ne23⟩ (Ni.n _))
          have fr30 : MF B [B + 1, B + 3] [0, 1] h hc28 := ((MF.rf [B + 1, B + 3] [0, 1] ma)).tr ((mfc29).mo sub_n (sbI_c (List.Mem.head _) sbI_n))
          refine Go.nf (h' := hc28) (st' := []) rfl rfl (Nat.le_refl _) (Nat.le_refl _) ?_
          refine g_aload_n 1 dX10_apply_306 rfl ?_
          refine g_iload_n 4 dX10_apply_307 rfl ?_
          refine g_iconst dX10_apply_308 ?_
          refine g_callV (nc2 := 0) (ns2 := 0) (ci := 10) (As := [.int (gI (b)), .int (gI (1))]) (st := []) rfl dX10_apply_309 okX10_toRegister lX10_144 itX10_toRegister seX10_toRegister rfl fk30_0 (by decide) (by decide) rfl (Nat.le_of_ble_eq_true rfl) (sM_toRegister N _ B p hp hp2 hf le fc pn rn hn qn T (G) (b) (1) (by omega) b0 b1 hb fk30_0 (fr30).2.1 rk30_0) (by omega) (by omega) (fun v31 hc31 q31 => ?_)
          obtain ⟨rfl, mfc32, rn32_0⟩ := q31
          have fk33_0 : hc31.2 (B) = some (mO B ((p : Int)) (hf) (le) (fc) (pn) (rn) (hn) (qn)) := Fr.at0 (mfc32).1 (Ni.c ⟨ne4, ne5⟩ (Ni.n _)) fk30_0
          have fk33_1 : hc31.2 (B + 4) = some (aI 1500 (gm)) := Fr.at0 (mfc32).1 (Ni.c ⟨ne26, ne27⟩ (Ni.n _)) fk30_1
          have fk33_2 : hc31.2 (B + 7) = some (aJ 6400 (g7)) := Fr.at0 (mfc32).1 (Ni.c ⟨(ne31).s, (ne33).s⟩ (Ni.n _)) fk30_2
          have fk33_3 : hc31.2 (B + 8) = some (aI 11520 (g8)) := Fr.at0 (mfc32).1 (Ni.c ⟨(ne32).s, (ne34).s⟩ (Ni.n _)) fk30_3
          have rk33_0 : MP hp B hc31 (T) := (rk30_0).fr (mfc32).1 (Ni.c ⟨ne11, ne12⟩ (Ni.n _)) (Ni.c ⟨ne17, ne18⟩ (Ni.n _))
          have rk33_1 : MWA B hc31 := (rk30_1).fr (mfc32).1 (Ni.c ⟨ne22, ne23⟩ (Ni.n _))
          have rk33_2 : MG hp B hc31 (0) (F 0) := (rn29_0).fr hp2 mfc32 (Nr.c (by omega) Nr.n)
          have fr33 : MF B [B + 1, B + 3] [0, 1] h hc31 := (fr30).tr ((mfc32).mo sub_n (sbI_c (List.Mem.tail _ (List.Mem.head _)) sbI_n))
          refine Go.nf (h' := hc31) (st' := []) rfl rfl (Nat.le_refl _) (Nat.le_refl _) ?_
          refine g_iload_n 2 dX10_apply_312 rfl ?_
          refine g_bipush dX10_apply_313 (by decide) ?_
          refine g_icmp_ne (tgt := 325) dX10_apply_315 rfl (by first | exact gW_a | exact gW_b | (unfold gW; omega) | (unfold gW; split <;> omega)) (by first | exact gW_a | exact gW_b | (unfold gW; omega) | (unfold gW; split <;> omega)) (fun c34 => absurd c34 (by omega)) (fun c34 => ?_)
          refine g_aload_n 1 dX10_apply_318 rfl ?_
          refine g_callV (nc2 := 0) (ns2 := 0) (ci := 10) (As := []) (st := []) rfl dX10_apply_319 okX10_byX lX10_148 itX10_byX seX10_byX rfl fk33_0 (by decide) (by decide) rfl (Nat.le_of_ble_eq_true rfl) (sM_byX N _ B p hp hp2 hf le fc pn rn hn qn T (F 0) (G 0) fk33_0 rk33_0 ⟨(fr33).2.1, rk33_1, ⟨_, fk33_1⟩, ⟨_, fk33_2⟩, ⟨_, fk33_3⟩⟩ rk33_2 rn32_0 (row_po hp (hT.at a0 a1 ha).1 0).2 (row_po hp (hT.at b0 b1 hb).1 0).2) (by omega) (by omega) (fun v35 hc35 q35 => ?_)
          obtain ⟨frc36, ms36, w36, T2_36, hO36, rfl, mp36⟩ := q35
          have frz36 := ((fr33).1.mo (sub_c (List.Mem.tail _ (List.Mem.tail _ (List.Mem.head _))) (sub_c (List.Mem.head _) (sub_c (List.Mem.tail _ (List.Mem.head _)) sub_n)))).tr frc36
          refine Go.nf (h' := hc35) (st' := [.int (gI (w36))]) rfl rfl (Nat.le_refl _) (Nat.le_refl _) ?_
          refine g_goto (tgt := 330) dX10_apply_322 rfl ?_
          exact g_iret dX10_apply_330 rfl ⟨frz36, ms36, w36, T2_36, (by rw [ap2_s (gT_s a0 a1 ha) (gT_s b0 b1 hb)]; exact (by show Ou T (pl2 hp F G _) _ _; unfold pl2; rw [if_pos (by omega)]; exact hO36)), rfl, mp36⟩
        · skip
          have hyG : ¬ dY hp G < 1 := fun z => by rw [if_pos z] at c20; omega
          clear c20
          refine g_bipush dX10_apply_88 (by decide) ?_
          exact g_iret dX10_apply_90 rfl ⟨(((MF.rf [B + 1, B + 3] [0, 1] ma)).1.mo (sub_c (List.Mem.tail _ (List.Mem.tail _ (List.Mem.head _))) (sub_c (List.Mem.head _) (sub_c (List.Mem.tail _ (List.Mem.head _)) sub_n)))), ⟨((MF.rf [B + 1, B + 3] [0, 1] ma)).2.1, hw, ⟨_, h4⟩, ⟨_, h7⟩, ⟨_, h8⟩⟩, (-2), T, (by rw [ap2_s (gT_s a0 a1 ha) (gT_s b0 b1 hb)]; exact (by show Ou T (pl2 hp F G _) _ _; unfold pl2; rw [if_neg (by omega)]; exact ⟨rfl, rfl⟩)), rfl, hT⟩
    · skip
      refine Go.nf (h' := h) (st' := [.int (gI (0))]) hq11 rfl (Nat.le_refl _) (Nat.le_refl _) ?_
      refine g_if_ne (tgt := 60) dX10_apply_55 rfl (by first | exact gW_a | exact gW_b | (unfold gW; omega) | (unfold gW; split <;> omega)) (fun c37 => absurd c37 (by omega)) (fun c37 => ?_)
      refine g_iconst dX10_apply_58 ?_
      exact g_iret dX10_apply_59 rfl ⟨(((MF.rf [B + 1, B + 3] [0, 1] ma)).1.mo (sub_c (List.Mem.tail _ (List.Mem.tail _ (List.Mem.head _))) (sub_c (List.Mem.head _) (sub_c (List.Mem.tail _ (List.Mem.head _)) sub_n)))), ⟨((MF.rf [B + 1, B + 3] [0, 1] ma)).2.1, hw, ⟨_, h4⟩, ⟨_, h7⟩, ⟨_, h8⟩⟩, (-1), T, (by rw [ap2_nb (gT_n nb)]; exact ⟨rfl, rfl⟩), rfl, hT⟩
  · skip
    refine Go.nf (h' := h) (st' := [.int (gI (0))]) hq7 rfl (Nat.le_refl _) (Nat.le_refl _) ?_
    refine g_if_eq (tgt := 58) dX10_apply_42 rfl (by first | exact gW_a | exact gW_b | (unfold gW; omega) | (unfold gW; split <;> omega)) (fun c38 => ?_) (fun c38 => absurd c38 (by omega))
    refine g_iconst dX10_apply_58 ?_
    exact g_iret dX10_apply_59 rfl ⟨(((MF.rf [B + 1, B + 3] [0, 1] ma)).1.mo (sub_c (List.Mem.tail _ (List.Mem.tail _ (List.Mem.head _))) (sub_c (List.Mem.head _) (sub_c (List.Mem.tail _ (List.Mem.head _)) sub_n)))), ⟨((MF.rf [B + 1, B + 3] [0, 1] ma)).2.1, hw, ⟨_, h4⟩, ⟨_, h7⟩, ⟨_, h8⟩⟩, (-1), T, (by rw [ap2_na (gT_n na)]; exact ⟨rfl, rfl⟩), rfl, hT⟩
