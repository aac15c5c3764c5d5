section
variable {p : Nat}
def anI (t : Int → Int) (o an n : Int) : Prop := an = 1 ↔ ∃ i : Int, 0 ≤ i ∧ i < n ∧ t i = o
/-- the roots of the factors behind f, sorted -/
def rtv (p : Nat) (g : Px p) : Int := ((p : Int) - cf g 0) % p
def rtL (h : prm p) (n f : Int) (Q : Int → Px p) (rn : Int) (R : Int → Int) : Prop := (∀ i : Int, 0 ≤ i → i + 1 < rn → R i < R (i + 1)) ∧ ∀ x : Int, (∃ i : Int, 0 ≤ i ∧ i < rn ∧ R i = x) ↔ ∃ j : Int, f < j ∧ j < n ∧ dgi h (Q j) = 1 ∧ x = rtv p (Q j)
theorem rtv_in (h : prm p) (g : Px p) : 0 ≤ rtv p g ∧ rtv p g < p := emod_in h _
theorem rtv_inj (h : prm p) {f g : Px p} (e : rtv p f = rtv p g) : cf f 0 = cf g 0 := by
  have hp := h.1
  have a := cf_in f h 0
  have b := cf_in g h 0
  unfold rtv at e
  rcases Int.lt_or_le 0 (cf f 0) with x | x
  · rw [Int.emod_eq_of_lt (by omega) (by omega)] at e
    rcases Int.lt_or_le 0 (cf g 0) with y | y
    · rw [Int.emod_eq_of_lt (by omega) (by omega)] at e; omega
    · rw [show cf g 0 = 0 by omega, Int.sub_zero, Int.emod_self] at e; omega
  · rw [show cf f 0 = 0 by omega, Int.sub_zero, Int.emod_self] at e
    rcases Int.lt_or_le 0 (cf g 0) with y | y
    · rw [Int.emod_eq_of_lt (by omega) (by omega)] at e; omega
    · omega
theorem rtL_n {h : prm p} {n f rn : Int} {Q : Int → Px p} {R : Int → Int} (w : rtL h n f Q rn R) (hd : dgi h (Q f) ≠ 1) : rtL h n (f - 1) Q rn R := ⟨w.1, fun x => (w.2 x).trans ⟨fun ⟨j, a, b, c, d⟩ => ⟨j, by omega, b, c, d⟩, fun ⟨j, a, b, c, d⟩ => ⟨j, by
  rcases Int.lt_or_le f j with z | z
  · exact z
  · exact absurd (show dgi h (Q f) = 1 by rw [← show j = f by omega]; exact c) hd, b, c, d⟩⟩⟩
/-- moved by one from a on -/
def hoI (R G : Int → Int) (n a : Int) : Prop := (∀ i : Int, 0 ≤ i → i < a → G i = R i) ∧ ∀ i : Int, a < i → i ≤ n → G i = R (i - 1)
theorem hoI_s {R G : Int → Int} {n a : Int} (w : hoI R G n a) (ha : 1 ≤ a ∧ a ≤ n) : hoI R (gup G a (G (a - 1))) n (a - 1) := by
  refine ⟨fun i i0 i1 => ?_, fun i i0 i1 => ?_⟩
  · unfold gup
    rw [if_neg (by omega)]; exact w.1 i i0 (by omega)
  · unfold gup
    by_cases z : i = a
    · rw [if_pos z, z]; exact w.1 (a - 1) (by omega) (by omega)
    · rw [if_neg z]; exact w.2 i (by omega) i1
theorem rtL_s {h : prm p} {n f rn a : Int} {Q : Int → Px p} {R G : Int → Int} (hf : f < n) (w : rtL h n f Q rn R) (hd : dgi h (Q f) = 1) (ho : hoI R G rn a) (ha : 0 ≤ a ∧ a ≤ rn) (hlo : a = 0 ∨ R (a - 1) < rtv p (Q f)) (hhi : ∀ i : Int, a ≤ i → i < rn → rtv p (Q f) < R i) : rtL h n (f - 1) Q (rn + 1) (gup G a (rtv p (Q f))) := by
  have at_ : ∀ i : Int, 0 ≤ i → i < rn + 1 → gup G a (rtv p (Q f)) i = if i < a then R i else if i = a then rtv p (Q f) else R (i - 1) := fun i i0 i1 => by
    unfold gup
    by_cases z : i = a
    · rw [if_pos z, if_neg (by omega), if_pos z]
    · rw [if_neg z]
      by_cases y : i < a
      · rw [if_pos y]; exact ho.1 i i0 y
      · rw [if_neg y, if_neg z]; exact ho.2 i (by omega) (by omega)
  refine ⟨fun i i0 i1 => ?_, fun x => ⟨fun ⟨i, i0, i1, e⟩ => ?_, fun ⟨j, a1, a2, a3, a4⟩ => ?_⟩⟩
  · rw [at_ i i0 (by omega), at_ (i + 1) (by omega) (by omega)]
    by_cases z : i + 1 < a
    · rw [if_pos (by omega), if_pos z]; exact w.1 i i0 (by omega)
    · by_cases y : i + 1 = a
      · rw [if_pos (by omega), if_neg z, if_pos y]
        rcases hlo with q | q
        · omega
        · rw [show i = a - 1 by omega]; exact q
      · rw [if_neg (by omega), if_neg z, if_neg y]
        by_cases v : i = a
        · rw [if_pos v, show i + 1 - 1 = i by omega]; exact hhi i (by omega) (by omega)
        · rw [if_neg v, show i + 1 - 1 = i by omega]
          have := w.1 (i - 1) (by omega) (by omega)
          rw [show i - 1 + 1 = i by omega] at this
          exact this
  · rw [at_ i i0 i1] at e
    by_cases z : i < a
    · rw [if_pos z] at e
      obtain ⟨j, b1, b2, b3, b4⟩ := (w.2 x).mp ⟨i, i0, by omega, e⟩
      exact ⟨j, by omega, b2, b3, b4⟩
    · rw [if_neg z] at e
      by_cases y : i = a
      · rw [if_pos y] at e; exact ⟨f, by omega, hf, hd, e.symm⟩
      · rw [if_neg y] at e
        obtain ⟨j, b1, b2, b3, b4⟩ := (w.2 x).mp ⟨i - 1, by omega, by omega, e⟩
        exact ⟨j, by omega, b2, b3, b4⟩
  · rcases Int.lt_or_le f j with z | z
    · obtain ⟨i, i0, i1, e⟩ := (w.2 x).mpr ⟨j, z, a2, a3, a4⟩
      by_cases y : i < a
      · exact ⟨i, i0, by omega, by rw [at_ i i0 (by omega), if_pos y]; exact e⟩
      · exact ⟨i + 1, by omega, by omega, by rw [at_ (i + 1) (by omega) (by omega), if_neg (by omega), if_neg (by omega), show i + 1 - 1 = i by omega]; exact e⟩
    · have ej : j = f := by omega
      exact ⟨a, by omega, by omega, by rw [at_ a (by omega) (by omega), if_neg (by omega), if_pos rfl, a4, ej]⟩
/-- they are the document's -/
theorem rtL_k (h : prm p) {F : Px p} {n rn : Int} {Q : Int → Px p} {R : Int → Int} (hrn : 0 ≤ rn) (hn : (fN h F : Int) = n) (e : ∀ i : Int, 0 ≤ i → i < n → fP h F i = Q i) (w : rtL h n (-1) Q rn R) : (rN h F : Int) = rn ∧ ∀ i : Int, 0 ≤ i → i < rn → rR h F i = R i := by
  have so : isSo (fun a b : Int => a < b) (isRf h F) rn.toNat (fun i => R i) := ⟨fun i hi => by
      obtain ⟨j, a1, a2, a3, a4⟩ := (w.2 (R i)).mp ⟨i, by omega, by omega, rfl⟩
      refine ⟨j.toNat, by omega, ?_, ?_⟩
      · rw [show ((j.toNat : Nat) : Int) = j by omega, e j (by omega) a2]; exact a3
      · rw [show ((j.toNat : Nat) : Int) = j by omega, e j (by omega) a2]; exact a4, fun x hx => by
      obtain ⟨j, j1, j2, j3⟩ := hx
      rw [e j (by omega) (by omega)] at j2 j3
      obtain ⟨i, i0, i1, ei⟩ := (w.2 x).mpr ⟨j, by omega, by omega, j2, j3⟩
      exact ⟨i.toNat, by omega, by dsimp only; rw [show ((i.toNat : Nat) : Int) = i by omega]; exact ei⟩, fun i hi => by
      have := w.1 i (by omega) (by omega)
      dsimp only
      rw [show ((i + 1 : Nat) : Int) = (i : Int) + 1 by omega]; exact this⟩
  have u := soX_un (x := (0 : Int)) (fun a => Int.lt_irrefl a) (fun a b c => Int.lt_trans) so
  have e1 : rN h F = rn.toNat := u.1.symm
  refine ⟨by rw [e1]; omega, fun i i0 i1 => ?_⟩
  have := u.2 i.toNat (by omega)
  rw [show ((i.toNat : Nat) : Int) = i by omega] at this
  exact this.symm
theorem LI_ne (h : prm p) {F : Px p} {n : Int} {Q : Int → Px p} (w : LI h F n Q) {i j : Int} (i0 : 0 ≤ i) (ij : i < j) (jn : j < n) : Q i ≠ Q j := fun e => by
  have := lt_ij h w.2.1 i0 ij jn
  rw [e] at this
  exact ltP_ir h _ this
/-- a line's root is not yet there -/
theorem rt_new (h : prm p) {F : Px p} {n f : Int} {Q : Int → Px p} (w : LI h F n Q) (f0 : 0 ≤ f) {j : Int} (fj : f < j) (jn : j < n) (d1 : dgi h (Q f) = 1) (d2 : dgi h (Q j) = 1) : rtv p (Q f) ≠ rtv p (Q j) := fun e => by
  have e1 := rtv_inj h e
  obtain ⟨a1, a2, a3⟩ := w.2.2 f f0 (by omega)
  obtain ⟨b1, b2, b3⟩ := w.2.2 j (by omega) jn
  refine LI_ne h w f0 fj jn (eq_cf h a1.1 b1.1 (by omega) (by omega) (fun k k0 k1 => ?_))
  rcases Int.lt_or_le 1 k with z | z
  · rw [cf_hi h a1.1 (by omega), cf_hi h b1.1 (by omega)]
  · rcases Int.lt_or_le k 1 with y | y
    · rw [show k = 0 by omega]; exact e1
    · rw [show k = 1 by omega]
      rcases a2 with x | x
      · omega
      · rcases b2 with v | v
        · omega
        · rw [d1] at x
          rw [d2] at v
          unfold cf
          rw [if_pos (by omega), if_pos (by omega), x, v]
end
set_option maxHeartbeats 4000000 in
set_option maxRecDepth 100000 in
theorem sM_settle (N : GN) (h : GH) (B p : Nat) (hp : prm p) (hp2 : p ≤ 65536) (h0 : GH) (hf le fc pn rn hn qn : Int) (g9 g10 g11 g12 g13 g14 g15 g16 g17 g18 g19 g20 : Int → Int) (F0 : Px p) (Q : Int → Px p) (hF0 : po (fR hp) F0) (hF040 : 0 ≤ dgi hp F0 ∧ dgi hp F0 ≤ 40) (hT : TB hp g9 g11 fc Q) (hLI : LI hp F0 fc Q) (hall : ∀ g : Px p, isFc hp F0 g → ∃ i : Int, 0 ≤ i ∧ i < fc ∧ Q i = g) (hRD : RD B h0 h p hf le fc pn rn hn qn g9 g10 g11 g12 g13 g14 g15 g16 g17 g18 g19 g20) (h20 : MG hp B h 20 F0) : Sp N yX10_settle mX10_settle 0 0 [.ref (B)] h (fun v h1 => v = none ∧ NR B [21, 22, 23, 24] h h1 ∧ ∃ pn1 rn1 t k12 k13 k14 k15 o, RD B h0 h1 p hf le fc pn1 rn1 hn qn g9 t g11 k12 k13 k14 k15 g16 g17 g18 g19 g20 ∧ (∀ i : Int, 0 ≤ i → i < fc → t i = mlt hp (Q i) F0) ∧ ptI t fc o pn1 k12 ∧ (∀ j : Int, 0 ≤ j → j < fc → t j < o) ∧ TB hp k13 k14 pn1 (fun i => pQ hp Q t (k12 i) fc.toNat) ∧ rtL hp fc (-1) Q rn1 k15 ∧ (0 ≤ rn1 ∧ rn1 ≤ fc) ∧ o ≤ 41) := by
  refine Sp.of (by decide) rfl rfl (Nat.le_of_ble_eq_true rfl) ?_
  show Go N mX10_settle _ 0 0 h 0 [(0, .ref (B))] []
  have hp1 := hp.1
  have neA : NE B (B + 5) := by unfold NE; omega
  have neB : NE B (B + 6) := by unfold NE; omega
  have neC : NE (B + 5) (B + 6) := by unfold NE; omega
  have hcn0 := cnt_le hp hF0 (by omega) hLI.2.1 hLI.2.2
  have hcn1 := hLI.1
  refine g_aload_n 0 dX10_settle_0 rfl ?_
  refine g_iconst dX10_settle_1 ?_
  refine g_putf 19 dX10_settle_2 kX10 (by decide) fX10_96 rfl (RD.o hRD) (Nat.le_of_ble_eq_true rfl) rfl rfl ?_
  obtain ⟨hh1, eh1⟩ : ∃ z : GH, z = hset h (B) (mO B ((p : Int)) (hf) (le) (fc) (pn) (0) (hn) (qn)) := ⟨_, rfl⟩
  refine Go.hp eh1.symm ?_
  have rd1 : RD B h0 hh1 p hf le fc pn 0 hn qn g9 g10 g11 g12 g13 g14 g15 g16 g17 g18 g19 g20 := RD.cell hRD (by rw [eh1]; rfl) (fun x hx => by rw [eh1, hset_n _ _ (by omega)]) (hs_s eh1) (hs_n eh1 (show NE (B + 9) (B) by unfold NE; omega) (RD.t9 hRD)) (hs_n eh1 (show NE (B + 10) (B) by unfold NE; omega) (RD.t10 hRD)) (hs_n eh1 (show NE (B + 11) (B) by unfold NE; omega) (RD.t11 hRD)) (hs_n eh1 (show NE (B + 12) (B) by unfold NE; omega) (RD.t12 hRD)) (hs_n eh1 (show NE (B + 13) (B) by unfold NE; omega) (RD.t13 hRD)) (hs_n eh1 (show NE (B + 14) (B) by unfold NE; omega) (RD.t14 hRD)) (hs_n eh1 (show NE (B + 15) (B) by unfold NE; omega) (RD.t15 hRD)) (hs_n eh1 (show NE (B + 16) (B) by unfold NE; omega) (RD.t16 hRD)) (hs_n eh1 (show NE (B + 17) (B) by unfold NE; omega) (RD.t17 hRD)) (hs_n eh1 (show NE (B + 18) (B) by unfold NE; omega) (RD.t18 hRD)) (hs_n eh1 (show NE (B + 19) (B) by unfold NE; omega) (RD.t19 hRD)) (hs_n eh1 (show NE (B + 20) (B) by unfold NE; omega) (RD.t20 hRD))
  have e5_1 : hh1.2 (B + 5) = h.2 (B + 5) := by rw [eh1, hset_n _ _ (by omega)]
  have e6_1 : hh1.2 (B + 6) = h.2 (B + 6) := by rw [eh1, hset_n _ _ (by omega)]
  have rg1_1 : NR B [21, 22, 23, 24] h hh1 := NR.h5 (NR.rf B [21, 22, 23, 24] h) e5_1 e6_1
  have rg1_2 : MG hp B hh1 (20) (F0) := (h20).of5 e5_1 e6_1
  refine g_iconst dX10_settle_5 ?_
  refine g_istore_n (ls2 := [(1, .int (gI (0))), (0, .ref (B))]) dX10_settle_6 rfl (by decide) rfl ?_
  refine g_iconst dX10_settle_7 ?_
  refine g_istore_n (ls2 := [(2, .int (gI (0))), (1, .int (gI (0))), (0, .ref (B))]) dX10_settle_8 rfl (by decide) rfl ?_
  have lf : ∀ (kk : Nat) (f : Int) (mo : Int) (t : Int → Int) (hlf : GH), kk = (50 - f).toNat → True → RD B h0 hlf p hf le fc pn 0 hn qn g9 t g11 g12 g13 g14 g15 g16 g17 g18 g19 g20 → NR B [21, 22, 23, 24] h hlf → MG hp B hlf (20) (F0) → (0 ≤ f ∧ f ≤ fc) → (∀ i : Int, 0 ≤ i → i < f → t i = mlt hp (Q i) F0) → (0 ≤ mo ∧ mo ≤ 40 ∧ ∀ i : Int, 0 ≤ i → i < f → t i ≤ mo) → Go N mX10_settle (fun v h1 => v = none ∧ NR B [21, 22, 23, 24] h h1 ∧ ∃ pn1 rn1 t k12 k13 k14 k15 o, RD B h0 h1 p hf le fc pn1 rn1 hn qn g9 t g11 k12 k13 k14 k15 g16 g17 g18 g19 g20 ∧ (∀ i : Int, 0 ≤ i → i < fc → t i = mlt hp (Q i) F0) ∧ ptI t fc o pn1 k12 ∧ (∀ j : Int, 0 ≤ j → j < fc → t j < o) ∧ TB hp k13 k14 pn1 (fun i => pQ hp Q t (k12 i) fc.toNat) ∧ rtL hp fc (-1) Q rn1 k15 ∧ (0 ≤ rn1 ∧ rn1 ≤ fc) ∧ o ≤ 41) 0 0 hlf 9 [(2, .int (gI (f))), (1, .int (gI (mo))), (0, .ref (B))] [] := by
    refine Go.ind (fun kk ih_lf => ?_)
    intro f mo t hlf hkk_lf fr_lf cr_lf_0 cr_lf_1 cr_lf_2 hf_ htt hmo
    refine g_iload_n 0 dX10_settle_9 rfl ?_
    refine g_aload_n 2 dX10_settle_10 rfl ?_
    refine g_getf 11 dX10_settle_11 kX10 (by decide) fX10_90 (RD.o cr_lf_0) rfl ?_
    refine g_icmp_ge (tgt := 121) dX10_settle_14 rfl (by first | assumption | (unfold gW; omega) | (unfold gW; split <;> omega)) (by first | assumption | (unfold gW; omega) | (unfold gW; split <;> omega)) (fun c102 => ?_) (fun c102 => ?_)
    · skip
      have htt2 : ∀ i : Int, 0 ≤ i → i < fc → t i = mlt hp (Q i) F0 := fun i i0 i1 => htt i i0 (by omega)
      have ht1 : ∀ i : Int, 0 ≤ i → i < fc → 1 ≤ t i := fun i i0 i1 => by
                                                                      rw [htt2 i i0 i1]
                                                                      have := (ml_dv hp (hLI.2.2 i i0 i1).1 (dgi_dg hp hF0 (by omega))).mp (hLI.2.2 i i0 i1).2.2
                                                                      omega
      have hmo2 : ∀ i : Int, 0 ≤ i → i < fc → t i ≤ mo := fun i i0 i1 => hmo.2.2 i i0 (by omega)
      have hfcl : fcl hp F0 fc Q t := ⟨fun i i0 i1 => ⟨hLI.2.2 i i0 i1, htt2 i i0 i1, ht1 i i0 i1⟩, fun i j i0 ij jn => LI_ne hp hLI i0 ij jn, hall⟩
      refine g_aload_n 2 dX10_settle_121 rfl ?_
      refine g_getf 11 dX10_settle_122 kX10 (by decide) fX10_90 (RD.o cr_lf_0) rfl ?_
      refine g_iconst dX10_settle_125 ?_
      refine g_isub dX10_settle_126 ?_
      refine g_istore_n (ls2 := [(2, .int (gI ((fc) - (1)))), (1, .int (gI (mo))), (0, .ref (B))]) dX10_settle_127 rfl (by decide) rfl ?_
      have lr : ∀ (kk : Nat) (f2 : Int) (rn1 : Int) (gR : Int → Int) (hlr : GH), kk = (f2 + 1).toNat → True → RD B h0 hlr p hf le fc pn rn1 hn qn g9 t g11 g12 g13 g14 gR g16 g17 g18 g19 g20 → NR B [21, 22, 23, 24] h hlr → MG hp B hlr (20) (F0) → (-1 ≤ f2 ∧ f2 ≤ fc - 1) → (rtL hp fc f2 Q rn1 gR) → (0 ≤ rn1 ∧ rn1 + f2 + 1 ≤ fc) → Go N mX10_settle (fun v h1 => v = none ∧ NR B [21, 22, 23, 24] h h1 ∧ ∃ pn1 rn1 t k12 k13 k14 k15 o, RD B h0 h1 p hf le fc pn1 rn1 hn qn g9 t g11 k12 k13 k14 k15 g16 g17 g18 g19 g20 ∧ (∀ i : Int, 0 ≤ i → i < fc → t i = mlt hp (Q i) F0) ∧ ptI t fc o pn1 k12 ∧ (∀ j : Int, 0 ≤ j → j < fc → t j < o) ∧ TB hp k13 k14 pn1 (fun i => pQ hp Q t (k12 i) fc.toNat) ∧ rtL hp fc (-1) Q rn1 k15 ∧ (0 ≤ rn1 ∧ rn1 ≤ fc) ∧ o ≤ 41) 0 0 hlr 128 [(2, .int (gI (f2))), (1, .int (gI (mo))), (0, .ref (B))] [] := by
        refine Go.ind (fun kk ih_lr => ?_)
        intro f2 rn1 gR hlr hkk_lr fr_lr cr_lr_0 cr_lr_1 cr_lr_2 hf2 hrt hrn
        refine g_iload_n 0 dX10_settle_128 rfl ?_
        refine g_if_lt (tgt := 232) dX10_settle_129 rfl (by first | assumption | (unfold gW; omega) | (unfold gW; split <;> omega)) (fun c203 => ?_) (fun c203 => ?_)
        · skip
          refine g_aload_n 2 dX10_settle_232 rfl ?_
          refine g_iconst dX10_settle_233 ?_
          refine g_putf 15 dX10_settle_234 kX10 (by decide) fX10_93 rfl (RD.o cr_lr_0) (Nat.le_of_ble_eq_true rfl) rfl rfl ?_
          obtain ⟨hh204, eh204⟩ : ∃ z : GH, z = hset hlr (B) (mO B ((p : Int)) (hf) (le) (fc) (0) (rn1) (hn) (qn)) := ⟨_, rfl⟩
          refine Go.hp eh204.symm ?_
          have rd204 : RD B h0 hh204 p hf le fc 0 rn1 hn qn g9 t g11 g12 g13 g14 gR g16 g17 g18 g19 g20 := RD.cell cr_lr_0 (by rw [eh204]; rfl) (fun x hx => by rw [eh204, hset_n _ _ (by omega)]) (hs_s eh204) (hs_n eh204 (show NE (B + 9) (B) by unfold NE; omega) (RD.t9 cr_lr_0)) (hs_n eh204 (show NE (B + 10) (B) by unfold NE; omega) (RD.t10 cr_lr_0)) (hs_n eh204 (show NE (B + 11) (B) by unfold NE; omega) (RD.t11 cr_lr_0)) (hs_n eh204 (show NE (B + 12) (B) by unfold NE; omega) (RD.t12 cr_lr_0)) (hs_n eh204 (show NE (B + 13) (B) by unfold NE; omega) (RD.t13 cr_lr_0)) (hs_n eh204 (show NE (B + 14) (B) by unfold NE; omega) (RD.t14 cr_lr_0)) (hs_n eh204 (show NE (B + 15) (B) by unfold NE; omega) (RD.t15 cr_lr_0)) (hs_n eh204 (show NE (B + 16) (B) by unfold NE; omega) (RD.t16 cr_lr_0)) (hs_n eh204 (show NE (B + 17) (B) by unfold NE; omega) (RD.t17 cr_lr_0)) (hs_n eh204 (show NE (B + 18) (B) by unfold NE; omega) (RD.t18 cr_lr_0)) (hs_n eh204 (show NE (B + 19) (B) by unfold NE; omega) (RD.t19 cr_lr_0)) (hs_n eh204 (show NE (B + 20) (B) by unfold NE; omega) (RD.t20 cr_lr_0))
          have e5_204 : hh204.2 (B + 5) = hlr.2 (B + 5) := by rw [eh204, hset_n _ _ (by omega)]
          have e6_204 : hh204.2 (B + 6) = hlr.2 (B + 6) := by rw [eh204, hset_n _ _ (by omega)]
          have rg204_1 : NR B [21, 22, 23, 24] h hh204 := NR.h5 cr_lr_1 e5_204 e6_204
          have rg204_2 : MG hp B hh204 (20) (F0) := (cr_lr_2).of5 e5_204 e6_204
          refine g_iconst dX10_settle_237 ?_
          refine g_istore_n (ls2 := [(2, .int (gI (1))), (1, .int (gI (mo))), (0, .ref (B))]) dX10_settle_238 rfl (by decide) rfl ?_
          have hrtE : rtL hp fc (-1) Q rn1 gR := by
                                                                      have e9 : f2 = -1 := by omega
                                                                      rw [e9] at hrt; exact hrt
          have lo : ∀ (kk : Nat) (o : Int) (c : Int) (k12 : Int → Int) (k13 : Int → Int) (k14 : Int → Int) (hlo : GH), kk = (50 - o).toNat → True → RD B h0 hlo p hf le fc c rn1 hn qn g9 t g11 k12 k13 k14 gR g16 g17 g18 g19 g20 → NR B [21, 22, 23, 24] h hlo → MG hp B hlo (20) (F0) → (1 ≤ o ∧ o ≤ mo + 1) → (ptI t fc o c k12) → (TB hp k13 k14 c (fun i => pQ hp Q t (k12 i) fc.toNat)) → Go N mX10_settle (fun v h1 => v = none ∧ NR B [21, 22, 23, 24] h h1 ∧ ∃ pn1 rn1 t k12 k13 k14 k15 o, RD B h0 h1 p hf le fc pn1 rn1 hn qn g9 t g11 k12 k13 k14 k15 g16 g17 g18 g19 g20 ∧ (∀ i : Int, 0 ≤ i → i < fc → t i = mlt hp (Q i) F0) ∧ ptI t fc o pn1 k12 ∧ (∀ j : Int, 0 ≤ j → j < fc → t j < o) ∧ TB hp k13 k14 pn1 (fun i => pQ hp Q t (k12 i) fc.toNat) ∧ rtL hp fc (-1) Q rn1 k15 ∧ (0 ≤ rn1 ∧ rn1 ≤ fc) ∧ o ≤ 41) 0 0 hlo 239 [(2, .int (gI (o))), (1, .int (gI (mo))), (0, .ref (B))] [] := by
            refine Go.ind (fun kk ih_lo => ?_)
            intro o c k12 k13 k14 hlo hkk_lo fr_lo cr_lo_0 cr_lo_1 cr_lo_2 ho hpt htb
            have hpc := hpt.1
            refine g_iload_n 0 dX10_settle_239 rfl ?_
            refine g_iload_n 1 dX10_settle_240 rfl ?_
            refine g_icmp_gt (tgt := 398) dX10_settle_241 rfl (by first | assumption | (unfold gW; omega) | (unfold gW; split <;> omega)) (by first | assumption | (unfold gW; omega) | (unfold gW; split <;> omega)) (fun c305 => ?_) (fun c305 => ?_)
            · skip
              exact g_vret dX10_settle_398 rfl ⟨rfl, cr_lo_1, c, rn1, t, k12, k13, k14, gR, o, cr_lo_0, htt2, hpt, (fun j j0 j1 => by have := hmo2 j j0 j1; omega), htb, hrtE, (by omega), by omega⟩
            · skip
              refine g_aload_n 2 dX10_settle_244 rfl ?_
              refine g_bipush dX10_settle_245 (by decide) ?_
              refine g_iconst dX10_settle_247 ?_
              refine g_callV (nc2 := 0) (ns2 := 0) (ci := 10) (As := [.int (gI (21)), .int (gI (1))]) (st := []) rfl dX10_settle_248 okX10_be lX10_170 itX10_be seX10_be rfl (RD.o cr_lo_0) (by decide) (by decide) rfl (Nat.le_of_ble_eq_true rfl) (sM_be N _ B p hp hp2 _ _ _ _ _ _ _ (21) (1) (by omega) (by omega) (by omega) (RD.o cr_lo_0) (RD.ma cr_lo_0)) (by omega) (by omega) (fun v306 hc306 q306 => ?_)
              obtain ⟨rfl, mfc307, rn307_0⟩ := q306
              have rk308_0 : RD B h0 hc306 p hf le fc c rn1 hn qn g9 t g11 k12 k13 k14 gR g16 g17 g18 g19 g20 := RD.mf cr_lo_0 mfc307
              have rk308_1 : NR B [21, 22, 23, 24] h hc306 := NR.tr cr_lo_1 ((MF.nr mfc307).mo (sbI_c (List.Mem.head _) sbI_n))
              have rk308_2 : MG hp B hc306 (20) (F0) := (cr_lo_2).fr hp2 mfc307 (Nr.c (by omega) Nr.n)
              refine Go.nf (h' := hc306) (st' := []) rfl rfl (Nat.le_refl _) (Nat.le_refl _) ?_
              refine g_iconst dX10_settle_251 ?_
              refine g_istore_n (ls2 := [(3, .int (gI (0))), (2, .int (gI (o))), (1, .int (gI (mo))), (0, .ref (B))]) dX10_settle_252 rfl (by decide) rfl ?_
              refine g_iconst dX10_settle_253 ?_
              refine g_istore (ls2 := [(4, .int (gI (0))), (3, .int (gI (0))), (2, .int (gI (o))), (1, .int (gI (mo))), (0, .ref (B))]) dX10_settle_254 (by decide) rfl ?_
              have l3 : ∀ (kk : Nat) (f3 : Int) (an : Int) (hl3 : GH), kk = (50 - f3).toNat → True → RD B h0 hl3 p hf le fc c rn1 hn qn g9 t g11 k12 k13 k14 gR g16 g17 g18 g19 g20 → NR B [21, 22, 23, 24] h hl3 → MG hp B hl3 (20) (F0) → MG hp B hl3 (21) (pQ hp Q t o f3.toNat) → (0 ≤ f3 ∧ f3 ≤ fc) → (an = 0 ∨ an = 1) → (anI t o an f3) → Go N mX10_settle (fun v h1 => v = none ∧ NR B [21, 22, 23, 24] h h1 ∧ ∃ pn1 rn1 t k12 k13 k14 k15 o, RD B h0 h1 p hf le fc pn1 rn1 hn qn g9 t g11 k12 k13 k14 k15 g16 g17 g18 g19 g20 ∧ (∀ i : Int, 0 ≤ i → i < fc → t i = mlt hp (Q i) F0) ∧ ptI t fc o pn1 k12 ∧ (∀ j : Int, 0 ≤ j → j < fc → t j < o) ∧ TB hp k13 k14 pn1 (fun i => pQ hp Q t (k12 i) fc.toNat) ∧ rtL hp fc (-1) Q rn1 k15 ∧ (0 ≤ rn1 ∧ rn1 ≤ fc) ∧ o ≤ 41) 0 0 hl3 256 [(4, .int (gI (f3))), (3, .int (gI (an))), (2, .int (gI (o))), (1, .int (gI (mo))), (0, .ref (B))] [] := by
                refine Go.ind (fun kk ih_l3 => ?_)
                intro f3 an hl3 hkk_l3 fr_l3 cr_l3_0 cr_l3_1 cr_l3_2 cr_l3_3 hf3 ha01 han
                refine g_iload 0 dX10_settle_256 rfl ?_
                refine g_aload_n 4 dX10_settle_258 rfl ?_
                refine g_getf 11 dX10_settle_259 kX10 (by decide) fX10_90 (RD.o cr_l3_0) rfl ?_
                refine g_icmp_ge (tgt := 310) dX10_settle_262 rfl (by first | assumption | (unfold gW; omega) | (unfold gW; split <;> omega)) (by first | assumption | (unfold gW; omega) | (unfold gW; split <;> omega)) (fun c409 => ?_) (fun c409 => ?_)
                · skip
                  have hff : f3 = fc := by omega
                  have hany : anI t o an fc := by
                                                                      have e8 := han
                                                                      rw [hff] at e8; exact e8
                  have r21 : MG hp B hl3 21 (pQ hp Q t o fc.toNat) := by
                                                                      have e8 := cr_l3_3
                                                                      rw [hff] at e8; exact e8
                  have hpq1 := (pQ_ok hp (dgi_dg hp hF0 (by omega)) hfcl o fc.toNat (by omega)).1
                  have hple2 := pQ_le hp hF0 (by omega) hfcl o fc.toNat (by omega)
                  refine g_iload_n 1 dX10_settle_310 rfl ?_
                  refine g_if_eq (tgt := 392) dX10_settle_311 rfl (by first | assumption | (unfold gW; omega) | (unfold gW; split <;> omega)) (fun c410 => ?_) (fun c410 => ?_)
                  · skip
                    refine g_iinc 2 (ls2 := [(2, .int (gI (o + 1))), (4, .int (gI (f3))), (3, .int (gI (an))), (1, .int (gI (mo))), (0, .ref (B))]) dX10_settle_392 rfl (by decide) rfl ?_
                    refine g_goto (tgt := 239) dX10_settle_395 rfl ?_
                    refine Go.sub [0, 3, 4] rfl ?_
                    exact ih_lo _ (by omega) (o + 1) (c) (k12) (k13) (k14) hl3 rfl fr_l3 cr_l3_0 cr_l3_1 cr_l3_2 (by omega) (ptI_n ht1 hpt (fun z => absurd (hany.mpr z) (by omega))) htb
                  · skip
                    refine g_aload_n 4 dX10_settle_314 rfl ?_
                    refine g_getf 16 dX10_settle_315 kX10 (by decide) fX10_45 (RD.o cr_l3_0) rfl ?_
                    refine g_aload_n 4 dX10_settle_318 rfl ?_
                    refine g_getf 15 dX10_settle_319 kX10 (by decide) fX10_93 (RD.o cr_l3_0) rfl ?_
                    refine g_iload_n 2 dX10_settle_322 rfl ?_
                    refine g_iastore dX10_settle_323 (RD.t12 cr_l3_0) (by omega) (by omega) (by omega) ?_
                    obtain ⟨hh411, eh411⟩ : ∃ z : GH, z = hset hl3 (B + 12) (aI 41 (gup (k12) (c) (o))) := ⟨_, rfl⟩
                    refine Go.hp eh411.symm ?_
                    have rd411 : RD B h0 hh411 p hf le fc c rn1 hn qn g9 t g11 (gup (k12) (c) (o)) k13 k14 gR g16 g17 g18 g19 g20 := RD.cell cr_l3_0 (by rw [eh411]; rfl) (fun x hx => by rw [eh411, hset_n _ _ (by omega)]) (hs_n eh411 (show NE (B) (B + 12) by unfold NE; omega) (RD.o cr_l3_0)) (hs_n eh411 (show NE (B + 9) (B + 12) by unfold NE; omega) (RD.t9 cr_l3_0)) (hs_n eh411 (show NE (B + 10) (B + 12) by unfold NE; omega) (RD.t10 cr_l3_0)) (hs_n eh411 (show NE (B + 11) (B + 12) by unfold NE; omega) (RD.t11 cr_l3_0)) (hs_s eh411) (hs_n eh411 (show NE (B + 13) (B + 12) by unfold NE; omega) (RD.t13 cr_l3_0)) (hs_n eh411 (show NE (B + 14) (B + 12) by unfold NE; omega) (RD.t14 cr_l3_0)) (hs_n eh411 (show NE (B + 15) (B + 12) by unfold NE; omega) (RD.t15 cr_l3_0)) (hs_n eh411 (show NE (B + 16) (B + 12) by unfold NE; omega) (RD.t16 cr_l3_0)) (hs_n eh411 (show NE (B + 17) (B + 12) by unfold NE; omega) (RD.t17 cr_l3_0)) (hs_n eh411 (show NE (B + 18) (B + 12) by unfold NE; omega) (RD.t18 cr_l3_0)) (hs_n eh411 (show NE (B + 19) (B + 12) by unfold NE; omega) (RD.t19 cr_l3_0)) (hs_n eh411 (show NE (B + 20) (B + 12) by unfold NE; omega) (RD.t20 cr_l3_0))
                    have e5_411 : hh411.2 (B + 5) = hl3.2 (B + 5) := by rw [eh411, hset_n _ _ (by omega)]
                    have e6_411 : hh411.2 (B + 6) = hl3.2 (B + 6) := by rw [eh411, hset_n _ _ (by omega)]
                    have rg411_1 : NR B [21, 22, 23, 24] h hh411 := NR.h5 cr_l3_1 e5_411 e6_411
                    have rg411_2 : MG hp B hh411 (20) (F0) := (cr_l3_2).of5 e5_411 e6_411
                    have rg411_3 : MG hp B hh411 (21) (pQ hp Q t o fc.toNat) := (r21).of5 e5_411 e6_411
                    refine g_aload_n 4 dX10_settle_324 rfl ?_
                    refine g_getf 17 dX10_settle_325 kX10 (by decide) fX10_48 (RD.o rd411) rfl ?_
                    refine g_aload_n 4 dX10_settle_328 rfl ?_
                    refine g_getf 15 dX10_settle_329 kX10 (by decide) fX10_93 (RD.o rd411) rfl ?_
                    refine g_aload_n 4 dX10_settle_332 rfl ?_
                    refine g_getf 6 dX10_settle_333 kX10 (by decide) fX10_26 (RD.o rd411) rfl ?_
                    refine g_bipush dX10_settle_336 (by decide) ?_
                    obtain ⟨dz412, ez412, fz412⟩ := MG.get rg411_3
                    refine g_iaload dX10_settle_338 ez412 (by omega) (by omega) (by omega) ?_
                    rw [fz412]
                    refine g_iastore dX10_settle_339 (RD.t13 rd411) (by omega) (by omega) (by omega) ?_
                    obtain ⟨hh413, eh413⟩ : ∃ z : GH, z = hset hh411 (B + 13) (aI 41 (gup (k13) (c) (dgi hp (pQ hp Q t o fc.toNat)))) := ⟨_, rfl⟩
                    refine Go.hp eh413.symm ?_
                    have rd413 : RD B h0 hh413 p hf le fc c rn1 hn qn g9 t g11 (gup (k12) (c) (o)) (gup (k13) (c) (dgi hp (pQ hp Q t o fc.toNat))) k14 gR g16 g17 g18 g19 g20 := RD.cell rd411 (by rw [eh413]; rfl) (fun x hx => by rw [eh413, hset_n _ _ (by omega)]) (hs_n eh413 (show NE (B) (B + 13) by unfold NE; omega) (RD.o rd411)) (hs_n eh413 (show NE (B + 9) (B + 13) by unfold NE; omega) (RD.t9 rd411)) (hs_n eh413 (show NE (B + 10) (B + 13) by unfold NE; omega) (RD.t10 rd411)) (hs_n eh413 (show NE (B + 11) (B + 13) by unfold NE; omega) (RD.t11 rd411)) (hs_n eh413 (show NE (B + 12) (B + 13) by unfold NE; omega) (RD.t12 rd411)) (hs_s eh413) (hs_n eh413 (show NE (B + 14) (B + 13) by unfold NE; omega) (RD.t14 rd411)) (hs_n eh413 (show NE (B + 15) (B + 13) by unfold NE; omega) (RD.t15 rd411)) (hs_n eh413 (show NE (B + 16) (B + 13) by unfold NE; omega) (RD.t16 rd411)) (hs_n eh413 (show NE (B + 17) (B + 13) by unfold NE; omega) (RD.t17 rd411)) (hs_n eh413 (show NE (B + 18) (B + 13) by unfold NE; omega) (RD.t18 rd411)) (hs_n eh413 (show NE (B + 19) (B + 13) by unfold NE; omega) (RD.t19 rd411)) (hs_n eh413 (show NE (B + 20) (B + 13) by unfold NE; omega) (RD.t20 rd411))
                    have e5_413 : hh413.2 (B + 5) = hh411.2 (B + 5) := by rw [eh413, hset_n _ _ (by omega)]
                    have e6_413 : hh413.2 (B + 6) = hh411.2 (B + 6) := by rw [eh413, hset_n _ _ (by omega)]
                    have rg413_1 : NR B [21, 22, 23, 24] h hh413 := NR.h5 rg411_1 e5_413 e6_413
                    have rg413_2 : MG hp B hh413 (20) (F0) := (rg411_2).of5 e5_413 e6_413
                    have rg413_3 : MG hp B hh413 (21) (pQ hp Q t o fc.toNat) := (rg411_3).of5 e5_413 e6_413
                    refine g_iconst dX10_settle_340 ?_
                    refine g_istore (ls2 := [(4, .int (gI (0))), (3, .int (gI (an))), (2, .int (gI (o))), (1, .int (gI (mo))), (0, .ref (B))]) dX10_settle_341 (by decide) rfl ?_
                    have han1 : an = 1 := by omega
                    have l4 : ∀ (kk : Nat) (c4 : Int) (hl4 : GH), kk = (50 - c4).toNat → True → RD B h0 hl4 p hf le fc c rn1 hn qn g9 t g11 (gup (k12) (c) (o)) (gup (k13) (c) (dgi hp (pQ hp Q t o fc.toNat))) (wT k14 c (pQ hp Q t o fc.toNat) c4) gR g16 g17 g18 g19 g20 → NR B [21, 22, 23, 24] h hl4 → MG hp B hl4 (20) (F0) → MG hp B hl4 (21) (pQ hp Q t o fc.toNat) → (0 ≤ c4 ∧ c4 ≤ 41) → Go N mX10_settle (fun v h1 => v = none ∧ NR B [21, 22, 23, 24] h h1 ∧ ∃ pn1 rn1 t k12 k13 k14 k15 o, RD B h0 h1 p hf le fc pn1 rn1 hn qn g9 t g11 k12 k13 k14 k15 g16 g17 g18 g19 g20 ∧ (∀ i : Int, 0 ≤ i → i < fc → t i = mlt hp (Q i) F0) ∧ ptI t fc o pn1 k12 ∧ (∀ j : Int, 0 ≤ j → j < fc → t j < o) ∧ TB hp k13 k14 pn1 (fun i => pQ hp Q t (k12 i) fc.toNat) ∧ rtL hp fc (-1) Q rn1 k15 ∧ (0 ≤ rn1 ∧ rn1 ≤ fc) ∧ o ≤ 41) 0 0 hl4 343 [(4, .int (gI (c4))), (3, .int (gI (an))), (2, .int (gI (o))), (1, .int (gI (mo))), (0, .ref (B))] [] := by
                      refine Go.ind (fun kk ih_l4 => ?_)
                      intro c4 hl4 hkk_l4 fr_l4 cr_l4_0 cr_l4_1 cr_l4_2 cr_l4_3 hc4
                      refine g_iload 0 dX10_settle_343 rfl ?_
                      refine g_bipush dX10_settle_345 (by decide) ?_
                      refine g_icmp_gt (tgt := 382) dX10_settle_347 rfl (by first | assumption | (unfold gW; omega) | (unfold gW; split <;> omega)) (by first | assumption | (unfold gW; omega) | (unfold gW; split <;> omega)) (fun c514 => ?_) (fun c514 => ?_)
                      · skip
                        have rdz : RD B h0 hl4 p hf le fc c rn1 hn qn g9 t g11 (gup (k12) (c) (o)) (gup (k13) (c) (dgi hp (pQ hp Q t o fc.toNat))) (wT k14 c (pQ hp Q t o fc.toNat) 41) gR g16 g17 g18 g19 g20 := by
                                                                      have e9 : c4 = 41 := by omega
                                                                      have e8 := cr_l4_0
                                                                      rw [e9] at e8; exact e8
                        refine g_aload_n 4 dX10_settle_382 rfl ?_
                        refine g_dup dX10_settle_383 rfl ?_
                        refine g_getf 15 dX10_settle_384 kX10 (by decide) fX10_93 (RD.o rdz) rfl ?_
                        refine g_iconst dX10_settle_387 ?_
                        refine g_iadd dX10_settle_388 ?_
                        refine g_putf 15 dX10_settle_389 kX10 (by decide) fX10_93 rfl (RD.o rdz) (Nat.le_of_ble_eq_true rfl) rfl rfl ?_
                        obtain ⟨hh515, eh515⟩ : ∃ z : GH, z = hset hl4 (B) (mO B ((p : Int)) (hf) (le) (fc) ((c) + (1)) (rn1) (hn) (qn)) := ⟨_, rfl⟩
                        refine Go.hp eh515.symm ?_
                        have rd515 : RD B h0 hh515 p hf le fc ((c) + (1)) rn1 hn qn g9 t g11 (gup (k12) (c) (o)) (gup (k13) (c) (dgi hp (pQ hp Q t o fc.toNat))) (wT k14 c (pQ hp Q t o fc.toNat) 41) gR g16 g17 g18 g19 g20 := RD.cell rdz (by rw [eh515]; rfl) (fun x hx => by rw [eh515, hset_n _ _ (by omega)]) (hs_s eh515) (hs_n eh515 (show NE (B + 9) (B) by unfold NE; omega) (RD.t9 rdz)) (hs_n eh515 (show NE (B + 10) (B) by unfold NE; omega) (RD.t10 rdz)) (hs_n eh515 (show NE (B + 11) (B) by unfold NE; omega) (RD.t11 rdz)) (hs_n eh515 (show NE (B + 12) (B) by unfold NE; omega) (RD.t12 rdz)) (hs_n eh515 (show NE (B + 13) (B) by unfold NE; omega) (RD.t13 rdz)) (hs_n eh515 (show NE (B + 14) (B) by unfold NE; omega) (RD.t14 rdz)) (hs_n eh515 (show NE (B + 15) (B) by unfold NE; omega) (RD.t15 rdz)) (hs_n eh515 (show NE (B + 16) (B) by unfold NE; omega) (RD.t16 rdz)) (hs_n eh515 (show NE (B + 17) (B) by unfold NE; omega) (RD.t17 rdz)) (hs_n eh515 (show NE (B + 18) (B) by unfold NE; omega) (RD.t18 rdz)) (hs_n eh515 (show NE (B + 19) (B) by unfold NE; omega) (RD.t19 rdz)) (hs_n eh515 (show NE (B + 20) (B) by unfold NE; omega) (RD.t20 rdz))
                        have e5_515 : hh515.2 (B + 5) = hl4.2 (B + 5) := by rw [eh515, hset_n _ _ (by omega)]
                        have e6_515 : hh515.2 (B + 6) = hl4.2 (B + 6) := by rw [eh515, hset_n _ _ (by omega)]
                        have rg515_1 : NR B [21, 22, 23, 24] h hh515 := NR.h5 cr_l4_1 e5_515 e6_515
                        have rg515_2 : MG hp B hh515 (20) (F0) := (cr_l4_2).of5 e5_515 e6_515
                        have rg515_3 : MG hp B hh515 (21) (pQ hp Q t o fc.toNat) := (cr_l4_3).of5 e5_515 e6_515
                        refine g_iinc 2 (ls2 := [(2, .int (gI (o + 1))), (4, .int (gI (c4))), (3, .int (gI (an))), (1, .int (gI (mo))), (0, .ref (B))]) dX10_settle_392 rfl (by decide) rfl ?_
                        refine g_goto (tgt := 239) dX10_settle_395 rfl ?_
                        refine Go.sub [0, 3, 4] rfl ?_
                        exact ih_lo _ (by omega) (o + 1) (c + 1) (gup (k12) (c) (o)) (gup (k13) (c) (dgi hp (pQ hp Q t o fc.toNat))) (wT k14 c (pQ hp Q t o fc.toNat) 41) hh515 rfl fr_l4 rd515 rg515_1 rg515_2 (by omega) (ptI_s ht1 (by omega) hpt (hany.mp han1)) (TB.mo (TB.put htb (by omega) (Int.le_refl _) hpq1 (by omega) (m := c + 1) (Or.inr ⟨rfl, rfl⟩) (by omega)) (Int.le_refl _) (fun i i0 i1 => by
                                                                      show pQ hp Q t (gup k12 c o i) fc.toNat = (if i = c then pQ hp Q t o fc.toNat else pQ hp Q t (k12 i) fc.toNat)
                                                                      unfold gup
                                                                      by_cases z : i = c
                                                                      · rw [if_pos z, if_pos z]
                                                                      · rw [if_neg z, if_neg z]))
                      · skip
                        refine g_aload_n 4 dX10_settle_350 rfl ?_
                        refine g_getf 18 dX10_settle_351 kX10 (by decide) fX10_51 (RD.o cr_l4_0) rfl ?_
                        refine g_bipush dX10_settle_354 (by decide) ?_
                        refine g_aload_n 4 dX10_settle_356 rfl ?_
                        refine g_getf 15 dX10_settle_357 kX10 (by decide) fX10_93 (RD.o cr_l4_0) rfl ?_
                        refine g_imul dX10_settle_360 ?_
                        refine g_iload 0 dX10_settle_361 rfl ?_
                        refine g_iadd dX10_settle_363 ?_
                        refine g_aload_n 4 dX10_settle_364 rfl ?_
                        refine g_getf 5 dX10_settle_365 kX10 (by decide) fX10_23 (RD.o cr_l4_0) rfl ?_
                        refine g_sipush dX10_settle_368 (by decide) ?_
                        refine g_iload 0 dX10_settle_371 rfl ?_
                        refine g_iadd dX10_settle_373 ?_
                        obtain ⟨R516, er516, fr516⟩ := MG.num cr_l4_3
                        refine g_iaload dX10_settle_374 er516 (by omega) (by omega) (by omega) ?_
                        rw [show ar R516 (4200 + (c4)) = R516 21 (c4) from ar_r R516 (r := 21) (show 0 ≤ c4 by omega) (show c4 < 200 by omega), fr516 (c4) (by omega) (by omega)]
                        refine g_iastore dX10_settle_375 (RD.t14 cr_l4_0) (by omega) (by omega) (by omega) ?_
                        obtain ⟨hh517, eh517⟩ : ∃ z : GH, z = hset hl4 (B + 14) (aI 1681 (gup (wT k14 c (pQ hp Q t o fc.toNat) c4) (((41) * (c)) + (c4)) (cf (pQ hp Q t o fc.toNat) (c4)))) := ⟨_, rfl⟩
                        refine Go.hp eh517.symm ?_
                        have rd517 : RD B h0 hh517 p hf le fc c rn1 hn qn g9 t g11 (gup (k12) (c) (o)) (gup (k13) (c) (dgi hp (pQ hp Q t o fc.toNat))) (gup (wT k14 c (pQ hp Q t o fc.toNat) c4) (((41) * (c)) + (c4)) (cf (pQ hp Q t o fc.toNat) (c4))) gR g16 g17 g18 g19 g20 := RD.cell cr_l4_0 (by rw [eh517]; rfl) (fun x hx => by rw [eh517, hset_n _ _ (by omega)]) (hs_n eh517 (show NE (B) (B + 14) by unfold NE; omega) (RD.o cr_l4_0)) (hs_n eh517 (show NE (B + 9) (B + 14) by unfold NE; omega) (RD.t9 cr_l4_0)) (hs_n eh517 (show NE (B + 10) (B + 14) by unfold NE; omega) (RD.t10 cr_l4_0)) (hs_n eh517 (show NE (B + 11) (B + 14) by unfold NE; omega) (RD.t11 cr_l4_0)) (hs_n eh517 (show NE (B + 12) (B + 14) by unfold NE; omega) (RD.t12 cr_l4_0)) (hs_n eh517 (show NE (B + 13) (B + 14) by unfold NE; omega) (RD.t13 cr_l4_0)) (hs_s eh517) (hs_n eh517 (show NE (B + 15) (B + 14) by unfold NE; omega) (RD.t15 cr_l4_0)) (hs_n eh517 (show NE (B + 16) (B + 14) by unfold NE; omega) (RD.t16 cr_l4_0)) (hs_n eh517 (show NE (B + 17) (B + 14) by unfold NE; omega) (RD.t17 cr_l4_0)) (hs_n eh517 (show NE (B + 18) (B + 14) by unfold NE; omega) (RD.t18 cr_l4_0)) (hs_n eh517 (show NE (B + 19) (B + 14) by unfold NE; omega) (RD.t19 cr_l4_0)) (hs_n eh517 (show NE (B + 20) (B + 14) by unfold NE; omega) (RD.t20 cr_l4_0))
                        have e5_517 : hh517.2 (B + 5) = hl4.2 (B + 5) := by rw [eh517, hset_n _ _ (by omega)]
                        have e6_517 : hh517.2 (B + 6) = hl4.2 (B + 6) := by rw [eh517, hset_n _ _ (by omega)]
                        have rg517_1 : NR B [21, 22, 23, 24] h hh517 := NR.h5 cr_l4_1 e5_517 e6_517
                        have rg517_2 : MG hp B hh517 (20) (F0) := (cr_l4_2).of5 e5_517 e6_517
                        have rg517_3 : MG hp B hh517 (21) (pQ hp Q t o fc.toNat) := (cr_l4_3).of5 e5_517 e6_517
                        refine g_iinc 0 (ls2 := [(4, .int (gI (c4 + 1))), (3, .int (gI (an))), (2, .int (gI (o))), (1, .int (gI (mo))), (0, .ref (B))]) dX10_settle_376 rfl (by decide) rfl ?_
                        refine g_goto (tgt := 343) dX10_settle_379 rfl ?_
                        exact ih_l4 _ (by omega) (c4 + 1) hh517 rfl fr_l4 (by rw [← wT_s k14 c (pQ hp Q t o fc.toNat) hc4.1]; exact rd517) rg517_1 rg517_2 rg517_3 (by omega)
                    exact l4 _ (0) hh413 rfl fr_l3 (by rw [wT_0]; exact rd413) rg413_1 rg413_2 rg413_3 (by omega)
                · skip
                  have hb3 := ht1 f3 (by omega) (by omega)
                  have hb4 := hmo2 f3 (by omega) (by omega)
                  refine g_aload_n 4 dX10_settle_265 rfl ?_
                  refine g_getf 13 dX10_settle_266 kX10 (by decide) fX10_39 (RD.o cr_l3_0) rfl ?_
                  refine g_iload 0 dX10_settle_269 rfl ?_
                  refine g_iaload dX10_settle_271 (RD.t10 cr_l3_0) (by omega) (by omega) (by omega) ?_
                  refine g_iload_n 2 dX10_settle_272 rfl ?_
                  refine g_icmp_ne (tgt := 304) dX10_settle_273 rfl (by first | assumption | (unfold gW; omega) | (unfold gW; split <;> omega)) (by first | assumption | (unfold gW; omega) | (unfold gW; split <;> omega)) (fun c618 => ?_) (fun c618 => ?_)
                  · skip
                    refine g_iinc 0 (ls2 := [(4, .int (gI (f3 + 1))), (3, .int (gI (an))), (2, .int (gI (o))), (1, .int (gI (mo))), (0, .ref (B))]) dX10_settle_304 rfl (by decide) rfl ?_
                    refine g_goto (tgt := 256) dX10_settle_307 rfl ?_
                    exact ih_l3 _ (by omega) (f3 + 1) (an) hl3 rfl fr_l3 cr_l3_0 cr_l3_1 cr_l3_2 (by
                                                                      have e9 : pQ hp Q t o (f3 + 1).toNat = pQ hp Q t o f3.toNat := by
                                                                        rw [show (f3 + 1).toNat = f3.toNat + 1 by omega]
                                                                        show (if t (f3.toNat : Int) = o then _ else _) = _
                                                                        rw [show ((f3.toNat : Nat) : Int) = f3 by omega, if_neg (by omega)]
                                                                      rw [e9]; exact cr_l3_3) (by omega) (by omega) (⟨fun z => by
                                                                      obtain ⟨i, a, b, d⟩ := han.mp z
                                                                      exact ⟨i, a, by omega, d⟩, fun ⟨i, a, b, d⟩ => han.mpr ⟨i, a, by
                                                                      rcases Int.lt_or_le i f3 with z | z
                                                                      · exact z
                                                                      · exfalso; rw [show i = f3 by omega] at d; omega, d⟩⟩)
                  · skip
                    refine g_aload_n 4 dX10_settle_276 rfl ?_
                    refine g_iload 0 dX10_settle_277 rfl ?_
                    refine g_bipush dX10_settle_279 (by decide) ?_
                    obtain ⟨q1_22, q2_22, q3_22, q4_22⟩ := hT (f3) (by omega) (by omega)
                    refine g_callV (nc2 := 0) (ns2 := 0) (ci := 10) (As := [.int (gI (f3)), .int (gI (22))]) (st := []) rfl dX10_settle_281 okX10_toFactor lX10_239 itX10_toFactor seX10_toFactor rfl (RD.o cr_l3_0) (by decide) (by decide) rfl (Nat.le_of_ble_eq_true rfl) (sM_toFactor N _ B p hp hp2 _ _ _ _ _ _ _ (f3) (22) (by omega) (by omega) (Q (f3)) (g11) (RD.o cr_l3_0) (RD.ma cr_l3_0) (RD.t11 cr_l3_0) q1_22 q2_22 q4_22) (by omega) (by omega) (fun v619 hc619 q619 => ?_)
                    obtain ⟨rfl, mfc620, rn620_0⟩ := q619
                    have rk621_0 : RD B h0 hc619 p hf le fc c rn1 hn qn g9 t g11 k12 k13 k14 gR g16 g17 g18 g19 g20 := RD.mf cr_l3_0 mfc620
                    have rk621_1 : NR B [21, 22, 23, 24] h hc619 := NR.tr cr_l3_1 ((MF.nr mfc620).mo (sbI_c (List.Mem.tail _ (List.Mem.head _)) sbI_n))
                    have rk621_2 : MG hp B hc619 (20) (F0) := (cr_l3_2).fr hp2 mfc620 (Nr.c (by omega) Nr.n)
                    have rk621_3 : MG hp B hc619 (21) (pQ hp Q t o f3.toNat) := (cr_l3_3).fr hp2 mfc620 (Nr.c (by omega) Nr.n)
                    refine Go.nf (h' := hc619) (st' := []) rfl rfl (Nat.le_refl _) (Nat.le_refl _) ?_
                    have hple := pQ_le hp hF0 (by omega) hfcl o f3.toNat (by omega)
                    refine g_aload_n 4 dX10_settle_284 rfl ?_
                    refine g_bipush dX10_settle_285 (by decide) ?_
                    refine g_bipush dX10_settle_287 (by decide) ?_
                    refine g_bipush dX10_settle_289 (by decide) ?_
                    refine g_callV (nc2 := 0) (ns2 := 0) (ci := 10) (As := [.int (gI (21)), .int (gI (22)), .int (gI (23))]) (st := []) rfl dX10_settle_291 okX10_product lX10_189 itX10_product seX10_product rfl (RD.o rk621_0) (by decide) (by decide) rfl (Nat.le_of_ble_eq_true rfl) (sM_product N _ B p hp hp2 _ _ _ _ _ _ _ (21) (22) (23) (by omega) (by omega) (by omega) (pQ hp Q t o f3.toNat) (Q (f3)) (RD.o rk621_0) (RD.ma rk621_0) rk621_3 rn620_0 (by omega)) (by omega) (by omega) (fun v622 hc622 q622 => ?_)
                    obtain ⟨rfl, mfc623, rn623_0⟩ := q622
                    have rk624_0 : RD B h0 hc622 p hf le fc c rn1 hn qn g9 t g11 k12 k13 k14 gR g16 g17 g18 g19 g20 := RD.mf rk621_0 mfc623
                    have rk624_1 : NR B [21, 22, 23, 24] h hc622 := NR.tr rk621_1 ((MF.nr mfc623).mo (sbI_c (List.Mem.tail _ (List.Mem.tail _ (List.Mem.head _))) sbI_n))
                    have rk624_2 : MG hp B hc622 (20) (F0) := (rk621_2).fr hp2 mfc623 (Nr.c (by omega) Nr.n)
                    have rk624_3 : MG hp B hc622 (21) (pQ hp Q t o f3.toNat) := (rk621_3).fr hp2 mfc623 (Nr.c (by omega) Nr.n)
                    have rk624_4 : MG hp B hc622 (22) (Q (f3)) := (rn620_0).fr hp2 mfc623 (Nr.c (by omega) Nr.n)
                    refine Go.nf (h' := hc622) (st' := []) rfl rfl (Nat.le_refl _) (Nat.le_refl _) ?_
                    refine g_aload_n 4 dX10_settle_294 rfl ?_
                    refine g_bipush dX10_settle_295 (by decide) ?_
                    refine g_bipush dX10_settle_297 (by decide) ?_
                    refine g_callV (nc2 := 0) (ns2 := 0) (ci := 10) (As := [.int (gI (23)), .int (gI (21))]) (st := []) rfl dX10_settle_299 okX10_copy lX10_167 itX10_copy seX10_copy rfl (RD.o rk624_0) (by decide) (by decide) rfl (Nat.le_of_ble_eq_true rfl) (sM_copy N _ B p hp hp2 _ _ _ _ _ _ _ (23) (21) (by omega) (by omega) (pml hp (pQ hp Q t o f3.toNat) (Q (f3))) (RD.o rk624_0) (RD.ma rk624_0) rn623_0) (by omega) (by omega) (fun v625 hc625 q625 => ?_)
                    obtain ⟨rfl, mfc626, rn626_0⟩ := q625
                    have rk627_0 : RD B h0 hc625 p hf le fc c rn1 hn qn g9 t g11 k12 k13 k14 gR g16 g17 g18 g19 g20 := RD.mf rk624_0 mfc626
                    have rk627_1 : NR B [21, 22, 23, 24] h hc625 := NR.tr rk624_1 ((MF.nr mfc626).mo (sbI_c (List.Mem.head _) sbI_n))
                    have rk627_2 : MG hp B hc625 (20) (F0) := (rk624_2).fr hp2 mfc626 (Nr.c (by omega) Nr.n)
                    have rk627_4 : MG hp B hc625 (22) (Q (f3)) := (rk624_4).fr hp2 mfc626 (Nr.c (by omega) Nr.n)
                    have rk627_5 : MG hp B hc625 (23) (pml hp (pQ hp Q t o f3.toNat) (Q (f3))) := (rn623_0).fr hp2 mfc626 (Nr.c (by omega) Nr.n)
                    refine Go.nf (h' := hc625) (st' := []) rfl rfl (Nat.le_refl _) (Nat.le_refl _) ?_
                    refine g_iconst dX10_settle_302 ?_
                    refine g_istore_n (ls2 := [(3, .int (gI (1))), (4, .int (gI (f3))), (2, .int (gI (o))), (1, .int (gI (mo))), (0, .ref (B))]) dX10_settle_303 rfl (by decide) rfl ?_
                    refine g_iinc 1 (ls2 := [(4, .int (gI (f3 + 1))), (3, .int (gI (1))), (2, .int (gI (o))), (1, .int (gI (mo))), (0, .ref (B))]) dX10_settle_304 rfl (by decide) rfl ?_
                    refine g_goto (tgt := 256) dX10_settle_307 rfl ?_
                    exact ih_l3 _ (by omega) (f3 + 1) (1) hc625 rfl fr_l3 rk627_0 rk627_1 rk627_2 (by
                                                                      have e9 : pQ hp Q t o (f3 + 1).toNat = pml hp (pQ hp Q t o f3.toNat) (Q f3) := by
                                                                        rw [show (f3 + 1).toNat = f3.toNat + 1 by omega]
                                                                        show (if t (f3.toNat : Int) = o then _ else _) = _
                                                                        rw [show ((f3.toNat : Nat) : Int) = f3 by omega, if_pos (by omega)]
                                                                      rw [e9]; exact rn626_0) (by omega) (by omega) (⟨fun _ => ⟨f3, by omega, by omega, by omega⟩, fun _ => rfl⟩)
              exact l3 _ (0) (0) hc306 rfl fr_lo rk308_0 rk308_1 rk308_2 rn307_0 (by omega) (by omega) (⟨fun z => by omega, fun ⟨i, a, b, _⟩ => by omega⟩)
          exact lo _ (1) (0) (g12) (g13) (g14) hh204 rfl fr_lr rd204 rg204_1 rg204_2 (by omega) (ptI_0 t fc g12 ht1) (fun i i0 i1 => by omega)
        · skip
          obtain ⟨u1, u2, u3, u4⟩ := hT f2 (by omega) (by omega)
          have u5 := dgi_ge hp u1
          refine g_aload_n 2 dX10_settle_132 rfl ?_
          refine g_getf 12 dX10_settle_133 kX10 (by decide) fX10_36 (RD.o cr_lr_0) rfl ?_
          refine g_iload_n 0 dX10_settle_136 rfl ?_
          refine g_iaload dX10_settle_137 (RD.t9 cr_lr_0) (by omega) (by omega) (by omega) ?_
          refine g_iconst dX10_settle_138 ?_
          refine g_icmp_ne (tgt := 226) dX10_settle_139 rfl (by first | assumption | (unfold gW; omega) | (unfold gW; split <;> omega)) (by first | assumption | (unfold gW; omega) | (unfold gW; split <;> omega)) (fun c828 => ?_) (fun c828 => ?_)
          · skip
            refine g_iinc 0 (ls2 := [(2, .int (gI (f2 + (-1)))), (1, .int (gI (mo))), (0, .ref (B))]) dX10_settle_226 rfl (by decide) rfl ?_
            refine g_goto (tgt := 128) dX10_settle_229 rfl ?_
            exact ih_lr _ (by omega) (f2 + (-1)) (rn1) (gR) hlr rfl fr_lr cr_lr_0 cr_lr_1 cr_lr_2 (by omega) (by rw [show f2 + (-1) = f2 - 1 by omega]; exact rtL_n hrt (by omega)) (by omega)
          · skip
            have u6 := u4 0 (by omega) (by omega)
            rw [Int.add_zero] at u6
            have u7 := cf_in (Q f2) hp 0
            refine g_aload_n 2 dX10_settle_142 rfl ?_
            refine g_getf 0 dX10_settle_143 kX10 (by decide) fX10_78 (RD.o cr_lr_0) rfl ?_
            refine g_aload_n 2 dX10_settle_146 rfl ?_
            refine g_getf 14 dX10_settle_147 kX10 (by decide) fX10_42 (RD.o cr_lr_0) rfl ?_
            refine g_bipush dX10_settle_150 (by decide) ?_
            refine g_iload_n 0 dX10_settle_152 rfl ?_
            refine g_imul dX10_settle_153 ?_
            refine g_iaload dX10_settle_154 (RD.t11 cr_lr_0) (by omega) (by omega) (by omega) ?_
            refine g_isub dX10_settle_155 ?_
            refine g_aload_n 2 dX10_settle_156 rfl ?_
            refine g_getf 0 dX10_settle_157 kX10 (by decide) fX10_78 (RD.o cr_lr_0) rfl ?_
            refine g_irem dX10_settle_160 (by unfold gW; omega) (by unfold gW; omega) (by omega) ?_
            have hvv : (((p : Int)) - ((g11) ((41) * (f2)))).tmod ((p : Int)) = rtv p (Q f2) := by
                                                                      rw [u6]; exact Int.tmod_eq_emod_of_nonneg (by omega)
            rw [hvv]
            have hvi := rtv_in hp (Q f2)
            refine g_istore_n (ls2 := [(3, .int (gI (rtv p (Q f2)))), (2, .int (gI (f2))), (1, .int (gI (mo))), (0, .ref (B))]) dX10_settle_161 rfl (by decide) rfl ?_
            refine g_aload_n 3 dX10_settle_162 rfl ?_
            refine g_getf 19 dX10_settle_163 kX10 (by decide) fX10_96 (RD.o cr_lr_0) rfl ?_
            refine g_istore (ls2 := [(4, .int (gI (rn1))), (3, .int (gI (rtv p (Q f2)))), (2, .int (gI (f2))), (1, .int (gI (mo))), (0, .ref (B))]) dX10_settle_166 (by decide) rfl ?_
            have la : ∀ (kk : Nat) (a : Int) (G : Int → Int) (hla : GH), kk = a.toNat → True → RD B h0 hla p hf le fc pn rn1 hn qn g9 t g11 g12 g13 g14 G g16 g17 g18 g19 g20 → NR B [21, 22, 23, 24] h hla → MG hp B hla (20) (F0) → (0 ≤ a ∧ a ≤ rn1) → (hoI gR G rn1 a) → (∀ i : Int, a ≤ i → i < rn1 → rtv p (Q f2) < gR i) → Go N mX10_settle (fun v h1 => v = none ∧ NR B [21, 22, 23, 24] h h1 ∧ ∃ pn1 rn1 t k12 k13 k14 k15 o, RD B h0 h1 p hf le fc pn1 rn1 hn qn g9 t g11 k12 k13 k14 k15 g16 g17 g18 g19 g20 ∧ (∀ i : Int, 0 ≤ i → i < fc → t i = mlt hp (Q i) F0) ∧ ptI t fc o pn1 k12 ∧ (∀ j : Int, 0 ≤ j → j < fc → t j < o) ∧ TB hp k13 k14 pn1 (fun i => pQ hp Q t (k12 i) fc.toNat) ∧ rtL hp fc (-1) Q rn1 k15 ∧ (0 ≤ rn1 ∧ rn1 ≤ fc) ∧ o ≤ 41) 0 0 hla 168 [(4, .int (gI (a))), (3, .int (gI (rtv p (Q f2)))), (2, .int (gI (f2))), (1, .int (gI (mo))), (0, .ref (B))] [] := by
              refine Go.ind (fun kk ih_la => ?_)
              intro a G hla hkk_la fr_la cr_la_0 cr_la_1 cr_la_2 ha hho hhi
              refine g_iload 0 dX10_settle_168 rfl ?_
              refine g_if_le (tgt := 208) dX10_settle_170 rfl (by first | assumption | (unfold gW; omega) | (unfold gW; split <;> omega)) (fun c929 => ?_) (fun c929 => ?_)
              · skip
                refine g_aload_n 4 dX10_settle_208 rfl ?_
                refine g_getf 20 dX10_settle_209 kX10 (by decide) fX10_54 (RD.o cr_la_0) rfl ?_
                refine g_iload 0 dX10_settle_212 rfl ?_
                refine g_iload_n 1 dX10_settle_214 rfl ?_
                refine g_iastore dX10_settle_215 (RD.t15 cr_la_0) (by omega) (by omega) (by omega) ?_
                obtain ⟨hh930, eh930⟩ : ∃ z : GH, z = hset hla (B + 15) (aI 41 (gup (G) (a) (rtv p (Q f2)))) := ⟨_, rfl⟩
                refine Go.hp eh930.symm ?_
                have rd930 : RD B h0 hh930 p hf le fc pn rn1 hn qn g9 t g11 g12 g13 g14 (gup (G) (a) (rtv p (Q f2))) g16 g17 g18 g19 g20 := RD.cell cr_la_0 (by rw [eh930]; rfl) (fun x hx => by rw [eh930, hset_n _ _ (by omega)]) (hs_n eh930 (show NE (B) (B + 15) by unfold NE; omega) (RD.o cr_la_0)) (hs_n eh930 (show NE (B + 9) (B + 15) by unfold NE; omega) (RD.t9 cr_la_0)) (hs_n eh930 (show NE (B + 10) (B + 15) by unfold NE; omega) (RD.t10 cr_la_0)) (hs_n eh930 (show NE (B + 11) (B + 15) by unfold NE; omega) (RD.t11 cr_la_0)) (hs_n eh930 (show NE (B + 12) (B + 15) by unfold NE; omega) (RD.t12 cr_la_0)) (hs_n eh930 (show NE (B + 13) (B + 15) by unfold NE; omega) (RD.t13 cr_la_0)) (hs_n eh930 (show NE (B + 14) (B + 15) by unfold NE; omega) (RD.t14 cr_la_0)) (hs_s eh930) (hs_n eh930 (show NE (B + 16) (B + 15) by unfold NE; omega) (RD.t16 cr_la_0)) (hs_n eh930 (show NE (B + 17) (B + 15) by unfold NE; omega) (RD.t17 cr_la_0)) (hs_n eh930 (show NE (B + 18) (B + 15) by unfold NE; omega) (RD.t18 cr_la_0)) (hs_n eh930 (show NE (B + 19) (B + 15) by unfold NE; omega) (RD.t19 cr_la_0)) (hs_n eh930 (show NE (B + 20) (B + 15) by unfold NE; omega) (RD.t20 cr_la_0))
                have e5_930 : hh930.2 (B + 5) = hla.2 (B + 5) := by rw [eh930, hset_n _ _ (by omega)]
                have e6_930 : hh930.2 (B + 6) = hla.2 (B + 6) := by rw [eh930, hset_n _ _ (by omega)]
                have rg930_1 : NR B [21, 22, 23, 24] h hh930 := NR.h5 cr_la_1 e5_930 e6_930
                have rg930_2 : MG hp B hh930 (20) (F0) := (cr_la_2).of5 e5_930 e6_930
                refine g_aload_n 4 dX10_settle_216 rfl ?_
                refine g_dup dX10_settle_217 rfl ?_
                refine g_getf 19 dX10_settle_218 kX10 (by decide) fX10_96 (RD.o rd930) rfl ?_
                refine g_iconst dX10_settle_221 ?_
                refine g_iadd dX10_settle_222 ?_
                refine g_putf 19 dX10_settle_223 kX10 (by decide) fX10_96 rfl (RD.o rd930) (Nat.le_of_ble_eq_true rfl) rfl rfl ?_
                obtain ⟨hh931, eh931⟩ : ∃ z : GH, z = hset hh930 (B) (mO B ((p : Int)) (hf) (le) (fc) (pn) ((rn1) + (1)) (hn) (qn)) := ⟨_, rfl⟩
                refine Go.hp eh931.symm ?_
                have rd931 : RD B h0 hh931 p hf le fc pn ((rn1) + (1)) hn qn g9 t g11 g12 g13 g14 (gup (G) (a) (rtv p (Q f2))) g16 g17 g18 g19 g20 := RD.cell rd930 (by rw [eh931]; rfl) (fun x hx => by rw [eh931, hset_n _ _ (by omega)]) (hs_s eh931) (hs_n eh931 (show NE (B + 9) (B) by unfold NE; omega) (RD.t9 rd930)) (hs_n eh931 (show NE (B + 10) (B) by unfold NE; omega) (RD.t10 rd930)) (hs_n eh931 (show NE (B + 11) (B) by unfold NE; omega) (RD.t11 rd930)) (hs_n eh931 (show NE (B + 12) (B) by unfold NE; omega) (RD.t12 rd930)) (hs_n eh931 (show NE (B + 13) (B) by unfold NE; omega) (RD.t13 rd930)) (hs_n eh931 (show NE (B + 14) (B) by unfold NE; omega) (RD.t14 rd930)) (hs_n eh931 (show NE (B + 15) (B) by unfold NE; omega) (RD.t15 rd930)) (hs_n eh931 (show NE (B + 16) (B) by unfold NE; omega) (RD.t16 rd930)) (hs_n eh931 (show NE (B + 17) (B) by unfold NE; omega) (RD.t17 rd930)) (hs_n eh931 (show NE (B + 18) (B) by unfold NE; omega) (RD.t18 rd930)) (hs_n eh931 (show NE (B + 19) (B) by unfold NE; omega) (RD.t19 rd930)) (hs_n eh931 (show NE (B + 20) (B) by unfold NE; omega) (RD.t20 rd930))
                have e5_931 : hh931.2 (B + 5) = hh930.2 (B + 5) := by rw [eh931, hset_n _ _ (by omega)]
                have e6_931 : hh931.2 (B + 6) = hh930.2 (B + 6) := by rw [eh931, hset_n _ _ (by omega)]
                have rg931_1 : NR B [21, 22, 23, 24] h hh931 := NR.h5 rg930_1 e5_931 e6_931
                have rg931_2 : MG hp B hh931 (20) (F0) := (rg930_2).of5 e5_931 e6_931
                refine g_iinc 2 (ls2 := [(2, .int (gI (f2 + (-1)))), (4, .int (gI (a))), (3, .int (gI (rtv p (Q f2)))), (1, .int (gI (mo))), (0, .ref (B))]) dX10_settle_226 rfl (by decide) rfl ?_
                refine g_goto (tgt := 128) dX10_settle_229 rfl ?_
                refine Go.sub [0, 3, 4] rfl ?_
                exact ih_lr _ (by omega) (f2 + (-1)) ((rn1) + (1)) (gup (G) (a) (rtv p (Q f2))) hh931 rfl fr_la rd931 rg931_1 rg931_2 (by omega) (by rw [show f2 + (-1) = f2 - 1 by omega]; exact rtL_s (by omega) hrt (by omega) hho (by omega) (Or.inl (by omega)) hhi) (by omega)
              · skip
                have hga := hho.1 (a - 1) (by omega) (by omega)
                obtain ⟨jx, j1_, j2_, j3_, j4_⟩ := (hrt.2 (gR (a - 1))).mp ⟨a - 1, by omega, by omega, rfl⟩
                have hjv := rtv_in hp (Q jx)
                have hnew := rt_new hp hLI (show 0 ≤ f2 by omega) j1_ j2_ (by omega) j3_
                refine g_aload_n 4 dX10_settle_173 rfl ?_
                refine g_getf 20 dX10_settle_174 kX10 (by decide) fX10_54 (RD.o cr_la_0) rfl ?_
                refine g_iload 0 dX10_settle_177 rfl ?_
                refine g_iconst dX10_settle_179 ?_
                refine g_isub dX10_settle_180 ?_
                refine g_iaload dX10_settle_181 (RD.t15 cr_la_0) (by omega) (by omega) (by omega) ?_
                refine g_iload_n 1 dX10_settle_182 rfl ?_
                refine g_icmp_le (tgt := 208) dX10_settle_183 rfl (by first | assumption | (unfold gW; omega) | (unfold gW; split <;> omega)) (by first | assumption | (unfold gW; omega) | (unfold gW; split <;> omega)) (fun c932 => ?_) (fun c932 => ?_)
                · skip
                  have hlt9 : gR (a - 1) < rtv p (Q f2) := by
                                                                      have h8 : rtv p (Q f2) ≠ gR (a - 1) := by rw [j4_]; exact hnew
                                                                      omega
                  refine g_aload_n 4 dX10_settle_208 rfl ?_
                  refine g_getf 20 dX10_settle_209 kX10 (by decide) fX10_54 (RD.o cr_la_0) rfl ?_
                  refine g_iload 0 dX10_settle_212 rfl ?_
                  refine g_iload_n 1 dX10_settle_214 rfl ?_
                  refine g_iastore dX10_settle_215 (RD.t15 cr_la_0) (by omega) (by omega) (by omega) ?_
                  obtain ⟨hh933, eh933⟩ : ∃ z : GH, z = hset hla (B + 15) (aI 41 (gup (G) (a) (rtv p (Q f2)))) := ⟨_, rfl⟩
                  refine Go.hp eh933.symm ?_
                  have rd933 : RD B h0 hh933 p hf le fc pn rn1 hn qn g9 t g11 g12 g13 g14 (gup (G) (a) (rtv p (Q f2))) g16 g17 g18 g19 g20 := RD.cell cr_la_0 (by rw [eh933]; rfl) (fun x hx => by rw [eh933, hset_n _ _ (by omega)]) (hs_n eh933 (show NE (B) (B + 15) by unfold NE; omega) (RD.o cr_la_0)) (hs_n eh933 (show NE (B + 9) (B + 15) by unfold NE; omega) (RD.t9 cr_la_0)) (hs_n eh933 (show NE (B + 10) (B + 15) by unfold NE; omega) (RD.t10 cr_la_0)) (hs_n eh933 (show NE (B + 11) (B + 15) by unfold NE; omega) (RD.t11 cr_la_0)) (hs_n eh933 (show NE (B + 12) (B + 15) by unfold NE; omega) (RD.t12 cr_la_0)) (hs_n eh933 (show NE (B + 13) (B + 15) by unfold NE; omega) (RD.t13 cr_la_0)) (hs_n eh933 (show NE (B + 14) (B + 15) by unfold NE; omega) (RD.t14 cr_la_0)) (hs_s eh933) (hs_n eh933 (show NE (B + 16) (B + 15) by unfold NE; omega) (RD.t16 cr_la_0)) (hs_n eh933 (show NE (B + 17) (B + 15) by unfold NE; omega) (RD.t17 cr_la_0)) (hs_n eh933 (show NE (B + 18) (B + 15) by unfold NE; omega) (RD.t18 cr_la_0)) (hs_n eh933 (show NE (B + 19) (B + 15) by unfold NE; omega) (RD.t19 cr_la_0)) (hs_n eh933 (show NE (B + 20) (B + 15) by unfold NE; omega) (RD.t20 cr_la_0))
                  have e5_933 : hh933.2 (B + 5) = hla.2 (B + 5) := by rw [eh933, hset_n _ _ (by omega)]
                  have e6_933 : hh933.2 (B + 6) = hla.2 (B + 6) := by rw [eh933, hset_n _ _ (by omega)]
                  have rg933_1 : NR B [21, 22, 23, 24] h hh933 := NR.h5 cr_la_1 e5_933 e6_933
                  have rg933_2 : MG hp B hh933 (20) (F0) := (cr_la_2).of5 e5_933 e6_933
                  refine g_aload_n 4 dX10_settle_216 rfl ?_
                  refine g_dup dX10_settle_217 rfl ?_
                  refine g_getf 19 dX10_settle_218 kX10 (by decide) fX10_96 (RD.o rd933) rfl ?_
                  refine g_iconst dX10_settle_221 ?_
                  refine g_iadd dX10_settle_222 ?_
                  refine g_putf 19 dX10_settle_223 kX10 (by decide) fX10_96 rfl (RD.o rd933) (Nat.le_of_ble_eq_true rfl) rfl rfl ?_
                  obtain ⟨hh934, eh934⟩ : ∃ z : GH, z = hset hh933 (B) (mO B ((p : Int)) (hf) (le) (fc) (pn) ((rn1) + (1)) (hn) (qn)) := ⟨_, rfl⟩
                  refine Go.hp eh934.symm ?_
                  have rd934 : RD B h0 hh934 p hf le fc pn ((rn1) + (1)) hn qn g9 t g11 g12 g13 g14 (gup (G) (a) (rtv p (Q f2))) g16 g17 g18 g19 g20 := RD.cell rd933 (by rw [eh934]; rfl) (fun x hx => by rw [eh934, hset_n _ _ (by omega)]) (hs_s eh934) (hs_n eh934 (show NE (B + 9) (B) by unfold NE; omega) (RD.t9 rd933)) (hs_n eh934 (show NE (B + 10) (B) by unfold NE; omega) (RD.t10 rd933)) (hs_n eh934 (show NE (B + 11) (B) by unfold NE; omega) (RD.t11 rd933)) (hs_n eh934 (show NE (B + 12) (B) by unfold NE; omega) (RD.t12 rd933)) (hs_n eh934 (show NE (B + 13) (B) by unfold NE; omega) (RD.t13 rd933)) (hs_n eh934 (show NE (B + 14) (B) by unfold NE; omega) (RD.t14 rd933)) (hs_n eh934 (show NE (B + 15) (B) by unfold NE; omega) (RD.t15 rd933)) (hs_n eh934 (show NE (B + 16) (B) by unfold NE; omega) (RD.t16 rd933)) (hs_n eh934 (show NE (B + 17) (B) by unfold NE; omega) (RD.t17 rd933)) (hs_n eh934 (show NE (B + 18) (B) by unfold NE; omega) (RD.t18 rd933)) (hs_n eh934 (show NE (B + 19) (B) by unfold NE; omega) (RD.t19 rd933)) (hs_n eh934 (show NE (B + 20) (B) by unfold NE; omega) (RD.t20 rd933))
                  have e5_934 : hh934.2 (B + 5) = hh933.2 (B + 5) := by rw [eh934, hset_n _ _ (by omega)]
                  have e6_934 : hh934.2 (B + 6) = hh933.2 (B + 6) := by rw [eh934, hset_n _ _ (by omega)]
                  have rg934_1 : NR B [21, 22, 23, 24] h hh934 := NR.h5 rg933_1 e5_934 e6_934
                  have rg934_2 : MG hp B hh934 (20) (F0) := (rg933_2).of5 e5_934 e6_934
                  refine g_iinc 2 (ls2 := [(2, .int (gI (f2 + (-1)))), (4, .int (gI (a))), (3, .int (gI (rtv p (Q f2)))), (1, .int (gI (mo))), (0, .ref (B))]) dX10_settle_226 rfl (by decide) rfl ?_
                  refine g_goto (tgt := 128) dX10_settle_229 rfl ?_
                  refine Go.sub [0, 3, 4] rfl ?_
                  exact ih_lr _ (by omega) (f2 + (-1)) ((rn1) + (1)) (gup (G) (a) (rtv p (Q f2))) hh934 rfl fr_la rd934 rg934_1 rg934_2 (by omega) (by rw [show f2 + (-1) = f2 - 1 by omega]; exact rtL_s (by omega) hrt (by omega) hho (by omega) (Or.inr hlt9) hhi) (by omega)
                · skip
                  refine g_aload_n 4 dX10_settle_186 rfl ?_
                  refine g_getf 20 dX10_settle_187 kX10 (by decide) fX10_54 (RD.o cr_la_0) rfl ?_
                  refine g_iload 0 dX10_settle_190 rfl ?_
                  refine g_aload_n 4 dX10_settle_192 rfl ?_
                  refine g_getf 20 dX10_settle_193 kX10 (by decide) fX10_54 (RD.o cr_la_0) rfl ?_
                  refine g_iload 0 dX10_settle_196 rfl ?_
                  refine g_iconst dX10_settle_198 ?_
                  refine g_isub dX10_settle_199 ?_
                  refine g_iaload dX10_settle_200 (RD.t15 cr_la_0) (by omega) (by omega) (by omega) ?_
                  refine g_iastore dX10_settle_201 (RD.t15 cr_la_0) (by omega) (by omega) (by omega) ?_
                  obtain ⟨hh935, eh935⟩ : ∃ z : GH, z = hset hla (B + 15) (aI 41 (gup (G) (a) ((G) ((a) - (1))))) := ⟨_, rfl⟩
                  refine Go.hp eh935.symm ?_
                  have rd935 : RD B h0 hh935 p hf le fc pn rn1 hn qn g9 t g11 g12 g13 g14 (gup (G) (a) ((G) ((a) - (1)))) g16 g17 g18 g19 g20 := RD.cell cr_la_0 (by rw [eh935]; rfl) (fun x hx => by rw [eh935, hset_n _ _ (by omega)]) (hs_n eh935 (show NE (B) (B + 15) by unfold NE; omega) (RD.o cr_la_0)) (hs_n eh935 (show NE (B + 9) (B + 15) by unfold NE; omega) (RD.t9 cr_la_0)) (hs_n eh935 (show NE (B + 10) (B + 15) by unfold NE; omega) (RD.t10 cr_la_0)) (hs_n eh935 (show NE (B + 11) (B + 15) by unfold NE; omega) (RD.t11 cr_la_0)) (hs_n eh935 (show NE (B + 12) (B + 15) by unfold NE; omega) (RD.t12 cr_la_0)) (hs_n eh935 (show NE (B + 13) (B + 15) by unfold NE; omega) (RD.t13 cr_la_0)) (hs_n eh935 (show NE (B + 14) (B + 15) by unfold NE; omega) (RD.t14 cr_la_0)) (hs_s eh935) (hs_n eh935 (show NE (B + 16) (B + 15) by unfold NE; omega) (RD.t16 cr_la_0)) (hs_n eh935 (show NE (B + 17) (B + 15) by unfold NE; omega) (RD.t17 cr_la_0)) (hs_n eh935 (show NE (B + 18) (B + 15) by unfold NE; omega) (RD.t18 cr_la_0)) (hs_n eh935 (show NE (B + 19) (B + 15) by unfold NE; omega) (RD.t19 cr_la_0)) (hs_n eh935 (show NE (B + 20) (B + 15) by unfold NE; omega) (RD.t20 cr_la_0))
                  have e5_935 : hh935.2 (B + 5) = hla.2 (B + 5) := by rw [eh935, hset_n _ _ (by omega)]
                  have e6_935 : hh935.2 (B + 6) = hla.2 (B + 6) := by rw [eh935, hset_n _ _ (by omega)]
                  have rg935_1 : NR B [21, 22, 23, 24] h hh935 := NR.h5 cr_la_1 e5_935 e6_935
                  have rg935_2 : MG hp B hh935 (20) (F0) := (cr_la_2).of5 e5_935 e6_935
                  refine g_iinc 0 (ls2 := [(4, .int (gI (a + (-1)))), (3, .int (gI (rtv p (Q f2)))), (2, .int (gI (f2))), (1, .int (gI (mo))), (0, .ref (B))]) dX10_settle_202 rfl (by decide) rfl ?_
                  refine g_goto (tgt := 168) dX10_settle_205 rfl ?_
                  exact ih_la _ (by omega) (a + (-1)) (gup (G) (a) ((G) ((a) - (1)))) hh935 rfl fr_la rd935 rg935_1 rg935_2 (by omega) (by rw [show a + (-1) = a - 1 by omega]; exact hoI_s hho ⟨by omega, by omega⟩) (fun i i0 i1 => by
                                                                      rcases Int.lt_or_le i a with z | z
                                                                      · rw [show i = a - 1 by omega]; omega
                                                                      · exact hhi i z i1)
            exact la _ (rn1) (gR) hlr rfl fr_lr cr_lr_0 cr_lr_1 cr_lr_2 (by omega) (⟨fun i i0 i1 => rfl, fun i i0 i1 => by omega⟩) (fun i i0 i1 => by omega)
      exact lr _ (fc - 1) (0) (g15) hlf rfl fr_lf cr_lf_0 cr_lf_1 cr_lf_2 (by omega) (⟨fun i i0 i1 => by omega, fun x => ⟨fun ⟨i, a, b, _⟩ => by omega, fun ⟨j, a, b, _⟩ => by omega⟩⟩) (by omega)
    · skip
      have hQf := hLI.2.2 f (by omega) (by omega)
      obtain ⟨dQ, dQ1, dQ2⟩ := hQf.1.2.1
      have hQd : 1 ≤ dgi hp (Q f) := by rw [dgi_of hp dQ2]; omega
      refine g_aload_n 2 dX10_settle_17 rfl ?_
      refine g_iload_n 0 dX10_settle_18 rfl ?_
      refine g_bipush dX10_settle_19 (by decide) ?_
      obtain ⟨q1_21, q2_21, q3_21, q4_21⟩ := hT (f) (by omega) (by omega)
      refine g_callV (nc2 := 0) (ns2 := 0) (ci := 10) (As := [.int (gI (f)), .int (gI (21))]) (st := []) rfl dX10_settle_21 okX10_toFactor lX10_239 itX10_toFactor seX10_toFactor rfl (RD.o cr_lf_0) (by decide) (by decide) rfl (Nat.le_of_ble_eq_true rfl) (sM_toFactor N _ B p hp hp2 _ _ _ _ _ _ _ (f) (21) (by omega) (by omega) (Q (f)) (g11) (RD.o cr_lf_0) (RD.ma cr_lf_0) (RD.t11 cr_lf_0) q1_21 q2_21 q4_21) (by omega) (by omega) (fun v1136 hc1136 q1136 => ?_)
      obtain ⟨rfl, mfc1137, rn1137_0⟩ := q1136
      have rk1138_0 : RD B h0 hc1136 p hf le fc pn 0 hn qn g9 t g11 g12 g13 g14 g15 g16 g17 g18 g19 g20 := RD.mf cr_lf_0 mfc1137
      have rk1138_1 : NR B [21, 22, 23, 24] h hc1136 := NR.tr cr_lf_1 ((MF.nr mfc1137).mo (sbI_c (List.Mem.head _) sbI_n))
      have rk1138_2 : MG hp B hc1136 (20) (F0) := (cr_lf_2).fr hp2 mfc1137 (Nr.c (by omega) Nr.n)
      refine Go.nf (h' := hc1136) (st' := []) rfl rfl (Nat.le_refl _) (Nat.le_refl _) ?_
      refine g_aload_n 2 dX10_settle_24 rfl ?_
      refine g_getf 13 dX10_settle_25 kX10 (by decide) fX10_39 (RD.o rk1138_0) rfl ?_
      refine g_iload_n 0 dX10_settle_28 rfl ?_
      refine g_iconst dX10_settle_29 ?_
      refine g_iastore dX10_settle_30 (RD.t10 rk1138_0) (by omega) (by omega) (by omega) ?_
      obtain ⟨hh1139, eh1139⟩ : ∃ z : GH, z = hset hc1136 (B + 10) (aI 41 (gup (t) (f) (0))) := ⟨_, rfl⟩
      refine Go.hp eh1139.symm ?_
      have rd1139 : RD B h0 hh1139 p hf le fc pn 0 hn qn g9 (gup (t) (f) (0)) g11 g12 g13 g14 g15 g16 g17 g18 g19 g20 := RD.cell rk1138_0 (by rw [eh1139]; rfl) (fun x hx => by rw [eh1139, hset_n _ _ (by omega)]) (hs_n eh1139 (show NE (B) (B + 10) by unfold NE; omega) (RD.o rk1138_0)) (hs_n eh1139 (show NE (B + 9) (B + 10) by unfold NE; omega) (RD.t9 rk1138_0)) (hs_s eh1139) (hs_n eh1139 (show NE (B + 11) (B + 10) by unfold NE; omega) (RD.t11 rk1138_0)) (hs_n eh1139 (show NE (B + 12) (B + 10) by unfold NE; omega) (RD.t12 rk1138_0)) (hs_n eh1139 (show NE (B + 13) (B + 10) by unfold NE; omega) (RD.t13 rk1138_0)) (hs_n eh1139 (show NE (B + 14) (B + 10) by unfold NE; omega) (RD.t14 rk1138_0)) (hs_n eh1139 (show NE (B + 15) (B + 10) by unfold NE; omega) (RD.t15 rk1138_0)) (hs_n eh1139 (show NE (B + 16) (B + 10) by unfold NE; omega) (RD.t16 rk1138_0)) (hs_n eh1139 (show NE (B + 17) (B + 10) by unfold NE; omega) (RD.t17 rk1138_0)) (hs_n eh1139 (show NE (B + 18) (B + 10) by unfold NE; omega) (RD.t18 rk1138_0)) (hs_n eh1139 (show NE (B + 19) (B + 10) by unfold NE; omega) (RD.t19 rk1138_0)) (hs_n eh1139 (show NE (B + 20) (B + 10) by unfold NE; omega) (RD.t20 rk1138_0))
      have e5_1139 : hh1139.2 (B + 5) = hc1136.2 (B + 5) := by rw [eh1139, hset_n _ _ (by omega)]
      have e6_1139 : hh1139.2 (B + 6) = hc1136.2 (B + 6) := by rw [eh1139, hset_n _ _ (by omega)]
      have rg1139_1 : NR B [21, 22, 23, 24] h hh1139 := NR.h5 rk1138_1 e5_1139 e6_1139
      have rg1139_2 : MG hp B hh1139 (20) (F0) := (rk1138_2).of5 e5_1139 e6_1139
      have rg1139_3 : MG hp B hh1139 (21) (Q (f)) := (rn1137_0).of5 e5_1139 e6_1139
      refine g_aload_n 2 dX10_settle_31 rfl ?_
      refine g_bipush dX10_settle_32 (by decide) ?_
      refine g_bipush dX10_settle_34 (by decide) ?_
      refine g_callV (nc2 := 0) (ns2 := 0) (ci := 10) (As := [.int (gI (20)), .int (gI (22))]) (st := []) rfl dX10_settle_36 okX10_copy lX10_167 itX10_copy seX10_copy rfl (RD.o rd1139) (by decide) (by decide) rfl (Nat.le_of_ble_eq_true rfl) (sM_copy N _ B p hp hp2 _ _ _ _ _ _ _ (20) (22) (by omega) (by omega) (F0) (RD.o rd1139) (RD.ma rd1139) rg1139_2) (by omega) (by omega) (fun v1140 hc1140 q1140 => ?_)
      obtain ⟨rfl, mfc1141, rn1141_0⟩ := q1140
      have rk1142_0 : RD B h0 hc1140 p hf le fc pn 0 hn qn g9 (gup (t) (f) (0)) g11 g12 g13 g14 g15 g16 g17 g18 g19 g20 := RD.mf rd1139 mfc1141
      have rk1142_1 : NR B [21, 22, 23, 24] h hc1140 := NR.tr rg1139_1 ((MF.nr mfc1141).mo (sbI_c (List.Mem.tail _ (List.Mem.head _)) sbI_n))
      have rk1142_2 : MG hp B hc1140 (20) (F0) := (rg1139_2).fr hp2 mfc1141 (Nr.c (by omega) Nr.n)
      have rk1142_3 : MG hp B hc1140 (21) (Q (f)) := (rg1139_3).fr hp2 mfc1141 (Nr.c (by omega) Nr.n)
      refine Go.nf (h' := hc1140) (st' := []) rfl rfl (Nat.le_refl _) (Nat.le_refl _) ?_
      refine g_aload_n 2 dX10_settle_39 rfl ?_
      refine g_bipush dX10_settle_40 (by decide) ?_
      refine g_bipush dX10_settle_42 (by decide) ?_
      refine g_bipush dX10_settle_44 (by decide) ?_
      refine g_bipush dX10_settle_46 (by decide) ?_
      refine g_callV (nc2 := 0) (ns2 := 0) (ci := 10) (As := [.int (gI (22)), .int (gI (21)), .int (gI (23)), .int (gI (24))]) (st := []) rfl dX10_settle_48 okX10_divide lX10_176 itX10_divide seX10_divide rfl (RD.o rk1142_0) (by decide) (by decide) rfl (Nat.le_of_ble_eq_true rfl) (sM_divide N _ B p hp hp2 _ _ _ _ _ _ _ (22) (21) (23) (24) (by omega) (by omega) (by omega) (by omega) (by omega) (by omega) (F0) (Q (f)) (RD.o rk1142_0) (RD.ma rk1142_0) rn1141_0 rk1142_3 (by omega)) (by omega) (by omega) (fun v1143 hc1143 q1143 => ?_)
      obtain ⟨rfl, mfc1144, rn1144_0, rn1144_1⟩ := q1143
      have rk1145_0 : RD B h0 hc1143 p hf le fc pn 0 hn qn g9 (gup (t) (f) (0)) g11 g12 g13 g14 g15 g16 g17 g18 g19 g20 := RD.mf rk1142_0 mfc1144
      have rk1145_1 : NR B [21, 22, 23, 24] h hc1143 := NR.tr rk1142_1 ((MF.nr mfc1144).mo (sbI_c (List.Mem.tail _ (List.Mem.tail _ (List.Mem.tail _ (List.Mem.head _)))) (sbI_c (List.Mem.tail _ (List.Mem.tail _ (List.Mem.head _))) sbI_n)))
      have rk1145_2 : MG hp B hc1143 (20) (F0) := (rk1142_2).fr hp2 mfc1144 (Nr.c (by omega) (Nr.c (by omega) Nr.n))
      have rk1145_3 : MG hp B hc1143 (21) (Q (f)) := (rk1142_3).fr hp2 mfc1144 (Nr.c (by omega) (Nr.c (by omega) Nr.n))
      have rk1145_4 : MG hp B hc1143 (22) (F0) := (rn1141_0).fr hp2 mfc1144 (Nr.c (by omega) (Nr.c (by omega) Nr.n))
      refine Go.nf (h' := hc1143) (st' := []) rfl rfl (Nat.le_refl _) (Nat.le_refl _) ?_
      have lm : ∀ (kk : Nat) (m : Int) (R : Px p) (hlm : GH), kk = (50 - m).toNat → True → RD B h0 hlm p hf le fc pn 0 hn qn g9 (gup t f m) g11 g12 g13 g14 g15 g16 g17 g18 g19 g20 → NR B [21, 22, 23, 24] h hlm → MG hp B hlm (20) (F0) → MG hp B hlm (21) (Q (f)) → MG hp B hlm (22) (R) → MG hp B hlm (24) (rm hp R (Q f)) → MG hp B hlm (23) (qt hp R (Q f)) → (dou hp (Q f) F0 R m) → Go N mX10_settle (fun v h1 => v = none ∧ NR B [21, 22, 23, 24] h h1 ∧ ∃ pn1 rn1 t k12 k13 k14 k15 o, RD B h0 h1 p hf le fc pn1 rn1 hn qn g9 t g11 k12 k13 k14 k15 g16 g17 g18 g19 g20 ∧ (∀ i : Int, 0 ≤ i → i < fc → t i = mlt hp (Q i) F0) ∧ ptI t fc o pn1 k12 ∧ (∀ j : Int, 0 ≤ j → j < fc → t j < o) ∧ TB hp k13 k14 pn1 (fun i => pQ hp Q t (k12 i) fc.toNat) ∧ rtL hp fc (-1) Q rn1 k15 ∧ (0 ≤ rn1 ∧ rn1 ≤ fc) ∧ o ≤ 41) 0 0 hlm 51 [(2, .int (gI (f))), (1, .int (gI (mo))), (0, .ref (B))] [] := by
        refine Go.ind (fun kk ih_lm => ?_)
        intro m R hlm hkk_lm fr_lm cr_lm_0 cr_lm_1 cr_lm_2 cr_lm_3 cr_lm_4 cr_lm_5 cr_lm_6 hdo
        have hm1 := hdo.2.1
        have hm4 := hdo.2.2.2.1
        have hm5 := hdo.2.2.2.2
        have hl24 := (cr_lm_5).lt
        refine g_aload_n 2 dX10_settle_51 rfl ?_
        refine g_getf 6 dX10_settle_52 kX10 (by decide) fX10_26 (RD.o cr_lm_0) rfl ?_
        refine g_bipush dX10_settle_55 (by decide) ?_
        obtain ⟨dz1246, ez1246, fz1246⟩ := MG.get cr_lm_5
        refine g_iaload dX10_settle_57 ez1246 (by omega) (by omega) (by omega) ?_
        rw [fz1246]
        refine g_if_ge (tgt := 94) dX10_settle_58 rfl (by first | assumption | (unfold gW; omega) | (unfold gW; split <;> omega)) (fun c1247 => ?_) (fun c1247 => ?_)
        · skip
          have hnd : ¬ dv (fR hp) (Q f) R := fun z => by have := (rm_dvz hp hdo.1 hQf.1.1 (by omega)).mpr z; omega
          refine g_aload_n 2 dX10_settle_94 rfl ?_
          refine g_getf 13 dX10_settle_95 kX10 (by decide) fX10_39 (RD.o cr_lm_0) rfl ?_
          refine g_iload_n 0 dX10_settle_98 rfl ?_
          refine g_iaload dX10_settle_99 (RD.t10 cr_lm_0) (by omega) (by omega) (by omega) ?_
          rw [gup_s]
          refine g_iload_n 1 dX10_settle_100 rfl ?_
          refine g_icmp_le (tgt := 113) dX10_settle_101 rfl (by first | assumption | (unfold gW; omega) | (unfold gW; split <;> omega)) (by first | assumption | (unfold gW; omega) | (unfold gW; split <;> omega)) (fun c1248 => ?_) (fun c1248 => ?_)
          · skip
            refine g_iload_n 1 dX10_settle_113 rfl ?_
            refine g_istore_n (ls2 := [(1, .int (gI (mo))), (2, .int (gI (f))), (0, .ref (B))]) dX10_settle_114 rfl (by decide) rfl ?_
            refine g_iinc 1 (ls2 := [(2, .int (gI (f + 1))), (1, .int (gI (mo))), (0, .ref (B))]) dX10_settle_115 rfl (by decide) rfl ?_
            refine g_goto (tgt := 9) dX10_settle_118 rfl ?_
            exact ih_lf _ (by omega) (f + 1) (mo) (gup t f m) hlm rfl fr_lm cr_lm_0 cr_lm_1 cr_lm_2 (by omega) (fun i i0 i1 => by
                                                                      unfold gup
                                                                      by_cases z : i = f
                                                                      · rw [if_pos z, z, mul_ml hp hQf.1 (dou_e hp hdo hnd)]; omega
                                                                      · rw [if_neg z]; exact htt i i0 (by omega)) (⟨by omega, by omega, fun i i0 i1 => by
                                                                      unfold gup
                                                                      by_cases z : i = f
                                                                      · rw [if_pos z]; omega
                                                                      · rw [if_neg z]; have := hmo.2.2 i i0 (by omega); omega⟩)
          · skip
            refine g_aload_n 2 dX10_settle_104 rfl ?_
            refine g_getf 13 dX10_settle_105 kX10 (by decide) fX10_39 (RD.o cr_lm_0) rfl ?_
            refine g_iload_n 0 dX10_settle_108 rfl ?_
            refine g_iaload dX10_settle_109 (RD.t10 cr_lm_0) (by omega) (by omega) (by omega) ?_
            rw [gup_s]
            refine g_goto (tgt := 114) dX10_settle_110 rfl ?_
            refine g_istore_n (ls2 := [(1, .int (gI (m))), (2, .int (gI (f))), (0, .ref (B))]) dX10_settle_114 rfl (by decide) rfl ?_
            refine g_iinc 1 (ls2 := [(2, .int (gI (f + 1))), (1, .int (gI (m))), (0, .ref (B))]) dX10_settle_115 rfl (by decide) rfl ?_
            refine g_goto (tgt := 9) dX10_settle_118 rfl ?_
            exact ih_lf _ (by omega) (f + 1) (m) (gup t f m) hlm rfl fr_lm cr_lm_0 cr_lm_1 cr_lm_2 (by omega) (fun i i0 i1 => by
                                                                      unfold gup
                                                                      by_cases z : i = f
                                                                      · rw [if_pos z, z, mul_ml hp hQf.1 (dou_e hp hdo hnd)]; omega
                                                                      · rw [if_neg z]; exact htt i i0 (by omega)) (⟨by omega, by omega, fun i i0 i1 => by
                                                                      unfold gup
                                                                      by_cases z : i = f
                                                                      · rw [if_pos z]; omega
                                                                      · rw [if_neg z]; have := hmo.2.2 i i0 (by omega); omega⟩)
        · skip
          refine g_aload_n 2 dX10_settle_61 rfl ?_
          refine g_getf 13 dX10_settle_62 kX10 (by decide) fX10_39 (RD.o cr_lm_0) rfl ?_
          refine g_iload_n 0 dX10_settle_65 rfl ?_
          refine g_dup2 dX10_settle_66 rfl rfl ?_
          refine g_iaload dX10_settle_67 (RD.t10 cr_lm_0) (by omega) (by omega) (by omega) ?_
          refine g_iconst dX10_settle_68 ?_
          refine g_iadd dX10_settle_69 ?_
          refine g_iastore dX10_settle_70 (RD.t10 cr_lm_0) (by omega) (by omega) (by omega) ?_
          obtain ⟨hh1249, eh1249⟩ : ∃ z : GH, z = hset hlm (B + 10) (aI 41 (gup (gup t f m) (f) (((gup t f m) (f)) + (1)))) := ⟨_, rfl⟩
          refine Go.hp eh1249.symm ?_
          have rd1249 : RD B h0 hh1249 p hf le fc pn 0 hn qn g9 (gup (gup t f m) (f) (((gup t f m) (f)) + (1))) g11 g12 g13 g14 g15 g16 g17 g18 g19 g20 := RD.cell cr_lm_0 (by rw [eh1249]; rfl) (fun x hx => by rw [eh1249, hset_n _ _ (by omega)]) (hs_n eh1249 (show NE (B) (B + 10) by unfold NE; omega) (RD.o cr_lm_0)) (hs_n eh1249 (show NE (B + 9) (B + 10) by unfold NE; omega) (RD.t9 cr_lm_0)) (hs_s eh1249) (hs_n eh1249 (show NE (B + 11) (B + 10) by unfold NE; omega) (RD.t11 cr_lm_0)) (hs_n eh1249 (show NE (B + 12) (B + 10) by unfold NE; omega) (RD.t12 cr_lm_0)) (hs_n eh1249 (show NE (B + 13) (B + 10) by unfold NE; omega) (RD.t13 cr_lm_0)) (hs_n eh1249 (show NE (B + 14) (B + 10) by unfold NE; omega) (RD.t14 cr_lm_0)) (hs_n eh1249 (show NE (B + 15) (B + 10) by unfold NE; omega) (RD.t15 cr_lm_0)) (hs_n eh1249 (show NE (B + 16) (B + 10) by unfold NE; omega) (RD.t16 cr_lm_0)) (hs_n eh1249 (show NE (B + 17) (B + 10) by unfold NE; omega) (RD.t17 cr_lm_0)) (hs_n eh1249 (show NE (B + 18) (B + 10) by unfold NE; omega) (RD.t18 cr_lm_0)) (hs_n eh1249 (show NE (B + 19) (B + 10) by unfold NE; omega) (RD.t19 cr_lm_0)) (hs_n eh1249 (show NE (B + 20) (B + 10) by unfold NE; omega) (RD.t20 cr_lm_0))
          have e5_1249 : hh1249.2 (B + 5) = hlm.2 (B + 5) := by rw [eh1249, hset_n _ _ (by omega)]
          have e6_1249 : hh1249.2 (B + 6) = hlm.2 (B + 6) := by rw [eh1249, hset_n _ _ (by omega)]
          have rg1249_1 : NR B [21, 22, 23, 24] h hh1249 := NR.h5 cr_lm_1 e5_1249 e6_1249
          have rg1249_2 : MG hp B hh1249 (20) (F0) := (cr_lm_2).of5 e5_1249 e6_1249
          have rg1249_3 : MG hp B hh1249 (21) (Q (f)) := (cr_lm_3).of5 e5_1249 e6_1249
          have rg1249_4 : MG hp B hh1249 (22) (R) := (cr_lm_4).of5 e5_1249 e6_1249
          have rg1249_5 : MG hp B hh1249 (24) (rm hp R (Q f)) := (cr_lm_5).of5 e5_1249 e6_1249
          have rg1249_6 : MG hp B hh1249 (23) (qt hp R (Q f)) := (cr_lm_6).of5 e5_1249 e6_1249
          refine g_aload_n 2 dX10_settle_71 rfl ?_
          refine g_bipush dX10_settle_72 (by decide) ?_
          refine g_bipush dX10_settle_74 (by decide) ?_
          refine g_callV (nc2 := 0) (ns2 := 0) (ci := 10) (As := [.int (gI (23)), .int (gI (22))]) (st := []) rfl dX10_settle_76 okX10_copy lX10_167 itX10_copy seX10_copy rfl (RD.o rd1249) (by decide) (by decide) rfl (Nat.le_of_ble_eq_true rfl) (sM_copy N _ B p hp hp2 _ _ _ _ _ _ _ (23) (22) (by omega) (by omega) (qt hp R (Q f)) (RD.o rd1249) (RD.ma rd1249) rg1249_6) (by omega) (by omega) (fun v1250 hc1250 q1250 => ?_)
          obtain ⟨rfl, mfc1251, rn1251_0⟩ := q1250
          have rk1252_0 : RD B h0 hc1250 p hf le fc pn 0 hn qn g9 (gup (gup t f m) (f) (((gup t f m) (f)) + (1))) g11 g12 g13 g14 g15 g16 g17 g18 g19 g20 := RD.mf rd1249 mfc1251
          have rk1252_1 : NR B [21, 22, 23, 24] h hc1250 := NR.tr rg1249_1 ((MF.nr mfc1251).mo (sbI_c (List.Mem.tail _ (List.Mem.head _)) sbI_n))
          have rk1252_2 : MG hp B hc1250 (20) (F0) := (rg1249_2).fr hp2 mfc1251 (Nr.c (by omega) Nr.n)
          have rk1252_3 : MG hp B hc1250 (21) (Q (f)) := (rg1249_3).fr hp2 mfc1251 (Nr.c (by omega) Nr.n)
          have rk1252_5 : MG hp B hc1250 (24) (rm hp R (Q f)) := (rg1249_5).fr hp2 mfc1251 (Nr.c (by omega) Nr.n)
          have rk1252_6 : MG hp B hc1250 (23) (qt hp R (Q f)) := (rg1249_6).fr hp2 mfc1251 (Nr.c (by omega) Nr.n)
          refine Go.nf (h' := hc1250) (st' := []) rfl rfl (Nat.le_refl _) (Nat.le_refl _) ?_
          refine g_aload_n 2 dX10_settle_79 rfl ?_
          refine g_bipush dX10_settle_80 (by decide) ?_
          refine g_bipush dX10_settle_82 (by decide) ?_
          refine g_bipush dX10_settle_84 (by decide) ?_
          refine g_bipush dX10_settle_86 (by decide) ?_
          refine g_callV (nc2 := 0) (ns2 := 0) (ci := 10) (As := [.int (gI (22)), .int (gI (21)), .int (gI (23)), .int (gI (24))]) (st := []) rfl dX10_settle_88 okX10_divide lX10_176 itX10_divide seX10_divide rfl (RD.o rk1252_0) (by decide) (by decide) rfl (Nat.le_of_ble_eq_true rfl) (sM_divide N _ B p hp hp2 _ _ _ _ _ _ _ (22) (21) (23) (24) (by omega) (by omega) (by omega) (by omega) (by omega) (by omega) (qt hp R (Q f)) (Q (f)) (RD.o rk1252_0) (RD.ma rk1252_0) rn1251_0 rk1252_3 (by omega)) (by omega) (by omega) (fun v1253 hc1253 q1253 => ?_)
          obtain ⟨rfl, mfc1254, rn1254_0, rn1254_1⟩ := q1253
          have rk1255_0 : RD B h0 hc1253 p hf le fc pn 0 hn qn g9 (gup (gup t f m) (f) (((gup t f m) (f)) + (1))) g11 g12 g13 g14 g15 g16 g17 g18 g19 g20 := RD.mf rk1252_0 mfc1254
          have rk1255_1 : NR B [21, 22, 23, 24] h hc1253 := NR.tr rk1252_1 ((MF.nr mfc1254).mo (sbI_c (List.Mem.tail _ (List.Mem.tail _ (List.Mem.tail _ (List.Mem.head _)))) (sbI_c (List.Mem.tail _ (List.Mem.tail _ (List.Mem.head _))) sbI_n)))
          have rk1255_2 : MG hp B hc1253 (20) (F0) := (rk1252_2).fr hp2 mfc1254 (Nr.c (by omega) (Nr.c (by omega) Nr.n))
          have rk1255_3 : MG hp B hc1253 (21) (Q (f)) := (rk1252_3).fr hp2 mfc1254 (Nr.c (by omega) (Nr.c (by omega) Nr.n))
          have rk1255_6 : MG hp B hc1253 (22) (qt hp R (Q f)) := (rn1251_0).fr hp2 mfc1254 (Nr.c (by omega) (Nr.c (by omega) Nr.n))
          refine Go.nf (h' := hc1253) (st' := []) rfl rfl (Nat.le_refl _) (Nat.le_refl _) ?_
          refine g_goto (tgt := 51) dX10_settle_91 rfl ?_
          exact ih_lm _ (by omega) (m + 1) (qt hp R (Q f)) hc1253 rfl fr_lm (by
                                                                      have e8 := rk1255_0
                                                                      rw [gup_s, gup_gup] at e8; exact e8) rk1255_1 rk1255_2 rk1255_3 rk1255_6 rn1254_0 rn1254_1 (dou_s hp hQf.1 hdo ((rm_dvz hp hdo.1 hQf.1.1 (by omega)).mp (by omega)))
      exact lm _ (0) (F0) hc1143 rfl fr_lf rk1145_0 rk1145_1 rk1145_2 rk1145_3 rk1145_4 rn1144_0 rn1144_1 (dou_0 hp hF0 (by omega))
  exact lf _ (0) (0) (g10) hh1 rfl trivial rd1 rg1_1 rg1_2 (by omega) (fun i i0 i1 => by omega) (⟨by omega, by omega, fun i i0 i1 => by omega⟩)
