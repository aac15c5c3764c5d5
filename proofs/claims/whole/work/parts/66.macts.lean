theorem gI_div {a b : Int} (a0 : 0 ≤ a) (a1 : a < 2147483648) (b0 : 0 < b) (b1 : b < 2147483648) : gI a / gI b = gI (a / b) := by
  obtain ⟨n, rfl⟩ := Int.eq_ofNat_of_zero_le a0
  obtain ⟨m, rfl⟩ := Int.eq_ofNat_of_zero_le (show 0 ≤ b by omega)
  rw [gI_nat, gI_nat, pk_div (by omega) (by omega) (by omega), ← gI_nat]
  rfl
theorem g_idiv {N : GN} {M : GM} {Q : Option Value → GH → Prop} {nc ns : Nat} {h : GH} {pc : Nat} {ls : List (Nat × Value)} {st : List Value} {a b : Int} (hd : decode (gm_cc M) pc = .ok (.idiv, 1)) (a0 : 0 ≤ a) (a1 : a < 2147483648) (b0 : 0 < b) (b1 : b < 2147483648) (k : Go N M Q nc ns h (pc + 1) ls (.int (gI (a / b)) :: st)) : Go N M Q nc ns h pc ls (.int (gI b) :: .int (gI a) :: st) := by
  intro p e R s m args below meth c H locs cells slots mc ms la C hR hl hS c1 c2 c3 c4
  refine lv_idiv C.1 C.2.1 hd (fun z => absurd ((gI_eq (show gW b by unfold gW; omega) gW_0).mp z) (by omega)) ?_
  rw [gI_div a0 a1 b0 b1]
  exact k p e R s m args below meth c H locs cells slots mc ms la C hR hl hS c1 c2 c3 c4
section
variable {p : Nat}
/-- what addTimes leaves: the numbers before t are added -/
def atL (p : Nat) (gw gb : Int → Int) (c sh t : Int) : Int → Int := fun m => if 0 ≤ m - sh ∧ m - sh < t ∧ gb (m - sh) ≠ 0 then (gw m + c * gb (m - sh)) % p else gw m
theorem atL_0 (gw gb : Int → Int) (c sh : Int) : atL p gw gb c sh 0 = gw := funext fun m => by unfold atL; rw [if_neg (by omega)]
theorem atL_at (gw gb : Int → Int) (c sh t : Int) : atL p gw gb c sh t (sh + t) = gw (sh + t) := by unfold atL; rw [if_neg (by omega)]
theorem atL_s (gw gb : Int → Int) {c sh t : Int} (ht : 0 ≤ t) (hn : gb t ≠ 0) : gup (atL p gw gb c sh t) (sh + t) ((gw (sh + t) + c * gb t) % p) = atL p gw gb c sh (t + 1) := funext fun m => by
  unfold gup atL
  by_cases z : m = sh + t
  · subst z; rw [if_pos rfl, show sh + t - sh = t by omega, if_pos ⟨ht, by omega, hn⟩]
  · rw [if_neg z]
    by_cases w : 0 ≤ m - sh ∧ m - sh < t ∧ gb (m - sh) ≠ 0
    · rw [if_pos w, if_pos ⟨w.1, by omega, w.2.2⟩]
    · rw [if_neg w, if_neg (fun q => w ⟨q.1, by omega, q.2.2⟩)]
theorem atL_z (gw gb : Int → Int) {c sh t : Int} (hn : gb t = 0) : atL p gw gb c sh t = atL p gw gb c sh (t + 1) := funext fun m => by
  unfold atL
  by_cases w : 0 ≤ m - sh ∧ m - sh < t ∧ gb (m - sh) ≠ 0
  · rw [if_pos w, if_pos ⟨w.1, by omega, w.2.2⟩]
  · rw [if_neg w, if_neg (fun q => w ⟨q.1, by
      rcases Int.lt_or_le (m - sh) t with z | z
      · exact z
      · exact absurd (show gb (m - sh) = 0 by rw [show m - sh = t by omega]; exact hn) q.2.2, q.2.2⟩)]
theorem atL_NW (h : prm p) {W G : Pxy p} {gw gb : Int → Int} {c : Int} {j i : Nat} (hW : NW W gw) (hG : NW G gb) (bG : PB h G) (hj : (j : Int) + dY h G ≤ 6) : letI := yR h; NW (W + yml h (mo2 h (zi h c) j i) G) (atL p gw gb c (7 * (i : Int) + j) 287) := by
  letI := yR h
  refine NW_of h (fun k k0 k1 => ?_) (fun J I hJ hI => ?_)
  · unfold atL
    split
    · exact em_in h _
    · exact hW.bd h k0 k1
  · have dG := bG.dg.2.2
    have e : (W + yml h (mo2 h (zi h c) j i) G) J I = (letI := fR h; W J I + yml h (mo2 h (zi h c) j i) G J I) := rfl
    rw [e, mo2_mul]
    letI := fR h
    unfold atL
    by_cases z : j ≤ J ∧ i ≤ I
    · rw [if_pos z]
      have es : 7 * (I : Int) + J - (7 * (i : Int) + j) = 7 * ((I - i : Nat) : Int) + ((J - j : Nat) : Int) := by omega
      have eg : zi h (gb (7 * ((I - i : Nat) : Int) + ((J - j : Nat) : Int))) = G (J - j) (I - i) := hG.zi h (by omega) (by omega)
      rw [es]
      by_cases y : gb (7 * ((I - i : Nat) : Int) + ((J - j : Nat) : Int)) ≠ 0
      · rw [if_pos ⟨by omega, by omega, y⟩, zi_mod, zi_add, zi_mul, hW.zi h hJ hI, eg]
      · rw [if_neg (fun q => y q.2.2), hW.zi h hJ hI]
        have : G (J - j) (I - i) = 0 := by
          rw [← eg, Decidable.not_not.mp y]; exact zi_0 h
        rw [this]; grind
    · rw [if_neg z, if_neg, hW.zi h hJ hI]
      · grind
      · intro q
        have hi : i ≤ I ∧ ¬ j ≤ J := by omega
        have q2 := q.2.2
        apply q2
        have es : 7 * (I : Int) + J - (7 * (i : Int) + j) = 7 * ((I - i - 1 : Nat) : Int) + ((7 + J - j : Nat) : Int) := by omega
        rw [es, hG _ _ (by omega) (by omega) (by omega) (by omega)]
        refine (cy_0 h (by omega) (by omega)).mpr ?_
        rw [Int.toNat_natCast, Int.toNat_natCast]
        by_cases x : G (7 + J - j) (I - i - 1) = 0
        · exact x
        · have := bG.dg.2.1.1 _ _ x
          omega
/-- the first t numbers, in the reference's order -/
def trw (h : prm p) (F : Pxy p) (t : Int) : Pxy p := fun j i => letI := fR h; if 7 * (i : Int) + j < t ∧ j ≤ 6 then F j i else 0
theorem trw_s (h : prm p) (F : Pxy p) {j i : Nat} (hj : j ≤ 6) : letI := yR h; trw h F (7 * (i : Int) + j + 1) = trw h F (7 * (i : Int) + j) + mo2 h (F j i) j i := funext fun b => funext fun a => by
  letI := fR h
  show (if 7 * (a : Int) + b < 7 * (i : Int) + j + 1 ∧ b ≤ 6 then F b a else 0) = (if 7 * (a : Int) + b < 7 * (i : Int) + j ∧ b ≤ 6 then F b a else 0) + xm (pR h) (xm (fR h) (F j i) i) j b a
  have e : xm (pR h) (xm (fR h) (F j i) i) j b a = if b = j ∧ a = i then F j i else 0 := by
    letI := pR h
    show (if b = j then xm (fR h) (F j i) i else 0) a = _
    by_cases z : b = j
    · rw [if_pos z]
      show (if a = i then F j i else 0) = _
      by_cases y : a = i
      · rw [if_pos y, if_pos ⟨z, y⟩]
      · rw [if_neg y, if_neg (fun q => y q.2)]
    · rw [if_neg z, if_neg (fun q => z q.1), zero_k]
  rw [e]
  by_cases z : b = j ∧ a = i
  · obtain ⟨rfl, rfl⟩ := z
    rw [if_pos (by omega), if_neg (by omega), if_pos ⟨rfl, rfl⟩]; grind
  · rw [if_neg z]
    by_cases y : 7 * (a : Int) + b < 7 * (i : Int) + j ∧ b ≤ 6
    · rw [if_pos y, if_pos (by omega)]; grind
    · rw [if_neg y, if_neg (by omega)]; grind
theorem trw_0 (h : prm p) (F : Pxy p) : trw h F 0 = zF h := funext fun b => funext fun a => by
  letI := fR h
  show (if 7 * (a : Int) + b < 0 ∧ b ≤ 6 then F b a else 0) = 0
  rw [if_neg (by omega)]
theorem trw_e (h : prm p) {F : Pxy p} (hF : PB h F) : trw h F 287 = F := funext fun b => funext fun a => by
  letI := fR h
  show (if 7 * (a : Int) + b < 287 ∧ b ≤ 6 then F b a else 0) = F b a
  by_cases z : 6 < b ∨ 40 < a
  · rw [hF b a z]; split <;> rfl
  · rw [if_pos (by omega)]
/-- the product as far as t -/
def mwI (h : prm p) (F G : Pxy p) (t : Int) (g : Int → Int) : Prop := NW (yml h (trw h F t) G) g
theorem mwI_0 (h : prm p) (F G : Pxy p) {g : Int → Int} (hg : NW (zF h) g) : mwI h F G 0 g := by
  letI := yR h
  unfold mwI
  have e : yml h (trw h F 0) G = zF h := by
    rw [trw_0, zF_0]
    show (0 : Pxy p) * G = 0
    grind
  rw [e]; exact hg
theorem mwI_st (h : prm p) {F G : Pxy p} {g : Int → Int} {j i : Nat} (hj : j ≤ 6) (H : letI := yR h; NW (yml h (trw h F (7 * (i : Int) + j)) G + yml h (mo2 h (F j i) j i) G) g) : mwI h F G (7 * (i : Int) + j + 1) g := by
  letI := yR h
  unfold mwI
  rw [trw_s h F hj]
  have e : yml h (trw h F (7 * (i : Int) + j) + mo2 h (F j i) j i) G = yml h (trw h F (7 * (i : Int) + j)) G + yml h (mo2 h (F j i) j i) G := by
    show (trw h F (7 * (i : Int) + j) + mo2 h (F j i) j i) * G = trw h F (7 * (i : Int) + j) * G + mo2 h (F j i) j i * G
    generalize trw h F (7 * (i : Int) + j) = x
    generalize mo2 h (F j i) j i = y
    grind
  rw [e]; exact H
theorem mwI_z (h : prm p) {F G : Pxy p} {g : Int → Int} {j i : Nat} (hj : j ≤ 6) (hz : letI := fR h; F j i = 0) (H : mwI h F G (7 * (i : Int) + j) g) : mwI h F G (7 * (i : Int) + j + 1) g := by
  letI := yR h
  refine mwI_st h hj ?_
  have e : yml h (mo2 h (F j i) j i) G = zF h := funext fun J => funext fun I => by
    rw [mo2_mul, hz]
    letI := fR h
    show _ = (0 : Fp p)
    split
    · grind
    · rfl
  rw [e, zF_0]
  have e2 : yml h (trw h F (7 * (i : Int) + j)) G + 0 = yml h (trw h F (7 * (i : Int) + j)) G := by
    generalize yml h (trw h F (7 * (i : Int) + j)) G = x
    grind
  rw [e2]; exact H
end
set_option maxHeartbeats 4000000 in
set_option maxRecDepth 100000 in
theorem sM_isPlain (N : GN) (h : GH) (B p : Nat) (hp : prm p) (hp2 : p ≤ 65536) (hf le fc pn rn hn qn : Int) (T : PT p) (F : Pxy p) (a : Int) (a0 : 0 ≤ a) (a1 : a < 100) (ha : T a.toNat = some F) (hm : h.2 B = some (mO B p hf le fc pn rn hn qn)) (hT : MP hp B h T) : Sp N yX10_isPlain mX10_isPlain 0 0 [.ref (B), .int (gI (a))] h (fun v h1 => h1 = h ∧ v = some (.int (gI (if dY hp F < 1 then 1 else 0)))) := by
  refine Sp.of (by decide) rfl rfl (Nat.le_of_ble_eq_true rfl) ?_
  show Go N mX10_isPlain _ 0 0 h 0 [(0, .ref (B)), (1, .int (gI (a)))] []
  have hp1 := hp.1
  have hBF := (hT.at a0 a1 ha).1
  have hdF := hBF.dg.2.2
  refine g_aload_n 0 dX10_isPlain_0 rfl ?_
  refine g_iload_n 1 dX10_isPlain_1 rfl ?_
  refine g_callV (nc2 := 0) (ns2 := 0) (ci := 10) (As := [.int (gI (a))]) (st := []) rfl dX10_isPlain_2 okX10_degreeY lX10_103 itX10_degreeY seX10_degreeY rfl hm (by decide) (by decide) rfl (Nat.le_of_ble_eq_true rfl) (sM_degreeY N _ B p hp hp2 hf le fc pn rn hn qn T F a a0 a1 ha hm hT) (by omega) (by omega) (fun v1 hc1 q1 => ?_)
  obtain ⟨hq2, rfl⟩ := q1
  refine Go.nf (h' := h) (st' := [.int (gI (dY hp F))]) hq2 rfl (Nat.le_refl _) (Nat.le_refl _) ?_
  refine g_if_gt (tgt := 12) dX10_isPlain_5 rfl (by unfold gW; omega) (fun c3 => ?_) (fun c3 => ?_)
  · skip
    refine g_iconst dX10_isPlain_12 ?_
    exact g_zret dX10_isPlain_13 rfl (by omega) ⟨rfl, by rw [if_neg (by omega)]⟩
  · skip
    refine g_iconst dX10_isPlain_8 ?_
    refine g_goto (tgt := 13) dX10_isPlain_9 rfl ?_
    exact g_zret dX10_isPlain_13 rfl (by omega) ⟨rfl, by rw [if_pos (by omega)]⟩
set_option maxHeartbeats 4000000 in
set_option maxRecDepth 100000 in
theorem sM_isNought (N : GN) (h : GH) (B p : Nat) (hp : prm p) (hp2 : p ≤ 65536) (hf le fc pn rn hn qn : Int) (T : PT p) (F : Pxy p) (a : Int) (a0 : 0 ≤ a) (a1 : a < 100) (ha : T a.toNat = some F) (hm : h.2 B = some (mO B p hf le fc pn rn hn qn)) (hT : MP hp B h T) : Sp N yX10_isNought mX10_isNought 0 0 [.ref (B), .int (gI (a))] h (fun v h1 => h1 = h ∧ v = some (.int (gI (if dX hp F < 0 then 1 else 0)))) := by
  refine Sp.of (by decide) rfl rfl (Nat.le_of_ble_eq_true rfl) ?_
  show Go N mX10_isNought _ 0 0 h 0 [(0, .ref (B)), (1, .int (gI (a)))] []
  have hp1 := hp.1
  have hBF := (hT.at a0 a1 ha).1
  have hdF := hBF.dg.2.2
  refine g_aload_n 0 dX10_isNought_0 rfl ?_
  refine g_iload_n 1 dX10_isNought_1 rfl ?_
  refine g_callV (nc2 := 0) (ns2 := 0) (ci := 10) (As := [.int (gI (a))]) (st := []) rfl dX10_isNought_2 okX10_degreeX lX10_154 itX10_degreeX seX10_degreeX rfl hm (by decide) (by decide) rfl (Nat.le_of_ble_eq_true rfl) (sM_degreeX N _ B p hp hp2 hf le fc pn rn hn qn T F a a0 a1 ha hm hT) (by omega) (by omega) (fun v1 hc1 q1 => ?_)
  obtain ⟨hq2, rfl⟩ := q1
  refine Go.nf (h' := h) (st' := [.int (gI (dX hp F))]) hq2 rfl (Nat.le_refl _) (Nat.le_refl _) ?_
  refine g_iconst dX10_isNought_5 ?_
  refine g_icmp_ne (tgt := 13) dX10_isNought_6 rfl (by unfold gW; omega) (by unfold gW; omega) (fun c3 => ?_) (fun c3 => ?_)
  · skip
    refine g_iconst dX10_isNought_13 ?_
    exact g_zret dX10_isNought_14 rfl (by omega) ⟨rfl, by rw [if_neg (by omega)]⟩
  · skip
    refine g_iconst dX10_isNought_9 ?_
    refine g_goto (tgt := 14) dX10_isNought_10 rfl ?_
    exact g_zret dX10_isNought_14 rfl (by omega) ⟨rfl, by rw [if_pos (by omega)]⟩
set_option maxHeartbeats 4000000 in
set_option maxRecDepth 100000 in
theorem sM_take0 (N : GN) (h : GH) (B p : Nat) (hp : prm p) (hp2 : p ≤ 65536) (hf le fc pn rn hn qn : Int) (T : PT p) (F : Pxy p) (a : Int) (a0 : 0 ≤ a) (a1 : a < 100) (ha : T a.toNat = some F) (hm : h.2 B = some (mO B p hf le fc pn rn hn qn)) (gm : Int → Int) (hT : MP hp B h T) (hw : MWA B h) (h4 : h.2 (B + 4) = some (aI 1500 gm)) : Sp N yX10_take0 mX10_take0 0 0 [.ref (B), .int (gI (a))] h (fun v h1 => v = none ∧ Fr [B + 3] h h1 ∧ h1.2 (B + 4) = some (aI 1500 gm) ∧ MW hp B h1 F) := by
  refine Sp.of (by decide) rfl rfl (Nat.le_of_ble_eq_true rfl) ?_
  show Go N mX10_take0 _ 0 0 h 0 [(0, .ref (B)), (1, .int (gI (a)))] []
  have hp1 := hp.1
  have ne0 : NE (B) (B + 2) := by unfold NE; omega
  have ne1 : NE (B) (B + 3) := by unfold NE; omega
  have ne2 : NE (B) (B + 1) := by unfold NE; omega
  have ne3 : NE (B) (B + 4) := by unfold NE; omega
  have ne4 : NE (B + 2) (B + 3) := by unfold NE; omega
  have ne5 : NE (B + 2) (B + 1) := by unfold NE; omega
  have ne6 : NE (B + 2) (B + 4) := by unfold NE; omega
  have ne7 : NE (B + 3) (B + 1) := by unfold NE; omega
  have ne8 : NE (B + 3) (B + 4) := by unfold NE; omega
  have ne9 : NE (B + 1) (B + 4) := by unfold NE; omega
  obtain ⟨hB, gn, w2, hN⟩ := hT.at a0 a1 ha
  refine g_aload_n 0 dX10_take0_0 rfl ?_
  refine g_callV (nc2 := 0) (ns2 := 0) (ci := 10) (As := []) (st := []) rfl dX10_take0_1 okX10_clear lX10_107 itX10_clear seX10_clear rfl hm (by decide) (by decide) rfl (Nat.le_of_ble_eq_true rfl) (sM_clear N _ B p hp hp2 hf le fc pn rn hn qn (gm) hm hw h4) (by omega) (by omega) (fun v1 hc1 q1 => ?_)
  obtain ⟨rfl, frc2, rn2_0, rn2_1⟩ := q1
  have fk3_0 : hc1.2 (B) = some (mO B ((p : Int)) (hf) (le) (fc) (pn) (rn) (hn) (qn)) := Fr.at0 frc2 (Ni.c ⟨ne1, ne3⟩ (Ni.n _)) hm
  have fk3_1 : hc1.2 (B + 2) = some (aI 28700 (gn)) := Fr.at0 frc2 (Ni.c ⟨ne4, ne6⟩ (Ni.n _)) w2
  have fr3 : Fr [B + 3] h hc1 := ((Fr.rf [B + 3] h)).tr ((frc2).mo (sub_c (List.Mem.head _) sub_n))
  refine Go.nf (h' := hc1) (st' := []) rfl rfl (Nat.le_refl _) (Nat.le_refl _) ?_
  refine g_iconst dX10_take0_4 ?_
  refine g_istore_n (ls2 := [(2, .int (gI (0))), (0, .ref (B)), (1, .int (gI (a)))]) dX10_take0_5 rfl (by decide) rfl ?_
  obtain ⟨_, gz, hz3, hzN, hzV⟩ := rn2_1
  have lo : ∀ (kk : Nat) (c : Int) (hlo : GH), kk = (287 - c).toNat → Fr [B + 3] h hlo → hlo.2 (B + 4) = some (aI 1500 (gm)) → hlo.2 (B + 3) = some (aI 1500 (gF gz (fun c => gn (287 * a + c)) c)) → (0 ≤ c) → (c ≤ 287) → Go N mX10_take0 (fun v h1 => v = none ∧ Fr [B + 3] h h1 ∧ h1.2 (B + 4) = some (aI 1500 gm) ∧ MW hp B h1 F) 0 0 hlo 6 [(2, .int (gI (c))), (0, .ref (B)), (1, .int (gI (a)))] [] := by
    refine Go.ind (fun kk ih_lo => ?_)
    intro c hlo hkk_lo fr_lo cf_lo_0 cf_lo_1 hc0 hc1
    have cg_lo_0 : hlo.2 (B) = some (mO B ((p : Int)) (hf) (le) (fc) (pn) (rn) (hn) (qn)) := Fr.at0 fr_lo (Ni.c ⟨ne1, ne3⟩ (Ni.n _)) hm
    have cg_lo_1 : hlo.2 (B + 2) = some (aI 28700 (gn)) := Fr.at0 fr_lo (Ni.c ⟨ne4, ne6⟩ (Ni.n _)) w2
    refine g_iload_n 0 dX10_take0_6 rfl ?_
    refine g_sipush dX10_take0_7 (by decide) ?_
    refine g_icmp_ge (tgt := 37) dX10_take0_10 rfl (by unfold gW; omega) (by unfold gW; omega) (fun c104 => ?_) (fun c104 => ?_)
    · skip
      exact g_vret dX10_take0_37 rfl ⟨rfl, fr_lo, cf_lo_0, hB, _, cf_lo_1, fun j i j0 j1 i0 i1 => by unfold gF; rw [if_pos (by omega)]; exact hN j i j0 j1 i0 i1, fun m m0 m1 => by
      unfold gF
      by_cases z : 0 ≤ m ∧ m < c
      · rw [if_pos z]; exact hN.bd hp (k := m) m0 (by omega)
      · rw [if_neg z]; exact hzV m m0 m1⟩
    · skip
      refine g_aload_n 1 dX10_take0_13 rfl ?_
      refine g_getf 3 dX10_take0_14 kX10 (by decide) fX10_17 cg_lo_0 rfl ?_
      refine g_iload_n 0 dX10_take0_17 rfl ?_
      refine g_aload_n 1 dX10_take0_18 rfl ?_
      refine g_getf 2 dX10_take0_19 kX10 (by decide) fX10_13 cg_lo_0 rfl ?_
      refine g_sipush dX10_take0_22 (by decide) ?_
      refine g_iload_n 2 dX10_take0_25 rfl ?_
      refine g_imul dX10_take0_26 ?_
      refine g_iload_n 0 dX10_take0_27 rfl ?_
      refine g_iadd dX10_take0_28 ?_
      refine g_iaload dX10_take0_29 cg_lo_1 (by omega) (by omega) (by omega) ?_
      refine g_iastore dX10_take0_30 cf_lo_1 (by omega) (by omega) (by omega) ?_
      obtain ⟨hh105, eh105⟩ : ∃ z : GH, z = hset hlo (B + 3) (aI 1500 (gup (gF gz (fun c => gn (287 * a + c)) c) (c) ((gn) (((287) * (a)) + (c))))) := ⟨_, rfl⟩
      refine Go.hp eh105.symm ?_
      have fh105_0 : hh105.2 (B) = some (mO B ((p : Int)) (hf) (le) (fc) (pn) (rn) (hn) (qn)) := hs_n eh105 ne1 cg_lo_0
      have fh105_1 : hh105.2 (B + 2) = some (aI 28700 (gn)) := hs_n eh105 ne4 cg_lo_1
      have fh105_2 : hh105.2 (B + 4) = some (aI 1500 (gm)) := hs_n eh105 (ne8).s cf_lo_0
      have fh105_3 : hh105.2 (B + 3) = some (aI 1500 (gup (gF gz (fun c => gn (287 * a + c)) c) (c) ((gn) (((287) * (a)) + (c))))) := hs_s eh105
      have fr105 : Fr [B + 3] h hh105 := Fr.w0 fr_lo (List.Mem.head _) eh105
      refine g_iinc 0 (ls2 := [(2, .int (gI (c + 1))), (0, .ref (B)), (1, .int (gI (a)))]) dX10_take0_31 rfl (by decide) rfl ?_
      refine g_goto (tgt := 6) dX10_take0_34 rfl ?_
      exact ih_lo _ (by omega) (c + 1) hh105 rfl fr105 fh105_2 (by rw [← gF_s gz (fun c => gn (287 * a + c)) hc0]; exact fh105_3) (by omega) (by omega)
  exact lo _ (0) hc1 rfl fr3 rn2_0 (by rw [gF_0]; exact hz3) (by omega) (by omega)
set_option maxHeartbeats 4000000 in
set_option maxRecDepth 100000 in
theorem sM_addTimes (N : GN) (h : GH) (B p : Nat) (hp : prm p) (hp2 : p ≤ 65536) (hf le fc pn rn hn qn : Int) (c i j b : Int) (cc0 : 0 ≤ c) (cc1 : c < p) (i0 : 0 ≤ i ∧ i ≤ 40) (j0 : 0 ≤ j ∧ j ≤ 6) (b0 : 0 ≤ b ∧ b < 100) (G : Pxy p) (gw gn : Int → Int) (hm : h.2 B = some (mO B p hf le fc pn rn hn qn)) (hw3 : h.2 (B + 3) = some (aI 1500 gw)) (w2 : h.2 (B + 2) = some (aI 28700 gn)) (hN : NW G (fun m => gn (287 * b + m))) (hV : ∀ k, 0 ≤ k → k < 1500 → 0 ≤ gw k ∧ gw k < p) (gm : Int → Int) (h4 : h.2 (B + 4) = some (aI 1500 gm)) : Sp N yX10_addTimes mX10_addTimes 0 0 [.ref (B), .int (gI (c)), .int (gI (i)), .int (gI (j)), .int (gI (b))] h (fun v h1 => v = none ∧ Fr [B + 3] h h1 ∧ h1.2 (B + 4) = some (aI 1500 gm) ∧ ((c = 0 ∧ h1.2 (B + 3) = some (aI 1500 gw)) ∨ (c ≠ 0 ∧ h1.2 (B + 3) = some (aI 1500 (atL p gw (fun m => gn (287 * b + m)) c (7 * i + j) 287))))) := by
  refine Sp.of (by decide) rfl rfl (Nat.le_of_ble_eq_true rfl) ?_
  show Go N mX10_addTimes _ 0 0 h 0 [(0, .ref (B)), (1, .int (gI (c))), (2, .int (gI (i))), (3, .int (gI (j))), (4, .int (gI (b)))] []
  have hp1 := hp.1
  have ne0 : NE (B) (B + 2) := by unfold NE; omega
  have ne1 : NE (B) (B + 3) := by unfold NE; omega
  have ne2 : NE (B) (B + 4) := by unfold NE; omega
  have ne3 : NE (B + 2) (B + 3) := by unfold NE; omega
  have ne4 : NE (B + 2) (B + 4) := by unfold NE; omega
  have ne5 : NE (B + 3) (B + 4) := by unfold NE; omega
  refine g_iload_n 1 dX10_addTimes_0 rfl ?_
  refine g_if_ne (tgt := 5) dX10_addTimes_1 rfl (by unfold gW; omega) (fun c1 => ?_) (fun c1 => ?_)
  · skip
    refine g_iconst dX10_addTimes_5 ?_
    refine g_istore (ls2 := [(5, .int (gI (0))), (0, .ref (B)), (1, .int (gI (c))), (2, .int (gI (i))), (3, .int (gI (j))), (4, .int (gI (b)))]) dX10_addTimes_6 (by decide) rfl ?_
    have lk : ∀ (kk : Nat) (k : Int) (hlk : GH), kk = (41 - k).toNat → Fr [B + 3] h hlk → hlk.2 (B + 3) = some (aI 1500 (atL p gw (fun m => gn (287 * b + m)) c (7 * i + j) (7 * k))) → hlk.2 (B + 4) = some (aI 1500 (gm)) → (0 ≤ k) → (k ≤ 41) → Go N mX10_addTimes (fun v h1 => v = none ∧ Fr [B + 3] h h1 ∧ h1.2 (B + 4) = some (aI 1500 gm) ∧ ((c = 0 ∧ h1.2 (B + 3) = some (aI 1500 gw)) ∨ (c ≠ 0 ∧ h1.2 (B + 3) = some (aI 1500 (atL p gw (fun m => gn (287 * b + m)) c (7 * i + j) 287))))) 0 0 hlk 8 [(5, .int (gI (k))), (0, .ref (B)), (1, .int (gI (c))), (2, .int (gI (i))), (3, .int (gI (j))), (4, .int (gI (b)))] [] := by
      refine Go.ind (fun kk ih_lk => ?_)
      intro k hlk hkk_lk fr_lk cf_lk_0 cf_lk_1 hk0 hk1
      have cg_lk_0 : hlk.2 (B) = some (mO B ((p : Int)) (hf) (le) (fc) (pn) (rn) (hn) (qn)) := Fr.at0 fr_lk (Ni.c ⟨ne1, ne2⟩ (Ni.n _)) hm
      have cg_lk_1 : hlk.2 (B + 2) = some (aI 28700 (gn)) := Fr.at0 fr_lk (Ni.c ⟨ne3, ne4⟩ (Ni.n _)) w2
      refine g_iload 0 dX10_addTimes_8 rfl ?_
      refine g_bipush dX10_addTimes_10 (by decide) ?_
      refine g_icmp_gt (tgt := 101) dX10_addTimes_12 rfl (by unfold gW; omega) (by unfold gW; omega) (fun c102 => ?_) (fun c102 => ?_)
      · skip
        exact g_vret dX10_addTimes_101 rfl ⟨rfl, fr_lk, cf_lk_1, Or.inr ⟨by omega, by
      have hk9 : k = 41 := by omega
      have e9 := cf_lk_0
      rw [hk9] at e9
      exact e9⟩⟩
      · skip
        refine g_iconst dX10_addTimes_15 ?_
        refine g_istore (ls2 := [(6, .int (gI (0))), (5, .int (gI (k))), (0, .ref (B)), (1, .int (gI (c))), (2, .int (gI (i))), (3, .int (gI (j))), (4, .int (gI (b)))]) dX10_addTimes_16 (by decide) rfl ?_
        have ll : ∀ (kk : Nat) (l : Int) (hll : GH), kk = (7 - l).toNat → Fr [B + 3] h hll → hll.2 (B + 3) = some (aI 1500 (atL p gw (fun m => gn (287 * b + m)) c (7 * i + j) (7 * k + l))) → hll.2 (B + 4) = some (aI 1500 (gm)) → (0 ≤ l) → (l ≤ 7) → Go N mX10_addTimes (fun v h1 => v = none ∧ Fr [B + 3] h h1 ∧ h1.2 (B + 4) = some (aI 1500 gm) ∧ ((c = 0 ∧ h1.2 (B + 3) = some (aI 1500 gw)) ∨ (c ≠ 0 ∧ h1.2 (B + 3) = some (aI 1500 (atL p gw (fun m => gn (287 * b + m)) c (7 * i + j) 287))))) 0 0 hll 18 [(6, .int (gI (l))), (5, .int (gI (k))), (0, .ref (B)), (1, .int (gI (c))), (2, .int (gI (i))), (3, .int (gI (j))), (4, .int (gI (b)))] [] := by
          refine Go.ind (fun kk ih_ll => ?_)
          intro l hll hkk_ll fr_ll cf_ll_0 cf_ll_1 hl0 hl1
          have cg_ll_0 : hll.2 (B) = some (mO B ((p : Int)) (hf) (le) (fc) (pn) (rn) (hn) (qn)) := Fr.at0 fr_ll (Ni.c ⟨ne1, ne2⟩ (Ni.n _)) hm
          have cg_ll_1 : hll.2 (B + 2) = some (aI 28700 (gn)) := Fr.at0 fr_ll (Ni.c ⟨ne3, ne4⟩ (Ni.n _)) w2
          refine g_iload 0 dX10_addTimes_18 rfl ?_
          refine g_bipush dX10_addTimes_20 (by decide) ?_
          refine g_icmp_ge (tgt := 95) dX10_addTimes_22 rfl (by unfold gW; omega) (by unfold gW; omega) (fun c203 => ?_) (fun c203 => ?_)
          · skip
            refine g_iinc 1 (ls2 := [(5, .int (gI (k + 1))), (6, .int (gI (l))), (0, .ref (B)), (1, .int (gI (c))), (2, .int (gI (i))), (3, .int (gI (j))), (4, .int (gI (b)))]) dX10_addTimes_95 rfl (by decide) rfl ?_
            refine g_goto (tgt := 8) dX10_addTimes_98 rfl ?_
            refine Go.sub [0, 2, 3, 4, 5, 6] rfl ?_
            exact ih_lk _ (by omega) (k + 1) hll rfl fr_ll (by rw [show 7 * (k + 1) = 7 * k + l by omega]; exact cf_ll_0) cf_ll_1 (by omega) (by omega)
          · skip
            refine g_aload_n 2 dX10_addTimes_25 rfl ?_
            refine g_getf 2 dX10_addTimes_26 kX10 (by decide) fX10_13 cg_ll_0 rfl ?_
            refine g_iload 6 dX10_addTimes_29 rfl ?_
            refine g_iload 1 dX10_addTimes_31 rfl ?_
            refine g_iload 0 dX10_addTimes_33 rfl ?_
            refine g_callS (nc2 := 0) (ns2 := 0) (As := [.int (gI (b)), .int (gI (k)), .int (gI (l))]) (st := [.ref (B + 2)]) rfl dX10_addTimes_35 okX10_cellOf lX10_99 stX10_cellOf (by decide) (by decide) rfl (Nat.le_of_ble_eq_true rfl) (sM_cellOf N _ (b) (k) (l)) (by omega) (by omega) (fun v204 hc204 q204 => ?_)
            obtain ⟨hq205, rfl⟩ := q204
            refine Go.nf (h' := hll) (st' := [.int (gI (287 * (b) + 7 * (k) + (l))), .ref (B + 2)]) hq205 rfl (Nat.le_refl _) (Nat.le_refl _) ?_
            refine g_iaload dX10_addTimes_38 cg_ll_1 (by omega) (by omega) (by omega) ?_
            have hgv : gn (287 * b + 7 * k + l) = gn (287 * b + (7 * k + l)) := by rw [Int.add_assoc]
            rw [hgv]
            have hgb := hN.bd hp (k := 7 * k + l) (by omega) (by omega)
            have hgb2 : 0 ≤ gn (287 * b + (7 * k + l)) ∧ gn (287 * b + (7 * k + l)) < p := hgb
            refine g_istore (ls2 := [(7, .int (gI (gn (287 * b + (7 * k + l))))), (6, .int (gI (l))), (5, .int (gI (k))), (0, .ref (B)), (1, .int (gI (c))), (2, .int (gI (i))), (3, .int (gI (j))), (4, .int (gI (b)))]) dX10_addTimes_39 (by decide) rfl ?_
            refine g_iload 0 dX10_addTimes_41 rfl ?_
            refine g_if_eq (tgt := 89) dX10_addTimes_43 rfl (by unfold gW; omega) (fun c206 => ?_) (fun c206 => ?_)
            · skip
              have hz0 : gn (287 * b + (7 * k + l)) = 0 := by omega
              refine g_iinc 1 (ls2 := [(6, .int (gI (l + 1))), (7, .int (gI (gn (287 * b + (7 * k + l))))), (5, .int (gI (k))), (0, .ref (B)), (1, .int (gI (c))), (2, .int (gI (i))), (3, .int (gI (j))), (4, .int (gI (b)))]) dX10_addTimes_89 rfl (by decide) rfl ?_
              refine g_goto (tgt := 18) dX10_addTimes_92 rfl ?_
              refine Go.sub [0, 2, 3, 4, 5, 6, 7] rfl ?_
              exact ih_ll _ (by omega) (l + 1) hll rfl fr_ll (by
        have e8 := atL_z (p := p) gw (fun m => gn (287 * b + m)) (c := c) (sh := 7 * i + j) (t := 7 * k + l) hz0
        rw [← Int.add_assoc (7 * k), ← e8]
        exact cf_ll_0) cf_ll_1 (by omega) (by omega)
            · skip
              have hnz : gn (287 * b + (7 * k + l)) ≠ 0 := by omega
              refine g_bipush dX10_addTimes_46 (by decide) ?_
              refine g_iload_n 5 dX10_addTimes_48 rfl ?_
              refine g_iload 2 dX10_addTimes_49 rfl ?_
              refine g_iadd dX10_addTimes_51 ?_
              refine g_imul dX10_addTimes_52 ?_
              refine g_iload_n 6 dX10_addTimes_53 rfl ?_
              refine g_iadd dX10_addTimes_54 ?_
              refine g_iload 1 dX10_addTimes_55 rfl ?_
              refine g_iadd dX10_addTimes_57 ?_
              refine g_istore (ls2 := [(8, .int (gI ((((7) * ((i) + (k))) + (j)) + (l)))), (7, .int (gI (gn (287 * b + (7 * k + l))))), (6, .int (gI (l))), (5, .int (gI (k))), (0, .ref (B)), (1, .int (gI (c))), (2, .int (gI (i))), (3, .int (gI (j))), (4, .int (gI (b)))]) dX10_addTimes_58 (by decide) rfl ?_
              refine g_aload_n 4 dX10_addTimes_60 rfl ?_
              refine g_getf 3 dX10_addTimes_61 kX10 (by decide) fX10_17 cg_ll_0 rfl ?_
              refine g_iload 0 dX10_addTimes_64 rfl ?_
              refine g_aload_n 4 dX10_addTimes_66 rfl ?_
              refine g_getf 3 dX10_addTimes_67 kX10 (by decide) fX10_17 cg_ll_0 rfl ?_
              refine g_iload 0 dX10_addTimes_70 rfl ?_
              refine g_iaload dX10_addTimes_72 cf_ll_0 (by omega) (by omega) (by omega) ?_
              have erd : atL p gw (fun m => gn (287 * b + m)) c (7 * i + j) (7 * k + l) (7 * (i + k) + j + l) = gw (7 * (i + k) + j + l) := by
                rw [show 7 * (i + k) + j + l = 7 * i + j + (7 * k + l) by omega]; exact atL_at _ _ _ _ _
              rw [erd]
              have hgw := hV (7 * (i + k) + j + l) (by omega) (by omega)
              refine g_i2l dX10_addTimes_73 (by unfold gW; omega) ?_
              refine g_iload_n 5 dX10_addTimes_74 rfl ?_
              refine g_i2l dX10_addTimes_75 (by unfold gW; omega) ?_
              refine g_iload 1 dX10_addTimes_76 rfl ?_
              refine g_i2l dX10_addTimes_78 (by unfold gW; omega) ?_
              have bp := g_prod cc0 cc1 hgb2.1 hgb2.2 (show (p : Int) ≤ 65536 by omega)
              refine g_lmul dX10_addTimes_79 ?_
              refine g_ladd dX10_addTimes_80 ?_
              refine g_aload_n 4 dX10_addTimes_81 rfl ?_
              refine g_getf 0 dX10_addTimes_82 kX10 (by decide) fX10_78 cg_ll_0 rfl ?_
              refine g_i2l dX10_addTimes_85 (by unfold gW; omega) ?_
              refine g_lrem dX10_addTimes_86 (by unfold gX; omega) (by unfold gX; omega) (by omega) ?_
              rw [tm_em (show 0 ≤ gw (7 * (i + k) + j + l) + c * gn (287 * b + (7 * k + l)) by omega)]
              refine g_l2i dX10_addTimes_87 ?_
              refine g_iastore dX10_addTimes_88 cf_ll_0 (by omega) (by omega) (by omega) ?_
              obtain ⟨hh207, eh207⟩ : ∃ z : GH, z = hset hll (B + 3) (aI 1500 (gup (atL p gw (fun m => gn (287 * b + m)) c (7 * i + j) (7 * k + l)) ((((7) * ((i) + (k))) + (j)) + (l)) ((gw (7 * (i + k) + j + l) + c * gn (287 * b + (7 * k + l))) % p))) := ⟨_, rfl⟩
              refine Go.hp eh207.symm ?_
              have fh207_0 : hh207.2 (B) = some (mO B ((p : Int)) (hf) (le) (fc) (pn) (rn) (hn) (qn)) := hs_n eh207 ne1 cg_ll_0
              have fh207_1 : hh207.2 (B + 2) = some (aI 28700 (gn)) := hs_n eh207 ne3 cg_ll_1
              have fh207_2 : hh207.2 (B + 3) = some (aI 1500 (gup (atL p gw (fun m => gn (287 * b + m)) c (7 * i + j) (7 * k + l)) ((((7) * ((i) + (k))) + (j)) + (l)) ((gw (7 * (i + k) + j + l) + c * gn (287 * b + (7 * k + l))) % p))) := hs_s eh207
              have fh207_3 : hh207.2 (B + 4) = some (aI 1500 (gm)) := hs_n eh207 (ne5).s cf_ll_1
              have fr207 : Fr [B + 3] h hh207 := Fr.w0 fr_ll (List.Mem.head _) eh207
              refine g_iinc 2 (ls2 := [(6, .int (gI (l + 1))), (8, .int (gI ((((7) * ((i) + (k))) + (j)) + (l)))), (7, .int (gI (gn (287 * b + (7 * k + l))))), (5, .int (gI (k))), (0, .ref (B)), (1, .int (gI (c))), (2, .int (gI (i))), (3, .int (gI (j))), (4, .int (gI (b)))]) dX10_addTimes_89 rfl (by decide) rfl ?_
              refine g_goto (tgt := 18) dX10_addTimes_92 rfl ?_
              refine Go.sub [0, 3, 4, 5, 6, 7, 8] rfl ?_
              exact ih_ll _ (by omega) (l + 1) hh207 rfl fr207 (by
        have e9 := fh207_2
        rw [show 7 * (i + k) + j + l = 7 * i + j + (7 * k + l) by omega] at e9
        have e8 := atL_s (p := p) gw (fun m => gn (287 * b + m)) (c := c) (sh := 7 * i + j) (t := 7 * k + l) (by omega) hnz
        rw [← Int.add_assoc (7 * k), ← e8]
        exact e9) fh207_3 (by omega) (by omega)
        exact ll _ (0) hlk rfl fr_lk (by rw [Int.add_zero]; exact cf_lk_0) cf_lk_1 (by omega) (by omega)
    exact lk _ (0) h rfl (Fr.rf [B + 3] h) (by rw [Int.mul_zero, atL_0]; exact hw3) h4 (by omega) (by omega)
  · skip
    exact g_vret dX10_addTimes_4 rfl ⟨rfl, (Fr.rf [B + 3] h), h4, Or.inl ⟨by omega, hw3⟩⟩
