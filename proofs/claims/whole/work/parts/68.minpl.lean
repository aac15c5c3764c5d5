section
variable {p : Nat}
/-- a row of x as a table in the reference's order -/
def wR (f : Px p) (g : Int → Int) (n : Int) : Int → Int := fun m => if 0 ≤ m ∧ m < 7 * n ∧ m % 7 = 0 then cf f (m / 7) else g m
theorem wR_0 (f : Px p) (g : Int → Int) : wR f g 0 = g := funext fun m => by unfold wR; rw [if_neg (by omega)]
theorem wR_s (f : Px p) (g : Int → Int) {n : Int} (hn : 0 ≤ n) : gup (wR f g n) (7 * n) (cf f n) = wR f g (n + 1) := funext fun m => by
  unfold gup wR
  by_cases z : m = 7 * n
  · subst z; rw [if_pos rfl, if_pos (by omega), show 7 * n / 7 = n by omega]
  · rw [if_neg z]
    by_cases y : 0 ≤ m ∧ m < 7 * n ∧ m % 7 = 0
    · rw [if_pos y, if_pos (by omega)]
    · rw [if_neg y, if_neg (by omega)]
theorem wR_NW (h : prm p) {f : Px p} {g : Int → Int} (hg : NW (zF h) g) : NW (pF h f) (wR f g 41) := by
  refine NW_of h (fun k k0 k1 => ?_) (fun j i hj hi => ?_)
  · unfold wR
    split
    · exact cf_in f h _
    · exact hg.bd h k0 k1
  · unfold wR
    by_cases z : j = 0
    · subst z
      rw [if_pos (by omega), show (7 * (i : Int) + ((0 : Nat) : Int)) / 7 = (i : Int) by omega, cf_zi]
      rfl
    · rw [if_neg (by omega), hg.zi h hj hi]
      letI := pR h
      show _ = (if j = 0 then f else 0) i
      rw [if_neg z, zero_k]; rfl
end
set_option maxHeartbeats 4000000 in
set_option maxRecDepth 100000 in
theorem sM_inPlaceX (N : GN) (h : GH) (B p : Nat) (hp : prm p) (hp2 : p ≤ 65536) (hf le fc pn rn hn qn : Int) (T : PT p) (F G : Pxy p) (a b : Int) (a0 : 0 ≤ a) (a1 : a < 100) (ha : T a.toNat = some F) (b0 : 0 ≤ b) (b1 : b < 100) (hb : T b.toNat = some G) (hm : h.2 B = some (mO B p hf le fc pn rn hn qn)) (gm0 : Int → Int) (hT : MP hp B h T) (hw : MWA B h) (h4 : h.2 (B + 4) = some (aI 1500 gm0)) : Sp N yX10_inPlace mX10_inPlace 0 0 [.ref (B), .int (gI (a)), .int (gI (b)), .int (gI (1))] h (fun v h1 => Fr [B + 1, B + 3] h h1 ∧ (∃ g4, h1.2 (B + 4) = some (aI 1500 g4)) ∧ MWA B h1 ∧ ((hS hp F G true (dX hp F) (dX hp F + 1).toNat = none ∧ v = some (.int (gI (-4))) ∧ MP hp B h1 T) ∨ (∃ H w, hS hp F G true (dX hp F) (dX hp F + 1).toNat = some H ∧ isK T w ∧ v = some (.int (gI w)) ∧ MP hp B h1 (putT T w H)))) := by
  refine Sp.of (by decide) rfl rfl (Nat.le_of_ble_eq_true rfl) ?_
  show Go N mX10_inPlace _ 0 0 h 0 [(0, .ref (B)), (1, .int (gI (a))), (2, .int (gI (b))), (3, .int (gI (1)))] []
  have hp1 := hp.1
  have ne0 : NE (B) (B + 1) := by unfold NE; omega
  have ne1 : NE (B) (B + 2) := by unfold NE; omega
  have ne2 : NE (B) (B + 3) := by unfold NE; omega
  have ne3 : NE (B) (B + 4) := by unfold NE; omega
  have ne4 : NE (B + 1) (B + 2) := by unfold NE; omega
  have ne5 : NE (B + 1) (B + 3) := by unfold NE; omega
  have ne6 : NE (B + 1) (B + 4) := by unfold NE; omega
  have ne7 : NE (B + 2) (B + 3) := by unfold NE; omega
  have ne8 : NE (B + 2) (B + 4) := by unfold NE; omega
  have ne9 : NE (B + 3) (B + 4) := by unfold NE; omega
  have hT0 := hT
  obtain ⟨gt, gn, w1, w2, w3⟩ := hT0
  obtain ⟨hB, hN⟩ := MP_at w3 a0 a1 ha
  obtain ⟨hC, hNb⟩ := MP_at w3 b0 b1 hb
  have hdF := hB.dg.2.2
  have hdG := hC.dg.2.2
  refine g_iload_n 3 dX10_inPlace_0 rfl ?_
  refine g_if_eq (tgt := 12) dX10_inPlace_1 rfl (by first | (unfold gW; omega) | (unfold gW; split <;> omega)) (fun c1 => absurd c1 (by omega)) (fun c1 => ?_)
  refine g_aload_n 0 dX10_inPlace_4 rfl ?_
  refine g_iload_n 1 dX10_inPlace_5 rfl ?_
  refine g_callV (nc2 := 0) (ns2 := 0) (ci := 10) (As := [.int (gI (a))]) (st := []) rfl dX10_inPlace_6 okX10_degreeX lX10_154 itX10_degreeX seX10_degreeX rfl hm (by decide) (by decide) rfl (Nat.le_of_ble_eq_true rfl) (sM_degreeX N _ B p hp hp2 hf le fc pn rn hn qn T F a a0 a1 ha hm hT) (by omega) (by omega) (fun v2 hc2 q2 => ?_)
  obtain ⟨hq3, rfl⟩ := q2
  refine Go.nf (h' := h) (st' := [.int (gI (dX hp F))]) hq3 rfl (Nat.le_refl _) (Nat.le_refl _) ?_
  refine g_goto (tgt := 17) dX10_inPlace_9 rfl ?_
  refine g_istore (ls2 := [(4, .int (gI (dX hp F))), (0, .ref (B)), (1, .int (gI (a))), (2, .int (gI (b))), (3, .int (gI (1)))]) dX10_inPlace_17 (by decide) rfl ?_
  refine g_aload_n 1 dX10_inPlace_19 rfl ?_
  refine g_callV (nc2 := 0) (ns2 := 0) (ci := 10) (As := []) (st := []) rfl dX10_inPlace_20 okX10_clear lX10_107 itX10_clear seX10_clear rfl hm (by decide) (by decide) rfl (Nat.le_of_ble_eq_true rfl) (sM_clear N _ B p hp hp2 hf le fc pn rn hn qn (gm0) hm hw h4) (by omega) (by omega) (fun v4 hc4 q4 => ?_)
  obtain ⟨rfl, frc5, rn5_0, rn5_1⟩ := q4
  have fk6_0 : hc4.2 (B) = some (mO B ((p : Int)) (hf) (le) (fc) (pn) (rn) (hn) (qn)) := Fr.at0 frc5 (Ni.c ⟨ne2, ne3⟩ (Ni.n _)) hm
  have fk6_1 : hc4.2 (B + 2) = some (aI 28700 (gn)) := Fr.at0 frc5 (Ni.c ⟨ne7, ne8⟩ (Ni.n _)) w2
  have rk6_0 : MP hp B hc4 (T) := (hT).fr frc5 (Ni.c ⟨ne5, ne6⟩ (Ni.n _)) (Ni.c ⟨ne7, ne8⟩ (Ni.n _))
  have fr6 : Fr [B + 1, B + 3] h hc4 := ((Fr.rf [B + 1, B + 3] h)).tr ((frc5).mo (sub_c (List.Mem.tail _ (List.Mem.head _)) sub_n))
  refine Go.nf (h' := hc4) (st' := []) rfl rfl (Nat.le_refl _) (Nat.le_refl _) ?_
  refine g_aload_n 1 dX10_inPlace_23 rfl ?_
  refine g_iload_n 3 dX10_inPlace_24 rfl ?_
  refine g_callV (nc2 := 0) (ns2 := 0) (ci := 10) (As := [.int (gI (b))]) (st := []) rfl dX10_inPlace_25 okX10_isNought lX10_157 itX10_isNought seX10_isNought rfl fk6_0 (by decide) (by decide) rfl (Nat.le_of_ble_eq_true rfl) (sM_isNought N _ B p hp hp2 hf le fc pn rn hn qn T G b b0 b1 hb fk6_0 rk6_0) (by omega) (by omega) (fun v7 hc7 q7 => ?_)
  obtain ⟨hq8, rfl⟩ := q7
  refine Go.nf (h' := hc4) (st' := [.int (gI (if dX hp G < 0 then 1 else 0))]) hq8 rfl (Nat.le_refl _) (Nat.le_refl _) ?_
  refine g_istore (ls2 := [(5, .int (gI (if dX hp G < 0 then 1 else 0))), (4, .int (gI (dX hp F))), (0, .ref (B)), (1, .int (gI (a))), (2, .int (gI (b))), (3, .int (gI (1)))]) dX10_inPlace_28 (by decide) rfl ?_
  refine g_iload 1 dX10_inPlace_30 rfl ?_
  refine g_istore (ls2 := [(6, .int (gI (dX hp F))), (5, .int (gI (if dX hp G < 0 then 1 else 0))), (4, .int (gI (dX hp F))), (0, .ref (B)), (1, .int (gI (a))), (2, .int (gI (b))), (3, .int (gI (1)))]) dX10_inPlace_32 (by decide) rfl ?_
  have lk : ∀ (kk : Nat) (k : Int) (W : Pxy p) (gm : Int → Int) (hlk : GH), kk = (k + 1).toNat → Fr [B + 1, B + 3] h hlk → hlk.2 (B + 2) = some (aI 28700 (gn)) → hlk.2 (B + 4) = some (aI 1500 (gm)) → MP hp B hlk (T) → MW hp B hlk (W) → (-1 ≤ k ∧ k ≤ dX hp F) → (hS hp F G true (dX hp F) (dX hp F - k).toNat = some W) → Go N mX10_inPlace (fun v h1 => Fr [B + 1, B + 3] h h1 ∧ (∃ g4, h1.2 (B + 4) = some (aI 1500 g4)) ∧ MWA B h1 ∧ ((hS hp F G true (dX hp F) (dX hp F + 1).toNat = none ∧ v = some (.int (gI (-4))) ∧ MP hp B h1 T) ∨ (∃ H w, hS hp F G true (dX hp F) (dX hp F + 1).toNat = some H ∧ isK T w ∧ v = some (.int (gI w)) ∧ MP hp B h1 (putT T w H)))) 0 0 hlk 34 [(6, .int (gI (k))), (5, .int (gI (if dX hp G < 0 then 1 else 0))), (4, .int (gI (dX hp F))), (0, .ref (B)), (1, .int (gI (a))), (2, .int (gI (b))), (3, .int (gI (1)))] [] := by
    refine Go.ind (fun kk ih_lk => ?_)
    intro k W gm hlk hkk_lk fr_lk cf_lk_0 cf_lk_1 cr_lk_0 cr_lk_1 hk hH
    have cg_lk_0 : hlk.2 (B) = some (mO B ((p : Int)) (hf) (le) (fc) (pn) (rn) (hn) (qn)) := Fr.at0 fr_lk (Ni.c ⟨ne0, ne1⟩ (Ni.c ⟨ne2, ne3⟩ (Ni.n _))) hm
    refine g_iload 0 dX10_inPlace_34 rfl ?_
    refine g_if_lt (tgt := 313) dX10_inPlace_36 rfl (by first | (unfold gW; omega) | (unfold gW; split <;> omega)) (fun c109 => ?_) (fun c109 => ?_)
    · skip
      refine g_aload_n 3 dX10_inPlace_313 rfl ?_
      refine g_callV (nc2 := 0) (ns2 := 0) (ci := 10) (As := []) (st := []) rfl dX10_inPlace_314 okX10_keep lX10_114 itX10_keep seX10_keep rfl cg_lk_0 (by decide) (by decide) rfl (Nat.le_of_ble_eq_true rfl) (sM_keep N _ B p hp hp2 hf le fc pn rn hn qn T (W) cg_lk_0 cr_lk_0 cr_lk_1) (by omega) (by omega) (fun v110 hc110 q110 => ?_)
      obtain ⟨frc111, w111, hK111, rfl, mp111⟩ := q110
      have fk112_0 : hc110.2 (B) = some (mO B ((p : Int)) (hf) (le) (fc) (pn) (rn) (hn) (qn)) := Fr.at0 frc111 (Ni.c ⟨ne0, ne1⟩ (Ni.n _)) cg_lk_0
      have fk112_2 : hc110.2 (B + 4) = some (aI 1500 (gm)) := Fr.at0 frc111 (Ni.c ⟨(ne6).s, (ne8).s⟩ (Ni.n _)) cf_lk_1
      have rk112_1 : MW hp B hc110 (W) := (cr_lk_1).fr frc111 (Ni.c ⟨(ne5).s, (ne7).s⟩ (Ni.n _))
      have fr112 : Fr [B + 1, B + 3] h hc110 := (fr_lk).tr ((frc111).mo (sub_c (List.Mem.head _) sub_n))
      refine Go.nf (h' := hc110) (st' := [.int (gI (w111))]) rfl rfl (Nat.le_refl _) (Nat.le_refl _) ?_
      exact g_iret dX10_inPlace_317 rfl ⟨fr112, ⟨_, fk112_2⟩, (rk112_1).a, Or.inr ⟨W, w111, by
        have e9 : k = -1 := by omega
        rw [e9] at hH
        rw [show (dX hp F + 1).toNat = (dX hp F - -1).toNat by omega]
        exact hH, hK111, rfl, mp111⟩⟩
    · skip
      refine g_iconst dX10_inPlace_39 ?_
      refine g_istore (ls2 := [(7, .int (gI (-1))), (6, .int (gI (k))), (5, .int (gI (if dX hp G < 0 then 1 else 0))), (4, .int (gI (dX hp F))), (0, .ref (B)), (1, .int (gI (a))), (2, .int (gI (b))), (3, .int (gI (1)))]) dX10_inPlace_40 (by decide) rfl ?_
      refine g_iconst dX10_inPlace_42 ?_
      refine g_istore (ls2 := [(8, .int (gI (-1))), (7, .int (gI (-1))), (6, .int (gI (k))), (5, .int (gI (if dX hp G < 0 then 1 else 0))), (4, .int (gI (dX hp F))), (0, .ref (B)), (1, .int (gI (a))), (2, .int (gI (b))), (3, .int (gI (1)))]) dX10_inPlace_43 (by decide) rfl ?_
      refine g_iconst dX10_inPlace_45 ?_
      refine g_istore (ls2 := [(9, .int (gI (0))), (8, .int (gI (-1))), (7, .int (gI (-1))), (6, .int (gI (k))), (5, .int (gI (if dX hp G < 0 then 1 else 0))), (4, .int (gI (dX hp F))), (0, .ref (B)), (1, .int (gI (a))), (2, .int (gI (b))), (3, .int (gI (1)))]) dX10_inPlace_46 (by decide) rfl ?_
      obtain ⟨wB, gw, w3, wN, wV⟩ := cr_lk_1
      have hdW := wB.dg.2.2
      have lc : ∀ (kk : Nat) (c : Int) (dx : Int) (dy : Int) (hlc : GH), kk = (287 - c).toNat → Fr [B + 1, B + 3] h hlc → hlc.2 (B + 2) = some (aI 28700 (gn)) → hlc.2 (B + 4) = some (aI 1500 (gF gm gw c)) → hlc.2 (B + 3) = some (aI 1500 (gw)) → MP hp B hlc (T) → (0 ≤ c ∧ c ≤ 287) → (wI gw c dx dy) → Go N mX10_inPlace (fun v h1 => Fr [B + 1, B + 3] h h1 ∧ (∃ g4, h1.2 (B + 4) = some (aI 1500 g4)) ∧ MWA B h1 ∧ ((hS hp F G true (dX hp F) (dX hp F + 1).toNat = none ∧ v = some (.int (gI (-4))) ∧ MP hp B h1 T) ∨ (∃ H w, hS hp F G true (dX hp F) (dX hp F + 1).toNat = some H ∧ isK T w ∧ v = some (.int (gI w)) ∧ MP hp B h1 (putT T w H)))) 0 0 hlc 48 [(9, .int (gI (c))), (8, .int (gI (dy))), (7, .int (gI (dx))), (6, .int (gI (k))), (5, .int (gI (if dX hp G < 0 then 1 else 0))), (4, .int (gI (dX hp F))), (0, .ref (B)), (1, .int (gI (a))), (2, .int (gI (b))), (3, .int (gI (1)))] [] := by
        refine Go.ind (fun kk ih_lc => ?_)
        intro c dx dy hlc hkk_lc fr_lc cf_lc_0 cf_lc_1 cf_lc_2 cr_lc_0 hc hW
        have cg_lc_0 : hlc.2 (B) = some (mO B ((p : Int)) (hf) (le) (fc) (pn) (rn) (hn) (qn)) := Fr.at0 fr_lc (Ni.c ⟨ne0, ne1⟩ (Ni.c ⟨ne2, ne3⟩ (Ni.n _))) hm
        have hwi := wI_in hW hc.2
        refine g_iload 0 dX10_inPlace_48 rfl ?_
        refine g_sipush dX10_inPlace_50 (by decide) ?_
        refine g_icmp_ge (tgt := 130) dX10_inPlace_53 rfl (by first | (unfold gW; omega) | (unfold gW; split <;> omega)) (by first | (unfold gW; omega) | (unfold gW; split <;> omega)) (fun c213 => ?_) (fun c213 => ?_)
        · skip
          have hc9 : c = 287 := by omega
          rw [hc9] at hW
          have hde := wI_e hp hW wN wB
          have mwa214 : MWA B hlc := ⟨_, cf_lc_2⟩
          refine g_aload_n 6 dX10_inPlace_130 rfl ?_
          refine g_callV (nc2 := 0) (ns2 := 0) (ci := 10) (As := []) (st := []) rfl dX10_inPlace_131 okX10_clear lX10_107 itX10_clear seX10_clear rfl cg_lc_0 (by decide) (by decide) rfl (Nat.le_of_ble_eq_true rfl) (sM_clear N _ B p hp hp2 hf le fc pn rn hn qn (gF gm gw c) cg_lc_0 mwa214 cf_lc_1) (by omega) (by omega) (fun v215 hc215 q215 => ?_)
          obtain ⟨rfl, frc216, rn216_0, rn216_1⟩ := q215
          have fk217_0 : hc215.2 (B) = some (mO B ((p : Int)) (hf) (le) (fc) (pn) (rn) (hn) (qn)) := Fr.at0 frc216 (Ni.c ⟨ne2, ne3⟩ (Ni.n _)) cg_lc_0
          have fk217_1 : hc215.2 (B + 2) = some (aI 28700 (gn)) := Fr.at0 frc216 (Ni.c ⟨ne7, ne8⟩ (Ni.n _)) cf_lc_0
          have rk217_0 : MP hp B hc215 (T) := (cr_lc_0).fr frc216 (Ni.c ⟨ne5, ne6⟩ (Ni.n _)) (Ni.c ⟨ne7, ne8⟩ (Ni.n _))
          have fr217 : Fr [B + 1, B + 3] h hc215 := (fr_lc).tr ((frc216).mo (sub_c (List.Mem.tail _ (List.Mem.head _)) sub_n))
          refine Go.nf (h' := hc215) (st' := []) rfl rfl (Nat.le_refl _) (Nat.le_refl _) ?_
          refine g_iload 2 dX10_inPlace_134 rfl ?_
          refine g_iconst dX10_inPlace_136 ?_
          refine g_icmp_eq (tgt := 213) dX10_inPlace_137 rfl (by first | (unfold gW; omega) | (unfold gW; split <;> omega)) (by first | (unfold gW; omega) | (unfold gW; split <;> omega)) (fun c218 => ?_) (fun c218 => ?_)
          · skip
            have hM : mulC hp W G = some (zF hp) := by unfold mulC; rw [if_pos (by omega)]
            refine g_iconst dX10_inPlace_213 ?_
            refine g_istore (ls2 := [(9, .int (gI (0))), (8, .int (gI (dy))), (7, .int (gI (dx))), (6, .int (gI (k))), (5, .int (gI (if dX hp G < 0 then 1 else 0))), (4, .int (gI (dX hp F))), (0, .ref (B)), (1, .int (gI (a))), (2, .int (gI (b))), (3, .int (gI (1)))]) dX10_inPlace_214 (by decide) rfl ?_
            obtain ⟨yB, g, y3, yN, yV⟩ := rn216_1
            have ll : ∀ (kk : Nat) (l : Int) (hll : GH), kk = (41 - l).toNat → Fr [B + 1, B + 3] h hll → hll.2 (B + 2) = some (aI 28700 (gn)) → hll.2 (B + 4) = some (aI 1500 (gF gm gw c)) → hll.2 (B + 3) = some (aI 1500 (wX p g (fun m => gn (287 * a + (7 * k + m))) l)) → MP hp B hll (T) → (0 ≤ l ∧ l ≤ 7) → Go N mX10_inPlace (fun v h1 => Fr [B + 1, B + 3] h h1 ∧ (∃ g4, h1.2 (B + 4) = some (aI 1500 g4)) ∧ MWA B h1 ∧ ((hS hp F G true (dX hp F) (dX hp F + 1).toNat = none ∧ v = some (.int (gI (-4))) ∧ MP hp B h1 T) ∨ (∃ H w, hS hp F G true (dX hp F) (dX hp F + 1).toNat = some H ∧ isK T w ∧ v = some (.int (gI w)) ∧ MP hp B h1 (putT T w H)))) 0 0 hll 216 [(9, .int (gI (l))), (8, .int (gI (dy))), (7, .int (gI (dx))), (6, .int (gI (k))), (5, .int (gI (if dX hp G < 0 then 1 else 0))), (4, .int (gI (dX hp F))), (0, .ref (B)), (1, .int (gI (a))), (2, .int (gI (b))), (3, .int (gI (1)))] [] := by
              refine Go.ind (fun kk ih_ll => ?_)
              intro l hll hkk_ll fr_ll cf_ll_0 cf_ll_1 cf_ll_2 cr_ll_0 hl
              have cg_ll_0 : hll.2 (B) = some (mO B ((p : Int)) (hf) (le) (fc) (pn) (rn) (hn) (qn)) := Fr.at0 fr_ll (Ni.c ⟨ne0, ne1⟩ (Ni.c ⟨ne2, ne3⟩ (Ni.n _))) hm
              refine g_iload 0 dX10_inPlace_216 rfl ?_
              refine g_iload_n 9 dX10_inPlace_218 rfl ?_
              refine g_if_eq (tgt := 227) dX10_inPlace_219 rfl (by first | (unfold gW; omega) | (unfold gW; split <;> omega)) (fun c319 => absurd c319 (by omega)) (fun c319 => ?_)
              refine g_bipush dX10_inPlace_222 (by decide) ?_
              refine g_goto (tgt := 229) dX10_inPlace_224 rfl ?_
              refine g_icmp_ge (tgt := 307) dX10_inPlace_229 rfl (by first | (unfold gW; omega) | (unfold gW; split <;> omega)) (by first | (unfold gW; omega) | (unfold gW; split <;> omega)) (fun c320 => ?_) (fun c320 => ?_)
              · skip
                have hl9 : l = 7 := by omega
                have mw321 : MW hp B hll (slx hp F (zF hp) k.toNat) := ⟨slx_PB hp _ hB yB, _, cf_ll_2, by rw [hl9]; exact wX_NW hp (by omega) (by omega) hN yN hB, fun m m0 m1 => by
                    unfold wX
                    split
                    · exact em_in hp _
                    · exact yV m m0 m1⟩
                refine g_iinc 3 (ls2 := [(6, .int (gI (k + (-1)))), (9, .int (gI (l))), (8, .int (gI (dy))), (7, .int (gI (dx))), (5, .int (gI (if dX hp G < 0 then 1 else 0))), (4, .int (gI (dX hp F))), (0, .ref (B)), (1, .int (gI (a))), (2, .int (gI (b))), (3, .int (gI (1)))]) dX10_inPlace_307 rfl (by decide) rfl ?_
                refine g_goto (tgt := 34) dX10_inPlace_310 rfl ?_
                refine Go.sub [0, 4, 5, 6, 7, 8, 9] rfl ?_
                exact ih_lk _ (by omega) (k + (-1)) (slx hp F (zF hp) k.toNat) (gF gm gw c) hll rfl fr_ll cf_ll_0 cf_ll_1 cr_ll_0 mw321 (by omega) (by
        have e9 : (dX hp F - (k + (-1))).toNat = (dX hp F - k).toNat + 1 := by omega
        rw [e9]
        show (hS hp F G true (dX hp F) (dX hp F - k).toNat).bind _ = _
        rw [hH]
        show (mulC hp W G).map _ = _
        rw [hM]
        show some (if true then _ else _) = _
        rw [show (dX hp F - ((dX hp F - k).toNat : Nat)).toNat = k.toNat by omega]
        rfl)
              · skip
                refine g_iload_n 9 dX10_inPlace_232 rfl ?_
                refine g_if_eq (tgt := 241) dX10_inPlace_233 rfl (by first | (unfold gW; omega) | (unfold gW; split <;> omega)) (fun c322 => absurd c322 (by omega)) (fun c322 => ?_)
                refine g_iload 0 dX10_inPlace_236 rfl ?_
                refine g_goto (tgt := 246) dX10_inPlace_238 rfl ?_
                refine g_istore (ls2 := [(10, .int (gI (l))), (9, .int (gI (l))), (8, .int (gI (dy))), (7, .int (gI (dx))), (6, .int (gI (k))), (5, .int (gI (if dX hp G < 0 then 1 else 0))), (4, .int (gI (dX hp F))), (0, .ref (B)), (1, .int (gI (a))), (2, .int (gI (b))), (3, .int (gI (1)))]) dX10_inPlace_246 (by decide) rfl ?_
                refine g_aload_n 7 dX10_inPlace_248 rfl ?_
                refine g_getf 3 dX10_inPlace_249 kX10 (by decide) fX10_17 cg_ll_0 rfl ?_
                refine g_iload 0 dX10_inPlace_252 rfl ?_
                refine g_aload_n 7 dX10_inPlace_254 rfl ?_
                refine g_getf 3 dX10_inPlace_255 kX10 (by decide) fX10_17 cg_ll_0 rfl ?_
                refine g_iload 0 dX10_inPlace_258 rfl ?_
                refine g_iaload dX10_inPlace_260 cf_ll_2 (by omega) (by omega) (by omega) ?_
                have erd : wX p g (fun m => gn (287 * a + (7 * k + m))) l (l) = g (l) := wX_at _ _ _
                rw [erd]
                have hgb := yV (l) (by omega) (by omega)
                refine g_iload_n 10 dX10_inPlace_261 rfl ?_
                refine g_if_eq (tgt := 281) dX10_inPlace_262 rfl (by first | (unfold gW; omega) | (unfold gW; split <;> omega)) (fun c323 => absurd c323 (by omega)) (fun c323 => ?_)
                refine g_aload_n 7 dX10_inPlace_265 rfl ?_
                refine g_getf 2 dX10_inPlace_266 kX10 (by decide) fX10_13 cg_ll_0 rfl ?_
                refine g_iload_n 8 dX10_inPlace_269 rfl ?_
                refine g_iload 4 dX10_inPlace_270 rfl ?_
                refine g_iload 1 dX10_inPlace_272 rfl ?_
                refine g_callS (nc2 := 0) (ns2 := 0) (As := [.int (gI (a)), .int (gI (k)), .int (gI (l))]) (st := [.ref (B + 2), .int (gI (g (l))), .int (gI (l)), .ref (B + 3)]) rfl dX10_inPlace_274 okX10_cellOf lX10_99 stX10_cellOf (by decide) (by decide) rfl (Nat.le_of_ble_eq_true rfl) (sM_cellOf N _ (a) (k) (l)) (by omega) (by omega) (fun v324 hc324 q324 => ?_)
                obtain ⟨hq325, rfl⟩ := q324
                refine Go.nf (h' := hll) (st' := [.int (gI (287 * (a) + 7 * (k) + (l))), .ref (B + 2), .int (gI (g (l))), .int (gI (l)), .ref (B + 3)]) hq325 rfl (Nat.le_refl _) (Nat.le_refl _) ?_
                refine g_iaload dX10_inPlace_277 cf_ll_0 (by omega) (by omega) (by omega) ?_
                have egn : gn (287 * a + 7 * k + l) = gn (287 * a + (7 * k + l)) := by rw [Int.add_assoc]
                rw [egn]
                have hgn : 0 ≤ gn (287 * a + (7 * k + l)) ∧ gn (287 * a + (7 * k + l)) < p := hN.bd hp (k := 7 * k + l) (by omega) (by omega)
                refine g_goto (tgt := 294) dX10_inPlace_278 rfl ?_
                refine g_iadd dX10_inPlace_294 ?_
                refine g_aload_n 7 dX10_inPlace_295 rfl ?_
                refine g_getf 0 dX10_inPlace_296 kX10 (by decide) fX10_78 cg_ll_0 rfl ?_
                refine g_irem dX10_inPlace_299 (by unfold gW; omega) (by unfold gW; omega) (by omega) ?_
                rw [tm_em (show 0 ≤ g (l) + gn (287 * a + (7 * k + l)) by omega)]
                refine g_iastore dX10_inPlace_300 cf_ll_2 (by omega) (by omega) (by omega) ?_
                obtain ⟨hh326, eh326⟩ : ∃ z : GH, z = hset hll (B + 3) (aI 1500 (gup (wX p g (fun m => gn (287 * a + (7 * k + m))) l) (l) ((g (l) + gn (287 * a + (7 * k + l))) % p))) := ⟨_, rfl⟩
                refine Go.hp eh326.symm ?_
                have fh326_0 : hh326.2 (B) = some (mO B ((p : Int)) (hf) (le) (fc) (pn) (rn) (hn) (qn)) := hs_n eh326 ne2 cg_ll_0
                have fh326_1 : hh326.2 (B + 2) = some (aI 28700 (gn)) := hs_n eh326 ne7 cf_ll_0
                have fh326_2 : hh326.2 (B + 4) = some (aI 1500 (gF gm gw c)) := hs_n eh326 (ne9).s cf_ll_1
                have fh326_3 : hh326.2 (B + 3) = some (aI 1500 (gup (wX p g (fun m => gn (287 * a + (7 * k + m))) l) (l) ((g (l) + gn (287 * a + (7 * k + l))) % p))) := hs_s eh326
                have fx326 : Fr [B + 3] hll hh326 := Fr.w0 (Fr.rf _ _) (List.Mem.head _) eh326
                have rk326_0 : MP hp B hh326 (T) := (cr_ll_0).fr fx326 (Ni.c ⟨ne5, ne6⟩ (Ni.n _)) (Ni.c ⟨ne7, ne8⟩ (Ni.n _))
                have fr326 : Fr [B + 1, B + 3] h hh326 := Fr.w0 fr_ll (List.Mem.tail _ (List.Mem.head _)) eh326
                refine g_iinc 1 (ls2 := [(9, .int (gI (l + 1))), (10, .int (gI (l))), (8, .int (gI (dy))), (7, .int (gI (dx))), (6, .int (gI (k))), (5, .int (gI (if dX hp G < 0 then 1 else 0))), (4, .int (gI (dX hp F))), (0, .ref (B)), (1, .int (gI (a))), (2, .int (gI (b))), (3, .int (gI (1)))]) dX10_inPlace_301 rfl (by decide) rfl ?_
                refine g_goto (tgt := 216) dX10_inPlace_304 rfl ?_
                refine Go.sub [0, 2, 3, 4, 5, 6, 7, 8, 9, 10] rfl ?_
                exact ih_ll _ (by omega) (l + 1) hh326 rfl fr326 fh326_1 fh326_2 (by rw [← wX_s g (fun m => gn (287 * a + (7 * k + m))) hl.1]; exact fh326_3) rk326_0 (by omega)
            exact ll _ (0) hc215 rfl fr217 fk217_1 rn216_0 (by rw [wX_0]; exact y3) rk217_0 (by omega)
          · skip
            refine g_iload 4 dX10_inPlace_140 rfl ?_
            refine g_if_ne (tgt := 213) dX10_inPlace_142 rfl (by first | (unfold gW; omega) | (unfold gW; split <;> omega)) (fun c427 => ?_) (fun c427 => ?_)
            · skip
              have hnG : dX hp G < 0 := by
                by_cases z : dX hp G < 0
                · exact z
                · rw [if_neg z] at c427; omega
              clear c427
              have hM : mulC hp W G = some (zF hp) := by unfold mulC; rw [if_pos (by omega)]
              refine g_iconst dX10_inPlace_213 ?_
              refine g_istore (ls2 := [(9, .int (gI (0))), (8, .int (gI (dy))), (7, .int (gI (dx))), (6, .int (gI (k))), (5, .int (gI (if dX hp G < 0 then 1 else 0))), (4, .int (gI (dX hp F))), (0, .ref (B)), (1, .int (gI (a))), (2, .int (gI (b))), (3, .int (gI (1)))]) dX10_inPlace_214 (by decide) rfl ?_
              obtain ⟨yB, g, y3, yN, yV⟩ := rn216_1
              have ll : ∀ (kk : Nat) (l : Int) (hll : GH), kk = (41 - l).toNat → Fr [B + 1, B + 3] h hll → hll.2 (B + 2) = some (aI 28700 (gn)) → hll.2 (B + 4) = some (aI 1500 (gF gm gw c)) → hll.2 (B + 3) = some (aI 1500 (wX p g (fun m => gn (287 * a + (7 * k + m))) l)) → MP hp B hll (T) → (0 ≤ l ∧ l ≤ 7) → Go N mX10_inPlace (fun v h1 => Fr [B + 1, B + 3] h h1 ∧ (∃ g4, h1.2 (B + 4) = some (aI 1500 g4)) ∧ MWA B h1 ∧ ((hS hp F G true (dX hp F) (dX hp F + 1).toNat = none ∧ v = some (.int (gI (-4))) ∧ MP hp B h1 T) ∨ (∃ H w, hS hp F G true (dX hp F) (dX hp F + 1).toNat = some H ∧ isK T w ∧ v = some (.int (gI w)) ∧ MP hp B h1 (putT T w H)))) 0 0 hll 216 [(9, .int (gI (l))), (8, .int (gI (dy))), (7, .int (gI (dx))), (6, .int (gI (k))), (5, .int (gI (if dX hp G < 0 then 1 else 0))), (4, .int (gI (dX hp F))), (0, .ref (B)), (1, .int (gI (a))), (2, .int (gI (b))), (3, .int (gI (1)))] [] := by
                refine Go.ind (fun kk ih_ll => ?_)
                intro l hll hkk_ll fr_ll cf_ll_0 cf_ll_1 cf_ll_2 cr_ll_0 hl
                have cg_ll_0 : hll.2 (B) = some (mO B ((p : Int)) (hf) (le) (fc) (pn) (rn) (hn) (qn)) := Fr.at0 fr_ll (Ni.c ⟨ne0, ne1⟩ (Ni.c ⟨ne2, ne3⟩ (Ni.n _))) hm
                refine g_iload 0 dX10_inPlace_216 rfl ?_
                refine g_iload_n 9 dX10_inPlace_218 rfl ?_
                refine g_if_eq (tgt := 227) dX10_inPlace_219 rfl (by first | (unfold gW; omega) | (unfold gW; split <;> omega)) (fun c528 => absurd c528 (by omega)) (fun c528 => ?_)
                refine g_bipush dX10_inPlace_222 (by decide) ?_
                refine g_goto (tgt := 229) dX10_inPlace_224 rfl ?_
                refine g_icmp_ge (tgt := 307) dX10_inPlace_229 rfl (by first | (unfold gW; omega) | (unfold gW; split <;> omega)) (by first | (unfold gW; omega) | (unfold gW; split <;> omega)) (fun c529 => ?_) (fun c529 => ?_)
                · skip
                  have hl9 : l = 7 := by omega
                  have mw530 : MW hp B hll (slx hp F (zF hp) k.toNat) := ⟨slx_PB hp _ hB yB, _, cf_ll_2, by rw [hl9]; exact wX_NW hp (by omega) (by omega) hN yN hB, fun m m0 m1 => by
                      unfold wX
                      split
                      · exact em_in hp _
                      · exact yV m m0 m1⟩
                  refine g_iinc 3 (ls2 := [(6, .int (gI (k + (-1)))), (9, .int (gI (l))), (8, .int (gI (dy))), (7, .int (gI (dx))), (5, .int (gI (if dX hp G < 0 then 1 else 0))), (4, .int (gI (dX hp F))), (0, .ref (B)), (1, .int (gI (a))), (2, .int (gI (b))), (3, .int (gI (1)))]) dX10_inPlace_307 rfl (by decide) rfl ?_
                  refine g_goto (tgt := 34) dX10_inPlace_310 rfl ?_
                  refine Go.sub [0, 4, 5, 6, 7, 8, 9] rfl ?_
                  exact ih_lk _ (by omega) (k + (-1)) (slx hp F (zF hp) k.toNat) (gF gm gw c) hll rfl fr_ll cf_ll_0 cf_ll_1 cr_ll_0 mw530 (by omega) (by
        have e9 : (dX hp F - (k + (-1))).toNat = (dX hp F - k).toNat + 1 := by omega
        rw [e9]
        show (hS hp F G true (dX hp F) (dX hp F - k).toNat).bind _ = _
        rw [hH]
        show (mulC hp W G).map _ = _
        rw [hM]
        show some (if true then _ else _) = _
        rw [show (dX hp F - ((dX hp F - k).toNat : Nat)).toNat = k.toNat by omega]
        rfl)
                · skip
                  refine g_iload_n 9 dX10_inPlace_232 rfl ?_
                  refine g_if_eq (tgt := 241) dX10_inPlace_233 rfl (by first | (unfold gW; omega) | (unfold gW; split <;> omega)) (fun c531 => absurd c531 (by omega)) (fun c531 => ?_)
                  refine g_iload 0 dX10_inPlace_236 rfl ?_
                  refine g_goto (tgt := 246) dX10_inPlace_238 rfl ?_
                  refine g_istore (ls2 := [(10, .int (gI (l))), (9, .int (gI (l))), (8, .int (gI (dy))), (7, .int (gI (dx))), (6, .int (gI (k))), (5, .int (gI (if dX hp G < 0 then 1 else 0))), (4, .int (gI (dX hp F))), (0, .ref (B)), (1, .int (gI (a))), (2, .int (gI (b))), (3, .int (gI (1)))]) dX10_inPlace_246 (by decide) rfl ?_
                  refine g_aload_n 7 dX10_inPlace_248 rfl ?_
                  refine g_getf 3 dX10_inPlace_249 kX10 (by decide) fX10_17 cg_ll_0 rfl ?_
                  refine g_iload 0 dX10_inPlace_252 rfl ?_
                  refine g_aload_n 7 dX10_inPlace_254 rfl ?_
                  refine g_getf 3 dX10_inPlace_255 kX10 (by decide) fX10_17 cg_ll_0 rfl ?_
                  refine g_iload 0 dX10_inPlace_258 rfl ?_
                  refine g_iaload dX10_inPlace_260 cf_ll_2 (by omega) (by omega) (by omega) ?_
                  have erd : wX p g (fun m => gn (287 * a + (7 * k + m))) l (l) = g (l) := wX_at _ _ _
                  rw [erd]
                  have hgb := yV (l) (by omega) (by omega)
                  refine g_iload_n 10 dX10_inPlace_261 rfl ?_
                  refine g_if_eq (tgt := 281) dX10_inPlace_262 rfl (by first | (unfold gW; omega) | (unfold gW; split <;> omega)) (fun c532 => absurd c532 (by omega)) (fun c532 => ?_)
                  refine g_aload_n 7 dX10_inPlace_265 rfl ?_
                  refine g_getf 2 dX10_inPlace_266 kX10 (by decide) fX10_13 cg_ll_0 rfl ?_
                  refine g_iload_n 8 dX10_inPlace_269 rfl ?_
                  refine g_iload 4 dX10_inPlace_270 rfl ?_
                  refine g_iload 1 dX10_inPlace_272 rfl ?_
                  refine g_callS (nc2 := 0) (ns2 := 0) (As := [.int (gI (a)), .int (gI (k)), .int (gI (l))]) (st := [.ref (B + 2), .int (gI (g (l))), .int (gI (l)), .ref (B + 3)]) rfl dX10_inPlace_274 okX10_cellOf lX10_99 stX10_cellOf (by decide) (by decide) rfl (Nat.le_of_ble_eq_true rfl) (sM_cellOf N _ (a) (k) (l)) (by omega) (by omega) (fun v533 hc533 q533 => ?_)
                  obtain ⟨hq534, rfl⟩ := q533
                  refine Go.nf (h' := hll) (st' := [.int (gI (287 * (a) + 7 * (k) + (l))), .ref (B + 2), .int (gI (g (l))), .int (gI (l)), .ref (B + 3)]) hq534 rfl (Nat.le_refl _) (Nat.le_refl _) ?_
                  refine g_iaload dX10_inPlace_277 cf_ll_0 (by omega) (by omega) (by omega) ?_
                  have egn : gn (287 * a + 7 * k + l) = gn (287 * a + (7 * k + l)) := by rw [Int.add_assoc]
                  rw [egn]
                  have hgn : 0 ≤ gn (287 * a + (7 * k + l)) ∧ gn (287 * a + (7 * k + l)) < p := hN.bd hp (k := 7 * k + l) (by omega) (by omega)
                  refine g_goto (tgt := 294) dX10_inPlace_278 rfl ?_
                  refine g_iadd dX10_inPlace_294 ?_
                  refine g_aload_n 7 dX10_inPlace_295 rfl ?_
                  refine g_getf 0 dX10_inPlace_296 kX10 (by decide) fX10_78 cg_ll_0 rfl ?_
                  refine g_irem dX10_inPlace_299 (by unfold gW; omega) (by unfold gW; omega) (by omega) ?_
                  rw [tm_em (show 0 ≤ g (l) + gn (287 * a + (7 * k + l)) by omega)]
                  refine g_iastore dX10_inPlace_300 cf_ll_2 (by omega) (by omega) (by omega) ?_
                  obtain ⟨hh535, eh535⟩ : ∃ z : GH, z = hset hll (B + 3) (aI 1500 (gup (wX p g (fun m => gn (287 * a + (7 * k + m))) l) (l) ((g (l) + gn (287 * a + (7 * k + l))) % p))) := ⟨_, rfl⟩
                  refine Go.hp eh535.symm ?_
                  have fh535_0 : hh535.2 (B) = some (mO B ((p : Int)) (hf) (le) (fc) (pn) (rn) (hn) (qn)) := hs_n eh535 ne2 cg_ll_0
                  have fh535_1 : hh535.2 (B + 2) = some (aI 28700 (gn)) := hs_n eh535 ne7 cf_ll_0
                  have fh535_2 : hh535.2 (B + 4) = some (aI 1500 (gF gm gw c)) := hs_n eh535 (ne9).s cf_ll_1
                  have fh535_3 : hh535.2 (B + 3) = some (aI 1500 (gup (wX p g (fun m => gn (287 * a + (7 * k + m))) l) (l) ((g (l) + gn (287 * a + (7 * k + l))) % p))) := hs_s eh535
                  have fx535 : Fr [B + 3] hll hh535 := Fr.w0 (Fr.rf _ _) (List.Mem.head _) eh535
                  have rk535_0 : MP hp B hh535 (T) := (cr_ll_0).fr fx535 (Ni.c ⟨ne5, ne6⟩ (Ni.n _)) (Ni.c ⟨ne7, ne8⟩ (Ni.n _))
                  have fr535 : Fr [B + 1, B + 3] h hh535 := Fr.w0 fr_ll (List.Mem.tail _ (List.Mem.head _)) eh535
                  refine g_iinc 1 (ls2 := [(9, .int (gI (l + 1))), (10, .int (gI (l))), (8, .int (gI (dy))), (7, .int (gI (dx))), (6, .int (gI (k))), (5, .int (gI (if dX hp G < 0 then 1 else 0))), (4, .int (gI (dX hp F))), (0, .ref (B)), (1, .int (gI (a))), (2, .int (gI (b))), (3, .int (gI (1)))]) dX10_inPlace_301 rfl (by decide) rfl ?_
                  refine g_goto (tgt := 216) dX10_inPlace_304 rfl ?_
                  refine Go.sub [0, 2, 3, 4, 5, 6, 7, 8, 9, 10] rfl ?_
                  exact ih_ll _ (by omega) (l + 1) hh535 rfl fr535 fh535_1 fh535_2 (by rw [← wX_s g (fun m => gn (287 * a + (7 * k + m))) hl.1]; exact fh535_3) rk535_0 (by omega)
              exact ll _ (0) hc215 rfl fr217 fk217_1 rn216_0 (by rw [wX_0]; exact y3) rk217_0 (by omega)
            · skip
              have hnG : ¬ dX hp G < 0 := fun z => by rw [if_pos z] at c427; omega
              clear c427
              refine g_iload 2 dX10_inPlace_145 rfl ?_
              refine g_aload_n 6 dX10_inPlace_147 rfl ?_
              refine g_iload_n 8 dX10_inPlace_148 rfl ?_
              refine g_callV (nc2 := 0) (ns2 := 0) (ci := 10) (As := [.int (gI (b))]) (st := [.int (gI (dx))]) rfl dX10_inPlace_149 okX10_degreeX lX10_154 itX10_degreeX seX10_degreeX rfl fk217_0 (by decide) (by decide) rfl (Nat.le_of_ble_eq_true rfl) (sM_degreeX N _ B p hp hp2 hf le fc pn rn hn qn T G b b0 b1 hb fk217_0 rk217_0) (by omega) (by omega) (fun v636 hc636 q636 => ?_)
              obtain ⟨hq637, rfl⟩ := q636
              refine Go.nf (h' := hc215) (st' := [.int (gI (dX hp G)), .int (gI (dx))]) hq637 rfl (Nat.le_refl _) (Nat.le_refl _) ?_
              refine g_iadd dX10_inPlace_152 ?_
              refine g_bipush dX10_inPlace_153 (by decide) ?_
              refine g_icmp_gt (tgt := 171) dX10_inPlace_155 rfl (by first | (unfold gW; omega) | (unfold gW; split <;> omega)) (by first | (unfold gW; omega) | (unfold gW; split <;> omega)) (fun c638 => ?_) (fun c638 => ?_)
              · skip
                refine g_bipush dX10_inPlace_171 (by decide) ?_
                exact g_iret dX10_inPlace_173 rfl ⟨fr217, ⟨_, rn216_0⟩, (rn216_1).a, Or.inl ⟨hS_none hp (n := (dX hp F - k).toNat + 1) (by
        show (hS hp F G true (dX hp F) (dX hp F - k).toNat).bind _ = _
        rw [hH]
        show (mulC hp W G).map _ = _
        rw [show mulC hp W G = none by unfold mulC; rw [if_neg (by omega), if_pos (by omega)]]; rfl) _ (by omega), rfl, rk217_0⟩⟩
              · skip
                refine g_iload 1 dX10_inPlace_158 rfl ?_
                refine g_aload_n 6 dX10_inPlace_160 rfl ?_
                refine g_iload_n 8 dX10_inPlace_161 rfl ?_
                refine g_callV (nc2 := 0) (ns2 := 0) (ci := 10) (As := [.int (gI (b))]) (st := [.int (gI (dy))]) rfl dX10_inPlace_162 okX10_degreeY lX10_103 itX10_degreeY seX10_degreeY rfl fk217_0 (by decide) (by decide) rfl (Nat.le_of_ble_eq_true rfl) (sM_degreeY N _ B p hp hp2 hf le fc pn rn hn qn T G b b0 b1 hb fk217_0 rk217_0) (by omega) (by omega) (fun v639 hc639 q639 => ?_)
                obtain ⟨hq640, rfl⟩ := q639
                refine Go.nf (h' := hc215) (st' := [.int (gI (dY hp G)), .int (gI (dy))]) hq640 rfl (Nat.le_refl _) (Nat.le_refl _) ?_
                refine g_iadd dX10_inPlace_165 ?_
                refine g_bipush dX10_inPlace_166 (by decide) ?_
                refine g_icmp_le (tgt := 174) dX10_inPlace_168 rfl (by first | (unfold gW; omega) | (unfold gW; split <;> omega)) (by first | (unfold gW; omega) | (unfold gW; split <;> omega)) (fun c641 => ?_) (fun c641 => ?_)
                · skip
                  refine g_iconst dX10_inPlace_174 ?_
                  refine g_istore (ls2 := [(9, .int (gI (0))), (8, .int (gI (dy))), (7, .int (gI (dx))), (6, .int (gI (k))), (5, .int (gI (if dX hp G < 0 then 1 else 0))), (4, .int (gI (dX hp F))), (0, .ref (B)), (1, .int (gI (a))), (2, .int (gI (b))), (3, .int (gI (1)))]) dX10_inPlace_175 (by decide) rfl ?_
                  obtain ⟨zB, gz, z3, zN, zV⟩ := rn216_1
                  have lm : ∀ (kk : Nat) (c2 : Int) (gk : Int → Int) (hlm : GH), kk = (287 - c2).toNat → Fr [B + 1, B + 3] h hlm → hlm.2 (B + 2) = some (aI 28700 (gn)) → hlm.2 (B + 4) = some (aI 1500 (gF gm gw c)) → hlm.2 (B + 3) = some (aI 1500 (gk)) → MP hp B hlm (T) → (0 ≤ c2 ∧ c2 ≤ 287) → (mwI hp W G c2 gk) → (∀ k, 0 ≤ k → k < 1500 → 0 ≤ gk k ∧ gk k < p) → Go N mX10_inPlace (fun v h1 => Fr [B + 1, B + 3] h h1 ∧ (∃ g4, h1.2 (B + 4) = some (aI 1500 g4)) ∧ MWA B h1 ∧ ((hS hp F G true (dX hp F) (dX hp F + 1).toNat = none ∧ v = some (.int (gI (-4))) ∧ MP hp B h1 T) ∨ (∃ H w, hS hp F G true (dX hp F) (dX hp F + 1).toNat = some H ∧ isK T w ∧ v = some (.int (gI w)) ∧ MP hp B h1 (putT T w H)))) 0 0 hlm 177 [(9, .int (gI (c2))), (8, .int (gI (dy))), (7, .int (gI (dx))), (6, .int (gI (k))), (5, .int (gI (if dX hp G < 0 then 1 else 0))), (4, .int (gI (dX hp F))), (0, .ref (B)), (1, .int (gI (a))), (2, .int (gI (b))), (3, .int (gI (1)))] [] := by
                    refine Go.ind (fun kk ih_lm => ?_)
                    intro c2 gk hlm hkk_lm fr_lm cf_lm_0 cf_lm_1 cf_lm_2 cr_lm_0 hc2 hK1 hVV
                    have cg_lm_0 : hlm.2 (B) = some (mO B ((p : Int)) (hf) (le) (fc) (pn) (rn) (hn) (qn)) := Fr.at0 fr_lm (Ni.c ⟨ne0, ne1⟩ (Ni.c ⟨ne2, ne3⟩ (Ni.n _))) hm
                    refine g_iload 0 dX10_inPlace_177 rfl ?_
                    refine g_sipush dX10_inPlace_179 (by decide) ?_
                    refine g_icmp_ge (tgt := 213) dX10_inPlace_182 rfl (by first | (unfold gW; omega) | (unfold gW; split <;> omega)) (by first | (unfold gW; omega) | (unfold gW; split <;> omega)) (fun c742 => ?_) (fun c742 => ?_)
                    · skip
                      have hc8 : c2 = 287 := by omega
                      rw [hc8] at hK1
                      have mw743 : MW hp B hlm (yml hp W G) := ⟨yml_PB hp wB hC (by omega) (by omega), _, cf_lm_2, mw_end hp wB hK1, hVV⟩
                      have hM : mulC hp W G = some (yml hp W G) := by unfold mulC; rw [if_neg (by omega), if_neg (by omega)]
                      refine g_iconst dX10_inPlace_213 ?_
                      refine g_istore (ls2 := [(9, .int (gI (0))), (8, .int (gI (dy))), (7, .int (gI (dx))), (6, .int (gI (k))), (5, .int (gI (if dX hp G < 0 then 1 else 0))), (4, .int (gI (dX hp F))), (0, .ref (B)), (1, .int (gI (a))), (2, .int (gI (b))), (3, .int (gI (1)))]) dX10_inPlace_214 (by decide) rfl ?_
                      obtain ⟨yB, g, y3, yN, yV⟩ := mw743
                      have ll : ∀ (kk : Nat) (l : Int) (hll : GH), kk = (41 - l).toNat → Fr [B + 1, B + 3] h hll → hll.2 (B + 2) = some (aI 28700 (gn)) → hll.2 (B + 4) = some (aI 1500 (gF gm gw c)) → hll.2 (B + 3) = some (aI 1500 (wX p g (fun m => gn (287 * a + (7 * k + m))) l)) → MP hp B hll (T) → (0 ≤ l ∧ l ≤ 7) → Go N mX10_inPlace (fun v h1 => Fr [B + 1, B + 3] h h1 ∧ (∃ g4, h1.2 (B + 4) = some (aI 1500 g4)) ∧ MWA B h1 ∧ ((hS hp F G true (dX hp F) (dX hp F + 1).toNat = none ∧ v = some (.int (gI (-4))) ∧ MP hp B h1 T) ∨ (∃ H w, hS hp F G true (dX hp F) (dX hp F + 1).toNat = some H ∧ isK T w ∧ v = some (.int (gI w)) ∧ MP hp B h1 (putT T w H)))) 0 0 hll 216 [(9, .int (gI (l))), (8, .int (gI (dy))), (7, .int (gI (dx))), (6, .int (gI (k))), (5, .int (gI (if dX hp G < 0 then 1 else 0))), (4, .int (gI (dX hp F))), (0, .ref (B)), (1, .int (gI (a))), (2, .int (gI (b))), (3, .int (gI (1)))] [] := by
                        refine Go.ind (fun kk ih_ll => ?_)
                        intro l hll hkk_ll fr_ll cf_ll_0 cf_ll_1 cf_ll_2 cr_ll_0 hl
                        have cg_ll_0 : hll.2 (B) = some (mO B ((p : Int)) (hf) (le) (fc) (pn) (rn) (hn) (qn)) := Fr.at0 fr_ll (Ni.c ⟨ne0, ne1⟩ (Ni.c ⟨ne2, ne3⟩ (Ni.n _))) hm
                        refine g_iload 0 dX10_inPlace_216 rfl ?_
                        refine g_iload_n 9 dX10_inPlace_218 rfl ?_
                        refine g_if_eq (tgt := 227) dX10_inPlace_219 rfl (by first | (unfold gW; omega) | (unfold gW; split <;> omega)) (fun c844 => absurd c844 (by omega)) (fun c844 => ?_)
                        refine g_bipush dX10_inPlace_222 (by decide) ?_
                        refine g_goto (tgt := 229) dX10_inPlace_224 rfl ?_
                        refine g_icmp_ge (tgt := 307) dX10_inPlace_229 rfl (by first | (unfold gW; omega) | (unfold gW; split <;> omega)) (by first | (unfold gW; omega) | (unfold gW; split <;> omega)) (fun c845 => ?_) (fun c845 => ?_)
                        · skip
                          have hl9 : l = 7 := by omega
                          have mw846 : MW hp B hll (slx hp F (yml hp W G) k.toNat) := ⟨slx_PB hp _ hB yB, _, cf_ll_2, by rw [hl9]; exact wX_NW hp (by omega) (by omega) hN yN hB, fun m m0 m1 => by
                              unfold wX
                              split
                              · exact em_in hp _
                              · exact yV m m0 m1⟩
                          refine g_iinc 3 (ls2 := [(6, .int (gI (k + (-1)))), (9, .int (gI (l))), (8, .int (gI (dy))), (7, .int (gI (dx))), (5, .int (gI (if dX hp G < 0 then 1 else 0))), (4, .int (gI (dX hp F))), (0, .ref (B)), (1, .int (gI (a))), (2, .int (gI (b))), (3, .int (gI (1)))]) dX10_inPlace_307 rfl (by decide) rfl ?_
                          refine g_goto (tgt := 34) dX10_inPlace_310 rfl ?_
                          refine Go.sub [0, 4, 5, 6, 7, 8, 9] rfl ?_
                          exact ih_lk _ (by omega) (k + (-1)) (slx hp F (yml hp W G) k.toNat) (gF gm gw c) hll rfl fr_ll cf_ll_0 cf_ll_1 cr_ll_0 mw846 (by omega) (by
        have e9 : (dX hp F - (k + (-1))).toNat = (dX hp F - k).toNat + 1 := by omega
        rw [e9]
        show (hS hp F G true (dX hp F) (dX hp F - k).toNat).bind _ = _
        rw [hH]
        show (mulC hp W G).map _ = _
        rw [hM]
        show some (if true then _ else _) = _
        rw [show (dX hp F - ((dX hp F - k).toNat : Nat)).toNat = k.toNat by omega]
        rfl)
                        · skip
                          refine g_iload_n 9 dX10_inPlace_232 rfl ?_
                          refine g_if_eq (tgt := 241) dX10_inPlace_233 rfl (by first | (unfold gW; omega) | (unfold gW; split <;> omega)) (fun c847 => absurd c847 (by omega)) (fun c847 => ?_)
                          refine g_iload 0 dX10_inPlace_236 rfl ?_
                          refine g_goto (tgt := 246) dX10_inPlace_238 rfl ?_
                          refine g_istore (ls2 := [(10, .int (gI (l))), (9, .int (gI (l))), (8, .int (gI (dy))), (7, .int (gI (dx))), (6, .int (gI (k))), (5, .int (gI (if dX hp G < 0 then 1 else 0))), (4, .int (gI (dX hp F))), (0, .ref (B)), (1, .int (gI (a))), (2, .int (gI (b))), (3, .int (gI (1)))]) dX10_inPlace_246 (by decide) rfl ?_
                          refine g_aload_n 7 dX10_inPlace_248 rfl ?_
                          refine g_getf 3 dX10_inPlace_249 kX10 (by decide) fX10_17 cg_ll_0 rfl ?_
                          refine g_iload 0 dX10_inPlace_252 rfl ?_
                          refine g_aload_n 7 dX10_inPlace_254 rfl ?_
                          refine g_getf 3 dX10_inPlace_255 kX10 (by decide) fX10_17 cg_ll_0 rfl ?_
                          refine g_iload 0 dX10_inPlace_258 rfl ?_
                          refine g_iaload dX10_inPlace_260 cf_ll_2 (by omega) (by omega) (by omega) ?_
                          have erd : wX p g (fun m => gn (287 * a + (7 * k + m))) l (l) = g (l) := wX_at _ _ _
                          rw [erd]
                          have hgb := yV (l) (by omega) (by omega)
                          refine g_iload_n 10 dX10_inPlace_261 rfl ?_
                          refine g_if_eq (tgt := 281) dX10_inPlace_262 rfl (by first | (unfold gW; omega) | (unfold gW; split <;> omega)) (fun c848 => absurd c848 (by omega)) (fun c848 => ?_)
                          refine g_aload_n 7 dX10_inPlace_265 rfl ?_
                          refine g_getf 2 dX10_inPlace_266 kX10 (by decide) fX10_13 cg_ll_0 rfl ?_
                          refine g_iload_n 8 dX10_inPlace_269 rfl ?_
                          refine g_iload 4 dX10_inPlace_270 rfl ?_
                          refine g_iload 1 dX10_inPlace_272 rfl ?_
                          refine g_callS (nc2 := 0) (ns2 := 0) (As := [.int (gI (a)), .int (gI (k)), .int (gI (l))]) (st := [.ref (B + 2), .int (gI (g (l))), .int (gI (l)), .ref (B + 3)]) rfl dX10_inPlace_274 okX10_cellOf lX10_99 stX10_cellOf (by decide) (by decide) rfl (Nat.le_of_ble_eq_true rfl) (sM_cellOf N _ (a) (k) (l)) (by omega) (by omega) (fun v849 hc849 q849 => ?_)
                          obtain ⟨hq850, rfl⟩ := q849
                          refine Go.nf (h' := hll) (st' := [.int (gI (287 * (a) + 7 * (k) + (l))), .ref (B + 2), .int (gI (g (l))), .int (gI (l)), .ref (B + 3)]) hq850 rfl (Nat.le_refl _) (Nat.le_refl _) ?_
                          refine g_iaload dX10_inPlace_277 cf_ll_0 (by omega) (by omega) (by omega) ?_
                          have egn : gn (287 * a + 7 * k + l) = gn (287 * a + (7 * k + l)) := by rw [Int.add_assoc]
                          rw [egn]
                          have hgn : 0 ≤ gn (287 * a + (7 * k + l)) ∧ gn (287 * a + (7 * k + l)) < p := hN.bd hp (k := 7 * k + l) (by omega) (by omega)
                          refine g_goto (tgt := 294) dX10_inPlace_278 rfl ?_
                          refine g_iadd dX10_inPlace_294 ?_
                          refine g_aload_n 7 dX10_inPlace_295 rfl ?_
                          refine g_getf 0 dX10_inPlace_296 kX10 (by decide) fX10_78 cg_ll_0 rfl ?_
                          refine g_irem dX10_inPlace_299 (by unfold gW; omega) (by unfold gW; omega) (by omega) ?_
                          rw [tm_em (show 0 ≤ g (l) + gn (287 * a + (7 * k + l)) by omega)]
                          refine g_iastore dX10_inPlace_300 cf_ll_2 (by omega) (by omega) (by omega) ?_
                          obtain ⟨hh851, eh851⟩ : ∃ z : GH, z = hset hll (B + 3) (aI 1500 (gup (wX p g (fun m => gn (287 * a + (7 * k + m))) l) (l) ((g (l) + gn (287 * a + (7 * k + l))) % p))) := ⟨_, rfl⟩
                          refine Go.hp eh851.symm ?_
                          have fh851_0 : hh851.2 (B) = some (mO B ((p : Int)) (hf) (le) (fc) (pn) (rn) (hn) (qn)) := hs_n eh851 ne2 cg_ll_0
                          have fh851_1 : hh851.2 (B + 2) = some (aI 28700 (gn)) := hs_n eh851 ne7 cf_ll_0
                          have fh851_2 : hh851.2 (B + 4) = some (aI 1500 (gF gm gw c)) := hs_n eh851 (ne9).s cf_ll_1
                          have fh851_3 : hh851.2 (B + 3) = some (aI 1500 (gup (wX p g (fun m => gn (287 * a + (7 * k + m))) l) (l) ((g (l) + gn (287 * a + (7 * k + l))) % p))) := hs_s eh851
                          have fx851 : Fr [B + 3] hll hh851 := Fr.w0 (Fr.rf _ _) (List.Mem.head _) eh851
                          have rk851_0 : MP hp B hh851 (T) := (cr_ll_0).fr fx851 (Ni.c ⟨ne5, ne6⟩ (Ni.n _)) (Ni.c ⟨ne7, ne8⟩ (Ni.n _))
                          have fr851 : Fr [B + 1, B + 3] h hh851 := Fr.w0 fr_ll (List.Mem.tail _ (List.Mem.head _)) eh851
                          refine g_iinc 1 (ls2 := [(9, .int (gI (l + 1))), (10, .int (gI (l))), (8, .int (gI (dy))), (7, .int (gI (dx))), (6, .int (gI (k))), (5, .int (gI (if dX hp G < 0 then 1 else 0))), (4, .int (gI (dX hp F))), (0, .ref (B)), (1, .int (gI (a))), (2, .int (gI (b))), (3, .int (gI (1)))]) dX10_inPlace_301 rfl (by decide) rfl ?_
                          refine g_goto (tgt := 216) dX10_inPlace_304 rfl ?_
                          refine Go.sub [0, 2, 3, 4, 5, 6, 7, 8, 9, 10] rfl ?_
                          exact ih_ll _ (by omega) (l + 1) hh851 rfl fr851 fh851_1 fh851_2 (by rw [← wX_s g (fun m => gn (287 * a + (7 * k + m))) hl.1]; exact fh851_3) rk851_0 (by omega)
                      exact ll _ (0) hlm rfl fr_lm cf_lm_0 cf_lm_1 (by rw [wX_0]; exact y3) cr_lm_0 (by omega)
                    · skip
                      refine g_aload_n 6 dX10_inPlace_185 rfl ?_
                      refine g_aload_n 6 dX10_inPlace_186 rfl ?_
                      refine g_getf 4 dX10_inPlace_187 kX10 (by decide) fX10_20 cg_lm_0 rfl ?_
                      refine g_iload 0 dX10_inPlace_190 rfl ?_
                      refine g_iaload dX10_inPlace_192 cf_lm_1 (by omega) (by omega) (by omega) ?_
                      have hgv : gF gm gw c (c2) = cy W (c2 % 7) (c2 / 7) := by
                        unfold gF
                        rw [if_pos (by omega)]
                        have e9 := wN (c2 % 7) (c2 / 7) (by omega) (by omega) (by omega) (by omega)
                        rw [show 7 * (c2 / 7) + c2 % 7 = c2 by omega] at e9; exact e9
                      rw [hgv]
                      have hcb := cy_in hp W (c2 % 7) (c2 / 7)
                      refine g_iload 0 dX10_inPlace_193 rfl ?_
                      refine g_bipush dX10_inPlace_195 (by decide) ?_
                      refine g_idiv dX10_inPlace_197 (by omega) (by omega) (by omega) (by omega) ?_
                      refine g_iload 0 dX10_inPlace_198 rfl ?_
                      refine g_bipush dX10_inPlace_200 (by decide) ?_
                      refine g_irem dX10_inPlace_202 (by unfold gW; omega) (by unfold gW; omega) (by omega) ?_
                      rw [tm_em (show 0 ≤ c2 by omega)]
                      refine g_iload_n 8 dX10_inPlace_203 rfl ?_
                      refine g_callV (nc2 := 0) (ns2 := 0) (ci := 10) (As := [.int (gI (cy W (c2 % 7) (c2 / 7))), .int (gI ((c2) / (7))), .int (gI (c2 % 7)), .int (gI (b))]) (st := []) rfl dX10_inPlace_204 okX10_addTimes lX10_160 itX10_addTimes seX10_addTimes rfl cg_lm_0 (by decide) (by decide) rfl (Nat.le_of_ble_eq_true rfl) (sM_addTimes N _ B p hp hp2 hf le fc pn rn hn qn (cy W (c2 % 7) (c2 / 7)) ((c2) / (7)) (c2 % 7) (b) (by omega) (by omega) (by omega) (by omega) (by omega) (G) (gk) gn cg_lm_0 cf_lm_2 cf_lm_0 hNb hVV (gF gm gw c) cf_lm_1) (by omega) (by omega) (fun v952 hc952 q952 => ?_)
                      obtain ⟨rfl, frc953, h4_953, hd953⟩ := q952
                      have fk954_0 : hc952.2 (B) = some (mO B ((p : Int)) (hf) (le) (fc) (pn) (rn) (hn) (qn)) := Fr.at0 frc953 (Ni.c ⟨ne2, ne3⟩ (Ni.n _)) cg_lm_0
                      have fk954_1 : hc952.2 (B + 2) = some (aI 28700 (gn)) := Fr.at0 frc953 (Ni.c ⟨ne7, ne8⟩ (Ni.n _)) cf_lm_0
                      have rk954_0 : MP hp B hc952 (T) := (cr_lm_0).fr frc953 (Ni.c ⟨ne5, ne6⟩ (Ni.n _)) (Ni.c ⟨ne7, ne8⟩ (Ni.n _))
                      have fr954 : Fr [B + 1, B + 3] h hc952 := (fr_lm).tr ((frc953).mo (sub_c (List.Mem.tail _ (List.Mem.head _)) sub_n))
                      obtain ⟨g2_953, hgd953, h3_953⟩ : ∃ g2 : Int → Int, ((cy W (c2 % 7) (c2 / 7) = 0 ∧ g2 = gk) ∨ (cy W (c2 % 7) (c2 / 7) ≠ 0 ∧ g2 = atL p (gk) (fun m => gn (287 * b + m)) (cy W (c2 % 7) (c2 / 7)) (7 * ((c2) / (7)) + (c2 % 7)) 287)) ∧ hc952.2 (B + 3) = some (aI 1500 g2) := by
                        rcases hd953 with ⟨z1, z2⟩ | ⟨z1, z2⟩
                        · exact ⟨_, Or.inl ⟨z1, rfl⟩, z2⟩
                        · exact ⟨_, Or.inr ⟨z1, rfl⟩, z2⟩
                      refine Go.nf (h' := hc952) (st' := []) rfl rfl (Nat.le_refl _) (Nat.le_refl _) ?_
                      refine g_iinc 0 (ls2 := [(9, .int (gI (c2 + 1))), (8, .int (gI (dy))), (7, .int (gI (dx))), (6, .int (gI (k))), (5, .int (gI (if dX hp G < 0 then 1 else 0))), (4, .int (gI (dX hp F))), (0, .ref (B)), (1, .int (gI (a))), (2, .int (gI (b))), (3, .int (gI (1)))]) dX10_inPlace_207 rfl (by decide) rfl ?_
                      refine g_goto (tgt := 177) dX10_inPlace_210 rfl ?_
                      exact ih_lm _ (by omega) (c2 + 1) (g2_953) hc952 rfl fr954 fk954_1 h4_953 h3_953 rk954_0 (by omega) (by
        have e9 := (mwS hp wB hC hNb (show 0 ≤ c2 / 7 by omega) (show 0 ≤ c2 % 7 by omega) (by omega) rfl (by omega) (by rw [show 7 * (c2 / 7) + c2 % 7 = c2 by omega]; exact hK1) hVV hgd953).1
        rw [show 7 * (c2 / 7) + c2 % 7 = c2 by omega] at e9; exact e9) ((mwS hp wB hC hNb (show 0 ≤ c2 / 7 by omega) (show 0 ≤ c2 % 7 by omega) (by omega) rfl (by omega) (by rw [show 7 * (c2 / 7) + c2 % 7 = c2 by omega]; exact hK1) hVV hgd953).2)
                  exact lm _ (0) (gz) hc215 rfl fr217 fk217_1 rn216_0 z3 rk217_0 (by omega) (mwI_0 hp W G zN) zV
                · skip
                  refine g_bipush dX10_inPlace_171 (by decide) ?_
                  exact g_iret dX10_inPlace_173 rfl ⟨fr217, ⟨_, rn216_0⟩, (rn216_1).a, Or.inl ⟨hS_none hp (n := (dX hp F - k).toNat + 1) (by
        show (hS hp F G true (dX hp F) (dX hp F - k).toNat).bind _ = _
        rw [hH]
        show (mulC hp W G).map _ = _
        rw [show mulC hp W G = none by unfold mulC; rw [if_neg (by omega), if_pos (by omega)]]; rfl) _ (by omega), rfl, rk217_0⟩⟩
        · skip
          refine g_aload_n 6 dX10_inPlace_56 rfl ?_
          refine g_getf 4 dX10_inPlace_57 kX10 (by decide) fX10_20 cg_lc_0 rfl ?_
          refine g_iload 0 dX10_inPlace_60 rfl ?_
          refine g_aload_n 6 dX10_inPlace_62 rfl ?_
          refine g_getf 3 dX10_inPlace_63 kX10 (by decide) fX10_17 cg_lc_0 rfl ?_
          refine g_iload 0 dX10_inPlace_66 rfl ?_
          refine g_iaload dX10_inPlace_68 cf_lc_2 (by omega) (by omega) (by omega) ?_
          have hgw : 0 ≤ c → c < 287 → 0 ≤ gw c ∧ gw c < p := fun q0 q1 => wV c q0 (by omega)
          refine g_iastore dX10_inPlace_69 cf_lc_1 (by omega) (by omega) (by omega) ?_
          obtain ⟨hh1055, eh1055⟩ : ∃ z : GH, z = hset hlc (B + 4) (aI 1500 (gup (gF gm gw c) (c) ((gw) (c)))) := ⟨_, rfl⟩
          refine Go.hp eh1055.symm ?_
          have fh1055_0 : hh1055.2 (B) = some (mO B ((p : Int)) (hf) (le) (fc) (pn) (rn) (hn) (qn)) := hs_n eh1055 ne3 cg_lc_0
          have fh1055_1 : hh1055.2 (B + 2) = some (aI 28700 (gn)) := hs_n eh1055 ne8 cf_lc_0
          have fh1055_2 : hh1055.2 (B + 4) = some (aI 1500 (gup (gF gm gw c) (c) ((gw) (c)))) := hs_s eh1055
          have fh1055_3 : hh1055.2 (B + 3) = some (aI 1500 (gw)) := hs_n eh1055 ne9 cf_lc_2
          have fx1055 : Fr [B + 3] hlc hh1055 := Fr.w1 (Fr.rf _ _) (List.Mem.head _) eh1055
          have rk1055_0 : MP hp B hh1055 (T) := (cr_lc_0).fr fx1055 (Ni.c ⟨ne5, ne6⟩ (Ni.n _)) (Ni.c ⟨ne7, ne8⟩ (Ni.n _))
          have fr1055 : Fr [B + 1, B + 3] h hh1055 := Fr.w1 fr_lc (List.Mem.tail _ (List.Mem.head _)) eh1055
          refine g_aload_n 6 dX10_inPlace_70 rfl ?_
          refine g_getf 3 dX10_inPlace_71 kX10 (by decide) fX10_17 fh1055_0 rfl ?_
          refine g_iload 0 dX10_inPlace_74 rfl ?_
          refine g_iaload dX10_inPlace_76 fh1055_3 (by omega) (by omega) (by omega) ?_
          have hgw := wV c hc.1 (by omega)
          refine g_if_eq (tgt := 124) dX10_inPlace_77 rfl (by first | (unfold gW; omega) | (unfold gW; split <;> omega)) (fun c1056 => ?_) (fun c1056 => ?_)
          · skip
            have hz0 : gw c = 0 := by omega
            refine g_iinc 0 (ls2 := [(9, .int (gI (c + 1))), (8, .int (gI (dy))), (7, .int (gI (dx))), (6, .int (gI (k))), (5, .int (gI (if dX hp G < 0 then 1 else 0))), (4, .int (gI (dX hp F))), (0, .ref (B)), (1, .int (gI (a))), (2, .int (gI (b))), (3, .int (gI (1)))]) dX10_inPlace_124 rfl (by decide) rfl ?_
            refine g_goto (tgt := 48) dX10_inPlace_127 rfl ?_
            exact ih_lc _ (by omega) (c + 1) (dx) (dy) hh1055 rfl fr1055 fh1055_1 (by rw [← gF_s gm gw hc.1]; exact fh1055_2) fh1055_3 rk1055_0 (by omega) (wI_z hW hz0)
          · skip
            have hnz : gw c ≠ 0 := by omega
            refine g_iload 0 dX10_inPlace_80 rfl ?_
            refine g_bipush dX10_inPlace_82 (by decide) ?_
            refine g_idiv dX10_inPlace_84 (by omega) (by omega) (by omega) (by omega) ?_
            refine g_iload 2 dX10_inPlace_85 rfl ?_
            refine g_icmp_le (tgt := 98) dX10_inPlace_87 rfl (by first | (unfold gW; omega) | (unfold gW; split <;> omega)) (by first | (unfold gW; omega) | (unfold gW; split <;> omega)) (fun c1057 => ?_) (fun c1057 => ?_)
            · skip
              refine g_iload 2 dX10_inPlace_98 rfl ?_
              refine g_istore (ls2 := [(7, .int (gI (dx))), (9, .int (gI (c))), (8, .int (gI (dy))), (6, .int (gI (k))), (5, .int (gI (if dX hp G < 0 then 1 else 0))), (4, .int (gI (dX hp F))), (0, .ref (B)), (1, .int (gI (a))), (2, .int (gI (b))), (3, .int (gI (1)))]) dX10_inPlace_100 (by decide) rfl ?_
              refine g_iload 1 dX10_inPlace_102 rfl ?_
              refine g_bipush dX10_inPlace_104 (by decide) ?_
              refine g_irem dX10_inPlace_106 (by unfold gW; omega) (by unfold gW; omega) (by omega) ?_
              rw [tm_em hc.1]
              refine g_iload 2 dX10_inPlace_107 rfl ?_
              refine g_icmp_le (tgt := 120) dX10_inPlace_109 rfl (by first | (unfold gW; omega) | (unfold gW; split <;> omega)) (by first | (unfold gW; omega) | (unfold gW; split <;> omega)) (fun c1058 => ?_) (fun c1058 => ?_)
              · skip
                refine g_iload 2 dX10_inPlace_120 rfl ?_
                refine g_istore (ls2 := [(8, .int (gI (dy))), (7, .int (gI (dx))), (9, .int (gI (c))), (6, .int (gI (k))), (5, .int (gI (if dX hp G < 0 then 1 else 0))), (4, .int (gI (dX hp F))), (0, .ref (B)), (1, .int (gI (a))), (2, .int (gI (b))), (3, .int (gI (1)))]) dX10_inPlace_122 (by decide) rfl ?_
                refine g_iinc 2 (ls2 := [(9, .int (gI (c + 1))), (8, .int (gI (dy))), (7, .int (gI (dx))), (6, .int (gI (k))), (5, .int (gI (if dX hp G < 0 then 1 else 0))), (4, .int (gI (dX hp F))), (0, .ref (B)), (1, .int (gI (a))), (2, .int (gI (b))), (3, .int (gI (1)))]) dX10_inPlace_124 rfl (by decide) rfl ?_
                refine g_goto (tgt := 48) dX10_inPlace_127 rfl ?_
                exact ih_lc _ (by omega) (c + 1) (dx) (dy) hh1055 rfl fr1055 fh1055_1 (by rw [← gF_s gm gw hc.1]; exact fh1055_2) fh1055_3 rk1055_0 (by omega) (by have e9 := wI_s hW hc.1 hnz; rw [if_neg (by omega), if_neg (by omega)] at e9; exact e9)
              · skip
                refine g_iload 1 dX10_inPlace_112 rfl ?_
                refine g_bipush dX10_inPlace_114 (by decide) ?_
                refine g_irem dX10_inPlace_116 (by unfold gW; omega) (by unfold gW; omega) (by omega) ?_
                rw [tm_em hc.1]
                refine g_goto (tgt := 122) dX10_inPlace_117 rfl ?_
                refine g_istore (ls2 := [(8, .int (gI (c % 7))), (7, .int (gI (dx))), (9, .int (gI (c))), (6, .int (gI (k))), (5, .int (gI (if dX hp G < 0 then 1 else 0))), (4, .int (gI (dX hp F))), (0, .ref (B)), (1, .int (gI (a))), (2, .int (gI (b))), (3, .int (gI (1)))]) dX10_inPlace_122 (by decide) rfl ?_
                refine g_iinc 2 (ls2 := [(9, .int (gI (c + 1))), (8, .int (gI (c % 7))), (7, .int (gI (dx))), (6, .int (gI (k))), (5, .int (gI (if dX hp G < 0 then 1 else 0))), (4, .int (gI (dX hp F))), (0, .ref (B)), (1, .int (gI (a))), (2, .int (gI (b))), (3, .int (gI (1)))]) dX10_inPlace_124 rfl (by decide) rfl ?_
                refine g_goto (tgt := 48) dX10_inPlace_127 rfl ?_
                exact ih_lc _ (by omega) (c + 1) (dx) (c % 7) hh1055 rfl fr1055 fh1055_1 (by rw [← gF_s gm gw hc.1]; exact fh1055_2) fh1055_3 rk1055_0 (by omega) (by have e9 := wI_s hW hc.1 hnz; rw [if_neg (by omega), if_pos (by omega)] at e9; exact e9)
            · skip
              refine g_iload 0 dX10_inPlace_90 rfl ?_
              refine g_bipush dX10_inPlace_92 (by decide) ?_
              refine g_idiv dX10_inPlace_94 (by omega) (by omega) (by omega) (by omega) ?_
              refine g_goto (tgt := 100) dX10_inPlace_95 rfl ?_
              refine g_istore (ls2 := [(7, .int (gI ((c) / (7)))), (9, .int (gI (c))), (8, .int (gI (dy))), (6, .int (gI (k))), (5, .int (gI (if dX hp G < 0 then 1 else 0))), (4, .int (gI (dX hp F))), (0, .ref (B)), (1, .int (gI (a))), (2, .int (gI (b))), (3, .int (gI (1)))]) dX10_inPlace_100 (by decide) rfl ?_
              refine g_iload 1 dX10_inPlace_102 rfl ?_
              refine g_bipush dX10_inPlace_104 (by decide) ?_
              refine g_irem dX10_inPlace_106 (by unfold gW; omega) (by unfold gW; omega) (by omega) ?_
              rw [tm_em hc.1]
              refine g_iload 2 dX10_inPlace_107 rfl ?_
              refine g_icmp_le (tgt := 120) dX10_inPlace_109 rfl (by first | (unfold gW; omega) | (unfold gW; split <;> omega)) (by first | (unfold gW; omega) | (unfold gW; split <;> omega)) (fun c1059 => ?_) (fun c1059 => ?_)
              · skip
                refine g_iload 2 dX10_inPlace_120 rfl ?_
                refine g_istore (ls2 := [(8, .int (gI (dy))), (7, .int (gI ((c) / (7)))), (9, .int (gI (c))), (6, .int (gI (k))), (5, .int (gI (if dX hp G < 0 then 1 else 0))), (4, .int (gI (dX hp F))), (0, .ref (B)), (1, .int (gI (a))), (2, .int (gI (b))), (3, .int (gI (1)))]) dX10_inPlace_122 (by decide) rfl ?_
                refine g_iinc 2 (ls2 := [(9, .int (gI (c + 1))), (8, .int (gI (dy))), (7, .int (gI ((c) / (7)))), (6, .int (gI (k))), (5, .int (gI (if dX hp G < 0 then 1 else 0))), (4, .int (gI (dX hp F))), (0, .ref (B)), (1, .int (gI (a))), (2, .int (gI (b))), (3, .int (gI (1)))]) dX10_inPlace_124 rfl (by decide) rfl ?_
                refine g_goto (tgt := 48) dX10_inPlace_127 rfl ?_
                exact ih_lc _ (by omega) (c + 1) ((c) / (7)) (dy) hh1055 rfl fr1055 fh1055_1 (by rw [← gF_s gm gw hc.1]; exact fh1055_2) fh1055_3 rk1055_0 (by omega) (by have e9 := wI_s hW hc.1 hnz; rw [if_pos (by omega), if_neg (by omega)] at e9; exact e9)
              · skip
                refine g_iload 1 dX10_inPlace_112 rfl ?_
                refine g_bipush dX10_inPlace_114 (by decide) ?_
                refine g_irem dX10_inPlace_116 (by unfold gW; omega) (by unfold gW; omega) (by omega) ?_
                rw [tm_em hc.1]
                refine g_goto (tgt := 122) dX10_inPlace_117 rfl ?_
                refine g_istore (ls2 := [(8, .int (gI (c % 7))), (7, .int (gI ((c) / (7)))), (9, .int (gI (c))), (6, .int (gI (k))), (5, .int (gI (if dX hp G < 0 then 1 else 0))), (4, .int (gI (dX hp F))), (0, .ref (B)), (1, .int (gI (a))), (2, .int (gI (b))), (3, .int (gI (1)))]) dX10_inPlace_122 (by decide) rfl ?_
                refine g_iinc 2 (ls2 := [(9, .int (gI (c + 1))), (8, .int (gI (c % 7))), (7, .int (gI ((c) / (7)))), (6, .int (gI (k))), (5, .int (gI (if dX hp G < 0 then 1 else 0))), (4, .int (gI (dX hp F))), (0, .ref (B)), (1, .int (gI (a))), (2, .int (gI (b))), (3, .int (gI (1)))]) dX10_inPlace_124 rfl (by decide) rfl ?_
                refine g_goto (tgt := 48) dX10_inPlace_127 rfl ?_
                exact ih_lc _ (by omega) (c + 1) ((c) / (7)) (c % 7) hh1055 rfl fr1055 fh1055_1 (by rw [← gF_s gm gw hc.1]; exact fh1055_2) fh1055_3 rk1055_0 (by omega) (by have e9 := wI_s hW hc.1 hnz; rw [if_pos (by omega), if_pos (by omega)] at e9; exact e9)
      exact lc _ (0) (-1) (-1) hlk rfl fr_lk cf_lk_0 (by rw [gF_0]; exact cf_lk_1) w3 cr_lk_0 (by omega) (wI_0 gw)
  exact lk _ (dX hp F) (zF hp) (gm0) hc4 rfl fr6 fk6_1 rn5_0 rk6_0 rn5_1 (by omega) (by rw [Int.sub_self]; rfl)
set_option maxHeartbeats 4000000 in
set_option maxRecDepth 100000 in
theorem sM_inPlaceY (N : GN) (h : GH) (B p : Nat) (hp : prm p) (hp2 : p ≤ 65536) (hf le fc pn rn hn qn : Int) (T : PT p) (F G : Pxy p) (a b : Int) (a0 : 0 ≤ a) (a1 : a < 100) (ha : T a.toNat = some F) (b0 : 0 ≤ b) (b1 : b < 100) (hb : T b.toNat = some G) (hm : h.2 B = some (mO B p hf le fc pn rn hn qn)) (gm0 : Int → Int) (hT : MP hp B h T) (hw : MWA B h) (h4 : h.2 (B + 4) = some (aI 1500 gm0)) : Sp N yX10_inPlace mX10_inPlace 0 0 [.ref (B), .int (gI (a)), .int (gI (b)), .int (gI (0))] h (fun v h1 => Fr [B + 1, B + 3] h h1 ∧ (∃ g4, h1.2 (B + 4) = some (aI 1500 g4)) ∧ MWA B h1 ∧ ((hS hp F G false (dY hp F) (dY hp F + 1).toNat = none ∧ v = some (.int (gI (-4))) ∧ MP hp B h1 T) ∨ (∃ H w, hS hp F G false (dY hp F) (dY hp F + 1).toNat = some H ∧ isK T w ∧ v = some (.int (gI w)) ∧ MP hp B h1 (putT T w H)))) := by
  refine Sp.of (by decide) rfl rfl (Nat.le_of_ble_eq_true rfl) ?_
  show Go N mX10_inPlace _ 0 0 h 0 [(0, .ref (B)), (1, .int (gI (a))), (2, .int (gI (b))), (3, .int (gI (0)))] []
  have hp1 := hp.1
  have ne0 : NE (B) (B + 1) := by unfold NE; omega
  have ne1 : NE (B) (B + 2) := by unfold NE; omega
  have ne2 : NE (B) (B + 3) := by unfold NE; omega
  have ne3 : NE (B) (B + 4) := by unfold NE; omega
  have ne4 : NE (B + 1) (B + 2) := by unfold NE; omega
  have ne5 : NE (B + 1) (B + 3) := by unfold NE; omega
  have ne6 : NE (B + 1) (B + 4) := by unfold NE; omega
  have ne7 : NE (B + 2) (B + 3) := by unfold NE; omega
  have ne8 : NE (B + 2) (B + 4) := by unfold NE; omega
  have ne9 : NE (B + 3) (B + 4) := by unfold NE; omega
  have hT0 := hT
  obtain ⟨gt, gn, w1, w2, w3⟩ := hT0
  obtain ⟨hB, hN⟩ := MP_at w3 a0 a1 ha
  obtain ⟨hC, hNb⟩ := MP_at w3 b0 b1 hb
  have hdF := hB.dg.2.2
  have hdG := hC.dg.2.2
  refine g_iload_n 3 dX10_inPlace_0 rfl ?_
  refine g_if_eq (tgt := 12) dX10_inPlace_1 rfl (by first | (unfold gW; omega) | (unfold gW; split <;> omega)) (fun c1 => ?_) (fun c1 => absurd c1 (by omega))
  refine g_aload_n 0 dX10_inPlace_12 rfl ?_
  refine g_iload_n 1 dX10_inPlace_13 rfl ?_
  refine g_callV (nc2 := 0) (ns2 := 0) (ci := 10) (As := [.int (gI (a))]) (st := []) rfl dX10_inPlace_14 okX10_degreeY lX10_103 itX10_degreeY seX10_degreeY rfl hm (by decide) (by decide) rfl (Nat.le_of_ble_eq_true rfl) (sM_degreeY N _ B p hp hp2 hf le fc pn rn hn qn T F a a0 a1 ha hm hT) (by omega) (by omega) (fun v2 hc2 q2 => ?_)
  obtain ⟨hq3, rfl⟩ := q2
  refine Go.nf (h' := h) (st' := [.int (gI (dY hp F))]) hq3 rfl (Nat.le_refl _) (Nat.le_refl _) ?_
  refine g_istore (ls2 := [(4, .int (gI (dY hp F))), (0, .ref (B)), (1, .int (gI (a))), (2, .int (gI (b))), (3, .int (gI (0)))]) dX10_inPlace_17 (by decide) rfl ?_
  refine g_aload_n 1 dX10_inPlace_19 rfl ?_
  refine g_callV (nc2 := 0) (ns2 := 0) (ci := 10) (As := []) (st := []) rfl dX10_inPlace_20 okX10_clear lX10_107 itX10_clear seX10_clear rfl hm (by decide) (by decide) rfl (Nat.le_of_ble_eq_true rfl) (sM_clear N _ B p hp hp2 hf le fc pn rn hn qn (gm0) hm hw h4) (by omega) (by omega) (fun v4 hc4 q4 => ?_)
  obtain ⟨rfl, frc5, rn5_0, rn5_1⟩ := q4
  have fk6_0 : hc4.2 (B) = some (mO B ((p : Int)) (hf) (le) (fc) (pn) (rn) (hn) (qn)) := Fr.at0 frc5 (Ni.c ⟨ne2, ne3⟩ (Ni.n _)) hm
  have fk6_1 : hc4.2 (B + 2) = some (aI 28700 (gn)) := Fr.at0 frc5 (Ni.c ⟨ne7, ne8⟩ (Ni.n _)) w2
  have rk6_0 : MP hp B hc4 (T) := (hT).fr frc5 (Ni.c ⟨ne5, ne6⟩ (Ni.n _)) (Ni.c ⟨ne7, ne8⟩ (Ni.n _))
  have fr6 : Fr [B + 1, B + 3] h hc4 := ((Fr.rf [B + 1, B + 3] h)).tr ((frc5).mo (sub_c (List.Mem.tail _ (List.Mem.head _)) sub_n))
  refine Go.nf (h' := hc4) (st' := []) rfl rfl (Nat.le_refl _) (Nat.le_refl _) ?_
  refine g_aload_n 1 dX10_inPlace_23 rfl ?_
  refine g_iload_n 3 dX10_inPlace_24 rfl ?_
  refine g_callV (nc2 := 0) (ns2 := 0) (ci := 10) (As := [.int (gI (b))]) (st := []) rfl dX10_inPlace_25 okX10_isNought lX10_157 itX10_isNought seX10_isNought rfl fk6_0 (by decide) (by decide) rfl (Nat.le_of_ble_eq_true rfl) (sM_isNought N _ B p hp hp2 hf le fc pn rn hn qn T G b b0 b1 hb fk6_0 rk6_0) (by omega) (by omega) (fun v7 hc7 q7 => ?_)
  obtain ⟨hq8, rfl⟩ := q7
  refine Go.nf (h' := hc4) (st' := [.int (gI (if dX hp G < 0 then 1 else 0))]) hq8 rfl (Nat.le_refl _) (Nat.le_refl _) ?_
  refine g_istore (ls2 := [(5, .int (gI (if dX hp G < 0 then 1 else 0))), (4, .int (gI (dY hp F))), (0, .ref (B)), (1, .int (gI (a))), (2, .int (gI (b))), (3, .int (gI (0)))]) dX10_inPlace_28 (by decide) rfl ?_
  refine g_iload 1 dX10_inPlace_30 rfl ?_
  refine g_istore (ls2 := [(6, .int (gI (dY hp F))), (5, .int (gI (if dX hp G < 0 then 1 else 0))), (4, .int (gI (dY hp F))), (0, .ref (B)), (1, .int (gI (a))), (2, .int (gI (b))), (3, .int (gI (0)))]) dX10_inPlace_32 (by decide) rfl ?_
  have lk : ∀ (kk : Nat) (k : Int) (W : Pxy p) (gm : Int → Int) (hlk : GH), kk = (k + 1).toNat → Fr [B + 1, B + 3] h hlk → hlk.2 (B + 2) = some (aI 28700 (gn)) → hlk.2 (B + 4) = some (aI 1500 (gm)) → MP hp B hlk (T) → MW hp B hlk (W) → (-1 ≤ k ∧ k ≤ dY hp F) → (hS hp F G false (dY hp F) (dY hp F - k).toNat = some W) → Go N mX10_inPlace (fun v h1 => Fr [B + 1, B + 3] h h1 ∧ (∃ g4, h1.2 (B + 4) = some (aI 1500 g4)) ∧ MWA B h1 ∧ ((hS hp F G false (dY hp F) (dY hp F + 1).toNat = none ∧ v = some (.int (gI (-4))) ∧ MP hp B h1 T) ∨ (∃ H w, hS hp F G false (dY hp F) (dY hp F + 1).toNat = some H ∧ isK T w ∧ v = some (.int (gI w)) ∧ MP hp B h1 (putT T w H)))) 0 0 hlk 34 [(6, .int (gI (k))), (5, .int (gI (if dX hp G < 0 then 1 else 0))), (4, .int (gI (dY hp F))), (0, .ref (B)), (1, .int (gI (a))), (2, .int (gI (b))), (3, .int (gI (0)))] [] := by
    refine Go.ind (fun kk ih_lk => ?_)
    intro k W gm hlk hkk_lk fr_lk cf_lk_0 cf_lk_1 cr_lk_0 cr_lk_1 hk hH
    have cg_lk_0 : hlk.2 (B) = some (mO B ((p : Int)) (hf) (le) (fc) (pn) (rn) (hn) (qn)) := Fr.at0 fr_lk (Ni.c ⟨ne0, ne1⟩ (Ni.c ⟨ne2, ne3⟩ (Ni.n _))) hm
    refine g_iload 0 dX10_inPlace_34 rfl ?_
    refine g_if_lt (tgt := 313) dX10_inPlace_36 rfl (by first | (unfold gW; omega) | (unfold gW; split <;> omega)) (fun c109 => ?_) (fun c109 => ?_)
    · skip
      refine g_aload_n 3 dX10_inPlace_313 rfl ?_
      refine g_callV (nc2 := 0) (ns2 := 0) (ci := 10) (As := []) (st := []) rfl dX10_inPlace_314 okX10_keep lX10_114 itX10_keep seX10_keep rfl cg_lk_0 (by decide) (by decide) rfl (Nat.le_of_ble_eq_true rfl) (sM_keep N _ B p hp hp2 hf le fc pn rn hn qn T (W) cg_lk_0 cr_lk_0 cr_lk_1) (by omega) (by omega) (fun v110 hc110 q110 => ?_)
      obtain ⟨frc111, w111, hK111, rfl, mp111⟩ := q110
      have fk112_0 : hc110.2 (B) = some (mO B ((p : Int)) (hf) (le) (fc) (pn) (rn) (hn) (qn)) := Fr.at0 frc111 (Ni.c ⟨ne0, ne1⟩ (Ni.n _)) cg_lk_0
      have fk112_2 : hc110.2 (B + 4) = some (aI 1500 (gm)) := Fr.at0 frc111 (Ni.c ⟨(ne6).s, (ne8).s⟩ (Ni.n _)) cf_lk_1
      have rk112_1 : MW hp B hc110 (W) := (cr_lk_1).fr frc111 (Ni.c ⟨(ne5).s, (ne7).s⟩ (Ni.n _))
      have fr112 : Fr [B + 1, B + 3] h hc110 := (fr_lk).tr ((frc111).mo (sub_c (List.Mem.head _) sub_n))
      refine Go.nf (h' := hc110) (st' := [.int (gI (w111))]) rfl rfl (Nat.le_refl _) (Nat.le_refl _) ?_
      exact g_iret dX10_inPlace_317 rfl ⟨fr112, ⟨_, fk112_2⟩, (rk112_1).a, Or.inr ⟨W, w111, by
        have e9 : k = -1 := by omega
        rw [e9] at hH
        rw [show (dY hp F + 1).toNat = (dY hp F - -1).toNat by omega]
        exact hH, hK111, rfl, mp111⟩⟩
    · skip
      refine g_iconst dX10_inPlace_39 ?_
      refine g_istore (ls2 := [(7, .int (gI (-1))), (6, .int (gI (k))), (5, .int (gI (if dX hp G < 0 then 1 else 0))), (4, .int (gI (dY hp F))), (0, .ref (B)), (1, .int (gI (a))), (2, .int (gI (b))), (3, .int (gI (0)))]) dX10_inPlace_40 (by decide) rfl ?_
      refine g_iconst dX10_inPlace_42 ?_
      refine g_istore (ls2 := [(8, .int (gI (-1))), (7, .int (gI (-1))), (6, .int (gI (k))), (5, .int (gI (if dX hp G < 0 then 1 else 0))), (4, .int (gI (dY hp F))), (0, .ref (B)), (1, .int (gI (a))), (2, .int (gI (b))), (3, .int (gI (0)))]) dX10_inPlace_43 (by decide) rfl ?_
      refine g_iconst dX10_inPlace_45 ?_
      refine g_istore (ls2 := [(9, .int (gI (0))), (8, .int (gI (-1))), (7, .int (gI (-1))), (6, .int (gI (k))), (5, .int (gI (if dX hp G < 0 then 1 else 0))), (4, .int (gI (dY hp F))), (0, .ref (B)), (1, .int (gI (a))), (2, .int (gI (b))), (3, .int (gI (0)))]) dX10_inPlace_46 (by decide) rfl ?_
      obtain ⟨wB, gw, w3, wN, wV⟩ := cr_lk_1
      have hdW := wB.dg.2.2
      have lc : ∀ (kk : Nat) (c : Int) (dx : Int) (dy : Int) (hlc : GH), kk = (287 - c).toNat → Fr [B + 1, B + 3] h hlc → hlc.2 (B + 2) = some (aI 28700 (gn)) → hlc.2 (B + 4) = some (aI 1500 (gF gm gw c)) → hlc.2 (B + 3) = some (aI 1500 (gw)) → MP hp B hlc (T) → (0 ≤ c ∧ c ≤ 287) → (wI gw c dx dy) → Go N mX10_inPlace (fun v h1 => Fr [B + 1, B + 3] h h1 ∧ (∃ g4, h1.2 (B + 4) = some (aI 1500 g4)) ∧ MWA B h1 ∧ ((hS hp F G false (dY hp F) (dY hp F + 1).toNat = none ∧ v = some (.int (gI (-4))) ∧ MP hp B h1 T) ∨ (∃ H w, hS hp F G false (dY hp F) (dY hp F + 1).toNat = some H ∧ isK T w ∧ v = some (.int (gI w)) ∧ MP hp B h1 (putT T w H)))) 0 0 hlc 48 [(9, .int (gI (c))), (8, .int (gI (dy))), (7, .int (gI (dx))), (6, .int (gI (k))), (5, .int (gI (if dX hp G < 0 then 1 else 0))), (4, .int (gI (dY hp F))), (0, .ref (B)), (1, .int (gI (a))), (2, .int (gI (b))), (3, .int (gI (0)))] [] := by
        refine Go.ind (fun kk ih_lc => ?_)
        intro c dx dy hlc hkk_lc fr_lc cf_lc_0 cf_lc_1 cf_lc_2 cr_lc_0 hc hW
        have cg_lc_0 : hlc.2 (B) = some (mO B ((p : Int)) (hf) (le) (fc) (pn) (rn) (hn) (qn)) := Fr.at0 fr_lc (Ni.c ⟨ne0, ne1⟩ (Ni.c ⟨ne2, ne3⟩ (Ni.n _))) hm
        have hwi := wI_in hW hc.2
        refine g_iload 0 dX10_inPlace_48 rfl ?_
        refine g_sipush dX10_inPlace_50 (by decide) ?_
        refine g_icmp_ge (tgt := 130) dX10_inPlace_53 rfl (by first | (unfold gW; omega) | (unfold gW; split <;> omega)) (by first | (unfold gW; omega) | (unfold gW; split <;> omega)) (fun c213 => ?_) (fun c213 => ?_)
        · skip
          have hc9 : c = 287 := by omega
          rw [hc9] at hW
          have hde := wI_e hp hW wN wB
          have mwa214 : MWA B hlc := ⟨_, cf_lc_2⟩
          refine g_aload_n 6 dX10_inPlace_130 rfl ?_
          refine g_callV (nc2 := 0) (ns2 := 0) (ci := 10) (As := []) (st := []) rfl dX10_inPlace_131 okX10_clear lX10_107 itX10_clear seX10_clear rfl cg_lc_0 (by decide) (by decide) rfl (Nat.le_of_ble_eq_true rfl) (sM_clear N _ B p hp hp2 hf le fc pn rn hn qn (gF gm gw c) cg_lc_0 mwa214 cf_lc_1) (by omega) (by omega) (fun v215 hc215 q215 => ?_)
          obtain ⟨rfl, frc216, rn216_0, rn216_1⟩ := q215
          have fk217_0 : hc215.2 (B) = some (mO B ((p : Int)) (hf) (le) (fc) (pn) (rn) (hn) (qn)) := Fr.at0 frc216 (Ni.c ⟨ne2, ne3⟩ (Ni.n _)) cg_lc_0
          have fk217_1 : hc215.2 (B + 2) = some (aI 28700 (gn)) := Fr.at0 frc216 (Ni.c ⟨ne7, ne8⟩ (Ni.n _)) cf_lc_0
          have rk217_0 : MP hp B hc215 (T) := (cr_lc_0).fr frc216 (Ni.c ⟨ne5, ne6⟩ (Ni.n _)) (Ni.c ⟨ne7, ne8⟩ (Ni.n _))
          have fr217 : Fr [B + 1, B + 3] h hc215 := (fr_lc).tr ((frc216).mo (sub_c (List.Mem.tail _ (List.Mem.head _)) sub_n))
          refine Go.nf (h' := hc215) (st' := []) rfl rfl (Nat.le_refl _) (Nat.le_refl _) ?_
          refine g_iload 2 dX10_inPlace_134 rfl ?_
          refine g_iconst dX10_inPlace_136 ?_
          refine g_icmp_eq (tgt := 213) dX10_inPlace_137 rfl (by first | (unfold gW; omega) | (unfold gW; split <;> omega)) (by first | (unfold gW; omega) | (unfold gW; split <;> omega)) (fun c218 => ?_) (fun c218 => ?_)
          · skip
            have hM : mulC hp W G = some (zF hp) := by unfold mulC; rw [if_pos (by omega)]
            refine g_iconst dX10_inPlace_213 ?_
            refine g_istore (ls2 := [(9, .int (gI (0))), (8, .int (gI (dy))), (7, .int (gI (dx))), (6, .int (gI (k))), (5, .int (gI (if dX hp G < 0 then 1 else 0))), (4, .int (gI (dY hp F))), (0, .ref (B)), (1, .int (gI (a))), (2, .int (gI (b))), (3, .int (gI (0)))]) dX10_inPlace_214 (by decide) rfl ?_
            obtain ⟨yB, g, y3, yN, yV⟩ := rn216_1
            have ll : ∀ (kk : Nat) (l : Int) (hll : GH), kk = (41 - l).toNat → Fr [B + 1, B + 3] h hll → hll.2 (B + 2) = some (aI 28700 (gn)) → hll.2 (B + 4) = some (aI 1500 (gF gm gw c)) → hll.2 (B + 3) = some (aI 1500 (wY p g (fun m => gn (287 * a + (m + k))) l)) → MP hp B hll (T) → (0 ≤ l ∧ l ≤ 41) → Go N mX10_inPlace (fun v h1 => Fr [B + 1, B + 3] h h1 ∧ (∃ g4, h1.2 (B + 4) = some (aI 1500 g4)) ∧ MWA B h1 ∧ ((hS hp F G false (dY hp F) (dY hp F + 1).toNat = none ∧ v = some (.int (gI (-4))) ∧ MP hp B h1 T) ∨ (∃ H w, hS hp F G false (dY hp F) (dY hp F + 1).toNat = some H ∧ isK T w ∧ v = some (.int (gI w)) ∧ MP hp B h1 (putT T w H)))) 0 0 hll 216 [(9, .int (gI (l))), (8, .int (gI (dy))), (7, .int (gI (dx))), (6, .int (gI (k))), (5, .int (gI (if dX hp G < 0 then 1 else 0))), (4, .int (gI (dY hp F))), (0, .ref (B)), (1, .int (gI (a))), (2, .int (gI (b))), (3, .int (gI (0)))] [] := by
              refine Go.ind (fun kk ih_ll => ?_)
              intro l hll hkk_ll fr_ll cf_ll_0 cf_ll_1 cf_ll_2 cr_ll_0 hl
              have cg_ll_0 : hll.2 (B) = some (mO B ((p : Int)) (hf) (le) (fc) (pn) (rn) (hn) (qn)) := Fr.at0 fr_ll (Ni.c ⟨ne0, ne1⟩ (Ni.c ⟨ne2, ne3⟩ (Ni.n _))) hm
              refine g_iload 0 dX10_inPlace_216 rfl ?_
              refine g_iload_n 9 dX10_inPlace_218 rfl ?_
              refine g_if_eq (tgt := 227) dX10_inPlace_219 rfl (by first | (unfold gW; omega) | (unfold gW; split <;> omega)) (fun c319 => ?_) (fun c319 => absurd c319 (by omega))
              refine g_bipush dX10_inPlace_227 (by decide) ?_
              refine g_icmp_ge (tgt := 307) dX10_inPlace_229 rfl (by first | (unfold gW; omega) | (unfold gW; split <;> omega)) (by first | (unfold gW; omega) | (unfold gW; split <;> omega)) (fun c320 => ?_) (fun c320 => ?_)
              · skip
                have hl9 : l = 41 := by omega
                have mw321 : MW hp B hll (sly hp F (zF hp) k.toNat) := ⟨sly_PB hp _ hB yB, _, cf_ll_2, by rw [hl9]; exact wY_NW hp (by omega) (by omega) hN yN hB, fun m m0 m1 => by
                    unfold wY
                    split
                    · exact em_in hp _
                    · exact yV m m0 m1⟩
                refine g_iinc 3 (ls2 := [(6, .int (gI (k + (-1)))), (9, .int (gI (l))), (8, .int (gI (dy))), (7, .int (gI (dx))), (5, .int (gI (if dX hp G < 0 then 1 else 0))), (4, .int (gI (dY hp F))), (0, .ref (B)), (1, .int (gI (a))), (2, .int (gI (b))), (3, .int (gI (0)))]) dX10_inPlace_307 rfl (by decide) rfl ?_
                refine g_goto (tgt := 34) dX10_inPlace_310 rfl ?_
                refine Go.sub [0, 4, 5, 6, 7, 8, 9] rfl ?_
                exact ih_lk _ (by omega) (k + (-1)) (sly hp F (zF hp) k.toNat) (gF gm gw c) hll rfl fr_ll cf_ll_0 cf_ll_1 cr_ll_0 mw321 (by omega) (by
        have e9 : (dY hp F - (k + (-1))).toNat = (dY hp F - k).toNat + 1 := by omega
        rw [e9]
        show (hS hp F G false (dY hp F) (dY hp F - k).toNat).bind _ = _
        rw [hH]
        show (mulC hp W G).map _ = _
        rw [hM]
        show some (if false then _ else _) = _
        rw [show (dY hp F - ((dY hp F - k).toNat : Nat)).toNat = k.toNat by omega]
        rfl)
              · skip
                refine g_iload_n 9 dX10_inPlace_232 rfl ?_
                refine g_if_eq (tgt := 241) dX10_inPlace_233 rfl (by first | (unfold gW; omega) | (unfold gW; split <;> omega)) (fun c322 => ?_) (fun c322 => absurd c322 (by omega))
                refine g_bipush dX10_inPlace_241 (by decide) ?_
                refine g_iload 0 dX10_inPlace_243 rfl ?_
                refine g_imul dX10_inPlace_245 ?_
                refine g_istore (ls2 := [(10, .int (gI ((7) * (l)))), (9, .int (gI (l))), (8, .int (gI (dy))), (7, .int (gI (dx))), (6, .int (gI (k))), (5, .int (gI (if dX hp G < 0 then 1 else 0))), (4, .int (gI (dY hp F))), (0, .ref (B)), (1, .int (gI (a))), (2, .int (gI (b))), (3, .int (gI (0)))]) dX10_inPlace_246 (by decide) rfl ?_
                refine g_aload_n 7 dX10_inPlace_248 rfl ?_
                refine g_getf 3 dX10_inPlace_249 kX10 (by decide) fX10_17 cg_ll_0 rfl ?_
                refine g_iload 0 dX10_inPlace_252 rfl ?_
                refine g_aload_n 7 dX10_inPlace_254 rfl ?_
                refine g_getf 3 dX10_inPlace_255 kX10 (by decide) fX10_17 cg_ll_0 rfl ?_
                refine g_iload 0 dX10_inPlace_258 rfl ?_
                refine g_iaload dX10_inPlace_260 cf_ll_2 (by omega) (by omega) (by omega) ?_
                have erd : wY p g (fun m => gn (287 * a + (m + k))) l (7 * l) = g (7 * l) := wY_at _ _ _
                rw [erd]
                have hgb := yV (7 * l) (by omega) (by omega)
                refine g_iload_n 10 dX10_inPlace_261 rfl ?_
                refine g_if_eq (tgt := 281) dX10_inPlace_262 rfl (by first | (unfold gW; omega) | (unfold gW; split <;> omega)) (fun c323 => ?_) (fun c323 => absurd c323 (by omega))
                refine g_aload_n 7 dX10_inPlace_281 rfl ?_
                refine g_getf 2 dX10_inPlace_282 kX10 (by decide) fX10_13 cg_ll_0 rfl ?_
                refine g_iload_n 8 dX10_inPlace_285 rfl ?_
                refine g_iload 1 dX10_inPlace_286 rfl ?_
                refine g_iload 4 dX10_inPlace_288 rfl ?_
                refine g_callS (nc2 := 0) (ns2 := 0) (As := [.int (gI (a)), .int (gI (l)), .int (gI (k))]) (st := [.ref (B + 2), .int (gI (g (7 * l))), .int (gI ((7) * (l))), .ref (B + 3)]) rfl dX10_inPlace_290 okX10_cellOf lX10_99 stX10_cellOf (by decide) (by decide) rfl (Nat.le_of_ble_eq_true rfl) (sM_cellOf N _ (a) (l) (k)) (by omega) (by omega) (fun v324 hc324 q324 => ?_)
                obtain ⟨hq325, rfl⟩ := q324
                refine Go.nf (h' := hll) (st' := [.int (gI (287 * (a) + 7 * (l) + (k))), .ref (B + 2), .int (gI (g (7 * l))), .int (gI ((7) * (l))), .ref (B + 3)]) hq325 rfl (Nat.le_refl _) (Nat.le_refl _) ?_
                refine g_iaload dX10_inPlace_293 cf_ll_0 (by omega) (by omega) (by omega) ?_
                have egn : gn (287 * a + 7 * l + k) = gn (287 * a + (7 * l + k)) := by rw [Int.add_assoc]
                rw [egn]
                have hgn : 0 ≤ gn (287 * a + (7 * l + k)) ∧ gn (287 * a + (7 * l + k)) < p := hN.bd hp (k := 7 * l + k) (by omega) (by omega)
                refine g_iadd dX10_inPlace_294 ?_
                refine g_aload_n 7 dX10_inPlace_295 rfl ?_
                refine g_getf 0 dX10_inPlace_296 kX10 (by decide) fX10_78 cg_ll_0 rfl ?_
                refine g_irem dX10_inPlace_299 (by unfold gW; omega) (by unfold gW; omega) (by omega) ?_
                rw [tm_em (show 0 ≤ g (7 * l) + gn (287 * a + (7 * l + k)) by omega)]
                refine g_iastore dX10_inPlace_300 cf_ll_2 (by omega) (by omega) (by omega) ?_
                obtain ⟨hh326, eh326⟩ : ∃ z : GH, z = hset hll (B + 3) (aI 1500 (gup (wY p g (fun m => gn (287 * a + (m + k))) l) ((7) * (l)) ((g (7 * l) + gn (287 * a + (7 * l + k))) % p))) := ⟨_, rfl⟩
                refine Go.hp eh326.symm ?_
                have fh326_0 : hh326.2 (B) = some (mO B ((p : Int)) (hf) (le) (fc) (pn) (rn) (hn) (qn)) := hs_n eh326 ne2 cg_ll_0
                have fh326_1 : hh326.2 (B + 2) = some (aI 28700 (gn)) := hs_n eh326 ne7 cf_ll_0
                have fh326_2 : hh326.2 (B + 4) = some (aI 1500 (gF gm gw c)) := hs_n eh326 (ne9).s cf_ll_1
                have fh326_3 : hh326.2 (B + 3) = some (aI 1500 (gup (wY p g (fun m => gn (287 * a + (m + k))) l) ((7) * (l)) ((g (7 * l) + gn (287 * a + (7 * l + k))) % p))) := hs_s eh326
                have fx326 : Fr [B + 3] hll hh326 := Fr.w0 (Fr.rf _ _) (List.Mem.head _) eh326
                have rk326_0 : MP hp B hh326 (T) := (cr_ll_0).fr fx326 (Ni.c ⟨ne5, ne6⟩ (Ni.n _)) (Ni.c ⟨ne7, ne8⟩ (Ni.n _))
                have fr326 : Fr [B + 1, B + 3] h hh326 := Fr.w0 fr_ll (List.Mem.tail _ (List.Mem.head _)) eh326
                refine g_iinc 1 (ls2 := [(9, .int (gI (l + 1))), (10, .int (gI ((7) * (l)))), (8, .int (gI (dy))), (7, .int (gI (dx))), (6, .int (gI (k))), (5, .int (gI (if dX hp G < 0 then 1 else 0))), (4, .int (gI (dY hp F))), (0, .ref (B)), (1, .int (gI (a))), (2, .int (gI (b))), (3, .int (gI (0)))]) dX10_inPlace_301 rfl (by decide) rfl ?_
                refine g_goto (tgt := 216) dX10_inPlace_304 rfl ?_
                refine Go.sub [0, 2, 3, 4, 5, 6, 7, 8, 9, 10] rfl ?_
                exact ih_ll _ (by omega) (l + 1) hh326 rfl fr326 fh326_1 fh326_2 (by rw [← wY_s g (fun m => gn (287 * a + (m + k))) hl.1]; exact fh326_3) rk326_0 (by omega)
            exact ll _ (0) hc215 rfl fr217 fk217_1 rn216_0 (by rw [wY_0]; exact y3) rk217_0 (by omega)
          · skip
            refine g_iload 4 dX10_inPlace_140 rfl ?_
            refine g_if_ne (tgt := 213) dX10_inPlace_142 rfl (by first | (unfold gW; omega) | (unfold gW; split <;> omega)) (fun c427 => ?_) (fun c427 => ?_)
            · skip
              have hnG : dX hp G < 0 := by
                by_cases z : dX hp G < 0
                · exact z
                · rw [if_neg z] at c427; omega
              clear c427
              have hM : mulC hp W G = some (zF hp) := by unfold mulC; rw [if_pos (by omega)]
              refine g_iconst dX10_inPlace_213 ?_
              refine g_istore (ls2 := [(9, .int (gI (0))), (8, .int (gI (dy))), (7, .int (gI (dx))), (6, .int (gI (k))), (5, .int (gI (if dX hp G < 0 then 1 else 0))), (4, .int (gI (dY hp F))), (0, .ref (B)), (1, .int (gI (a))), (2, .int (gI (b))), (3, .int (gI (0)))]) dX10_inPlace_214 (by decide) rfl ?_
              obtain ⟨yB, g, y3, yN, yV⟩ := rn216_1
              have ll : ∀ (kk : Nat) (l : Int) (hll : GH), kk = (41 - l).toNat → Fr [B + 1, B + 3] h hll → hll.2 (B + 2) = some (aI 28700 (gn)) → hll.2 (B + 4) = some (aI 1500 (gF gm gw c)) → hll.2 (B + 3) = some (aI 1500 (wY p g (fun m => gn (287 * a + (m + k))) l)) → MP hp B hll (T) → (0 ≤ l ∧ l ≤ 41) → Go N mX10_inPlace (fun v h1 => Fr [B + 1, B + 3] h h1 ∧ (∃ g4, h1.2 (B + 4) = some (aI 1500 g4)) ∧ MWA B h1 ∧ ((hS hp F G false (dY hp F) (dY hp F + 1).toNat = none ∧ v = some (.int (gI (-4))) ∧ MP hp B h1 T) ∨ (∃ H w, hS hp F G false (dY hp F) (dY hp F + 1).toNat = some H ∧ isK T w ∧ v = some (.int (gI w)) ∧ MP hp B h1 (putT T w H)))) 0 0 hll 216 [(9, .int (gI (l))), (8, .int (gI (dy))), (7, .int (gI (dx))), (6, .int (gI (k))), (5, .int (gI (if dX hp G < 0 then 1 else 0))), (4, .int (gI (dY hp F))), (0, .ref (B)), (1, .int (gI (a))), (2, .int (gI (b))), (3, .int (gI (0)))] [] := by
                refine Go.ind (fun kk ih_ll => ?_)
                intro l hll hkk_ll fr_ll cf_ll_0 cf_ll_1 cf_ll_2 cr_ll_0 hl
                have cg_ll_0 : hll.2 (B) = some (mO B ((p : Int)) (hf) (le) (fc) (pn) (rn) (hn) (qn)) := Fr.at0 fr_ll (Ni.c ⟨ne0, ne1⟩ (Ni.c ⟨ne2, ne3⟩ (Ni.n _))) hm
                refine g_iload 0 dX10_inPlace_216 rfl ?_
                refine g_iload_n 9 dX10_inPlace_218 rfl ?_
                refine g_if_eq (tgt := 227) dX10_inPlace_219 rfl (by first | (unfold gW; omega) | (unfold gW; split <;> omega)) (fun c528 => ?_) (fun c528 => absurd c528 (by omega))
                refine g_bipush dX10_inPlace_227 (by decide) ?_
                refine g_icmp_ge (tgt := 307) dX10_inPlace_229 rfl (by first | (unfold gW; omega) | (unfold gW; split <;> omega)) (by first | (unfold gW; omega) | (unfold gW; split <;> omega)) (fun c529 => ?_) (fun c529 => ?_)
                · skip
                  have hl9 : l = 41 := by omega
                  have mw530 : MW hp B hll (sly hp F (zF hp) k.toNat) := ⟨sly_PB hp _ hB yB, _, cf_ll_2, by rw [hl9]; exact wY_NW hp (by omega) (by omega) hN yN hB, fun m m0 m1 => by
                      unfold wY
                      split
                      · exact em_in hp _
                      · exact yV m m0 m1⟩
                  refine g_iinc 3 (ls2 := [(6, .int (gI (k + (-1)))), (9, .int (gI (l))), (8, .int (gI (dy))), (7, .int (gI (dx))), (5, .int (gI (if dX hp G < 0 then 1 else 0))), (4, .int (gI (dY hp F))), (0, .ref (B)), (1, .int (gI (a))), (2, .int (gI (b))), (3, .int (gI (0)))]) dX10_inPlace_307 rfl (by decide) rfl ?_
                  refine g_goto (tgt := 34) dX10_inPlace_310 rfl ?_
                  refine Go.sub [0, 4, 5, 6, 7, 8, 9] rfl ?_
                  exact ih_lk _ (by omega) (k + (-1)) (sly hp F (zF hp) k.toNat) (gF gm gw c) hll rfl fr_ll cf_ll_0 cf_ll_1 cr_ll_0 mw530 (by omega) (by
        have e9 : (dY hp F - (k + (-1))).toNat = (dY hp F - k).toNat + 1 := by omega
        rw [e9]
        show (hS hp F G false (dY hp F) (dY hp F - k).toNat).bind _ = _
        rw [hH]
        show (mulC hp W G).map _ = _
        rw [hM]
        show some (if false then _ else _) = _
        rw [show (dY hp F - ((dY hp F - k).toNat : Nat)).toNat = k.toNat by omega]
        rfl)
                · skip
                  refine g_iload_n 9 dX10_inPlace_232 rfl ?_
                  refine g_if_eq (tgt := 241) dX10_inPlace_233 rfl (by first | (unfold gW; omega) | (unfold gW; split <;> omega)) (fun c531 => ?_) (fun c531 => absurd c531 (by omega))
                  refine g_bipush dX10_inPlace_241 (by decide) ?_
                  refine g_iload 0 dX10_inPlace_243 rfl ?_
                  refine g_imul dX10_inPlace_245 ?_
                  refine g_istore (ls2 := [(10, .int (gI ((7) * (l)))), (9, .int (gI (l))), (8, .int (gI (dy))), (7, .int (gI (dx))), (6, .int (gI (k))), (5, .int (gI (if dX hp G < 0 then 1 else 0))), (4, .int (gI (dY hp F))), (0, .ref (B)), (1, .int (gI (a))), (2, .int (gI (b))), (3, .int (gI (0)))]) dX10_inPlace_246 (by decide) rfl ?_
                  refine g_aload_n 7 dX10_inPlace_248 rfl ?_
                  refine g_getf 3 dX10_inPlace_249 kX10 (by decide) fX10_17 cg_ll_0 rfl ?_
                  refine g_iload 0 dX10_inPlace_252 rfl ?_
                  refine g_aload_n 7 dX10_inPlace_254 rfl ?_
                  refine g_getf 3 dX10_inPlace_255 kX10 (by decide) fX10_17 cg_ll_0 rfl ?_
                  refine g_iload 0 dX10_inPlace_258 rfl ?_
                  refine g_iaload dX10_inPlace_260 cf_ll_2 (by omega) (by omega) (by omega) ?_
                  have erd : wY p g (fun m => gn (287 * a + (m + k))) l (7 * l) = g (7 * l) := wY_at _ _ _
                  rw [erd]
                  have hgb := yV (7 * l) (by omega) (by omega)
                  refine g_iload_n 10 dX10_inPlace_261 rfl ?_
                  refine g_if_eq (tgt := 281) dX10_inPlace_262 rfl (by first | (unfold gW; omega) | (unfold gW; split <;> omega)) (fun c532 => ?_) (fun c532 => absurd c532 (by omega))
                  refine g_aload_n 7 dX10_inPlace_281 rfl ?_
                  refine g_getf 2 dX10_inPlace_282 kX10 (by decide) fX10_13 cg_ll_0 rfl ?_
                  refine g_iload_n 8 dX10_inPlace_285 rfl ?_
                  refine g_iload 1 dX10_inPlace_286 rfl ?_
                  refine g_iload 4 dX10_inPlace_288 rfl ?_
                  refine g_callS (nc2 := 0) (ns2 := 0) (As := [.int (gI (a)), .int (gI (l)), .int (gI (k))]) (st := [.ref (B + 2), .int (gI (g (7 * l))), .int (gI ((7) * (l))), .ref (B + 3)]) rfl dX10_inPlace_290 okX10_cellOf lX10_99 stX10_cellOf (by decide) (by decide) rfl (Nat.le_of_ble_eq_true rfl) (sM_cellOf N _ (a) (l) (k)) (by omega) (by omega) (fun v533 hc533 q533 => ?_)
                  obtain ⟨hq534, rfl⟩ := q533
                  refine Go.nf (h' := hll) (st' := [.int (gI (287 * (a) + 7 * (l) + (k))), .ref (B + 2), .int (gI (g (7 * l))), .int (gI ((7) * (l))), .ref (B + 3)]) hq534 rfl (Nat.le_refl _) (Nat.le_refl _) ?_
                  refine g_iaload dX10_inPlace_293 cf_ll_0 (by omega) (by omega) (by omega) ?_
                  have egn : gn (287 * a + 7 * l + k) = gn (287 * a + (7 * l + k)) := by rw [Int.add_assoc]
                  rw [egn]
                  have hgn : 0 ≤ gn (287 * a + (7 * l + k)) ∧ gn (287 * a + (7 * l + k)) < p := hN.bd hp (k := 7 * l + k) (by omega) (by omega)
                  refine g_iadd dX10_inPlace_294 ?_
                  refine g_aload_n 7 dX10_inPlace_295 rfl ?_
                  refine g_getf 0 dX10_inPlace_296 kX10 (by decide) fX10_78 cg_ll_0 rfl ?_
                  refine g_irem dX10_inPlace_299 (by unfold gW; omega) (by unfold gW; omega) (by omega) ?_
                  rw [tm_em (show 0 ≤ g (7 * l) + gn (287 * a + (7 * l + k)) by omega)]
                  refine g_iastore dX10_inPlace_300 cf_ll_2 (by omega) (by omega) (by omega) ?_
                  obtain ⟨hh535, eh535⟩ : ∃ z : GH, z = hset hll (B + 3) (aI 1500 (gup (wY p g (fun m => gn (287 * a + (m + k))) l) ((7) * (l)) ((g (7 * l) + gn (287 * a + (7 * l + k))) % p))) := ⟨_, rfl⟩
                  refine Go.hp eh535.symm ?_
                  have fh535_0 : hh535.2 (B) = some (mO B ((p : Int)) (hf) (le) (fc) (pn) (rn) (hn) (qn)) := hs_n eh535 ne2 cg_ll_0
                  have fh535_1 : hh535.2 (B + 2) = some (aI 28700 (gn)) := hs_n eh535 ne7 cf_ll_0
                  have fh535_2 : hh535.2 (B + 4) = some (aI 1500 (gF gm gw c)) := hs_n eh535 (ne9).s cf_ll_1
                  have fh535_3 : hh535.2 (B + 3) = some (aI 1500 (gup (wY p g (fun m => gn (287 * a + (m + k))) l) ((7) * (l)) ((g (7 * l) + gn (287 * a + (7 * l + k))) % p))) := hs_s eh535
                  have fx535 : Fr [B + 3] hll hh535 := Fr.w0 (Fr.rf _ _) (List.Mem.head _) eh535
                  have rk535_0 : MP hp B hh535 (T) := (cr_ll_0).fr fx535 (Ni.c ⟨ne5, ne6⟩ (Ni.n _)) (Ni.c ⟨ne7, ne8⟩ (Ni.n _))
                  have fr535 : Fr [B + 1, B + 3] h hh535 := Fr.w0 fr_ll (List.Mem.tail _ (List.Mem.head _)) eh535
                  refine g_iinc 1 (ls2 := [(9, .int (gI (l + 1))), (10, .int (gI ((7) * (l)))), (8, .int (gI (dy))), (7, .int (gI (dx))), (6, .int (gI (k))), (5, .int (gI (if dX hp G < 0 then 1 else 0))), (4, .int (gI (dY hp F))), (0, .ref (B)), (1, .int (gI (a))), (2, .int (gI (b))), (3, .int (gI (0)))]) dX10_inPlace_301 rfl (by decide) rfl ?_
                  refine g_goto (tgt := 216) dX10_inPlace_304 rfl ?_
                  refine Go.sub [0, 2, 3, 4, 5, 6, 7, 8, 9, 10] rfl ?_
                  exact ih_ll _ (by omega) (l + 1) hh535 rfl fr535 fh535_1 fh535_2 (by rw [← wY_s g (fun m => gn (287 * a + (m + k))) hl.1]; exact fh535_3) rk535_0 (by omega)
              exact ll _ (0) hc215 rfl fr217 fk217_1 rn216_0 (by rw [wY_0]; exact y3) rk217_0 (by omega)
            · skip
              have hnG : ¬ dX hp G < 0 := fun z => by rw [if_pos z] at c427; omega
              clear c427
              refine g_iload 2 dX10_inPlace_145 rfl ?_
              refine g_aload_n 6 dX10_inPlace_147 rfl ?_
              refine g_iload_n 8 dX10_inPlace_148 rfl ?_
              refine g_callV (nc2 := 0) (ns2 := 0) (ci := 10) (As := [.int (gI (b))]) (st := [.int (gI (dx))]) rfl dX10_inPlace_149 okX10_degreeX lX10_154 itX10_degreeX seX10_degreeX rfl fk217_0 (by decide) (by decide) rfl (Nat.le_of_ble_eq_true rfl) (sM_degreeX N _ B p hp hp2 hf le fc pn rn hn qn T G b b0 b1 hb fk217_0 rk217_0) (by omega) (by omega) (fun v636 hc636 q636 => ?_)
              obtain ⟨hq637, rfl⟩ := q636
              refine Go.nf (h' := hc215) (st' := [.int (gI (dX hp G)), .int (gI (dx))]) hq637 rfl (Nat.le_refl _) (Nat.le_refl _) ?_
              refine g_iadd dX10_inPlace_152 ?_
              refine g_bipush dX10_inPlace_153 (by decide) ?_
              refine g_icmp_gt (tgt := 171) dX10_inPlace_155 rfl (by first | (unfold gW; omega) | (unfold gW; split <;> omega)) (by first | (unfold gW; omega) | (unfold gW; split <;> omega)) (fun c638 => ?_) (fun c638 => ?_)
              · skip
                refine g_bipush dX10_inPlace_171 (by decide) ?_
                exact g_iret dX10_inPlace_173 rfl ⟨fr217, ⟨_, rn216_0⟩, (rn216_1).a, Or.inl ⟨hS_none hp (n := (dY hp F - k).toNat + 1) (by
        show (hS hp F G false (dY hp F) (dY hp F - k).toNat).bind _ = _
        rw [hH]
        show (mulC hp W G).map _ = _
        rw [show mulC hp W G = none by unfold mulC; rw [if_neg (by omega), if_pos (by omega)]]; rfl) _ (by omega), rfl, rk217_0⟩⟩
              · skip
                refine g_iload 1 dX10_inPlace_158 rfl ?_
                refine g_aload_n 6 dX10_inPlace_160 rfl ?_
                refine g_iload_n 8 dX10_inPlace_161 rfl ?_
                refine g_callV (nc2 := 0) (ns2 := 0) (ci := 10) (As := [.int (gI (b))]) (st := [.int (gI (dy))]) rfl dX10_inPlace_162 okX10_degreeY lX10_103 itX10_degreeY seX10_degreeY rfl fk217_0 (by decide) (by decide) rfl (Nat.le_of_ble_eq_true rfl) (sM_degreeY N _ B p hp hp2 hf le fc pn rn hn qn T G b b0 b1 hb fk217_0 rk217_0) (by omega) (by omega) (fun v639 hc639 q639 => ?_)
                obtain ⟨hq640, rfl⟩ := q639
                refine Go.nf (h' := hc215) (st' := [.int (gI (dY hp G)), .int (gI (dy))]) hq640 rfl (Nat.le_refl _) (Nat.le_refl _) ?_
                refine g_iadd dX10_inPlace_165 ?_
                refine g_bipush dX10_inPlace_166 (by decide) ?_
                refine g_icmp_le (tgt := 174) dX10_inPlace_168 rfl (by first | (unfold gW; omega) | (unfold gW; split <;> omega)) (by first | (unfold gW; omega) | (unfold gW; split <;> omega)) (fun c641 => ?_) (fun c641 => ?_)
                · skip
                  refine g_iconst dX10_inPlace_174 ?_
                  refine g_istore (ls2 := [(9, .int (gI (0))), (8, .int (gI (dy))), (7, .int (gI (dx))), (6, .int (gI (k))), (5, .int (gI (if dX hp G < 0 then 1 else 0))), (4, .int (gI (dY hp F))), (0, .ref (B)), (1, .int (gI (a))), (2, .int (gI (b))), (3, .int (gI (0)))]) dX10_inPlace_175 (by decide) rfl ?_
                  obtain ⟨zB, gz, z3, zN, zV⟩ := rn216_1
                  have lm : ∀ (kk : Nat) (c2 : Int) (gk : Int → Int) (hlm : GH), kk = (287 - c2).toNat → Fr [B + 1, B + 3] h hlm → hlm.2 (B + 2) = some (aI 28700 (gn)) → hlm.2 (B + 4) = some (aI 1500 (gF gm gw c)) → hlm.2 (B + 3) = some (aI 1500 (gk)) → MP hp B hlm (T) → (0 ≤ c2 ∧ c2 ≤ 287) → (mwI hp W G c2 gk) → (∀ k, 0 ≤ k → k < 1500 → 0 ≤ gk k ∧ gk k < p) → Go N mX10_inPlace (fun v h1 => Fr [B + 1, B + 3] h h1 ∧ (∃ g4, h1.2 (B + 4) = some (aI 1500 g4)) ∧ MWA B h1 ∧ ((hS hp F G false (dY hp F) (dY hp F + 1).toNat = none ∧ v = some (.int (gI (-4))) ∧ MP hp B h1 T) ∨ (∃ H w, hS hp F G false (dY hp F) (dY hp F + 1).toNat = some H ∧ isK T w ∧ v = some (.int (gI w)) ∧ MP hp B h1 (putT T w H)))) 0 0 hlm 177 [(9, .int (gI (c2))), (8, .int (gI (dy))), (7, .int (gI (dx))), (6, .int (gI (k))), (5, .int (gI (if dX hp G < 0 then 1 else 0))), (4, .int (gI (dY hp F))), (0, .ref (B)), (1, .int (gI (a))), (2, .int (gI (b))), (3, .int (gI (0)))] [] := by
                    refine Go.ind (fun kk ih_lm => ?_)
                    intro c2 gk hlm hkk_lm fr_lm cf_lm_0 cf_lm_1 cf_lm_2 cr_lm_0 hc2 hK1 hVV
                    have cg_lm_0 : hlm.2 (B) = some (mO B ((p : Int)) (hf) (le) (fc) (pn) (rn) (hn) (qn)) := Fr.at0 fr_lm (Ni.c ⟨ne0, ne1⟩ (Ni.c ⟨ne2, ne3⟩ (Ni.n _))) hm
                    refine g_iload 0 dX10_inPlace_177 rfl ?_
                    refine g_sipush dX10_inPlace_179 (by decide) ?_
                    refine g_icmp_ge (tgt := 213) dX10_inPlace_182 rfl (by first | (unfold gW; omega) | (unfold gW; split <;> omega)) (by first | (unfold gW; omega) | (unfold gW; split <;> omega)) (fun c742 => ?_) (fun c742 => ?_)
                    · skip
                      have hc8 : c2 = 287 := by omega
                      rw [hc8] at hK1
                      have mw743 : MW hp B hlm (yml hp W G) := ⟨yml_PB hp wB hC (by omega) (by omega), _, cf_lm_2, mw_end hp wB hK1, hVV⟩
                      have hM : mulC hp W G = some (yml hp W G) := by unfold mulC; rw [if_neg (by omega), if_neg (by omega)]
                      refine g_iconst dX10_inPlace_213 ?_
                      refine g_istore (ls2 := [(9, .int (gI (0))), (8, .int (gI (dy))), (7, .int (gI (dx))), (6, .int (gI (k))), (5, .int (gI (if dX hp G < 0 then 1 else 0))), (4, .int (gI (dY hp F))), (0, .ref (B)), (1, .int (gI (a))), (2, .int (gI (b))), (3, .int (gI (0)))]) dX10_inPlace_214 (by decide) rfl ?_
                      obtain ⟨yB, g, y3, yN, yV⟩ := mw743
                      have ll : ∀ (kk : Nat) (l : Int) (hll : GH), kk = (41 - l).toNat → Fr [B + 1, B + 3] h hll → hll.2 (B + 2) = some (aI 28700 (gn)) → hll.2 (B + 4) = some (aI 1500 (gF gm gw c)) → hll.2 (B + 3) = some (aI 1500 (wY p g (fun m => gn (287 * a + (m + k))) l)) → MP hp B hll (T) → (0 ≤ l ∧ l ≤ 41) → Go N mX10_inPlace (fun v h1 => Fr [B + 1, B + 3] h h1 ∧ (∃ g4, h1.2 (B + 4) = some (aI 1500 g4)) ∧ MWA B h1 ∧ ((hS hp F G false (dY hp F) (dY hp F + 1).toNat = none ∧ v = some (.int (gI (-4))) ∧ MP hp B h1 T) ∨ (∃ H w, hS hp F G false (dY hp F) (dY hp F + 1).toNat = some H ∧ isK T w ∧ v = some (.int (gI w)) ∧ MP hp B h1 (putT T w H)))) 0 0 hll 216 [(9, .int (gI (l))), (8, .int (gI (dy))), (7, .int (gI (dx))), (6, .int (gI (k))), (5, .int (gI (if dX hp G < 0 then 1 else 0))), (4, .int (gI (dY hp F))), (0, .ref (B)), (1, .int (gI (a))), (2, .int (gI (b))), (3, .int (gI (0)))] [] := by
                        refine Go.ind (fun kk ih_ll => ?_)
                        intro l hll hkk_ll fr_ll cf_ll_0 cf_ll_1 cf_ll_2 cr_ll_0 hl
                        have cg_ll_0 : hll.2 (B) = some (mO B ((p : Int)) (hf) (le) (fc) (pn) (rn) (hn) (qn)) := Fr.at0 fr_ll (Ni.c ⟨ne0, ne1⟩ (Ni.c ⟨ne2, ne3⟩ (Ni.n _))) hm
                        refine g_iload 0 dX10_inPlace_216 rfl ?_
                        refine g_iload_n 9 dX10_inPlace_218 rfl ?_
                        refine g_if_eq (tgt := 227) dX10_inPlace_219 rfl (by first | (unfold gW; omega) | (unfold gW; split <;> omega)) (fun c844 => ?_) (fun c844 => absurd c844 (by omega))
                        refine g_bipush dX10_inPlace_227 (by decide) ?_
                        refine g_icmp_ge (tgt := 307) dX10_inPlace_229 rfl (by first | (unfold gW; omega) | (unfold gW; split <;> omega)) (by first | (unfold gW; omega) | (unfold gW; split <;> omega)) (fun c845 => ?_) (fun c845 => ?_)
                        · skip
                          have hl9 : l = 41 := by omega
                          have mw846 : MW hp B hll (sly hp F (yml hp W G) k.toNat) := ⟨sly_PB hp _ hB yB, _, cf_ll_2, by rw [hl9]; exact wY_NW hp (by omega) (by omega) hN yN hB, fun m m0 m1 => by
                              unfold wY
                              split
                              · exact em_in hp _
                              · exact yV m m0 m1⟩
                          refine g_iinc 3 (ls2 := [(6, .int (gI (k + (-1)))), (9, .int (gI (l))), (8, .int (gI (dy))), (7, .int (gI (dx))), (5, .int (gI (if dX hp G < 0 then 1 else 0))), (4, .int (gI (dY hp F))), (0, .ref (B)), (1, .int (gI (a))), (2, .int (gI (b))), (3, .int (gI (0)))]) dX10_inPlace_307 rfl (by decide) rfl ?_
                          refine g_goto (tgt := 34) dX10_inPlace_310 rfl ?_
                          refine Go.sub [0, 4, 5, 6, 7, 8, 9] rfl ?_
                          exact ih_lk _ (by omega) (k + (-1)) (sly hp F (yml hp W G) k.toNat) (gF gm gw c) hll rfl fr_ll cf_ll_0 cf_ll_1 cr_ll_0 mw846 (by omega) (by
        have e9 : (dY hp F - (k + (-1))).toNat = (dY hp F - k).toNat + 1 := by omega
        rw [e9]
        show (hS hp F G false (dY hp F) (dY hp F - k).toNat).bind _ = _
        rw [hH]
        show (mulC hp W G).map _ = _
        rw [hM]
        show some (if false then _ else _) = _
        rw [show (dY hp F - ((dY hp F - k).toNat : Nat)).toNat = k.toNat by omega]
        rfl)
                        · skip
                          refine g_iload_n 9 dX10_inPlace_232 rfl ?_
                          refine g_if_eq (tgt := 241) dX10_inPlace_233 rfl (by first | (unfold gW; omega) | (unfold gW; split <;> omega)) (fun c847 => ?_) (fun c847 => absurd c847 (by omega))
                          refine g_bipush dX10_inPlace_241 (by decide) ?_
                          refine g_iload 0 dX10_inPlace_243 rfl ?_
                          refine g_imul dX10_inPlace_245 ?_
                          refine g_istore (ls2 := [(10, .int (gI ((7) * (l)))), (9, .int (gI (l))), (8, .int (gI (dy))), (7, .int (gI (dx))), (6, .int (gI (k))), (5, .int (gI (if dX hp G < 0 then 1 else 0))), (4, .int (gI (dY hp F))), (0, .ref (B)), (1, .int (gI (a))), (2, .int (gI (b))), (3, .int (gI (0)))]) dX10_inPlace_246 (by decide) rfl ?_
                          refine g_aload_n 7 dX10_inPlace_248 rfl ?_
                          refine g_getf 3 dX10_inPlace_249 kX10 (by decide) fX10_17 cg_ll_0 rfl ?_
                          refine g_iload 0 dX10_inPlace_252 rfl ?_
                          refine g_aload_n 7 dX10_inPlace_254 rfl ?_
                          refine g_getf 3 dX10_inPlace_255 kX10 (by decide) fX10_17 cg_ll_0 rfl ?_
                          refine g_iload 0 dX10_inPlace_258 rfl ?_
                          refine g_iaload dX10_inPlace_260 cf_ll_2 (by omega) (by omega) (by omega) ?_
                          have erd : wY p g (fun m => gn (287 * a + (m + k))) l (7 * l) = g (7 * l) := wY_at _ _ _
                          rw [erd]
                          have hgb := yV (7 * l) (by omega) (by omega)
                          refine g_iload_n 10 dX10_inPlace_261 rfl ?_
                          refine g_if_eq (tgt := 281) dX10_inPlace_262 rfl (by first | (unfold gW; omega) | (unfold gW; split <;> omega)) (fun c848 => ?_) (fun c848 => absurd c848 (by omega))
                          refine g_aload_n 7 dX10_inPlace_281 rfl ?_
                          refine g_getf 2 dX10_inPlace_282 kX10 (by decide) fX10_13 cg_ll_0 rfl ?_
                          refine g_iload_n 8 dX10_inPlace_285 rfl ?_
                          refine g_iload 1 dX10_inPlace_286 rfl ?_
                          refine g_iload 4 dX10_inPlace_288 rfl ?_
                          refine g_callS (nc2 := 0) (ns2 := 0) (As := [.int (gI (a)), .int (gI (l)), .int (gI (k))]) (st := [.ref (B + 2), .int (gI (g (7 * l))), .int (gI ((7) * (l))), .ref (B + 3)]) rfl dX10_inPlace_290 okX10_cellOf lX10_99 stX10_cellOf (by decide) (by decide) rfl (Nat.le_of_ble_eq_true rfl) (sM_cellOf N _ (a) (l) (k)) (by omega) (by omega) (fun v849 hc849 q849 => ?_)
                          obtain ⟨hq850, rfl⟩ := q849
                          refine Go.nf (h' := hll) (st' := [.int (gI (287 * (a) + 7 * (l) + (k))), .ref (B + 2), .int (gI (g (7 * l))), .int (gI ((7) * (l))), .ref (B + 3)]) hq850 rfl (Nat.le_refl _) (Nat.le_refl _) ?_
                          refine g_iaload dX10_inPlace_293 cf_ll_0 (by omega) (by omega) (by omega) ?_
                          have egn : gn (287 * a + 7 * l + k) = gn (287 * a + (7 * l + k)) := by rw [Int.add_assoc]
                          rw [egn]
                          have hgn : 0 ≤ gn (287 * a + (7 * l + k)) ∧ gn (287 * a + (7 * l + k)) < p := hN.bd hp (k := 7 * l + k) (by omega) (by omega)
                          refine g_iadd dX10_inPlace_294 ?_
                          refine g_aload_n 7 dX10_inPlace_295 rfl ?_
                          refine g_getf 0 dX10_inPlace_296 kX10 (by decide) fX10_78 cg_ll_0 rfl ?_
                          refine g_irem dX10_inPlace_299 (by unfold gW; omega) (by unfold gW; omega) (by omega) ?_
                          rw [tm_em (show 0 ≤ g (7 * l) + gn (287 * a + (7 * l + k)) by omega)]
                          refine g_iastore dX10_inPlace_300 cf_ll_2 (by omega) (by omega) (by omega) ?_
                          obtain ⟨hh851, eh851⟩ : ∃ z : GH, z = hset hll (B + 3) (aI 1500 (gup (wY p g (fun m => gn (287 * a + (m + k))) l) ((7) * (l)) ((g (7 * l) + gn (287 * a + (7 * l + k))) % p))) := ⟨_, rfl⟩
                          refine Go.hp eh851.symm ?_
                          have fh851_0 : hh851.2 (B) = some (mO B ((p : Int)) (hf) (le) (fc) (pn) (rn) (hn) (qn)) := hs_n eh851 ne2 cg_ll_0
                          have fh851_1 : hh851.2 (B + 2) = some (aI 28700 (gn)) := hs_n eh851 ne7 cf_ll_0
                          have fh851_2 : hh851.2 (B + 4) = some (aI 1500 (gF gm gw c)) := hs_n eh851 (ne9).s cf_ll_1
                          have fh851_3 : hh851.2 (B + 3) = some (aI 1500 (gup (wY p g (fun m => gn (287 * a + (m + k))) l) ((7) * (l)) ((g (7 * l) + gn (287 * a + (7 * l + k))) % p))) := hs_s eh851
                          have fx851 : Fr [B + 3] hll hh851 := Fr.w0 (Fr.rf _ _) (List.Mem.head _) eh851
                          have rk851_0 : MP hp B hh851 (T) := (cr_ll_0).fr fx851 (Ni.c ⟨ne5, ne6⟩ (Ni.n _)) (Ni.c ⟨ne7, ne8⟩ (Ni.n _))
                          have fr851 : Fr [B + 1, B + 3] h hh851 := Fr.w0 fr_ll (List.Mem.tail _ (List.Mem.head _)) eh851
                          refine g_iinc 1 (ls2 := [(9, .int (gI (l + 1))), (10, .int (gI ((7) * (l)))), (8, .int (gI (dy))), (7, .int (gI (dx))), (6, .int (gI (k))), (5, .int (gI (if dX hp G < 0 then 1 else 0))), (4, .int (gI (dY hp F))), (0, .ref (B)), (1, .int (gI (a))), (2, .int (gI (b))), (3, .int (gI (0)))]) dX10_inPlace_301 rfl (by decide) rfl ?_
                          refine g_goto (tgt := 216) dX10_inPlace_304 rfl ?_
                          refine Go.sub [0, 2, 3, 4, 5, 6, 7, 8, 9, 10] rfl ?_
                          exact ih_ll _ (by omega) (l + 1) hh851 rfl fr851 fh851_1 fh851_2 (by rw [← wY_s g (fun m => gn (287 * a + (m + k))) hl.1]; exact fh851_3) rk851_0 (by omega)
                      exact ll _ (0) hlm rfl fr_lm cf_lm_0 cf_lm_1 (by rw [wY_0]; exact y3) cr_lm_0 (by omega)
                    · skip
                      refine g_aload_n 6 dX10_inPlace_185 rfl ?_
                      refine g_aload_n 6 dX10_inPlace_186 rfl ?_
                      refine g_getf 4 dX10_inPlace_187 kX10 (by decide) fX10_20 cg_lm_0 rfl ?_
                      refine g_iload 0 dX10_inPlace_190 rfl ?_
                      refine g_iaload dX10_inPlace_192 cf_lm_1 (by omega) (by omega) (by omega) ?_
                      have hgv : gF gm gw c (c2) = cy W (c2 % 7) (c2 / 7) := by
                        unfold gF
                        rw [if_pos (by omega)]
                        have e9 := wN (c2 % 7) (c2 / 7) (by omega) (by omega) (by omega) (by omega)
                        rw [show 7 * (c2 / 7) + c2 % 7 = c2 by omega] at e9; exact e9
                      rw [hgv]
                      have hcb := cy_in hp W (c2 % 7) (c2 / 7)
                      refine g_iload 0 dX10_inPlace_193 rfl ?_
                      refine g_bipush dX10_inPlace_195 (by decide) ?_
                      refine g_idiv dX10_inPlace_197 (by omega) (by omega) (by omega) (by omega) ?_
                      refine g_iload 0 dX10_inPlace_198 rfl ?_
                      refine g_bipush dX10_inPlace_200 (by decide) ?_
                      refine g_irem dX10_inPlace_202 (by unfold gW; omega) (by unfold gW; omega) (by omega) ?_
                      rw [tm_em (show 0 ≤ c2 by omega)]
                      refine g_iload_n 8 dX10_inPlace_203 rfl ?_
                      refine g_callV (nc2 := 0) (ns2 := 0) (ci := 10) (As := [.int (gI (cy W (c2 % 7) (c2 / 7))), .int (gI ((c2) / (7))), .int (gI (c2 % 7)), .int (gI (b))]) (st := []) rfl dX10_inPlace_204 okX10_addTimes lX10_160 itX10_addTimes seX10_addTimes rfl cg_lm_0 (by decide) (by decide) rfl (Nat.le_of_ble_eq_true rfl) (sM_addTimes N _ B p hp hp2 hf le fc pn rn hn qn (cy W (c2 % 7) (c2 / 7)) ((c2) / (7)) (c2 % 7) (b) (by omega) (by omega) (by omega) (by omega) (by omega) (G) (gk) gn cg_lm_0 cf_lm_2 cf_lm_0 hNb hVV (gF gm gw c) cf_lm_1) (by omega) (by omega) (fun v952 hc952 q952 => ?_)
                      obtain ⟨rfl, frc953, h4_953, hd953⟩ := q952
                      have fk954_0 : hc952.2 (B) = some (mO B ((p : Int)) (hf) (le) (fc) (pn) (rn) (hn) (qn)) := Fr.at0 frc953 (Ni.c ⟨ne2, ne3⟩ (Ni.n _)) cg_lm_0
                      have fk954_1 : hc952.2 (B + 2) = some (aI 28700 (gn)) := Fr.at0 frc953 (Ni.c ⟨ne7, ne8⟩ (Ni.n _)) cf_lm_0
                      have rk954_0 : MP hp B hc952 (T) := (cr_lm_0).fr frc953 (Ni.c ⟨ne5, ne6⟩ (Ni.n _)) (Ni.c ⟨ne7, ne8⟩ (Ni.n _))
                      have fr954 : Fr [B + 1, B + 3] h hc952 := (fr_lm).tr ((frc953).mo (sub_c (List.Mem.tail _ (List.Mem.head _)) sub_n))
                      obtain ⟨g2_953, hgd953, h3_953⟩ : ∃ g2 : Int → Int, ((cy W (c2 % 7) (c2 / 7) = 0 ∧ g2 = gk) ∨ (cy W (c2 % 7) (c2 / 7) ≠ 0 ∧ g2 = atL p (gk) (fun m => gn (287 * b + m)) (cy W (c2 % 7) (c2 / 7)) (7 * ((c2) / (7)) + (c2 % 7)) 287)) ∧ hc952.2 (B + 3) = some (aI 1500 g2) := by
                        rcases hd953 with ⟨z1, z2⟩ | ⟨z1, z2⟩
                        · exact ⟨_, Or.inl ⟨z1, rfl⟩, z2⟩
                        · exact ⟨_, Or.inr ⟨z1, rfl⟩, z2⟩
                      refine Go.nf (h' := hc952) (st' := []) rfl rfl (Nat.le_refl _) (Nat.le_refl _) ?_
                      refine g_iinc 0 (ls2 := [(9, .int (gI (c2 + 1))), (8, .int (gI (dy))), (7, .int (gI (dx))), (6, .int (gI (k))), (5, .int (gI (if dX hp G < 0 then 1 else 0))), (4, .int (gI (dY hp F))), (0, .ref (B)), (1, .int (gI (a))), (2, .int (gI (b))), (3, .int (gI (0)))]) dX10_inPlace_207 rfl (by decide) rfl ?_
                      refine g_goto (tgt := 177) dX10_inPlace_210 rfl ?_
                      exact ih_lm _ (by omega) (c2 + 1) (g2_953) hc952 rfl fr954 fk954_1 h4_953 h3_953 rk954_0 (by omega) (by
        have e9 := (mwS hp wB hC hNb (show 0 ≤ c2 / 7 by omega) (show 0 ≤ c2 % 7 by omega) (by omega) rfl (by omega) (by rw [show 7 * (c2 / 7) + c2 % 7 = c2 by omega]; exact hK1) hVV hgd953).1
        rw [show 7 * (c2 / 7) + c2 % 7 = c2 by omega] at e9; exact e9) ((mwS hp wB hC hNb (show 0 ≤ c2 / 7 by omega) (show 0 ≤ c2 % 7 by omega) (by omega) rfl (by omega) (by rw [show 7 * (c2 / 7) + c2 % 7 = c2 by omega]; exact hK1) hVV hgd953).2)
                  exact lm _ (0) (gz) hc215 rfl fr217 fk217_1 rn216_0 z3 rk217_0 (by omega) (mwI_0 hp W G zN) zV
                · skip
                  refine g_bipush dX10_inPlace_171 (by decide) ?_
                  exact g_iret dX10_inPlace_173 rfl ⟨fr217, ⟨_, rn216_0⟩, (rn216_1).a, Or.inl ⟨hS_none hp (n := (dY hp F - k).toNat + 1) (by
        show (hS hp F G false (dY hp F) (dY hp F - k).toNat).bind _ = _
        rw [hH]
        show (mulC hp W G).map _ = _
        rw [show mulC hp W G = none by unfold mulC; rw [if_neg (by omega), if_pos (by omega)]]; rfl) _ (by omega), rfl, rk217_0⟩⟩
        · skip
          refine g_aload_n 6 dX10_inPlace_56 rfl ?_
          refine g_getf 4 dX10_inPlace_57 kX10 (by decide) fX10_20 cg_lc_0 rfl ?_
          refine g_iload 0 dX10_inPlace_60 rfl ?_
          refine g_aload_n 6 dX10_inPlace_62 rfl ?_
          refine g_getf 3 dX10_inPlace_63 kX10 (by decide) fX10_17 cg_lc_0 rfl ?_
          refine g_iload 0 dX10_inPlace_66 rfl ?_
          refine g_iaload dX10_inPlace_68 cf_lc_2 (by omega) (by omega) (by omega) ?_
          have hgw : 0 ≤ c → c < 287 → 0 ≤ gw c ∧ gw c < p := fun q0 q1 => wV c q0 (by omega)
          refine g_iastore dX10_inPlace_69 cf_lc_1 (by omega) (by omega) (by omega) ?_
          obtain ⟨hh1055, eh1055⟩ : ∃ z : GH, z = hset hlc (B + 4) (aI 1500 (gup (gF gm gw c) (c) ((gw) (c)))) := ⟨_, rfl⟩
          refine Go.hp eh1055.symm ?_
          have fh1055_0 : hh1055.2 (B) = some (mO B ((p : Int)) (hf) (le) (fc) (pn) (rn) (hn) (qn)) := hs_n eh1055 ne3 cg_lc_0
          have fh1055_1 : hh1055.2 (B + 2) = some (aI 28700 (gn)) := hs_n eh1055 ne8 cf_lc_0
          have fh1055_2 : hh1055.2 (B + 4) = some (aI 1500 (gup (gF gm gw c) (c) ((gw) (c)))) := hs_s eh1055
          have fh1055_3 : hh1055.2 (B + 3) = some (aI 1500 (gw)) := hs_n eh1055 ne9 cf_lc_2
          have fx1055 : Fr [B + 3] hlc hh1055 := Fr.w1 (Fr.rf _ _) (List.Mem.head _) eh1055
          have rk1055_0 : MP hp B hh1055 (T) := (cr_lc_0).fr fx1055 (Ni.c ⟨ne5, ne6⟩ (Ni.n _)) (Ni.c ⟨ne7, ne8⟩ (Ni.n _))
          have fr1055 : Fr [B + 1, B + 3] h hh1055 := Fr.w1 fr_lc (List.Mem.tail _ (List.Mem.head _)) eh1055
          refine g_aload_n 6 dX10_inPlace_70 rfl ?_
          refine g_getf 3 dX10_inPlace_71 kX10 (by decide) fX10_17 fh1055_0 rfl ?_
          refine g_iload 0 dX10_inPlace_74 rfl ?_
          refine g_iaload dX10_inPlace_76 fh1055_3 (by omega) (by omega) (by omega) ?_
          have hgw := wV c hc.1 (by omega)
          refine g_if_eq (tgt := 124) dX10_inPlace_77 rfl (by first | (unfold gW; omega) | (unfold gW; split <;> omega)) (fun c1056 => ?_) (fun c1056 => ?_)
          · skip
            have hz0 : gw c = 0 := by omega
            refine g_iinc 0 (ls2 := [(9, .int (gI (c + 1))), (8, .int (gI (dy))), (7, .int (gI (dx))), (6, .int (gI (k))), (5, .int (gI (if dX hp G < 0 then 1 else 0))), (4, .int (gI (dY hp F))), (0, .ref (B)), (1, .int (gI (a))), (2, .int (gI (b))), (3, .int (gI (0)))]) dX10_inPlace_124 rfl (by decide) rfl ?_
            refine g_goto (tgt := 48) dX10_inPlace_127 rfl ?_
            exact ih_lc _ (by omega) (c + 1) (dx) (dy) hh1055 rfl fr1055 fh1055_1 (by rw [← gF_s gm gw hc.1]; exact fh1055_2) fh1055_3 rk1055_0 (by omega) (wI_z hW hz0)
          · skip
            have hnz : gw c ≠ 0 := by omega
            refine g_iload 0 dX10_inPlace_80 rfl ?_
            refine g_bipush dX10_inPlace_82 (by decide) ?_
            refine g_idiv dX10_inPlace_84 (by omega) (by omega) (by omega) (by omega) ?_
            refine g_iload 2 dX10_inPlace_85 rfl ?_
            refine g_icmp_le (tgt := 98) dX10_inPlace_87 rfl (by first | (unfold gW; omega) | (unfold gW; split <;> omega)) (by first | (unfold gW; omega) | (unfold gW; split <;> omega)) (fun c1057 => ?_) (fun c1057 => ?_)
            · skip
              refine g_iload 2 dX10_inPlace_98 rfl ?_
              refine g_istore (ls2 := [(7, .int (gI (dx))), (9, .int (gI (c))), (8, .int (gI (dy))), (6, .int (gI (k))), (5, .int (gI (if dX hp G < 0 then 1 else 0))), (4, .int (gI (dY hp F))), (0, .ref (B)), (1, .int (gI (a))), (2, .int (gI (b))), (3, .int (gI (0)))]) dX10_inPlace_100 (by decide) rfl ?_
              refine g_iload 1 dX10_inPlace_102 rfl ?_
              refine g_bipush dX10_inPlace_104 (by decide) ?_
              refine g_irem dX10_inPlace_106 (by unfold gW; omega) (by unfold gW; omega) (by omega) ?_
              rw [tm_em hc.1]
              refine g_iload 2 dX10_inPlace_107 rfl ?_
              refine g_icmp_le (tgt := 120) dX10_inPlace_109 rfl (by first | (unfold gW; omega) | (unfold gW; split <;> omega)) (by first | (unfold gW; omega) | (unfold gW; split <;> omega)) (fun c1058 => ?_) (fun c1058 => ?_)
              · skip
                refine g_iload 2 dX10_inPlace_120 rfl ?_
                refine g_istore (ls2 := [(8, .int (gI (dy))), (7, .int (gI (dx))), (9, .int (gI (c))), (6, .int (gI (k))), (5, .int (gI (if dX hp G < 0 then 1 else 0))), (4, .int (gI (dY hp F))), (0, .ref (B)), (1, .int (gI (a))), (2, .int (gI (b))), (3, .int (gI (0)))]) dX10_inPlace_122 (by decide) rfl ?_
                refine g_iinc 2 (ls2 := [(9, .int (gI (c + 1))), (8, .int (gI (dy))), (7, .int (gI (dx))), (6, .int (gI (k))), (5, .int (gI (if dX hp G < 0 then 1 else 0))), (4, .int (gI (dY hp F))), (0, .ref (B)), (1, .int (gI (a))), (2, .int (gI (b))), (3, .int (gI (0)))]) dX10_inPlace_124 rfl (by decide) rfl ?_
                refine g_goto (tgt := 48) dX10_inPlace_127 rfl ?_
                exact ih_lc _ (by omega) (c + 1) (dx) (dy) hh1055 rfl fr1055 fh1055_1 (by rw [← gF_s gm gw hc.1]; exact fh1055_2) fh1055_3 rk1055_0 (by omega) (by have e9 := wI_s hW hc.1 hnz; rw [if_neg (by omega), if_neg (by omega)] at e9; exact e9)
              · skip
                refine g_iload 1 dX10_inPlace_112 rfl ?_
                refine g_bipush dX10_inPlace_114 (by decide) ?_
                refine g_irem dX10_inPlace_116 (by unfold gW; omega) (by unfold gW; omega) (by omega) ?_
                rw [tm_em hc.1]
                refine g_goto (tgt := 122) dX10_inPlace_117 rfl ?_
                refine g_istore (ls2 := [(8, .int (gI (c % 7))), (7, .int (gI (dx))), (9, .int (gI (c))), (6, .int (gI (k))), (5, .int (gI (if dX hp G < 0 then 1 else 0))), (4, .int (gI (dY hp F))), (0, .ref (B)), (1, .int (gI (a))), (2, .int (gI (b))), (3, .int (gI (0)))]) dX10_inPlace_122 (by decide) rfl ?_
                refine g_iinc 2 (ls2 := [(9, .int (gI (c + 1))), (8, .int (gI (c % 7))), (7, .int (gI (dx))), (6, .int (gI (k))), (5, .int (gI (if dX hp G < 0 then 1 else 0))), (4, .int (gI (dY hp F))), (0, .ref (B)), (1, .int (gI (a))), (2, .int (gI (b))), (3, .int (gI (0)))]) dX10_inPlace_124 rfl (by decide) rfl ?_
                refine g_goto (tgt := 48) dX10_inPlace_127 rfl ?_
                exact ih_lc _ (by omega) (c + 1) (dx) (c % 7) hh1055 rfl fr1055 fh1055_1 (by rw [← gF_s gm gw hc.1]; exact fh1055_2) fh1055_3 rk1055_0 (by omega) (by have e9 := wI_s hW hc.1 hnz; rw [if_neg (by omega), if_pos (by omega)] at e9; exact e9)
            · skip
              refine g_iload 0 dX10_inPlace_90 rfl ?_
              refine g_bipush dX10_inPlace_92 (by decide) ?_
              refine g_idiv dX10_inPlace_94 (by omega) (by omega) (by omega) (by omega) ?_
              refine g_goto (tgt := 100) dX10_inPlace_95 rfl ?_
              refine g_istore (ls2 := [(7, .int (gI ((c) / (7)))), (9, .int (gI (c))), (8, .int (gI (dy))), (6, .int (gI (k))), (5, .int (gI (if dX hp G < 0 then 1 else 0))), (4, .int (gI (dY hp F))), (0, .ref (B)), (1, .int (gI (a))), (2, .int (gI (b))), (3, .int (gI (0)))]) dX10_inPlace_100 (by decide) rfl ?_
              refine g_iload 1 dX10_inPlace_102 rfl ?_
              refine g_bipush dX10_inPlace_104 (by decide) ?_
              refine g_irem dX10_inPlace_106 (by unfold gW; omega) (by unfold gW; omega) (by omega) ?_
              rw [tm_em hc.1]
              refine g_iload 2 dX10_inPlace_107 rfl ?_
              refine g_icmp_le (tgt := 120) dX10_inPlace_109 rfl (by first | (unfold gW; omega) | (unfold gW; split <;> omega)) (by first | (unfold gW; omega) | (unfold gW; split <;> omega)) (fun c1059 => ?_) (fun c1059 => ?_)
              · skip
                refine g_iload 2 dX10_inPlace_120 rfl ?_
                refine g_istore (ls2 := [(8, .int (gI (dy))), (7, .int (gI ((c) / (7)))), (9, .int (gI (c))), (6, .int (gI (k))), (5, .int (gI (if dX hp G < 0 then 1 else 0))), (4, .int (gI (dY hp F))), (0, .ref (B)), (1, .int (gI (a))), (2, .int (gI (b))), (3, .int (gI (0)))]) dX10_inPlace_122 (by decide) rfl ?_
                refine g_iinc 2 (ls2 := [(9, .int (gI (c + 1))), (8, .int (gI (dy))), (7, .int (gI ((c) / (7)))), (6, .int (gI (k))), (5, .int (gI (if dX hp G < 0 then 1 else 0))), (4, .int (gI (dY hp F))), (0, .ref (B)), (1, .int (gI (a))), (2, .int (gI (b))), (3, .int (gI (0)))]) dX10_inPlace_124 rfl (by decide) rfl ?_
                refine g_goto (tgt := 48) dX10_inPlace_127 rfl ?_
                exact ih_lc _ (by omega) (c + 1) ((c) / (7)) (dy) hh1055 rfl fr1055 fh1055_1 (by rw [← gF_s gm gw hc.1]; exact fh1055_2) fh1055_3 rk1055_0 (by omega) (by have e9 := wI_s hW hc.1 hnz; rw [if_pos (by omega), if_neg (by omega)] at e9; exact e9)
              · skip
                refine g_iload 1 dX10_inPlace_112 rfl ?_
                refine g_bipush dX10_inPlace_114 (by decide) ?_
                refine g_irem dX10_inPlace_116 (by unfold gW; omega) (by unfold gW; omega) (by omega) ?_
                rw [tm_em hc.1]
                refine g_goto (tgt := 122) dX10_inPlace_117 rfl ?_
                refine g_istore (ls2 := [(8, .int (gI (c % 7))), (7, .int (gI ((c) / (7)))), (9, .int (gI (c))), (6, .int (gI (k))), (5, .int (gI (if dX hp G < 0 then 1 else 0))), (4, .int (gI (dY hp F))), (0, .ref (B)), (1, .int (gI (a))), (2, .int (gI (b))), (3, .int (gI (0)))]) dX10_inPlace_122 (by decide) rfl ?_
                refine g_iinc 2 (ls2 := [(9, .int (gI (c + 1))), (8, .int (gI (c % 7))), (7, .int (gI ((c) / (7)))), (6, .int (gI (k))), (5, .int (gI (if dX hp G < 0 then 1 else 0))), (4, .int (gI (dY hp F))), (0, .ref (B)), (1, .int (gI (a))), (2, .int (gI (b))), (3, .int (gI (0)))]) dX10_inPlace_124 rfl (by decide) rfl ?_
                refine g_goto (tgt := 48) dX10_inPlace_127 rfl ?_
                exact ih_lc _ (by omega) (c + 1) ((c) / (7)) (c % 7) hh1055 rfl fr1055 fh1055_1 (by rw [← gF_s gm gw hc.1]; exact fh1055_2) fh1055_3 rk1055_0 (by omega) (by have e9 := wI_s hW hc.1 hnz; rw [if_pos (by omega), if_pos (by omega)] at e9; exact e9)
      exact lc _ (0) (-1) (-1) hlk rfl fr_lk cf_lk_0 (by rw [gF_0]; exact cf_lk_1) w3 cr_lk_0 (by omega) (wI_0 gw)
  exact lk _ (dY hp F) (zF hp) (gm0) hc4 rfl fr6 fk6_1 rn5_0 rk6_0 rn5_1 (by omega) (by rw [Int.sub_self]; rfl)
set_option maxHeartbeats 4000000 in
set_option maxRecDepth 100000 in
theorem sM_toRegister (N : GN) (h : GH) (B p : Nat) (hp : prm p) (hp2 : p ≤ 65536) (hf le fc pn rn hn qn : Int) (T : PT p) (F : Pxy p) (a r : Int) (hr : 0 ≤ r ∧ r < 40) (a0 : 0 ≤ a) (a1 : a < 100) (ha : T a.toNat = some F) (hm : h.2 B = some (mO B p hf le fc pn rn hn qn)) (ma : MA B h) (hT : MP hp B h T) : Sp N yX10_toRegister mX10_toRegister 0 0 [.ref (B), .int (gI (a)), .int (gI (r))] h (fun v h1 => v = none ∧ MF B [] [r] h h1 ∧ MG hp B h1 (r) (F 0)) := by
  refine Sp.of (by decide) rfl rfl (Nat.le_of_ble_eq_true rfl) ?_
  show Go N mX10_toRegister _ 0 0 h 0 [(0, .ref (B)), (1, .int (gI (a))), (2, .int (gI (r)))] []
  have hp1 := hp.1
  have neA : NE B (B + 5) := by unfold NE; omega
  have neB : NE B (B + 6) := by unfold NE; omega
  have neC : NE (B + 5) (B + 6) := by unfold NE; omega
  have ne0 : NE (B) (B + 2) := by unfold NE; omega
  have ne1 : NE (B) (B + 5) := by unfold NE; omega
  have ne2 : NE (B) (B + 6) := by unfold NE; omega
  have ne3 : NE (B + 2) (B + 5) := by unfold NE; omega
  have ne4 : NE (B + 2) (B + 6) := by unfold NE; omega
  have ne5 : NE (B + 5) (B + 6) := by unfold NE; omega
  obtain ⟨hB, gn, w2, hN⟩ := hT.at a0 a1 ha
  have hF0 := row_po hp hB 0
  obtain ⟨R, d, hu, hv, hR, hD⟩ := ma
  refine g_iconst dX10_toRegister_0 ?_
  refine g_istore_n (ls2 := [(3, .int (gI (0))), (0, .ref (B)), (1, .int (gI (a))), (2, .int (gI (r)))]) dX10_toRegister_1 rfl (by decide) rfl ?_
  have lo : ∀ (kk : Nat) (k : Int) (hlo : GH), kk = (200 - k).toNat → Fr [B + 5] h hlo → hlo.2 (B + 5) = some (aI 8000 (ar (gup R r (gF (R r) (cf (F 0)) k)))) → hlo.2 (B + 6) = some (aI 40 (d)) → (0 ≤ k) → (k ≤ 200) → Go N mX10_toRegister (fun v h1 => v = none ∧ MF B [] [r] h h1 ∧ MG hp B h1 (r) (F 0)) 0 0 hlo 2 [(3, .int (gI (k))), (0, .ref (B)), (1, .int (gI (a))), (2, .int (gI (r)))] [] := by
    refine Go.ind (fun kk ih_lo => ?_)
    intro k hlo hkk_lo fr_lo cf_lo_0 cf_lo_1 hk0 hk1
    have cg_lo_0 : hlo.2 (B) = some (mO B ((p : Int)) (hf) (le) (fc) (pn) (rn) (hn) (qn)) := Fr.at0 fr_lo (Ni.c ⟨ne1, ne2⟩ (Ni.n _)) hm
    have cg_lo_3 : hlo.2 (B + 2) = some (aI 28700 (gn)) := Fr.at0 fr_lo (Ni.c ⟨ne3, ne4⟩ (Ni.n _)) w2
    refine g_iload_n 0 dX10_toRegister_2 rfl ?_
    refine g_sipush dX10_toRegister_3 (by decide) ?_
    refine g_icmp_ge (tgt := 48) dX10_toRegister_6 rfl (by unfold gW; omega) (by unfold gW; omega) (fun c101 => ?_) (fun c101 => ?_)
    · skip
      have hk2 : k = 200 := by omega
      refine g_aload_n 1 dX10_toRegister_48 rfl ?_
      refine g_iload_n 3 dX10_toRegister_49 rfl ?_
      refine g_callV (nc2 := 0) (ns2 := 0) (ci := 10) (As := [.int (gI (r))]) (st := []) rfl dX10_toRegister_50 okX10_measure lX10_164 itX10_measure seX10_measure rfl cg_lo_0 (by decide) (by decide) rfl (Nat.le_of_ble_eq_true rfl) (sM_measure N _ B p hp hp2 hf le fc pn rn hn qn (r) (by omega) cg_lo_0 ((gup R r (gF (R r) (cf (F 0)) k))) (d) (F 0) cf_lo_0 cf_lo_1 (fun j j0 j1 => by rw [gup_s]; unfold gF; rw [if_pos (by omega)]; exact cf_in (F 0) hp _) (by
        rw [gup_s]
        refine (ph_cf hp hF0.1 (d := 199) (by omega)).symm.trans (ph_cg hp (fun j j0 j1 => ?_))
        unfold gF
        rw [if_pos (by omega)])) (by omega) (by omega) (fun v102 hc102 q102 => ?_)
      obtain ⟨rfl, mfc103, rn103⟩ := q102
      have mfd103 : MF B [] [r] h hc102 := (MF.one (r := r) fr_lo hu hv hR hD cf_lo_0 cf_lo_1 (fun s hs => gup_n _ _ hs) (fun _ _ => rfl)).tr mfc103
      have fk104_0 : hc102.2 (B) = some (mO B ((p : Int)) (hf) (le) (fc) (pn) (rn) (hn) (qn)) := Fr.at0 mfc103.1 (Ni.c ⟨ne1, ne2⟩ (Ni.n _)) cg_lo_0
      have fk104_1 : hc102.2 (B + 2) = some (aI 28700 (gn)) := Fr.at0 mfc103.1 (Ni.c ⟨ne3, ne4⟩ (Ni.n _)) cg_lo_3
      have fr104 : Fr [B + 5] h hc102 := (fr_lo).tr ((mfc103.1).mo (sub_c (List.Mem.head _) sub_n))
      refine Go.nf (h' := hc102) (st' := []) rfl rfl (Nat.le_refl _) (Nat.le_refl _) ?_
      exact g_vret dX10_toRegister_53 rfl ⟨rfl, mfd103, rn103⟩
    · skip
      refine g_aload_n 1 dX10_toRegister_9 rfl ?_
      refine g_getf 5 dX10_toRegister_10 kX10 (by decide) fX10_23 cg_lo_0 rfl ?_
      refine g_sipush dX10_toRegister_13 (by decide) ?_
      refine g_iload_n 3 dX10_toRegister_16 rfl ?_
      refine g_imul dX10_toRegister_17 ?_
      refine g_iload_n 0 dX10_toRegister_18 rfl ?_
      refine g_iadd dX10_toRegister_19 ?_
      refine g_iload_n 0 dX10_toRegister_20 rfl ?_
      refine g_bipush dX10_toRegister_21 (by decide) ?_
      refine g_icmp_gt (tgt := 40) dX10_toRegister_23 rfl (by unfold gW; omega) (by unfold gW; omega) (fun c105 => ?_) (fun c105 => ?_)
      · skip
        have hz0 : cf (F 0) k = 0 := cf_hi hp hF0.1 (by omega)
        refine g_iconst dX10_toRegister_40 ?_
        refine g_iastore dX10_toRegister_41 cf_lo_0 (by omega) (by omega) (by omega) ?_
        obtain ⟨hh106, eh106⟩ : ∃ z : GH, z = hset hlo (B + 5) (aI 8000 (gup (ar (gup R r (gF (R r) (cf (F 0)) k))) (((200) * (r)) + (k)) (0))) := ⟨_, rfl⟩
        refine Go.hp eh106.symm ?_
        have fh106_0 : hh106.2 (B) = some (mO B ((p : Int)) (hf) (le) (fc) (pn) (rn) (hn) (qn)) := hs_n eh106 ne1 cg_lo_0
        have fh106_1 : hh106.2 (B + 2) = some (aI 28700 (gn)) := hs_n eh106 ne3 cg_lo_3
        have fh106_2 : hh106.2 (B + 5) = some (aI 8000 (gup (ar (gup R r (gF (R r) (cf (F 0)) k))) (((200) * (r)) + (k)) (0))) := hs_s eh106
        have fh106_3 : hh106.2 (B + 6) = some (aI 40 (d)) := hs_n eh106 (ne5).s cf_lo_1
        have fr106 : Fr [B + 5] h hh106 := Fr.w0 fr_lo (List.Mem.head _) eh106
        refine g_iinc 0 (ls2 := [(3, .int (gI (k + 1))), (0, .ref (B)), (1, .int (gI (a))), (2, .int (gI (r)))]) dX10_toRegister_42 rfl (by decide) rfl ?_
        refine g_goto (tgt := 2) dX10_toRegister_45 rfl ?_
        exact ih_lo _ (by omega) (k + 1) hh106 rfl fr106 (by rw [← gF_s (R r) (cf (F 0)) hk0, ← ar_wg R _ hk0 (by omega), hz0]; exact fh106_2) fh106_3 (by omega) (by omega)
      · skip
        refine g_aload_n 1 dX10_toRegister_26 rfl ?_
        refine g_getf 2 dX10_toRegister_27 kX10 (by decide) fX10_13 cg_lo_0 rfl ?_
        refine g_iload_n 2 dX10_toRegister_30 rfl ?_
        refine g_iload_n 0 dX10_toRegister_31 rfl ?_
        refine g_iconst dX10_toRegister_32 ?_
        refine g_callS (nc2 := 0) (ns2 := 0) (As := [.int (gI (a)), .int (gI (k)), .int (gI (0))]) (st := [.ref (B + 2), .int (gI (((200) * (r)) + (k))), .ref (B + 5)]) rfl dX10_toRegister_33 okX10_cellOf lX10_99 stX10_cellOf (by decide) (by decide) rfl (Nat.le_of_ble_eq_true rfl) (sM_cellOf N _ (a) (k) (0)) (by omega) (by omega) (fun v107 hc107 q107 => ?_)
        obtain ⟨hq108, rfl⟩ := q107
        refine Go.nf (h' := hlo) (st' := [.int (gI (287 * (a) + 7 * (k) + (0))), .ref (B + 2), .int (gI (((200) * (r)) + (k))), .ref (B + 5)]) hq108 rfl (Nat.le_refl _) (Nat.le_refl _) ?_
        refine g_iaload dX10_toRegister_36 cg_lo_3 (by omega) (by omega) (by omega) ?_
        have hgv : gn (287 * a + 7 * k + 0) = cf (F 0) k := by
          have e9 := hN 0 k (by omega) (by omega) (by omega) (by omega)
          rw [show 287 * a + 7 * k + 0 = 287 * a + (7 * k + 0) by omega]; exact e9
        rw [hgv]
        refine g_goto (tgt := 41) dX10_toRegister_37 rfl ?_
        refine g_iastore dX10_toRegister_41 cf_lo_0 (by omega) (by omega) (by omega) ?_
        obtain ⟨hh109, eh109⟩ : ∃ z : GH, z = hset hlo (B + 5) (aI 8000 (gup (ar (gup R r (gF (R r) (cf (F 0)) k))) (((200) * (r)) + (k)) (cf (F 0) k))) := ⟨_, rfl⟩
        refine Go.hp eh109.symm ?_
        have fh109_0 : hh109.2 (B) = some (mO B ((p : Int)) (hf) (le) (fc) (pn) (rn) (hn) (qn)) := hs_n eh109 ne1 cg_lo_0
        have fh109_1 : hh109.2 (B + 2) = some (aI 28700 (gn)) := hs_n eh109 ne3 cg_lo_3
        have fh109_2 : hh109.2 (B + 5) = some (aI 8000 (gup (ar (gup R r (gF (R r) (cf (F 0)) k))) (((200) * (r)) + (k)) (cf (F 0) k))) := hs_s eh109
        have fh109_3 : hh109.2 (B + 6) = some (aI 40 (d)) := hs_n eh109 (ne5).s cf_lo_1
        have fr109 : Fr [B + 5] h hh109 := Fr.w0 fr_lo (List.Mem.head _) eh109
        refine g_iinc 0 (ls2 := [(3, .int (gI (k + 1))), (0, .ref (B)), (1, .int (gI (a))), (2, .int (gI (r)))]) dX10_toRegister_42 rfl (by decide) rfl ?_
        refine g_goto (tgt := 2) dX10_toRegister_45 rfl ?_
        exact ih_lo _ (by omega) (k + 1) hh109 rfl fr109 (by rw [← gF_s (R r) (cf (F 0)) hk0, ← ar_wg R _ hk0 (by omega)]; exact fh109_2) fh109_3 (by omega) (by omega)
  exact lo _ (0) h rfl (Fr.rf [B + 5] h) (by rw [gF_0, gup_id]; exact hR) hD (by omega) (by omega)
set_option maxHeartbeats 4000000 in
set_option maxRecDepth 100000 in
theorem sM_keepRegister (N : GN) (h : GH) (B p : Nat) (hp : prm p) (hp2 : p ≤ 65536) (hf le fc pn rn hn qn : Int) (T : PT p) (r : Int) (f : Px p) (hm : h.2 B = some (mO B p hf le fc pn rn hn qn)) (gm : Int → Int) (hT : MP hp B h T) (hw : MWA B h) (h4 : h.2 (B + 4) = some (aI 1500 gm)) (hG : MG hp B h r f) : Sp N yX10_keepRegister mX10_keepRegister 0 0 [.ref (B), .int (gI (r))] h (fun v h1 => MF B [B + 1, B + 3] [] h h1 ∧ h1.2 (B + 4) = some (aI 1500 gm) ∧ MWA B h1 ∧ ((40 < dgi hp f ∧ v = some (.int (gI (-4))) ∧ MP hp B h1 T) ∨ (dgi hp f ≤ 40 ∧ ∃ w, isK T w ∧ v = some (.int (gI w)) ∧ MP hp B h1 (putT T w (pF hp f))))) := by
  refine Sp.of (by decide) rfl rfl (Nat.le_of_ble_eq_true rfl) ?_
  show Go N mX10_keepRegister _ 0 0 h 0 [(0, .ref (B)), (1, .int (gI (r)))] []
  have hp1 := hp.1
  have ne0 : NE (B) (B + 1) := by unfold NE; omega
  have ne1 : NE (B) (B + 2) := by unfold NE; omega
  have ne2 : NE (B) (B + 3) := by unfold NE; omega
  have ne3 : NE (B) (B + 4) := by unfold NE; omega
  have ne4 : NE (B) (B + 5) := by unfold NE; omega
  have ne5 : NE (B) (B + 6) := by unfold NE; omega
  have ne6 : NE (B + 1) (B + 2) := by unfold NE; omega
  have ne7 : NE (B + 1) (B + 3) := by unfold NE; omega
  have ne8 : NE (B + 1) (B + 4) := by unfold NE; omega
  have ne9 : NE (B + 1) (B + 5) := by unfold NE; omega
  have ne10 : NE (B + 1) (B + 6) := by unfold NE; omega
  have ne11 : NE (B + 2) (B + 3) := by unfold NE; omega
  have ne12 : NE (B + 2) (B + 4) := by unfold NE; omega
  have ne13 : NE (B + 2) (B + 5) := by unfold NE; omega
  have ne14 : NE (B + 2) (B + 6) := by unfold NE; omega
  have ne15 : NE (B + 3) (B + 4) := by unfold NE; omega
  have ne16 : NE (B + 3) (B + 5) := by unfold NE; omega
  have ne17 : NE (B + 3) (B + 6) := by unfold NE; omega
  have ne18 : NE (B + 4) (B + 5) := by unfold NE; omega
  have ne19 : NE (B + 4) (B + 6) := by unfold NE; omega
  have ne20 : NE (B + 5) (B + 6) := by unfold NE; omega
  have hr := hG.in
  have hlt := hG.lt
  obtain ⟨R, d, hu, hv, hR, hD⟩ := hG.ma
  have hG9 := hG.at hu hv hR hD
  have n5 : Ni (B + 5) [B + 1, B + 3] := Ni.c (by unfold NE; omega) (Ni.c (by unfold NE; omega) (Ni.n _))
  have n6 : Ni (B + 6) [B + 1, B + 3] := Ni.c (by unfold NE; omega) (Ni.c (by unfold NE; omega) (Ni.n _))
  refine g_aload_n 0 dX10_keepRegister_0 rfl ?_
  refine g_getf 6 dX10_keepRegister_1 kX10 (by decide) fX10_26 hm rfl ?_
  refine g_iload_n 1 dX10_keepRegister_4 rfl ?_
  refine g_iaload dX10_keepRegister_5 hD (by omega) (by omega) (by omega) ?_
  rw [hG9.1]
  refine g_bipush dX10_keepRegister_6 (by decide) ?_
  refine g_icmp_le (tgt := 14) dX10_keepRegister_8 rfl (by unfold gW; omega) (by unfold gW; omega) (fun c1 => ?_) (fun c1 => ?_)
  · skip
    refine g_aload_n 0 dX10_keepRegister_14 rfl ?_
    refine g_callV (nc2 := 0) (ns2 := 0) (ci := 10) (As := []) (st := []) rfl dX10_keepRegister_15 okX10_clear lX10_107 itX10_clear seX10_clear rfl hm (by decide) (by decide) rfl (Nat.le_of_ble_eq_true rfl) (sM_clear N _ B p hp hp2 hf le fc pn rn hn qn (gm) hm hw h4) (by omega) (by omega) (fun v2 hc2 q2 => ?_)
    obtain ⟨rfl, frc3, rn3_0, rn3_1⟩ := q2
    have fk4_0 : hc2.2 (B) = some (mO B ((p : Int)) (hf) (le) (fc) (pn) (rn) (hn) (qn)) := Fr.at0 frc3 (Ni.c ⟨ne2, ne3⟩ (Ni.n _)) hm
    have fk4_2 : hc2.2 (B + 5) = some (aI 8000 (ar R)) := Fr.at0 frc3 (Ni.c ⟨(ne16).s, (ne18).s⟩ (Ni.n _)) hR
    have fk4_3 : hc2.2 (B + 6) = some (aI 40 (d)) := Fr.at0 frc3 (Ni.c ⟨(ne17).s, (ne19).s⟩ (Ni.n _)) hD
    have rk4_0 : MP hp B hc2 (T) := (hT).fr frc3 (Ni.c ⟨ne7, ne8⟩ (Ni.n _)) (Ni.c ⟨ne11, ne12⟩ (Ni.n _))
    have fr4 : Fr [B + 1, B + 3] h hc2 := ((Fr.rf [B + 1, B + 3] h)).tr ((frc3).mo (sub_c (List.Mem.tail _ (List.Mem.head _)) sub_n))
    refine Go.nf (h' := hc2) (st' := []) rfl rfl (Nat.le_refl _) (Nat.le_refl _) ?_
    refine g_iconst dX10_keepRegister_18 ?_
    refine g_istore_n (ls2 := [(2, .int (gI (0))), (0, .ref (B)), (1, .int (gI (r)))]) dX10_keepRegister_19 rfl (by decide) rfl ?_
    obtain ⟨zB, gz, z3, zN, zV⟩ := rn3_1
    have lo : ∀ (kk : Nat) (k : Int) (hlo : GH), kk = (41 - k).toNat → Fr [B + 1, B + 3] h hlo → hlo.2 (B + 4) = some (aI 1500 (gm)) → hlo.2 (B + 3) = some (aI 1500 (wR f gz k)) → MP hp B hlo (T) → (0 ≤ k) → (k ≤ 41) → Go N mX10_keepRegister (fun v h1 => MF B [B + 1, B + 3] [] h h1 ∧ h1.2 (B + 4) = some (aI 1500 gm) ∧ MWA B h1 ∧ ((40 < dgi hp f ∧ v = some (.int (gI (-4))) ∧ MP hp B h1 T) ∨ (dgi hp f ≤ 40 ∧ ∃ w, isK T w ∧ v = some (.int (gI w)) ∧ MP hp B h1 (putT T w (pF hp f))))) 0 0 hlo 20 [(2, .int (gI (k))), (0, .ref (B)), (1, .int (gI (r)))] [] := by
      refine Go.ind (fun kk ih_lo => ?_)
      intro k hlo hkk_lo fr_lo cf_lo_0 cf_lo_1 cr_lo_0 hk0 hk1
      have cg_lo_0 : hlo.2 (B) = some (mO B ((p : Int)) (hf) (le) (fc) (pn) (rn) (hn) (qn)) := Fr.at0 fr_lo (Ni.c ⟨ne0, ne1⟩ (Ni.c ⟨ne2, ne3⟩ (Ni.n _))) hm
      have cg_lo_2 : hlo.2 (B + 5) = some (aI 8000 (ar R)) := Fr.at0 fr_lo (Ni.c ⟨(ne9).s, (ne13).s⟩ (Ni.c ⟨(ne16).s, (ne18).s⟩ (Ni.n _))) hR
      have cg_lo_3 : hlo.2 (B + 6) = some (aI 40 (d)) := Fr.at0 fr_lo (Ni.c ⟨(ne10).s, (ne14).s⟩ (Ni.c ⟨(ne17).s, (ne19).s⟩ (Ni.n _))) hD
      refine g_iload_n 0 dX10_keepRegister_20 rfl ?_
      refine g_bipush dX10_keepRegister_21 (by decide) ?_
      refine g_icmp_gt (tgt := 53) dX10_keepRegister_23 rfl (by unfold gW; omega) (by unfold gW; omega) (fun c105 => ?_) (fun c105 => ?_)
      · skip
        have hk9 : k = 41 := by omega
        have mw106 : MW hp B hlo (pF hp f) := ⟨pF_PB hp hG.po (by omega), _, cf_lo_1, by rw [hk9]; exact wR_NW hp zN, fun m m0 m1 => by
            unfold wR
            split
            · exact cf_in f hp _
            · exact zV m m0 m1⟩
        refine g_aload_n 1 dX10_keepRegister_53 rfl ?_
        refine g_callV (nc2 := 0) (ns2 := 0) (ci := 10) (As := []) (st := []) rfl dX10_keepRegister_54 okX10_keep lX10_114 itX10_keep seX10_keep rfl cg_lo_0 (by decide) (by decide) rfl (Nat.le_of_ble_eq_true rfl) (sM_keep N _ B p hp hp2 hf le fc pn rn hn qn T (pF hp f) cg_lo_0 cr_lo_0 mw106) (by omega) (by omega) (fun v107 hc107 q107 => ?_)
        obtain ⟨frc108, w108, hK108, rfl, mp108⟩ := q107
        have fk109_0 : hc107.2 (B) = some (mO B ((p : Int)) (hf) (le) (fc) (pn) (rn) (hn) (qn)) := Fr.at0 frc108 (Ni.c ⟨ne0, ne1⟩ (Ni.n _)) cg_lo_0
        have fk109_1 : hc107.2 (B + 5) = some (aI 8000 (ar R)) := Fr.at0 frc108 (Ni.c ⟨(ne9).s, (ne13).s⟩ (Ni.n _)) cg_lo_2
        have fk109_2 : hc107.2 (B + 6) = some (aI 40 (d)) := Fr.at0 frc108 (Ni.c ⟨(ne10).s, (ne14).s⟩ (Ni.n _)) cg_lo_3
        have fk109_3 : hc107.2 (B + 4) = some (aI 1500 (gm)) := Fr.at0 frc108 (Ni.c ⟨(ne8).s, (ne12).s⟩ (Ni.n _)) cf_lo_0
        have rk109_1 : MW hp B hc107 (pF hp f) := (mw106).fr frc108 (Ni.c ⟨(ne7).s, (ne11).s⟩ (Ni.n _))
        have fr109 : Fr [B + 1, B + 3] h hc107 := (fr_lo).tr ((frc108).mo (sub_c (List.Mem.head _) sub_n))
        refine Go.nf (h' := hc107) (st' := [.int (gI (w108))]) rfl rfl (Nat.le_refl _) (Nat.le_refl _) ?_
        exact g_iret dX10_keepRegister_57 rfl ⟨MF.of fr109 hG.ma n5 n6 _, fk109_3, (rk109_1).a, Or.inr ⟨by omega, w108, hK108, rfl, mp108⟩⟩
      · skip
        refine g_aload_n 1 dX10_keepRegister_26 rfl ?_
        refine g_getf 3 dX10_keepRegister_27 kX10 (by decide) fX10_17 cg_lo_0 rfl ?_
        refine g_bipush dX10_keepRegister_30 (by decide) ?_
        refine g_iload_n 0 dX10_keepRegister_32 rfl ?_
        refine g_imul dX10_keepRegister_33 ?_
        refine g_aload_n 1 dX10_keepRegister_34 rfl ?_
        refine g_getf 5 dX10_keepRegister_35 kX10 (by decide) fX10_23 cg_lo_0 rfl ?_
        refine g_sipush dX10_keepRegister_38 (by decide) ?_
        refine g_iload_n 2 dX10_keepRegister_41 rfl ?_
        refine g_imul dX10_keepRegister_42 ?_
        refine g_iload_n 0 dX10_keepRegister_43 rfl ?_
        refine g_iadd dX10_keepRegister_44 ?_
        refine g_iaload dX10_keepRegister_45 cg_lo_2 (by omega) (by omega) (by omega) ?_
        rw [ar_r R (by omega) (by omega), hG9.2 k (by omega) (by omega)]
        refine g_iastore dX10_keepRegister_46 cf_lo_1 (by omega) (by omega) (by omega) ?_
        obtain ⟨hh110, eh110⟩ : ∃ z : GH, z = hset hlo (B + 3) (aI 1500 (gup (wR f gz k) ((7) * (k)) (cf f k))) := ⟨_, rfl⟩
        refine Go.hp eh110.symm ?_
        have fh110_0 : hh110.2 (B) = some (mO B ((p : Int)) (hf) (le) (fc) (pn) (rn) (hn) (qn)) := hs_n eh110 ne2 cg_lo_0
        have fh110_1 : hh110.2 (B + 5) = some (aI 8000 (ar R)) := hs_n eh110 (ne16).s cg_lo_2
        have fh110_2 : hh110.2 (B + 6) = some (aI 40 (d)) := hs_n eh110 (ne17).s cg_lo_3
        have fh110_3 : hh110.2 (B + 4) = some (aI 1500 (gm)) := hs_n eh110 (ne15).s cf_lo_0
        have fh110_4 : hh110.2 (B + 3) = some (aI 1500 (gup (wR f gz k) ((7) * (k)) (cf f k))) := hs_s eh110
        have fx110 : Fr [B + 3] hlo hh110 := Fr.w0 (Fr.rf _ _) (List.Mem.head _) eh110
        have rk110_0 : MP hp B hh110 (T) := (cr_lo_0).fr fx110 (Ni.c ⟨ne7, ne8⟩ (Ni.n _)) (Ni.c ⟨ne11, ne12⟩ (Ni.n _))
        have fr110 : Fr [B + 1, B + 3] h hh110 := Fr.w0 fr_lo (List.Mem.tail _ (List.Mem.head _)) eh110
        refine g_iinc 0 (ls2 := [(2, .int (gI (k + 1))), (0, .ref (B)), (1, .int (gI (r)))]) dX10_keepRegister_47 rfl (by decide) rfl ?_
        refine g_goto (tgt := 20) dX10_keepRegister_50 rfl ?_
        exact ih_lo _ (by omega) (k + 1) hh110 rfl fr110 fh110_3 (by rw [← wR_s f gz hk0]; exact fh110_4) rk110_0 (by omega) (by omega)
    exact lo _ (0) hc2 rfl fr4 rn3_0 (by rw [wR_0]; exact z3) rk4_0 (by omega) (by omega)
  · skip
    refine g_bipush dX10_keepRegister_11 (by decide) ?_
    exact g_iret dX10_keepRegister_13 rfl ⟨MF.of (Fr.rf _ _) hG.ma n5 n6 _, h4, hw, Or.inl ⟨by omega, rfl, hT⟩⟩
