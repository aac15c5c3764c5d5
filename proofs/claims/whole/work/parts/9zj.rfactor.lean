section
variable {p : Nat}
/-- nothing is forgotten -/
def cmpl (h : prm p) (F : Px p) (hn : Int) (H : Int → Px p) (fc : Int) (Q : Int → Px p) : Prop := ∀ x : Px p, isFc h F x → inL fc Q x ∨ ∃ i : Int, 0 ≤ i ∧ i < hn ∧ dv (fR h) x (H i)
def hpA (h : prm p) (F : Px p) (hn : Int) (H : Int → Px p) : Prop := ∀ i : Int, 0 ≤ i → i < hn → mnc h (H i) ∧ 1 ≤ dgi h (H i) ∧ dv (fR h) (H i) F
noncomputable def sD (h : prm p) (H : Int → Px p) (n : Int) : Int := sI (fun i => dgi h (H i)) n.toNat
theorem sD_s (h : prm p) (H : Int → Px p) {n : Int} (hn : 0 ≤ n) : sD h H (n + 1) = sD h H n + dgi h (H n) := by
  unfold sD
  rw [show (n + 1).toNat = n.toNat + 1 by omega]
  show sI _ n.toNat + dgi h (H (n.toNat : Int)) = _
  rw [show ((n.toNat : Nat) : Int) = n by omega]
theorem sD_cg (h : prm p) {H H1 : Int → Px p} {n : Int} (hn : 0 ≤ n) (e : ∀ i : Int, 0 ≤ i → i < n → H1 i = H i) : sD h H1 n = sD h H n := sI_cg n.toNat (fun i i0 i1 => by
  show dgi h (H1 i) = dgi h (H i)
  rw [e i i0 (by omega)])
theorem sD_ge (h : prm p) {F : Px p} {H : Int → Px p} {n : Int} (hn : 0 ≤ n) (w : hpA h F n H) : n ≤ sD h H n := by
  have key : ∀ m : Nat, (m : Int) ≤ n → (m : Int) ≤ sI (fun i => dgi h (H i)) m := fun m => by
    induction m with
    | zero => intro _; exact Int.le_refl _
    | succ m ih =>
      intro hm
      have h1 := ih (by omega)
      have h2 := (w m (by omega) (by omega)).2.1
      show ((m + 1 : Nat) : Int) ≤ sI (fun i => dgi h (H i)) m + dgi h (H m)
      omega
  have := key n.toNat (by omega)
  unfold sD
  omega
/-- a turn of the heap -/
theorem pt_turn (h : prm p) {F : Px p} {hn hn1 fc fc1 : Int} {H H1 Q Q1 : Int → Px p} (hn0 : 0 ≤ hn) (wA : hpA h F (hn + 1) H) (wc : cmpl h F (hn + 1) H fc Q) (w : ptR h (H hn) hn hn1 H H1 fc fc1 Q Q1) : hpA h F hn1 H1 ∧ cmpl h F hn1 H1 fc1 Q1 ∧ hn ≤ hn1 ∧ sD h H1 hn1 ≤ sD h H (hn + 1) ∧ 2 * sD h H1 hn1 - hn1 < 2 * sD h H (hn + 1) - (hn + 1) := by
  obtain ⟨w1, w2, w3, w4, w5⟩ := w
  have hg := wA hn hn0 (by omega)
  refine ⟨fun i i0 i1 => ?_, fun x hx => ?_, by omega, ?_⟩
  · rcases Int.lt_or_le i hn with z | z
    · rw [w1 i i0 z]; exact wA i i0 (by omega)
    · obtain ⟨a, b, c⟩ := w2 i z i1
      exact ⟨a, b, dv_tr c hg.2.2⟩
  · rcases wc x hx with z | ⟨i, i0, i1, z⟩
    · exact Or.inl (w4 x z)
    · rcases Int.lt_or_le i hn with y | y
      · exact Or.inr ⟨i, i0, by omega, by rw [w1 i i0 y]; exact z⟩
      · rw [show i = hn by omega] at z
        rcases w5 x ⟨hx.1, hx.2.1, z⟩ with v | ⟨j, j0, j1, v⟩
        · exact Or.inl v
        · exact Or.inr ⟨j, by omega, j1, v⟩
  · have e0 := sD_cg h hn0 w1
    have e1 := sD_s h H hn0
    rcases w3 with z | ⟨z, y⟩ | ⟨z, y⟩
    · rw [z, e0, e1]; omega
    · rw [z, sD_s h H1 hn0, e0, e1]; omega
    · rw [z, show hn + 2 = hn + 1 + 1 by omega, sD_s h H1 (by omega), sD_s h H1 hn0, e0, e1]; omega
/-- the tables are the document's -/
theorem fac_ref {hp : prm p} {B : Nat} {h0 h : GH} {f0 : Px p} {fc pn rn hn qn o : Int} {Q : Int → Px p} {g9 g10 g11 g12 g13 g14 g15 g16 g17 g18 g19 g20 : Int → Int} (hf0 : po (fR hp) f0) (hd : 1 ≤ dgi hp f0 ∧ dgi hp f0 ≤ 40) (w : RD B h0 h p 1 (ld hp f0) fc pn rn hn qn g9 g10 g11 g12 g13 g14 g15 g16 g17 g18 g19 g20) (hT : TB hp g9 g11 fc Q) (hLI : LI hp (mon hp f0) fc Q) (hall : ∀ g : Px p, isFc hp (mon hp f0) g → ∃ i : Int, 0 ≤ i ∧ i < fc ∧ Q i = g) (ht : ∀ i : Int, 0 ≤ i → i < fc → g10 i = mlt hp (Q i) (mon hp f0)) (hpt : ptI g10 fc o pn g12) (ho : ∀ j : Int, 0 ≤ j → j < fc → g10 j < o) (htb : TB hp g13 g14 pn (fun i => pQ hp Q g10 (g12 i) fc.toNat)) (hrt : rtL hp fc (-1) Q rn g15) (hrn : 0 ≤ rn ∧ rn ≤ fc) (ho41 : o ≤ 41) : MFx hp B h (some f0) 1 (ld hp f0) fc pn rn ∧ (fN hp f0 : Int) = fc := by
  have hmd := mon_dgi hp hf0
  have hmp := mon_po hp hf0
  have ht1 : ∀ i : Int, 0 ≤ i → i < fc → 1 ≤ g10 i := fun i i0 i1 => by
    rw [ht i i0 i1]
    have := (ml_dv hp (hLI.2.2 i i0 i1).1 (dgi_dg hp hmp (by omega))).mp (hLI.2.2 i i0 i1).2.2
    omega
  have hfcl : fcl hp f0 fc Q g10 := fcl_mon hp hf0 ⟨fun i i0 i1 => ⟨hLI.2.2 i i0 i1, ht i i0 i1, ht1 i i0 i1⟩, fun i j i0 ij jn => LI_ne hp hLI i0 ij jn, hall⟩
  obtain ⟨e1, e2⟩ := fcl_so hp hLI.1 hfcl hLI.2.1
  obtain ⟨k1, k2⟩ := ptI_k hp e1 (fun i i0 i1 => (e2 i i0 i1).2) hpt ho
  obtain ⟨r1, r2⟩ := rtL_k hp hrn.1 e1 (fun i i0 i1 => (e2 i i0 i1).1) hrt
  have hc := cnt_le hp hmp (by omega) hLI.2.1 hLI.2.2
  have hpc := hpt.1
  refine ⟨⟨g9, g10, g11, g12, g13, g14, g15, RD.t9 w, RD.t10 w, RD.t11 w, RD.t12 w, RD.t13 w, RD.t14 w, RD.t15 w, rfl, rfl, e1.symm, k1.symm, r1.symm, ⟨by omega, by omega, by omega⟩, fun i i0 i1 => ?_, fun i i0 i1 => ?_, fun i i0 i1 => (r2 i i0 (by omega)).symm⟩, e1⟩
  · obtain ⟨a, b, c, d⟩ := hT i i0 (by omega)
    rw [(e2 i i0 (by omega)).1, (e2 i i0 (by omega)).2]
    exact ⟨a, b, c, rfl, d⟩
  · obtain ⟨a, b, c, d⟩ := htb i i0 (by omega)
    have e3 : kQ hp f0 i = pQ hp Q g10 (g12 i) fc.toNat := by
      unfold kQ
      rw [k2 i i0 (by omega), show fN hp f0 = fc.toNat by omega]
      exact pQ_fQ hp (g12 i) e2 fc.toNat (by have := hLI.1; omega)
    rw [e3]
    exact ⟨(k2 i i0 (by omega)).symm, c, d⟩
end
set_option maxHeartbeats 4000000 in
set_option maxRecDepth 100000 in
theorem sM_facD (N : GN) (h : GH) (B p : Nat) (hp : prm p) (hp2 : p ≤ 65536) (h0 : GH) (hf le fc pn rn hn qn : Int) (g9 g10 g11 g12 g13 g14 g15 g16 g17 g18 g19 g20 : Int → Int) (T : PT p) (fo : Option (Px p)) (a : Int) (gW_a : gW a) (hRD : RD B h0 h p hf le fc pn rn hn qn g9 g10 g11 g12 g13 g14 g15 g16 g17 g18 g19 g20) (hT : MP hp B h T) : Sp N yX10_factor mX10_factor 0 0 [.ref (B), .int (gI (a))] h (fun v h1 => (foF hp T fo a = fo ∧ v = some (.int (gI (aFc hp T a))) ∧ RD B h0 h1 p hf le fc pn rn hn qn g9 g10 g11 g12 g13 g14 g15 g16 g17 g18 g19 g20) ∨ ∃ f, foF hp T fo a = some f ∧ v = some (.int (gI (aFc hp T a))) ∧ ∃ le1 fc1 pn1 rn1 hn1 x9 x10 x11 x12 x13 x14 x15 x16 x17 x18 x19 x20, RD B h0 h1 p 1 le1 fc1 pn1 rn1 hn1 qn x9 x10 x11 x12 x13 x14 x15 x16 x17 x18 x19 x20 ∧ MFx hp B h1 (some f) 1 le1 fc1 pn1 rn1) := by
  refine Sp.of (by decide) rfl rfl (Nat.le_of_ble_eq_true rfl) ?_
  show Go N mX10_factor _ 0 0 h 0 [(0, .ref (B)), (1, .int (gI (a)))] []
  have hp1 := hp.1
  have neA : NE B (B + 5) := by unfold NE; omega
  have neB : NE B (B + 6) := by unfold NE; omega
  have neC : NE (B + 5) (B + 6) := by unfold NE; omega
  refine g_aload_n 0 dX10_factor_0 rfl ?_
  refine g_iload_n 1 dX10_factor_1 rfl ?_
  refine g_callV (nc2 := 0) (ns2 := 0) (ci := 10) (As := [.int (gI (a))]) (st := []) rfl dX10_factor_2 okX10_isPlace lX10_118 itX10_isPlace seX10_isPlace rfl (RD.o hRD) (by decide) (by decide) rfl (Nat.le_of_ble_eq_true rfl) (sM_isPlace N _ B p hp hp2 _ _ _ _ _ _ _ T (a) gW_a (RD.o hRD) hT) (by omega) (by omega) (fun v1 hc1 q1 => ?_)
  obtain ⟨hq2, hr2⟩ := q1
  rcases hr2 with ⟨rfl, a0, a1, F, ha⟩ | ⟨rfl, na⟩
  · skip
    refine Go.nf (h' := h) (st' := [.int (gI (1))]) hq2 rfl (Nat.le_refl _) (Nat.le_refl _) ?_
    refine g_if_ne (tgt := 10) dX10_factor_5 rfl (by first | exact gW_a | assumption | (unfold gW; omega)) (fun c3 => ?_) (fun c3 => absurd c3 (by omega))
    refine g_aload_n 0 dX10_factor_10 rfl ?_
    refine g_iload_n 1 dX10_factor_11 rfl ?_
    refine g_callV (nc2 := 0) (ns2 := 0) (ci := 10) (As := [.int (gI (a))]) (st := []) rfl dX10_factor_12 okX10_isPlain lX10_126 itX10_isPlain seX10_isPlain rfl (RD.o hRD) (by decide) (by decide) rfl (Nat.le_of_ble_eq_true rfl) (sM_isPlain N _ B p hp hp2 _ _ _ _ _ _ _ T F a a0 a1 ha (RD.o hRD) hT) (by omega) (by omega) (fun v4 hc4 q4 => ?_)
    obtain ⟨hq5, rfl⟩ := q4
    refine Go.nf (h' := h) (st' := [.int (gI (if dY hp F < 1 then 1 else 0))]) hq5 rfl (Nat.le_refl _) (Nat.le_refl _) ?_
    refine g_if_ne (tgt := 21) dX10_factor_15 rfl (by first | exact gW_a | assumption | (unfold gW; omega)) (fun c6 => ?_) (fun c6 => ?_)
    · skip
      have hyF : dY hp F < 1 := by
                                                                      by_cases z : dY hp F < 1
                                                                      · exact z
                                                                      · rw [if_neg z] at c6; omega
      clear c6
      refine g_aload_n 0 dX10_factor_21 rfl ?_
      refine g_iload_n 1 dX10_factor_22 rfl ?_
      refine g_iconst dX10_factor_23 ?_
      refine g_callV (nc2 := 0) (ns2 := 0) (ci := 10) (As := [.int (gI (a)), .int (gI (0))]) (st := []) rfl dX10_factor_24 okX10_toRegister lX10_144 itX10_toRegister seX10_toRegister rfl (RD.o hRD) (by decide) (by decide) rfl (Nat.le_of_ble_eq_true rfl) (sM_toRegister N _ B p hp hp2 _ _ _ _ _ _ _ T (F) (a) (0) (by omega) a0 a1 ha (RD.o hRD) (RD.ma hRD) hT) (by omega) (by omega) (fun v7 hc7 q7 => ?_)
      obtain ⟨rfl, mfc8, rn8_0⟩ := q7
      have rk9_0 : RD B h0 hc7 p hf le fc pn rn hn qn g9 g10 g11 g12 g13 g14 g15 g16 g17 g18 g19 g20 := RD.mf hRD mfc8
      have rk9_1 : NR B [0, 11, 20, 12, 13, 14, 15, 16, 17, 18, 19, 21, 22, 23, 24, 25, 26, 30, 31, 32, 33, 34, 35, 36, 37] h hc7 := NR.tr (NR.rf B [0, 11, 20, 12, 13, 14, 15, 16, 17, 18, 19, 21, 22, 23, 24, 25, 26, 30, 31, 32, 33, 34, 35, 36, 37] h) ((MF.nr mfc8).mo (sbI_c (List.Mem.head _) sbI_n))
      refine Go.nf (h' := hc7) (st' := []) rfl rfl (Nat.le_refl _) (Nat.le_refl _) ?_
      have hl0 := (rn8_0).lt
      have hF0p := (rn8_0).po
      have h40 : dgi hp (F 0) ≤ 40 := by
                                                                      obtain ⟨gt, gn, _, _, hk9⟩ := hT
                                                                      rcases hk9 a a0 a1 with ⟨z, _⟩ | ⟨G, z, _, hPB, _⟩
                                                                      · rw [ha] at z; cases z
                                                                      · rw [ha] at z
                                                                        have := Option.some.inj z
                                                                        subst this
                                                                        exact (row_po hp hPB 0).2
      refine g_aload_n 0 dX10_factor_27 rfl ?_
      refine g_getf 6 dX10_factor_28 kX10 (by decide) fX10_26 (RD.o rk9_0) rfl ?_
      refine g_iconst dX10_factor_31 ?_
      obtain ⟨dz10, ez10, fz10⟩ := MG.get rn8_0
      refine g_iaload dX10_factor_32 ez10 (by omega) (by omega) (by omega) ?_
      rw [fz10]
      refine g_iconst dX10_factor_33 ?_
      refine g_icmp_ge (tgt := 40) dX10_factor_34 rfl (by first | exact gW_a | assumption | (unfold gW; omega)) (by first | exact gW_a | assumption | (unfold gW; omega)) (fun c11 => ?_) (fun c11 => ?_)
      · skip
        refine g_aload_n 0 dX10_factor_40 rfl ?_
        refine g_iconst dX10_factor_41 ?_
        refine g_putf 9 dX10_factor_42 kX10 (by decide) fX10_86 rfl (RD.o rk9_0) (Nat.le_of_ble_eq_true rfl) rfl rfl ?_
        obtain ⟨hh12, eh12⟩ : ∃ z : GH, z = hset hc7 (B) (mO B ((p : Int)) (1) (le) (fc) (pn) (rn) (hn) (qn)) := ⟨_, rfl⟩
        refine Go.hp eh12.symm ?_
        have rd12 : RD B h0 hh12 p 1 le fc pn rn hn qn g9 g10 g11 g12 g13 g14 g15 g16 g17 g18 g19 g20 := RD.cell rk9_0 (by rw [eh12]; rfl) (fun x hx => by rw [eh12, hset_n _ _ (by omega)]) (hs_s eh12) (hs_n eh12 (show NE (B + 9) (B) by unfold NE; omega) (RD.t9 rk9_0)) (hs_n eh12 (show NE (B + 10) (B) by unfold NE; omega) (RD.t10 rk9_0)) (hs_n eh12 (show NE (B + 11) (B) by unfold NE; omega) (RD.t11 rk9_0)) (hs_n eh12 (show NE (B + 12) (B) by unfold NE; omega) (RD.t12 rk9_0)) (hs_n eh12 (show NE (B + 13) (B) by unfold NE; omega) (RD.t13 rk9_0)) (hs_n eh12 (show NE (B + 14) (B) by unfold NE; omega) (RD.t14 rk9_0)) (hs_n eh12 (show NE (B + 15) (B) by unfold NE; omega) (RD.t15 rk9_0)) (hs_n eh12 (show NE (B + 16) (B) by unfold NE; omega) (RD.t16 rk9_0)) (hs_n eh12 (show NE (B + 17) (B) by unfold NE; omega) (RD.t17 rk9_0)) (hs_n eh12 (show NE (B + 18) (B) by unfold NE; omega) (RD.t18 rk9_0)) (hs_n eh12 (show NE (B + 19) (B) by unfold NE; omega) (RD.t19 rk9_0)) (hs_n eh12 (show NE (B + 20) (B) by unfold NE; omega) (RD.t20 rk9_0))
        have e5_12 : hh12.2 (B + 5) = hc7.2 (B + 5) := by rw [eh12, hset_n _ _ (by omega)]
        have e6_12 : hh12.2 (B + 6) = hc7.2 (B + 6) := by rw [eh12, hset_n _ _ (by omega)]
        have rg12_1 : NR B [0, 11, 20, 12, 13, 14, 15, 16, 17, 18, 19, 21, 22, 23, 24, 25, 26, 30, 31, 32, 33, 34, 35, 36, 37] h hh12 := NR.h5 rk9_1 e5_12 e6_12
        have rg12_2 : MG hp B hh12 (0) (F 0) := (rn8_0).of5 e5_12 e6_12
        refine g_aload_n 0 dX10_factor_45 rfl ?_
        refine g_aload_n 0 dX10_factor_46 rfl ?_
        refine g_getf 5 dX10_factor_47 kX10 (by decide) fX10_23 (RD.o rd12) rfl ?_
        refine g_aload_n 0 dX10_factor_50 rfl ?_
        refine g_getf 6 dX10_factor_51 kX10 (by decide) fX10_26 (RD.o rd12) rfl ?_
        refine g_iconst dX10_factor_54 ?_
        obtain ⟨dz13, ez13, fz13⟩ := MG.get rg12_2
        refine g_iaload dX10_factor_55 ez13 (by omega) (by omega) (by omega) ?_
        rw [fz13]
        have hld := (rg12_2).lt
        obtain ⟨R14, er14, fr14⟩ := MG.num rg12_2
        have hl14 : ar R14 (dgi hp (F 0)) = ld hp (F 0) := by
                                                                      have e9 := ar_r R14 (r := 0) (show 0 ≤ dgi hp (F 0) by omega) (show dgi hp (F 0) < 200 by omega)
                                                                      rw [Int.mul_zero, Int.zero_add] at e9
                                                                      rw [e9, fr14 _ (by omega) (by omega)]; rfl
        refine g_iaload dX10_factor_56 er14 (by omega) (by omega) (by omega) ?_
        rw [hl14]
        refine g_putf 10 dX10_factor_57 kX10 (by decide) fX10_208 rfl (RD.o rd12) (Nat.le_of_ble_eq_true rfl) rfl rfl ?_
        obtain ⟨hh15, eh15⟩ : ∃ z : GH, z = hset hh12 (B) (mO B ((p : Int)) (1) (ld hp (F 0)) (fc) (pn) (rn) (hn) (qn)) := ⟨_, rfl⟩
        refine Go.hp eh15.symm ?_
        have rd15 : RD B h0 hh15 p 1 (ld hp (F 0)) fc pn rn hn qn g9 g10 g11 g12 g13 g14 g15 g16 g17 g18 g19 g20 := RD.cell rd12 (by rw [eh15]; rfl) (fun x hx => by rw [eh15, hset_n _ _ (by omega)]) (hs_s eh15) (hs_n eh15 (show NE (B + 9) (B) by unfold NE; omega) (RD.t9 rd12)) (hs_n eh15 (show NE (B + 10) (B) by unfold NE; omega) (RD.t10 rd12)) (hs_n eh15 (show NE (B + 11) (B) by unfold NE; omega) (RD.t11 rd12)) (hs_n eh15 (show NE (B + 12) (B) by unfold NE; omega) (RD.t12 rd12)) (hs_n eh15 (show NE (B + 13) (B) by unfold NE; omega) (RD.t13 rd12)) (hs_n eh15 (show NE (B + 14) (B) by unfold NE; omega) (RD.t14 rd12)) (hs_n eh15 (show NE (B + 15) (B) by unfold NE; omega) (RD.t15 rd12)) (hs_n eh15 (show NE (B + 16) (B) by unfold NE; omega) (RD.t16 rd12)) (hs_n eh15 (show NE (B + 17) (B) by unfold NE; omega) (RD.t17 rd12)) (hs_n eh15 (show NE (B + 18) (B) by unfold NE; omega) (RD.t18 rd12)) (hs_n eh15 (show NE (B + 19) (B) by unfold NE; omega) (RD.t19 rd12)) (hs_n eh15 (show NE (B + 20) (B) by unfold NE; omega) (RD.t20 rd12))
        have e5_15 : hh15.2 (B + 5) = hh12.2 (B + 5) := by rw [eh15, hset_n _ _ (by omega)]
        have e6_15 : hh15.2 (B + 6) = hh12.2 (B + 6) := by rw [eh15, hset_n _ _ (by omega)]
        have rg15_1 : NR B [0, 11, 20, 12, 13, 14, 15, 16, 17, 18, 19, 21, 22, 23, 24, 25, 26, 30, 31, 32, 33, 34, 35, 36, 37] h hh15 := NR.h5 rg12_1 e5_15 e6_15
        have rg15_2 : MG hp B hh15 (0) (F 0) := (rg12_2).of5 e5_15 e6_15
        refine g_aload_n 0 dX10_factor_60 rfl ?_
        refine g_iconst dX10_factor_61 ?_
        refine g_callV (nc2 := 0) (ns2 := 0) (ci := 10) (As := [.int (gI (0))]) (st := []) rfl dX10_factor_62 okX10_monic lX10_179 itX10_monic seX10_monic rfl (RD.o rd15) (by decide) (by decide) rfl (Nat.le_of_ble_eq_true rfl) (sM_monic N _ B p hp hp2 _ _ _ _ _ _ _ (0) (F 0) (RD.o rd15) (RD.ma rd15) rg15_2) (by omega) (by omega) (fun v16 hc16 q16 => ?_)
        obtain ⟨rfl, mfc17, rn17_0⟩ := q16
        have rk18_0 : RD B h0 hc16 p 1 (ld hp (F 0)) fc pn rn hn qn g9 g10 g11 g12 g13 g14 g15 g16 g17 g18 g19 g20 := RD.mf rd15 mfc17
        have rk18_1 : NR B [0, 11, 20, 12, 13, 14, 15, 16, 17, 18, 19, 21, 22, 23, 24, 25, 26, 30, 31, 32, 33, 34, 35, 36, 37] h hc16 := NR.tr rg15_1 ((MF.nr mfc17).mo (sbI_c (List.Mem.head _) sbI_n))
        refine Go.nf (h' := hc16) (st' := []) rfl rfl (Nat.le_refl _) (Nat.le_refl _) ?_
        refine g_aload_n 0 dX10_factor_65 rfl ?_
        refine g_iconst dX10_factor_66 ?_
        refine g_bipush dX10_factor_67 (by decide) ?_
        refine g_callV (nc2 := 0) (ns2 := 0) (ci := 10) (As := [.int (gI (0)), .int (gI (20))]) (st := []) rfl dX10_factor_69 okX10_copy lX10_167 itX10_copy seX10_copy rfl (RD.o rk18_0) (by decide) (by decide) rfl (Nat.le_of_ble_eq_true rfl) (sM_copy N _ B p hp hp2 _ _ _ _ _ _ _ (0) (20) (by omega) (by omega) (mon hp (F 0)) (RD.o rk18_0) (RD.ma rk18_0) rn17_0) (by omega) (by omega) (fun v19 hc19 q19 => ?_)
        obtain ⟨rfl, mfc20, rn20_0⟩ := q19
        have rk21_0 : RD B h0 hc19 p 1 (ld hp (F 0)) fc pn rn hn qn g9 g10 g11 g12 g13 g14 g15 g16 g17 g18 g19 g20 := RD.mf rk18_0 mfc20
        have rk21_1 : NR B [0, 11, 20, 12, 13, 14, 15, 16, 17, 18, 19, 21, 22, 23, 24, 25, 26, 30, 31, 32, 33, 34, 35, 36, 37] h hc19 := NR.tr rk18_1 ((MF.nr mfc20).mo (sbI_c (List.Mem.tail _ (List.Mem.tail _ (List.Mem.head _))) sbI_n))
        have rk21_2 : MG hp B hc19 (0) (mon hp (F 0)) := (rn17_0).fr hp2 mfc20 (Nr.c (by omega) Nr.n)
        refine Go.nf (h' := hc19) (st' := []) rfl rfl (Nat.le_refl _) (Nat.le_refl _) ?_
        refine g_aload_n 0 dX10_factor_72 rfl ?_
        refine g_iconst dX10_factor_73 ?_
        refine g_putf 11 dX10_factor_74 kX10 (by decide) fX10_90 rfl (RD.o rk21_0) (Nat.le_of_ble_eq_true rfl) rfl rfl ?_
        obtain ⟨hh22, eh22⟩ : ∃ z : GH, z = hset hc19 (B) (mO B ((p : Int)) (1) (ld hp (F 0)) (0) (pn) (rn) (hn) (qn)) := ⟨_, rfl⟩
        refine Go.hp eh22.symm ?_
        have rd22 : RD B h0 hh22 p 1 (ld hp (F 0)) 0 pn rn hn qn g9 g10 g11 g12 g13 g14 g15 g16 g17 g18 g19 g20 := RD.cell rk21_0 (by rw [eh22]; rfl) (fun x hx => by rw [eh22, hset_n _ _ (by omega)]) (hs_s eh22) (hs_n eh22 (show NE (B + 9) (B) by unfold NE; omega) (RD.t9 rk21_0)) (hs_n eh22 (show NE (B + 10) (B) by unfold NE; omega) (RD.t10 rk21_0)) (hs_n eh22 (show NE (B + 11) (B) by unfold NE; omega) (RD.t11 rk21_0)) (hs_n eh22 (show NE (B + 12) (B) by unfold NE; omega) (RD.t12 rk21_0)) (hs_n eh22 (show NE (B + 13) (B) by unfold NE; omega) (RD.t13 rk21_0)) (hs_n eh22 (show NE (B + 14) (B) by unfold NE; omega) (RD.t14 rk21_0)) (hs_n eh22 (show NE (B + 15) (B) by unfold NE; omega) (RD.t15 rk21_0)) (hs_n eh22 (show NE (B + 16) (B) by unfold NE; omega) (RD.t16 rk21_0)) (hs_n eh22 (show NE (B + 17) (B) by unfold NE; omega) (RD.t17 rk21_0)) (hs_n eh22 (show NE (B + 18) (B) by unfold NE; omega) (RD.t18 rk21_0)) (hs_n eh22 (show NE (B + 19) (B) by unfold NE; omega) (RD.t19 rk21_0)) (hs_n eh22 (show NE (B + 20) (B) by unfold NE; omega) (RD.t20 rk21_0))
        have e5_22 : hh22.2 (B + 5) = hc19.2 (B + 5) := by rw [eh22, hset_n _ _ (by omega)]
        have e6_22 : hh22.2 (B + 6) = hc19.2 (B + 6) := by rw [eh22, hset_n _ _ (by omega)]
        have rg22_1 : NR B [0, 11, 20, 12, 13, 14, 15, 16, 17, 18, 19, 21, 22, 23, 24, 25, 26, 30, 31, 32, 33, 34, 35, 36, 37] h hh22 := NR.h5 rk21_1 e5_22 e6_22
        have rg22_2 : MG hp B hh22 (0) (mon hp (F 0)) := (rk21_2).of5 e5_22 e6_22
        have rg22_3 : MG hp B hh22 (20) (mon hp (F 0)) := (rn20_0).of5 e5_22 e6_22
        refine g_aload_n 0 dX10_factor_77 rfl ?_
        refine g_iconst dX10_factor_78 ?_
        refine g_putf 21 dX10_factor_79 kX10 (by decide) fX10_205 rfl (RD.o rd22) (Nat.le_of_ble_eq_true rfl) rfl rfl ?_
        obtain ⟨hh23, eh23⟩ : ∃ z : GH, z = hset hh22 (B) (mO B ((p : Int)) (1) (ld hp (F 0)) (0) (pn) (rn) (0) (qn)) := ⟨_, rfl⟩
        refine Go.hp eh23.symm ?_
        have rd23 : RD B h0 hh23 p 1 (ld hp (F 0)) 0 pn rn 0 qn g9 g10 g11 g12 g13 g14 g15 g16 g17 g18 g19 g20 := RD.cell rd22 (by rw [eh23]; rfl) (fun x hx => by rw [eh23, hset_n _ _ (by omega)]) (hs_s eh23) (hs_n eh23 (show NE (B + 9) (B) by unfold NE; omega) (RD.t9 rd22)) (hs_n eh23 (show NE (B + 10) (B) by unfold NE; omega) (RD.t10 rd22)) (hs_n eh23 (show NE (B + 11) (B) by unfold NE; omega) (RD.t11 rd22)) (hs_n eh23 (show NE (B + 12) (B) by unfold NE; omega) (RD.t12 rd22)) (hs_n eh23 (show NE (B + 13) (B) by unfold NE; omega) (RD.t13 rd22)) (hs_n eh23 (show NE (B + 14) (B) by unfold NE; omega) (RD.t14 rd22)) (hs_n eh23 (show NE (B + 15) (B) by unfold NE; omega) (RD.t15 rd22)) (hs_n eh23 (show NE (B + 16) (B) by unfold NE; omega) (RD.t16 rd22)) (hs_n eh23 (show NE (B + 17) (B) by unfold NE; omega) (RD.t17 rd22)) (hs_n eh23 (show NE (B + 18) (B) by unfold NE; omega) (RD.t18 rd22)) (hs_n eh23 (show NE (B + 19) (B) by unfold NE; omega) (RD.t19 rd22)) (hs_n eh23 (show NE (B + 20) (B) by unfold NE; omega) (RD.t20 rd22))
        have e5_23 : hh23.2 (B + 5) = hh22.2 (B + 5) := by rw [eh23, hset_n _ _ (by omega)]
        have e6_23 : hh23.2 (B + 6) = hh22.2 (B + 6) := by rw [eh23, hset_n _ _ (by omega)]
        have rg23_1 : NR B [0, 11, 20, 12, 13, 14, 15, 16, 17, 18, 19, 21, 22, 23, 24, 25, 26, 30, 31, 32, 33, 34, 35, 36, 37] h hh23 := NR.h5 rg22_1 e5_23 e6_23
        have rg23_2 : MG hp B hh23 (0) (mon hp (F 0)) := (rg22_2).of5 e5_23 e6_23
        have rg23_3 : MG hp B hh23 (20) (mon hp (F 0)) := (rg22_3).of5 e5_23 e6_23
        refine g_aload_n 0 dX10_factor_82 rfl ?_
        refine g_iconst dX10_factor_83 ?_
        have hmd := mon_dgi hp hF0p
        have hmp := mon_po hp hF0p
        refine g_callV (nc2 := 0) (ns2 := 0) (ci := 10) (As := [.int (gI (0))]) (st := []) rfl dX10_factor_84 okX10_push lX10_211 itX10_push seX10_push rfl (RD.o rd23) (by decide) (by decide) rfl (Nat.le_of_ble_eq_true rfl) (sM_push N _ B p hp hp2 h0 1 (ld hp (F 0)) 0 pn rn 0 qn g9 g10 g11 g12 g13 g14 g15 g16 g17 g18 g19 g20 0 (by omega) (mon hp (F 0)) (by omega) (fun _ => ⟨by omega, by omega⟩) rd23 rg23_2) (by omega) (by omega) (fun v24 hc24 q24 => ?_)
        obtain ⟨rfl, nr25, hcs25⟩ := q24
        rcases hcs25 with ⟨hx, _⟩ | ⟨_, rd25⟩
        · exfalso; omega
        have rk26_1 : NR B [0, 11, 20, 12, 13, 14, 15, 16, 17, 18, 19, 21, 22, 23, 24, 25, 26, 30, 31, 32, 33, 34, 35, 36, 37] h hc24 := NR.tr rg23_1 (NR.mo nr25 sbI_n)
        have rk26_2 : MG hp B hc24 (0) (mon hp (F 0)) := nr25 p hp (0) _ hp2 Nr.n rg23_2
        have rk26_3 : MG hp B hc24 (20) (mon hp (F 0)) := nr25 p hp (20) _ hp2 Nr.n rg23_3
        refine Go.nf (h' := hc24) (st' := []) rfl rfl (Nat.le_refl _) (Nat.le_refl _) ?_
        have hmm := mon_mnc hp hF0p
        have lw : ∀ (kk : Nat) (m : Int) (H : Int → Px p) (c : Int) (Q : Int → Px p) (d9 : Int → Int) (d11 : Int → Int) (k16 : Int → Int) (k17 : Int → Int) (k18 : Int → Int) (k19 : Int → Int) (k20 : Int → Int) (hlw : GH), kk = (2 * sD hp H m - m).toNat → True → RD B h0 hlw p 1 (ld hp (F 0)) c pn rn m qn d9 g10 d11 g12 g13 g14 g15 k16 k17 k18 k19 k20 → NR B [0, 11, 20, 12, 13, 14, 15, 16, 17, 18, 19, 21, 22, 23, 24, 25, 26, 30, 31, 32, 33, 34, 35, 36, 37] h hlw → MG hp B hlw (20) (mon hp (F 0)) → (0 ≤ m) → (TB hp k16 k17 m H) → (TB hp d9 d11 c Q) → (LI hp (mon hp (F 0)) c Q) → (hpA hp (mon hp (F 0)) m H) → (cmpl hp (mon hp (F 0)) m H c Q) → (sD hp H m ≤ 40) → Go N mX10_factor (fun v h1 => (foF hp T fo a = fo ∧ v = some (.int (gI (aFc hp T a))) ∧ RD B h0 h1 p hf le fc pn rn hn qn g9 g10 g11 g12 g13 g14 g15 g16 g17 g18 g19 g20) ∨ ∃ f, foF hp T fo a = some f ∧ v = some (.int (gI (aFc hp T a))) ∧ ∃ le1 fc1 pn1 rn1 hn1 x9 x10 x11 x12 x13 x14 x15 x16 x17 x18 x19 x20, RD B h0 h1 p 1 le1 fc1 pn1 rn1 hn1 qn x9 x10 x11 x12 x13 x14 x15 x16 x17 x18 x19 x20 ∧ MFx hp B h1 (some f) 1 le1 fc1 pn1 rn1) 0 0 hlw 87 [(0, .ref (B)), (1, .int (gI (a)))] [] := by
          refine Go.ind (fun kk ih_lw => ?_)
          intro m H c Q d9 d11 k16 k17 k18 k19 k20 hlw hkk_lw fr_lw cr_lw_0 cr_lw_1 cr_lw_2 hm_ hTH hT_ hLI hA hC hsd
          have hge := sD_ge hp hm_ hA
          refine g_aload_n 0 dX10_factor_87 rfl ?_
          refine g_getf 21 dX10_factor_88 kX10 (by decide) fX10_205 (RD.o cr_lw_0) rfl ?_
          refine g_if_le (tgt := 109) dX10_factor_91 rfl (by first | exact gW_a | assumption | (unfold gW; omega)) (fun c127 => ?_) (fun c127 => ?_)
          · skip
            have hall : ∀ g : Px p, isFc hp (mon hp (F 0)) g → ∃ i : Int, 0 ≤ i ∧ i < c ∧ Q i = g := fun g hg => by
                                                                      rcases hC g hg with z | ⟨i, i0, i1, _⟩
                                                                      · exact z
                                                                      · exfalso; omega
            refine g_aload_n 0 dX10_factor_109 rfl ?_
            refine g_callV (nc2 := 0) (ns2 := 0) (ci := 10) (As := []) (st := []) rfl dX10_factor_110 okX10_settle lX10_220 itX10_settle seX10_settle rfl (RD.o cr_lw_0) (by decide) (by decide) rfl (Nat.le_of_ble_eq_true rfl) (sM_settle N _ B p hp hp2 h0 1 (ld hp (F 0)) c pn rn m qn d9 g10 d11 g12 g13 g14 g15 k16 k17 k18 k19 k20 (mon hp (F 0)) Q hmp ⟨by omega, by omega⟩ hT_ hLI hall cr_lw_0 cr_lw_2) (by omega) (by omega) (fun v128 hc128 q128 => ?_)
            obtain ⟨rfl, nr129, pn9, rn9, t9, k12, k13, k14, k15, o9, rd129, ht9, hpt9, ho9, htb9, hrt9, hrn9, ho41⟩ := q128
            have rk130_1 : NR B [0, 11, 20, 12, 13, 14, 15, 16, 17, 18, 19, 21, 22, 23, 24, 25, 26, 30, 31, 32, 33, 34, 35, 36, 37] h hc128 := NR.tr cr_lw_1 (NR.mo nr129 (sbI_c (List.Mem.tail _ (List.Mem.tail _ (List.Mem.tail _ (List.Mem.tail _ (List.Mem.tail _ (List.Mem.tail _ (List.Mem.tail _ (List.Mem.tail _ (List.Mem.tail _ (List.Mem.tail _ (List.Mem.tail _ (List.Mem.head _)))))))))))) (sbI_c (List.Mem.tail _ (List.Mem.tail _ (List.Mem.tail _ (List.Mem.tail _ (List.Mem.tail _ (List.Mem.tail _ (List.Mem.tail _ (List.Mem.tail _ (List.Mem.tail _ (List.Mem.tail _ (List.Mem.tail _ (List.Mem.tail _ (List.Mem.head _))))))))))))) (sbI_c (List.Mem.tail _ (List.Mem.tail _ (List.Mem.tail _ (List.Mem.tail _ (List.Mem.tail _ (List.Mem.tail _ (List.Mem.tail _ (List.Mem.tail _ (List.Mem.tail _ (List.Mem.tail _ (List.Mem.tail _ (List.Mem.tail _ (List.Mem.tail _ (List.Mem.head _)))))))))))))) (sbI_c (List.Mem.tail _ (List.Mem.tail _ (List.Mem.tail _ (List.Mem.tail _ (List.Mem.tail _ (List.Mem.tail _ (List.Mem.tail _ (List.Mem.tail _ (List.Mem.tail _ (List.Mem.tail _ (List.Mem.tail _ (List.Mem.tail _ (List.Mem.tail _ (List.Mem.tail _ (List.Mem.head _))))))))))))))) sbI_n)))))
            have rk130_2 : MG hp B hc128 (20) (mon hp (F 0)) := nr129 p hp (20) _ hp2 (Nr.c (by omega) (Nr.c (by omega) (Nr.c (by omega) (Nr.c (by omega) Nr.n)))) cr_lw_2
            obtain ⟨hX9, hN9⟩ := fac_ref hF0p ⟨by omega, by omega⟩ rd129 hT_ hLI hall ht9 hpt9 ho9 htb9 hrt9 hrn9 ho41
            refine Go.nf (h' := hc128) (st' := []) rfl rfl (Nat.le_refl _) (Nat.le_refl _) ?_
            refine g_aload_n 0 dX10_factor_113 rfl ?_
            refine g_getf 11 dX10_factor_114 kX10 (by decide) fX10_90 (RD.o rd129) rfl ?_
            exact g_iret dX10_factor_117 rfl (Or.inr ⟨F 0, by unfold foF gT; rw [if_pos ⟨a0, a1⟩, ha]; dsimp only; rw [if_neg (by omega), if_neg (by omega)], by
                                                                      have e9 : aFc hp T a = c := by
                                                                        unfold aFc gT; rw [if_pos ⟨a0, a1⟩, ha]; dsimp only; rw [if_neg (by omega), if_neg (by omega)]
                                                                        exact hN9
                                                                      rw [e9], _, _, _, _, _, _, _, _, _, _, _, _, _, _, _, _, _, rd129, hX9⟩)
          · skip
            refine g_aload_n 0 dX10_factor_94 rfl ?_
            refine g_bipush dX10_factor_95 (by decide) ?_
            obtain ⟨y1, y2, y3, y4⟩ := hTH (m - 1) (by omega) (by omega)
            refine g_callV (nc2 := 0) (ns2 := 0) (ci := 10) (As := [.int (gI (11))]) (st := []) rfl dX10_factor_97 okX10_pop lX10_214 itX10_pop seX10_pop rfl (RD.o cr_lw_0) (by decide) (by decide) rfl (Nat.le_of_ble_eq_true rfl) (sM_pop N _ B p hp hp2 h0 1 (ld hp (F 0)) c pn rn m qn d9 g10 d11 g12 g13 g14 g15 k16 k17 k18 k19 k20 11 (by omega) ⟨by omega, by omega⟩ (H (m - 1)) y1 y2 y4 cr_lw_0) (by omega) (by omega) (fun v131 hc131 q131 => ?_)
            obtain ⟨rfl, nr132, rd132, mg132⟩ := q131
            have rk133_1 : NR B [0, 11, 20, 12, 13, 14, 15, 16, 17, 18, 19, 21, 22, 23, 24, 25, 26, 30, 31, 32, 33, 34, 35, 36, 37] h hc131 := NR.tr cr_lw_1 (NR.mo nr132 (sbI_c (List.Mem.tail _ (List.Mem.head _)) sbI_n))
            have rk133_2 : MG hp B hc131 (20) (mon hp (F 0)) := nr132 p hp (20) _ hp2 (Nr.c (by omega) Nr.n) cr_lw_2
            refine Go.nf (h' := hc131) (st' := []) rfl rfl (Nat.le_refl _) (Nat.le_refl _) ?_
            refine g_aload_n 0 dX10_factor_100 rfl ?_
            refine g_bipush dX10_factor_101 (by decide) ?_
            obtain ⟨z1, z2, z3⟩ := hA (m - 1) (by omega) (by omega)
            have hA1 : hpA hp (mon hp (F 0)) (m - 1 + 1) H := by rw [show m - 1 + 1 = m by omega]; exact hA
            have hC1 : cmpl hp (mon hp (F 0)) (m - 1 + 1) H c Q := by rw [show m - 1 + 1 = m by omega]; exact hC
            have hss : sD hp H m = sD hp H (m - 1) + dgi hp (H (m - 1)) := by
                                                                      have e9 := sD_s hp H (show 0 ≤ m - 1 by omega)
                                                                      rw [show m - 1 + 1 = m by omega] at e9; exact e9
            have hg2 := sD_ge hp (show 0 ≤ m - 1 by omega) (fun i i0 i1 => hA i i0 (by omega) : hpA hp (mon hp (F 0)) (m - 1) H)
            refine g_callV (nc2 := 0) (ns2 := 0) (ci := 10) (As := [.int (gI (11))]) (st := []) rfl dX10_factor_103 okX10_part lX10_217 itX10_part seX10_part rfl (RD.o rd132) (by decide) (by decide) rfl (Nat.le_of_ble_eq_true rfl) (sM_partF N _ B p hp hp2 h0 1 (ld hp (F 0)) c pn rn (m - 1) qn d9 g10 d11 g12 g13 g14 g15 k16 k17 k18 k19 k20 (dgi hp (H (m - 1))) (H (m - 1)) (mon hp (F 0)) rfl ⟨by omega, by omega⟩ z1 hmp ⟨by omega, by omega⟩ z3 H Q ⟨by omega, by omega⟩ (TB.mo hTH (by omega) (fun i i0 i1 => rfl)) hT_ hLI rd132 mg132) (by omega) (by omega) (fun v134 hc134 q134 => ?_)
            obtain ⟨rfl, nr135, fc9, Q9, e9_, e11_, hn9, H9, l16, l17, l18, l19, l20, rd135, tb9, tb8, li9, pt9⟩ := q134
            have rk136_1 : NR B [0, 11, 20, 12, 13, 14, 15, 16, 17, 18, 19, 21, 22, 23, 24, 25, 26, 30, 31, 32, 33, 34, 35, 36, 37] h hc134 := NR.tr rk133_1 (NR.mo nr135 (sbI_c (List.Mem.tail _ (List.Mem.tail _ (List.Mem.tail _ (List.Mem.head _)))) (sbI_c (List.Mem.tail _ (List.Mem.tail _ (List.Mem.tail _ (List.Mem.tail _ (List.Mem.head _))))) (sbI_c (List.Mem.tail _ (List.Mem.tail _ (List.Mem.tail _ (List.Mem.tail _ (List.Mem.tail _ (List.Mem.head _)))))) (sbI_c (List.Mem.tail _ (List.Mem.tail _ (List.Mem.tail _ (List.Mem.tail _ (List.Mem.tail _ (List.Mem.tail _ (List.Mem.head _))))))) (sbI_c (List.Mem.tail _ (List.Mem.tail _ (List.Mem.tail _ (List.Mem.tail _ (List.Mem.tail _ (List.Mem.tail _ (List.Mem.tail _ (List.Mem.head _)))))))) (sbI_c (List.Mem.tail _ (List.Mem.tail _ (List.Mem.tail _ (List.Mem.tail _ (List.Mem.tail _ (List.Mem.tail _ (List.Mem.tail _ (List.Mem.tail _ (List.Mem.head _))))))))) (sbI_c (List.Mem.tail _ (List.Mem.tail _ (List.Mem.tail _ (List.Mem.tail _ (List.Mem.tail _ (List.Mem.tail _ (List.Mem.tail _ (List.Mem.tail _ (List.Mem.tail _ (List.Mem.head _)))))))))) (sbI_c (List.Mem.tail _ (List.Mem.tail _ (List.Mem.tail _ (List.Mem.tail _ (List.Mem.tail _ (List.Mem.tail _ (List.Mem.tail _ (List.Mem.tail _ (List.Mem.tail _ (List.Mem.tail _ (List.Mem.head _))))))))))) (sbI_c (List.Mem.tail _ (List.Mem.tail _ (List.Mem.tail _ (List.Mem.tail _ (List.Mem.tail _ (List.Mem.tail _ (List.Mem.tail _ (List.Mem.tail _ (List.Mem.tail _ (List.Mem.tail _ (List.Mem.tail _ (List.Mem.head _)))))))))))) (sbI_c (List.Mem.tail _ (List.Mem.tail _ (List.Mem.tail _ (List.Mem.tail _ (List.Mem.tail _ (List.Mem.tail _ (List.Mem.tail _ (List.Mem.tail _ (List.Mem.tail _ (List.Mem.tail _ (List.Mem.tail _ (List.Mem.tail _ (List.Mem.head _))))))))))))) (sbI_c (List.Mem.tail _ (List.Mem.tail _ (List.Mem.tail _ (List.Mem.tail _ (List.Mem.tail _ (List.Mem.tail _ (List.Mem.tail _ (List.Mem.tail _ (List.Mem.tail _ (List.Mem.tail _ (List.Mem.tail _ (List.Mem.tail _ (List.Mem.tail _ (List.Mem.head _)))))))))))))) (sbI_c (List.Mem.tail _ (List.Mem.tail _ (List.Mem.tail _ (List.Mem.tail _ (List.Mem.tail _ (List.Mem.tail _ (List.Mem.tail _ (List.Mem.tail _ (List.Mem.tail _ (List.Mem.tail _ (List.Mem.tail _ (List.Mem.tail _ (List.Mem.tail _ (List.Mem.tail _ (List.Mem.head _))))))))))))))) (sbI_c (List.Mem.tail _ (List.Mem.tail _ (List.Mem.tail _ (List.Mem.tail _ (List.Mem.tail _ (List.Mem.tail _ (List.Mem.tail _ (List.Mem.tail _ (List.Mem.tail _ (List.Mem.tail _ (List.Mem.tail _ (List.Mem.tail _ (List.Mem.tail _ (List.Mem.tail _ (List.Mem.tail _ (List.Mem.head _)))))))))))))))) (sbI_c (List.Mem.tail _ (List.Mem.tail _ (List.Mem.tail _ (List.Mem.tail _ (List.Mem.tail _ (List.Mem.tail _ (List.Mem.tail _ (List.Mem.tail _ (List.Mem.tail _ (List.Mem.tail _ (List.Mem.tail _ (List.Mem.tail _ (List.Mem.tail _ (List.Mem.tail _ (List.Mem.tail _ (List.Mem.tail _ (List.Mem.head _))))))))))))))))) (sbI_c (List.Mem.tail _ (List.Mem.tail _ (List.Mem.tail _ (List.Mem.tail _ (List.Mem.tail _ (List.Mem.tail _ (List.Mem.tail _ (List.Mem.tail _ (List.Mem.tail _ (List.Mem.tail _ (List.Mem.tail _ (List.Mem.tail _ (List.Mem.tail _ (List.Mem.tail _ (List.Mem.tail _ (List.Mem.tail _ (List.Mem.tail _ (List.Mem.head _)))))))))))))))))) (sbI_c (List.Mem.tail _ (List.Mem.tail _ (List.Mem.tail _ (List.Mem.tail _ (List.Mem.tail _ (List.Mem.tail _ (List.Mem.tail _ (List.Mem.tail _ (List.Mem.tail _ (List.Mem.tail _ (List.Mem.tail _ (List.Mem.tail _ (List.Mem.tail _ (List.Mem.tail _ (List.Mem.tail _ (List.Mem.tail _ (List.Mem.tail _ (List.Mem.tail _ (List.Mem.head _))))))))))))))))))) (sbI_c (List.Mem.tail _ (List.Mem.tail _ (List.Mem.tail _ (List.Mem.tail _ (List.Mem.tail _ (List.Mem.tail _ (List.Mem.tail _ (List.Mem.tail _ (List.Mem.tail _ (List.Mem.tail _ (List.Mem.tail _ (List.Mem.tail _ (List.Mem.tail _ (List.Mem.tail _ (List.Mem.tail _ (List.Mem.tail _ (List.Mem.tail _ (List.Mem.tail _ (List.Mem.tail _ (List.Mem.head _)))))))))))))))))))) (sbI_c (List.Mem.tail _ (List.Mem.tail _ (List.Mem.tail _ (List.Mem.tail _ (List.Mem.tail _ (List.Mem.tail _ (List.Mem.tail _ (List.Mem.tail _ (List.Mem.tail _ (List.Mem.tail _ (List.Mem.tail _ (List.Mem.tail _ (List.Mem.tail _ (List.Mem.tail _ (List.Mem.tail _ (List.Mem.tail _ (List.Mem.tail _ (List.Mem.tail _ (List.Mem.tail _ (List.Mem.tail _ (List.Mem.head _))))))))))))))))))))) (sbI_c (List.Mem.tail _ (List.Mem.tail _ (List.Mem.tail _ (List.Mem.tail _ (List.Mem.tail _ (List.Mem.tail _ (List.Mem.tail _ (List.Mem.tail _ (List.Mem.tail _ (List.Mem.tail _ (List.Mem.tail _ (List.Mem.tail _ (List.Mem.tail _ (List.Mem.tail _ (List.Mem.tail _ (List.Mem.tail _ (List.Mem.tail _ (List.Mem.tail _ (List.Mem.tail _ (List.Mem.tail _ (List.Mem.tail _ (List.Mem.head _)))))))))))))))))))))) (sbI_c (List.Mem.tail _ (List.Mem.tail _ (List.Mem.tail _ (List.Mem.tail _ (List.Mem.tail _ (List.Mem.tail _ (List.Mem.tail _ (List.Mem.tail _ (List.Mem.tail _ (List.Mem.tail _ (List.Mem.tail _ (List.Mem.tail _ (List.Mem.tail _ (List.Mem.tail _ (List.Mem.tail _ (List.Mem.tail _ (List.Mem.tail _ (List.Mem.tail _ (List.Mem.tail _ (List.Mem.tail _ (List.Mem.tail _ (List.Mem.tail _ (List.Mem.head _))))))))))))))))))))))) (sbI_c (List.Mem.tail _ (List.Mem.tail _ (List.Mem.tail _ (List.Mem.tail _ (List.Mem.tail _ (List.Mem.tail _ (List.Mem.tail _ (List.Mem.tail _ (List.Mem.tail _ (List.Mem.tail _ (List.Mem.tail _ (List.Mem.tail _ (List.Mem.tail _ (List.Mem.tail _ (List.Mem.tail _ (List.Mem.tail _ (List.Mem.tail _ (List.Mem.tail _ (List.Mem.tail _ (List.Mem.tail _ (List.Mem.tail _ (List.Mem.tail _ (List.Mem.tail _ (List.Mem.head _)))))))))))))))))))))))) (sbI_c (List.Mem.tail _ (List.Mem.tail _ (List.Mem.tail _ (List.Mem.tail _ (List.Mem.tail _ (List.Mem.tail _ (List.Mem.tail _ (List.Mem.tail _ (List.Mem.tail _ (List.Mem.tail _ (List.Mem.tail _ (List.Mem.tail _ (List.Mem.tail _ (List.Mem.tail _ (List.Mem.tail _ (List.Mem.tail _ (List.Mem.tail _ (List.Mem.tail _ (List.Mem.tail _ (List.Mem.tail _ (List.Mem.tail _ (List.Mem.tail _ (List.Mem.tail _ (List.Mem.tail _ (List.Mem.head _))))))))))))))))))))))))) sbI_n)))))))))))))))))))))))
            have rk136_2 : MG hp B hc134 (20) (mon hp (F 0)) := nr135 p hp (20) _ hp2 (Nr.c (by omega) (Nr.c (by omega) (Nr.c (by omega) (Nr.c (by omega) (Nr.c (by omega) (Nr.c (by omega) (Nr.c (by omega) (Nr.c (by omega) (Nr.c (by omega) (Nr.c (by omega) (Nr.c (by omega) (Nr.c (by omega) (Nr.c (by omega) (Nr.c (by omega) (Nr.c (by omega) (Nr.c (by omega) (Nr.c (by omega) (Nr.c (by omega) (Nr.c (by omega) (Nr.c (by omega) (Nr.c (by omega) (Nr.c (by omega) Nr.n)))))))))))))))))))))) rk133_2
            have rk136_3 : MG hp B hc134 (11) (H (m - 1)) := nr135 p hp (11) _ hp2 (Nr.c (by omega) (Nr.c (by omega) (Nr.c (by omega) (Nr.c (by omega) (Nr.c (by omega) (Nr.c (by omega) (Nr.c (by omega) (Nr.c (by omega) (Nr.c (by omega) (Nr.c (by omega) (Nr.c (by omega) (Nr.c (by omega) (Nr.c (by omega) (Nr.c (by omega) (Nr.c (by omega) (Nr.c (by omega) (Nr.c (by omega) (Nr.c (by omega) (Nr.c (by omega) (Nr.c (by omega) (Nr.c (by omega) (Nr.c (by omega) Nr.n)))))))))))))))))))))) mg132
            obtain ⟨hpA9, hc9, hle9, hs9, hm9⟩ := pt_turn hp (show 0 ≤ m - 1 by omega) hA1 hC1 pt9
            rw [show m - 1 + 1 = m by omega] at hs9 hm9
            have hge9 := sD_ge hp (show 0 ≤ hn9 by omega) hpA9
            refine Go.nf (h' := hc134) (st' := []) rfl rfl (Nat.le_refl _) (Nat.le_refl _) ?_
            refine g_goto (tgt := 87) dX10_factor_106 rfl ?_
            exact ih_lw _ (by omega) (hn9) (H9) (fc9) (Q9) (e9_) (e11_) (l16) (l17) (l18) (l19) (l20) hc134 rfl fr_lw rd135 rk136_1 rk136_2 (by omega) tb8 tb9 li9 hpA9 hc9 (by omega)
        exact lw _ (0 + 1) (fun t => if t = 0 then mon hp (F 0) else mon hp (F 0)) (0) (fun _ => mon hp (F 0)) (g9) (g11) (gup g16 0 (dgi hp (mon hp (F 0)))) (wT g17 0 (mon hp (F 0)) 41) (g18) (g19) (g20) hc24 rfl trivial rd25 rk26_1 rk26_3 (by omega) (TB.put (Q := fun _ => mon hp (F 0)) (n := 0) (fun i i0 i1 => by omega) (by omega) (by omega) hmp (by omega) (Or.inr ⟨rfl, rfl⟩) (by omega)) (fun i i0 i1 => by omega) (⟨by omega, fun i i0 i1 => by omega, fun i i0 i1 => by omega⟩) (fun i i0 i1 => by
                                                                      dsimp only
                                                                      rw [if_pos (by omega)]; exact ⟨hmm, by omega, dv_rf _ _⟩) (fun x hx => Or.inr ⟨0, by omega, by omega, by
                                                                      dsimp only
                                                                      rw [if_pos rfl]; exact hx.2.2⟩) (by
                                                                      rw [sD_s hp _ (by omega)]
                                                                      show 0 + dgi hp (if (0 : Int) = 0 then mon hp (F 0) else mon hp (F 0)) ≤ 40
                                                                      rw [if_pos rfl]; omega)
      · skip
        refine g_bipush dX10_factor_37 (by decide) ?_
        exact g_iret dX10_factor_39 rfl (Or.inl ⟨(by unfold foF gT; rw [if_pos ⟨a0, a1⟩, ha]; dsimp only; rw [if_neg (by omega), if_pos (by omega)]), (by
                                                                      have e9 : aFc hp T a = -3 := (by unfold aFc gT; rw [if_pos ⟨a0, a1⟩, ha]; dsimp only; rw [if_neg (by omega), if_pos (by omega)])
                                                                      rw [e9]), rk9_0⟩)
    · skip
      have hyF : ¬ dY hp F < 1 := fun z => by rw [if_pos z] at c6; omega
      clear c6
      refine g_bipush dX10_factor_18 (by decide) ?_
      exact g_iret dX10_factor_20 rfl (Or.inl ⟨(by unfold foF gT; rw [if_pos ⟨a0, a1⟩, ha]; dsimp only; rw [if_pos (by omega)]), (by
                                                                      have e9 : aFc hp T a = -2 := (by unfold aFc gT; rw [if_pos ⟨a0, a1⟩, ha]; dsimp only; rw [if_pos (by omega)])
                                                                      rw [e9]), hRD⟩)
  · skip
    refine Go.nf (h' := h) (st' := [.int (gI (0))]) hq2 rfl (Nat.le_refl _) (Nat.le_refl _) ?_
    refine g_if_ne (tgt := 10) dX10_factor_5 rfl (by first | exact gW_a | assumption | (unfold gW; omega)) (fun c237 => absurd c237 (by omega)) (fun c237 => ?_)
    refine g_iconst dX10_factor_8 ?_
    exact g_iret dX10_factor_9 rfl (Or.inl ⟨(by
                                                                      have e8 : gT T a = none := by
                                                                        unfold gT
                                                                        split
                                                                        · rename_i z
                                                                          cases hTa : T a.toNat with
                                                                          | none => rfl
                                                                          | some F => exact absurd ⟨z.1, z.2, F, hTa⟩ na
                                                                        · rfl
                                                                      unfold foF; rw [e8]), (by
                                                                      have e9 : aFc hp T a = -1 := (by
                                                                      have e8 : gT T a = none := by
                                                                        unfold gT
                                                                        split
                                                                        · rename_i z
                                                                          cases hTa : T a.toNat with
                                                                          | none => rfl
                                                                          | some F => exact absurd ⟨z.1, z.2, F, hTa⟩ na
                                                                        · rfl
                                                                      unfold aFc; rw [e8])
                                                                      rw [e9]), hRD⟩)
