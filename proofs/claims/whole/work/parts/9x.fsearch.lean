section
variable {p : Nat}
def trB : Nat → Nat
  | 0 => 0
  | k + 1 => trB k + (k + 1)
theorem trB_mono : ∀ (b a : Nat), a ≤ b → trB a ≤ trB b
  | 0, a, h => by rw [show a = 0 by omega]; exact Nat.le_refl _
  | b + 1, a, h => by
    rcases Nat.lt_or_ge a (b + 1) with z | z
    · have := trB_mono b a (by omega)
      show trB a ≤ trB b + (b + 1)
      omega
    · rw [show a = b + 1 by omega]; exact Nat.le_refl _
theorem trB_n {n : Int} (h0 : 0 ≤ n) (h : n < 40) : trB (40 - n).toNat = trB (39 - n).toNat + (40 - n).toNat := by
  rw [show (40 - n).toNat = (39 - n).toNat + 1 by omega]; rfl
theorem trB_e {n e : Int} (h : n + 1 ≤ e) : trB (40 - e).toNat ≤ trB (39 - n).toNat := trB_mono _ _ (by omega)
theorem fS_sI (h : prm p) {f : Px p} {t : Int → Int} : ∀ n : Nat, (∀ i : Int, 0 ≤ i → i < n → fE h f i = t i) → fS h f n = sI t n
  | 0, _ => rfl
  | n + 1, e => by
    show fS h f n + fE h f n = sI t n + t n
    rw [fS_sI h n (fun i i0 i1 => e i i0 (by omega)), e n (by omega) (by omega)]
/-- there is a factor -/
theorem fcl_pos (h : prm p) {f : Px p} {n : Int} {Q : Int → Px p} {t : Int → Int} (hf : po (fR h) f) (h1 : 1 ≤ dgi h f) (w : fcl h f n Q t) : 1 ≤ n := by
  obtain ⟨g, hg, hd⟩ := irr_ex (fld_p h) (dgi h f).toNat f hf (by omega) (dgi_dg h hf (by omega))
  have hmi : irr (fR h) (mon h g) := by
    obtain ⟨m, m1, m2⟩ := hg.2.1
    have e := mon_dgi h hg.1
    rw [dgi_of h m2] at e
    have d := dgi_dg h (mon_po h hg.1) (show 0 ≤ dgi h (mon h g) by omega)
    rw [show (dgi h (mon h g)).toNat = m by omega] at d
    refine ⟨mon_po h hg.1, ⟨m, m1, d⟩, fun a b ha hb eab => ?_⟩
    -- g is a constant times a b
    obtain ⟨q, hq, eq⟩ := mon_dv h hg.1
    have e2 : g = zmul (fR h) (zmul (fR h) q a) b := by
      rw [eq, eab]
      exact (zmul_assoc _ _ _ _).symm
    rcases hg.2.2 _ b (mul_po hq ha) hb e2 with z | z
    · left
      have hqa : dv (fR h) a (zmul (fR h) q a) := ⟨q, hq, rfl⟩
      rcases po_dg ha with y | ⟨c, y⟩
      · exfalso
        rw [y] at z
        letI := pR h
        have e3 : zmul (fR h) q (0 : Px p) = 0 := by
          show q * 0 = 0
          grind
        rw [e3] at z
        exact dg_ne z rfl
      · have := dv_deg (fld_p h) y z hqa
        rw [show c = 0 by omega] at y
        exact y
    · right; exact z
  have hfc : isFc h f (mon h g) := ⟨hmi, mon_mnc h hg.1, dv_tr (mon_dv h hg.1) hd⟩
  obtain ⟨i, i0, i1, _⟩ := w.2.2 _ hfc
  omega
/-- what the search leaves, read as the latest factor() -/
theorem fac_ok {hp : prm p} {B f : Nat} {h0 : GH} {gr0 gp0 : Int → Option Nat} {h : GH} {gr gp : Int → Option Nat} {gt gq gR : Int → Int} {n c L tg le sz o : Int} {Q : Int → Px p} {F : Px p} (hF : po (fR hp) F) (h1 : 1 ≤ dgi hp F ∧ dgi hp F ≤ 40) (hn : 0 ≤ n ∧ n ≤ 40) (w : FW hp B f h0 gr0 gp0 h gr gp gt gq gR n c L tg le sz n Q) (hf : fcl hp F n Q gt) (hs : ∀ i : Int, 0 ≤ i → i + 1 < n → ltP hp (Q i) (Q (i + 1))) (htg : tg = sI gt n.toNat) (hle : le = ld hp F) (g : GPc hp h gp c (fun i => pQ hp Q gt (gq i) n.toNat)) (hpt : ptI gt n o c gq) (hall : (∀ j : Int, 0 ≤ j → j < n → gt j < o) ∧ c ≤ 8) (hr : (rN hp F : Int) = L ∧ ∀ i : Int, 0 ≤ i → i < L → rR hp F i = gR i) (hL : L ≤ n) : FAc hp h (some F) gr gp gt gq gR n c L tg le := by
  obtain ⟨e1, e2⟩ := fcl_so hp hn.1 hf hs
  obtain ⟨k1, k2⟩ := ptI_k hp e1 (fun i i0 i1 => (e2 i i0 i1).2) hpt hall.1
  have hn1 := fcl_pos hp hF h1.1 hf
  refine ⟨e1.symm, k1.symm, hr.1.symm, ?_, hle, ⟨by omega, by omega, by omega, by omega⟩, fun i i0 i1 => ?_, fun i i0 i1 => ?_, fun i i0 i1 => (hr.2 i i0 (by omega)).symm⟩
  · rw [htg, show fN hp F = n.toNat by omega]
    exact (fS_sI hp n.toNat (fun i i0 i1 => (e2 i i0 (by omega)).2)).symm
  · rw [(e2 i i0 (by omega)).1, (e2 i i0 (by omega)).2]
    have := fcl_le hp hF (by omega) hf i0 (show i < n by omega)
    exact ⟨by omega, rfl, w.2.2.1 i i0 (by omega)⟩
  · refine ⟨(k2 i i0 (by omega)).symm, ?_⟩
    obtain ⟨r, hr, hR⟩ := g i i0 (by omega)
    refine ⟨r, hr, ?_⟩
    have e3 : kQ hp F i = pQ hp Q gt (gq i) n.toNat := by
      unfold kQ
      rw [k2 i i0 (by omega), show fN hp F = n.toNat by omega]
      exact pQ_fQ hp (gq i) e2 n.toNat (by omega)
    rw [e3]; exact hR
end
set_option maxHeartbeats 4000000 in
set_option maxRecDepth 100000 in
theorem sF_search (N : GN) (h : GH) (B f r p : Nat) (hp : prm p) (hp2 : p ≤ 65536) (hBf : B + 58 ≤ f) (hrB : B + 24 ≤ r ∧ r + 2 ≤ B + 58) (h0 : GH) (gr0 gp0 gr gp : Int → Option Nat) (gt gq gR : Int → Int) (n pn rn tg le sz : Int) (Q : Int → Px p) (f0 : Px p) (hd0 : 1 ≤ dgi hp f0 ∧ dgi hp f0 ≤ 40) (hF : FW hp B f h0 gr0 gp0 h gr gp gt gq gR n pn rn tg le sz 0 Q) (hw : PW p B h) (hr : RP hp 84 h r f0) : Sp N yX0_search mX0_search 1656 71208 [.ref (f), .ref (r)] h (fun v h1 => v = none ∧ ∃ gr1 gp1 gt1 gq1 gR1 n1 pn1 rn1 tg1 le1 sz1 Q1, PW p B h1 ∧ FW hp B f h0 gr0 gp0 h1 gr1 gp1 gt1 gq1 gR1 n1 pn1 rn1 tg1 le1 sz1 n1 Q1 ∧ FAc hp h1 (some f0) gr1 gp1 gt1 gq1 gR1 n1 pn1 rn1 tg1 le1) := by
  refine Sp.of (by decide) rfl rfl (Nat.le_of_ble_eq_true rfl) ?_
  show Go N mX0_search _ 1656 71208 h 0 [(0, .ref (f)), (1, .ref (r))] []
  have hrp := hr.po
  have hmp := mon_po hp hrp
  have hmd := mon_dgi hp hrp
  have htr40 : trB (40 - (0 : Int)).toNat = 820 := by decide
  have hp1 := hp.1
  refine g_aload_n 0 dX0_search_0 rfl ?_
  refine g_callV (nc2 := 0) (ns2 := 0) (ci := 0) (As := []) (st := []) rfl dX0_search_1 okX0_forget lX0_78 itX0_forget seX0_forget rfl (FW.ob hF) (by decide) (by decide) rfl (Nat.le_of_ble_eq_true rfl) (sF_forget N _ B f n pn rn tg le (FW.ob hF)) (by omega) (by omega) (fun v1 hc1 q1 => ?_)
  obtain ⟨rfl, hE2⟩ := q1
  have rh2_0 : FW hp B f h0 gr0 gp0 hc1 gr gp gt gq gR 0 0 0 0 0 sz 0 (Q) := FW.cell hF (by rw [hE2]; rfl) (fun x x1 x2 x3 x4 => by rw [hE2, hset_n _ _ x1]) (hs_s hE2) (hs_n hE2 (show NE (f + 2) (f) by unfold NE; omega) (FW.t2 hF)) (hs_n hE2 (show NE (f + 4) (f) by unfold NE; omega) (FW.t4 hF)) (hs_n hE2 (show NE (f + 5) (f) by unfold NE; omega) (FW.t5 hF))
  have rh2_1 : PW p B hc1 := PW.hs hw (by omega) hE2
  have rh2_2 : RP hp 84 hc1 (r) (f0) := (hr).of (fun x hx => by rw [hE2, hset_n _ _ (by omega)])
  refine Go.nf (h' := hc1) (st' := []) rfl rfl (Nat.le_refl _) (Nat.le_refl _) ?_
  refine g_aload_n 0 dX0_search_4 rfl ?_
  refine g_aload_n 1 dX0_search_5 rfl ?_
  refine g_callV (nc2 := 0) (ns2 := 0) (ci := 5) (As := []) (st := [.ref (f)]) rfl dX0_search_6 okX5_leading lX0_81 itX5_leading seX5_leading rfl (rh2_2).o (by decide) (by decide) rfl (Nat.le_of_ble_eq_true rfl) (sP_leading N _ (r) 84 p hp (f0) rh2_2) (by omega) (by omega) (fun v3 hc3 q3 => ?_)
  obtain ⟨hq4, rfl⟩ := q3
  refine Go.nf (h' := hc1) (st' := [.long (gJ (ld hp (f0))), .ref (f)]) hq4 rfl (Nat.le_refl _) (Nat.le_refl _) ?_
  refine g_putf 15 dX0_search_9 kX0 (by decide) fX0_74 rfl (FW.ob rh2_0) (Nat.le_of_ble_eq_true rfl) rfl rfl ?_
  obtain ⟨hh5, eh5⟩ : ∃ z : GH, z = hset hc1 (f) (oB 0 [.ref (B + 1), .ref (B + 7), .ref (f + 12), .ref (f + 1), .ref (f + 2), .ref (f + 3), .ref (f + 4), .ref (f + 5), .ref (f + 6), .ref (f + 8), .ref (f + 10), .int (gI (0)), .int (gI (0)), .int (gI (0)), .int (gI (0)), .long (gJ (ld hp (f0)))]) := ⟨_, rfl⟩
  refine Go.hp eh5.symm ?_
  have rh5_0 : FW hp B f h0 gr0 gp0 hh5 gr gp gt gq gR 0 0 0 0 (ld hp (f0)) sz 0 (Q) := FW.cell rh2_0 (by rw [eh5]; rfl) (fun x x1 x2 x3 x4 => by rw [eh5, hset_n _ _ x1]) (hs_s eh5) (hs_n eh5 (show NE (f + 2) (f) by unfold NE; omega) (FW.t2 rh2_0)) (hs_n eh5 (show NE (f + 4) (f) by unfold NE; omega) (FW.t4 rh2_0)) (hs_n eh5 (show NE (f + 5) (f) by unfold NE; omega) (FW.t5 rh2_0))
  have rh5_1 : PW p B hh5 := PW.hs rh2_1 (by omega) eh5
  have rh5_2 : RP hp 84 hh5 (r) (f0) := (rh2_2).of (fun x hx => by rw [eh5, hset_n _ _ (by omega)])
  refine g_aload_n 0 dX0_search_12 rfl ?_
  refine g_getf 8 dX0_search_13 kX0 (by decide) fX0_34 (FW.ob rh5_0) rfl ?_
  refine g_aload_n 1 dX0_search_16 rfl ?_
  have hdc7 := (rh5_2).lt
  refine g_callV (nc2 := 0) (ns2 := 0) (ci := 5) (As := [.ref (r)]) (st := []) rfl dX0_search_17 okX5_copy lX0_84 itX5_copy seX5_copy rfl (Classical.choose_spec (RA.o (FW.ra rh5_0 6 (by omega)))) (by decide) (by decide) rfl (Nat.le_of_ble_eq_true rfl) (sP_copy N _ (f + 6) (r) 84 84 p hp hp2 (f0) (FW.ra rh5_0 6 (by omega)) rh5_2 (by omega) (show AP (f + 6) (r) by unfold AP; omega)) (by omega) (by omega) (fun v6 hc6 q6 => ?_)
  obtain ⟨rfl, frc8, rn8_0⟩ := q6
  have rk9_0 : PW p B hc6 := (rh5_1).fr2 frc8 (ok_c (by omega) (fun _ h => absurd h (List.not_mem_nil)))
  have rk5009_0 : RP hp 84 hc6 (r) (f0) := (rh5_2).fr frc8 (Ai.c (show AP (r) (f + 6) by unfold AP; omega) (Ai.n _))
  refine Go.nf (h' := hc6) (st' := []) rfl rfl (Nat.le_refl _) (Nat.le_refl _) ?_
  have fw10 : FW hp B f h0 gr0 gp0 hc6 gr gp gt gq gR 0 0 0 0 (ld hp (f0)) sz 0 (Q) := FW.pr rh5_0 frc8 (fw_c (by omega) fw_n) (six (Or.inr (rn8_0).ra) (Or.inl (Ai.c (show AP (f + 8) (f + 6) by unfold AP; omega) (Ai.n _))) (Or.inl (Ai.c (show AP (f + 10) (f + 6) by unfold AP; omega) (Ai.n _))) (Or.inl (Ai.c (show AP (f + 15) (f + 6) by unfold AP; omega) (Ai.n _))) (Or.inl (Ai.c (show AP (f + 17) (f + 6) by unfold AP; omega) (Ai.n _))) (Or.inl (Ai.c (show AP (f + 19) (f + 6) by unfold AP; omega) (Ai.n _)))) (Or.inl ⟨(Ni.c ⟨(show NE (f + 12) (f + 6) by unfold NE; omega), (show NE (f + 12) (f + 7) by unfold NE; omega)⟩ (Ni.n _)), rfl⟩) (Or.inl (Ni.c ⟨(show NE (f + 13) (f + 6) by unfold NE; omega), (show NE (f + 13) (f + 7) by unfold NE; omega)⟩ (Ni.n _))) (Or.inl (Ni.c ⟨(show NE (f + 14) (f + 6) by unfold NE; omega), (show NE (f + 14) (f + 7) by unfold NE; omega)⟩ (Ni.n _)))
  refine g_aload_n 0 dX0_search_20 rfl ?_
  refine g_getf 1 dX0_search_21 kX0 (by decide) fX0_48 (FW.ob fw10) rfl ?_
  refine g_aload_n 0 dX0_search_24 rfl ?_
  refine g_getf 8 dX0_search_25 kX0 (by decide) fX0_34 (FW.ob fw10) rfl ?_
  refine g_callV (nc2 := 0) (ns2 := 0) (ci := 2) (As := [.ref (f + 6)]) (st := []) rfl dX0_search_28 okX2_makeMonic lX0_88 itX2_makeMonic seX2_makeMonic rfl (rk9_0).1 (by decide) (by decide) rfl (Nat.le_of_ble_eq_true rfl) (sP_makeMonic N _ B (f + 6) 84 p hp hp2 (f0) (rk9_0).1 (rk9_0).2.1 rn8_0 (by omega)) (by omega) (by omega) (fun v11 hc11 q11 => ?_)
  obtain ⟨rfl, frc12, rn12_0⟩ := q11
  have rk13_1 : PW p B hc11 := (rk9_0).fr2 frc12 (ok_c (by omega) (fun _ h => absurd h (List.not_mem_nil)))
  have rk5013_0 : RP hp 84 hc11 (r) (f0) := (rk5009_0).fr frc12 (Ai.c (show AP (r) (f + 6) by unfold AP; omega) (Ai.n _))
  refine Go.nf (h' := hc11) (st' := []) rfl rfl (Nat.le_refl _) (Nat.le_refl _) ?_
  have fw14 : FW hp B f h0 gr0 gp0 hc11 gr gp gt gq gR 0 0 0 0 (ld hp (f0)) sz 0 (Q) := FW.pr fw10 frc12 (fw_c (by omega) fw_n) (six (Or.inr (rn12_0).ra) (Or.inl (Ai.c (show AP (f + 8) (f + 6) by unfold AP; omega) (Ai.n _))) (Or.inl (Ai.c (show AP (f + 10) (f + 6) by unfold AP; omega) (Ai.n _))) (Or.inl (Ai.c (show AP (f + 15) (f + 6) by unfold AP; omega) (Ai.n _))) (Or.inl (Ai.c (show AP (f + 17) (f + 6) by unfold AP; omega) (Ai.n _))) (Or.inl (Ai.c (show AP (f + 19) (f + 6) by unfold AP; omega) (Ai.n _)))) (Or.inl ⟨(Ni.c ⟨(show NE (f + 12) (f + 6) by unfold NE; omega), (show NE (f + 12) (f + 7) by unfold NE; omega)⟩ (Ni.n _)), rfl⟩) (Or.inl (Ni.c ⟨(show NE (f + 13) (f + 6) by unfold NE; omega), (show NE (f + 13) (f + 7) by unfold NE; omega)⟩ (Ni.n _))) (Or.inl (Ni.c ⟨(show NE (f + 14) (f + 6) by unfold NE; omega), (show NE (f + 14) (f + 7) by unfold NE; omega)⟩ (Ni.n _)))
  refine g_iconst dX0_search_31 ?_
  refine g_istore_n (ls2 := [(2, .int (gI (1))), (0, .ref (f)), (1, .ref (r))]) dX0_search_32 rfl (by decide) rfl ?_
  refine g_iconst dX0_search_33 ?_
  refine g_istore_n (ls2 := [(3, .int (gI (0))), (2, .int (gI (1))), (0, .ref (f)), (1, .ref (r))]) dX0_search_34 rfl (by decide) rfl ?_
  have lt : ∀ (kk : Nat) (turn : Int) (q : Int) (R : Px p) (gr1 : Int → Option Nat) (gt1 : Int → Int) (n1 : Int) (tg1 : Int) (Q1 : Int → Px p) (sz1 : Int) (hlt : GH), kk = (50 - turn).toNat → True → PW p B hlt → RP hp 84 hlt (f + 6) (R) → FW hp B f h0 gr0 gp0 hlt gr1 gp gt1 gq gR n1 0 0 tg1 (ld hp f0) sz1 n1 (Q1) → (0 ≤ turn ∧ dgi hp R + turn ≤ 40) → (sea hp (mon hp f0) R q n1 tg1 Q1 gt1) → Go N mX0_search (fun v h1 => v = none ∧ ∃ gr1 gp1 gt1 gq1 gR1 n1 pn1 rn1 tg1 le1 sz1 Q1, PW p B h1 ∧ FW hp B f h0 gr0 gp0 h1 gr1 gp1 gt1 gq1 gR1 n1 pn1 rn1 tg1 le1 sz1 n1 Q1 ∧ FAc hp h1 (some f0) gr1 gp1 gt1 gq1 gR1 n1 pn1 rn1 tg1 le1) (2 * trB (40 - n1).toNat + 16) (86 * trB (40 - n1).toNat + 688) hlt 35 [(3, .int (gI (turn))), (2, .int (gI (q))), (0, .ref (f)), (1, .ref (r))] [] := by
    refine Go.ind (fun kk ih_lt => ?_)
    intro turn q R gr1 gt1 n1 tg1 Q1 sz1 hlt hkk_lt fr_lt cr_lt_0 cr_lt_1 cr_lt_2 ht hse
    have hs2 := hse.2.1
    have hs5 := hse.2.2.2.2.1
    have hs9 := hse.2.2.2.2.2.2.2.2
    refine g_iload_n 0 dX0_search_35 rfl ?_
    refine g_bipush dX0_search_36 (by decide) ?_
    refine g_icmp_gt (tgt := 249) dX0_search_38 rfl (by first | assumption | (unfold gW; omega) | (unfold gW; split <;> omega)) (by first | assumption | (unfold gW; omega) | (unfold gW; split <;> omega)) (fun c115 => ?_) (fun c115 => ?_)
    · skip
      obtain ⟨hc1_, hc2_, hc3_, hc4_, hc5_⟩ := sea_fin hp hmp (by omega) hse (by omega)
      have hfc := fcl_mon hp hrp hc1_
      refine g_aload_n 2 dX0_search_249 rfl ?_
      refine g_callV (nc2 := 0) (ns2 := 0) (ci := 0) (As := []) (st := []) rfl dX0_search_250 okX0_sort lX0_130 itX0_sort seX0_sort rfl (FW.ob cr_lt_2) (by decide) (by decide) rfl (Nat.le_of_ble_eq_true rfl) (sF_sort N _ B f p hp hp2 hBf h0 gr0 gp0 gr1 gp gt1 gq gR n1 0 0 tg1 (ld hp f0) sz1 (Q1) f0 ⟨by omega, by omega⟩ hfc cr_lt_2 cr_lt_0) (by omega) (by omega) (fun v116 hc116 q116 => ?_)
      obtain ⟨rfl, gr3, gt3, Q3, pw3, fw3, hf3, hs3, hsum3⟩ := q116
      obtain ⟨hfN, hfPE⟩ := fcl_so hp hc4_ hf3 hs3
      refine Go.nf (h' := hc116) (st' := []) rfl rfl (Nat.le_refl _) (Nat.le_refl _) ?_
      refine g_aload_n 2 dX0_search_253 rfl ?_
      refine g_callV (nc2 := 16) (ns2 := 688) (ci := 0) (As := []) (st := []) rfl dX0_search_254 okX0_gatherParts lX0_133 itX0_gatherParts seX0_gatherParts rfl (FW.ob fw3) (by decide) (by decide) rfl (Nat.le_of_ble_eq_true rfl) (sF_gatherParts N _ B f p hp hp2 hBf h0 gr0 gp0 gr3 gp gt3 gq gR n1 0 tg1 (ld hp f0) sz1 Q3 f0 ⟨by omega, by omega⟩ hrp ⟨by omega, by omega⟩ hf3 (by omega) fw3 pw3) (by omega) (by omega) (fun v117 hc117 q117 => ?_)
      obtain ⟨rfl, c4, gp4, gq4, o4, pw4, fw4, hg4, hpt4, hall4⟩ := q117
      refine Go.nf (h' := hc117) (st' := []) rfl rfl (Nat.le_refl _) (Nat.le_refl _) ?_
      refine g_aload_n 2 dX0_search_257 rfl ?_
      refine g_callV (nc2 := 0) (ns2 := 0) (ci := 0) (As := []) (st := []) rfl dX0_search_258 okX0_gatherRoots lX0_136 itX0_gatherRoots seX0_gatherRoots rfl (FW.ob fw4) (by decide) (by decide) rfl (Nat.le_of_ble_eq_true rfl) (sF_gatherRoots N _ B f p hp hp2 hBf h0 gr0 gp0 gr3 gp4 gt3 gq4 gR n1 c4 tg1 (ld hp f0) sz1 c4 Q3 (fun i => pQ hp Q3 gt3 (gq4 i) n1.toNat) f0 ⟨by omega, by omega⟩ hrp ⟨by omega, by omega⟩ hf3 hs3 hfN (fun i i0 i1 => (hfPE i i0 i1).1) fw4 pw4 hg4) (by omega) (by omega) (fun v118 hc118 q118 => ?_)
      obtain ⟨rfl, L5, gR5, pw5, hg5, fw5, hL5, hr5⟩ := q118
      refine Go.nf (h' := hc118) (st' := []) rfl rfl (Nat.le_refl _) (Nat.le_refl _) ?_
      exact g_vret dX0_search_261 rfl ⟨rfl, gr3, gp4, gt3, gq4, gR5, n1, c4, L5, tg1, _, _, Q3, pw5, fw5, fac_ok hrp ⟨by omega, by omega⟩ ⟨by omega, by omega⟩ fw5 hf3 hs3 (by omega) rfl hg5 hpt4 hall4 hr5 hL5⟩
    · skip
      refine g_aload_n 2 dX0_search_41 rfl ?_
      refine g_getf 8 dX0_search_42 kX0 (by decide) fX0_34 (FW.ob cr_lt_2) rfl ?_
      refine g_getf 1 dX0_search_45 kX5 (by decide) fX0_93 (cr_lt_1).o rfl ?_
      refine g_if_le (tgt := 249) dX0_search_48 rfl (by first | assumption | (unfold gW; omega) | (unfold gW; split <;> omega)) (fun c119 => ?_) (fun c119 => ?_)
      · skip
        obtain ⟨hc1_, hc2_, hc3_, hc4_, hc5_⟩ := sea_fin hp hmp (by omega) hse (by omega)
        have hfc := fcl_mon hp hrp hc1_
        refine g_aload_n 2 dX0_search_249 rfl ?_
        refine g_callV (nc2 := 0) (ns2 := 0) (ci := 0) (As := []) (st := []) rfl dX0_search_250 okX0_sort lX0_130 itX0_sort seX0_sort rfl (FW.ob cr_lt_2) (by decide) (by decide) rfl (Nat.le_of_ble_eq_true rfl) (sF_sort N _ B f p hp hp2 hBf h0 gr0 gp0 gr1 gp gt1 gq gR n1 0 0 tg1 (ld hp f0) sz1 (Q1) f0 ⟨by omega, by omega⟩ hfc cr_lt_2 cr_lt_0) (by omega) (by omega) (fun v120 hc120 q120 => ?_)
        obtain ⟨rfl, gr3, gt3, Q3, pw3, fw3, hf3, hs3, hsum3⟩ := q120
        obtain ⟨hfN, hfPE⟩ := fcl_so hp hc4_ hf3 hs3
        refine Go.nf (h' := hc120) (st' := []) rfl rfl (Nat.le_refl _) (Nat.le_refl _) ?_
        refine g_aload_n 2 dX0_search_253 rfl ?_
        refine g_callV (nc2 := 16) (ns2 := 688) (ci := 0) (As := []) (st := []) rfl dX0_search_254 okX0_gatherParts lX0_133 itX0_gatherParts seX0_gatherParts rfl (FW.ob fw3) (by decide) (by decide) rfl (Nat.le_of_ble_eq_true rfl) (sF_gatherParts N _ B f p hp hp2 hBf h0 gr0 gp0 gr3 gp gt3 gq gR n1 0 tg1 (ld hp f0) sz1 Q3 f0 ⟨by omega, by omega⟩ hrp ⟨by omega, by omega⟩ hf3 (by omega) fw3 pw3) (by omega) (by omega) (fun v121 hc121 q121 => ?_)
        obtain ⟨rfl, c4, gp4, gq4, o4, pw4, fw4, hg4, hpt4, hall4⟩ := q121
        refine Go.nf (h' := hc121) (st' := []) rfl rfl (Nat.le_refl _) (Nat.le_refl _) ?_
        refine g_aload_n 2 dX0_search_257 rfl ?_
        refine g_callV (nc2 := 0) (ns2 := 0) (ci := 0) (As := []) (st := []) rfl dX0_search_258 okX0_gatherRoots lX0_136 itX0_gatherRoots seX0_gatherRoots rfl (FW.ob fw4) (by decide) (by decide) rfl (Nat.le_of_ble_eq_true rfl) (sF_gatherRoots N _ B f p hp hp2 hBf h0 gr0 gp0 gr3 gp4 gt3 gq4 gR n1 c4 tg1 (ld hp f0) sz1 c4 Q3 (fun i => pQ hp Q3 gt3 (gq4 i) n1.toNat) f0 ⟨by omega, by omega⟩ hrp ⟨by omega, by omega⟩ hf3 hs3 hfN (fun i i0 i1 => (hfPE i i0 i1).1) fw4 pw4 hg4) (by omega) (by omega) (fun v122 hc122 q122 => ?_)
        obtain ⟨rfl, L5, gR5, pw5, hg5, fw5, hL5, hr5⟩ := q122
        refine Go.nf (h' := hc122) (st' := []) rfl rfl (Nat.le_refl _) (Nat.le_refl _) ?_
        exact g_vret dX0_search_261 rfl ⟨rfl, gr3, gp4, gt3, gq4, gR5, n1, c4, L5, tg1, _, _, Q3, pw5, fw5, fac_ok hrp ⟨by omega, by omega⟩ ⟨by omega, by omega⟩ fw5 hf3 hs3 (by omega) rfl hg5 hpt4 hall4 hr5 hL5⟩
      · skip
        refine g_aload_n 2 dX0_search_51 rfl ?_
        refine g_getf 1 dX0_search_52 kX0 (by decide) fX0_48 (FW.ob cr_lt_2) rfl ?_
        refine g_aload_n 2 dX0_search_55 rfl ?_
        refine g_getf 8 dX0_search_56 kX0 (by decide) fX0_34 (FW.ob cr_lt_2) rfl ?_
        refine g_aload_n 2 dX0_search_59 rfl ?_
        refine g_getf 9 dX0_search_60 kX0 (by decide) fX0_38 (FW.ob cr_lt_2) rfl ?_
        refine g_callV (nc2 := 0) (ns2 := 0) (ci := 2) (As := [.ref (f + 6), .ref (f + 8)]) (st := []) rfl dX0_search_63 okX2_derive lX0_96 itX2_derive seX2_derive rfl (cr_lt_0).1 (by decide) (by decide) rfl (Nat.le_of_ble_eq_true rfl) (sP_derive N _ B (f + 6) (f + 8) p hp hp2 (R) (cr_lt_0).1 (cr_lt_0).2.1 cr_lt_1 (FW.ra cr_lt_2 8 (by omega)) (by omega) (by omega) (show AP (f + 6) (f + 8) by unfold AP; omega)) (by omega) (by omega) (fun v123 hc123 q123 => ?_)
        obtain ⟨rfl, frc124, rn124_0⟩ := q123
        have rk125_0 : PW p B hc123 := (cr_lt_0).fr2 frc124 (ok_c (by omega) (fun _ h => absurd h (List.not_mem_nil)))
        have rk5125_0 : RP hp 84 hc123 (f + 6) (R) := (cr_lt_1).fr frc124 (Ai.c (show AP (f + 6) (f + 8) by unfold AP; omega) (Ai.n _))
        refine Go.nf (h' := hc123) (st' := []) rfl rfl (Nat.le_refl _) (Nat.le_refl _) ?_
        have fw126 : FW hp B f h0 gr0 gp0 hc123 gr1 gp gt1 gq gR n1 0 0 tg1 (ld hp f0) sz1 n1 (Q1) := FW.pr cr_lt_2 frc124 (fw_c (by omega) fw_n) (six (Or.inl (Ai.c (show AP (f + 6) (f + 8) by unfold AP; omega) (Ai.n _))) (Or.inr (rn124_0).ra) (Or.inl (Ai.c (show AP (f + 10) (f + 8) by unfold AP; omega) (Ai.n _))) (Or.inl (Ai.c (show AP (f + 15) (f + 8) by unfold AP; omega) (Ai.n _))) (Or.inl (Ai.c (show AP (f + 17) (f + 8) by unfold AP; omega) (Ai.n _))) (Or.inl (Ai.c (show AP (f + 19) (f + 8) by unfold AP; omega) (Ai.n _)))) (Or.inl ⟨(Ni.c ⟨(show NE (f + 12) (f + 8) by unfold NE; omega), (show NE (f + 12) (f + 9) by unfold NE; omega)⟩ (Ni.n _)), rfl⟩) (Or.inl (Ni.c ⟨(show NE (f + 13) (f + 8) by unfold NE; omega), (show NE (f + 13) (f + 9) by unfold NE; omega)⟩ (Ni.n _))) (Or.inl (Ni.c ⟨(show NE (f + 14) (f + 8) by unfold NE; omega), (show NE (f + 14) (f + 9) by unfold NE; omega)⟩ (Ni.n _)))
        have hdd := (rn124_0).lt
        refine g_aload_n 2 dX0_search_66 rfl ?_
        refine g_getf 9 dX0_search_67 kX0 (by decide) fX0_38 (FW.ob fw126) rfl ?_
        refine g_getf 1 dX0_search_70 kX5 (by decide) fX0_93 (rn124_0).o rfl ?_
        refine g_if_ge (tgt := 93) dX0_search_73 rfl (by first | assumption | (unfold gW; omega) | (unfold gW; split <;> omega)) (fun c127 => ?_) (fun c127 => ?_)
        · skip
          refine g_aload_n 2 dX0_search_93 rfl ?_
          refine g_getf 1 dX0_search_94 kX0 (by decide) fX0_48 (FW.ob fw126) rfl ?_
          refine g_aload_n 2 dX0_search_97 rfl ?_
          refine g_getf 8 dX0_search_98 kX0 (by decide) fX0_34 (FW.ob fw126) rfl ?_
          refine g_aload_n 2 dX0_search_101 rfl ?_
          refine g_getf 9 dX0_search_102 kX0 (by decide) fX0_38 (FW.ob fw126) rfl ?_
          refine g_aload_n 2 dX0_search_105 rfl ?_
          refine g_getf 9 dX0_search_106 kX0 (by decide) fX0_38 (FW.ob fw126) rfl ?_
          obtain ⟨hk1, hk2, hk3, hk4, hk5, hk6, hk7, hk8⟩ := sq_part hp hse.1 hse.2.1 hse.2.2.1 (by omega)
          refine g_callV (nc2 := 0) (ns2 := 0) (ci := 2) (As := [.ref (f + 6), .ref (f + 8), .ref (f + 8)]) (st := []) rfl dX0_search_109 okX2_commonDivisor lX0_108 itX2_commonDivisor seX2_commonDivisor rfl (rk125_0).1 (by decide) (by decide) rfl (Nat.le_of_ble_eq_true rfl) (sP_common N _ B (f + 6) (f + 8) (f + 8) p hp hp2 (R) (drv hp R) rk125_0 rk5125_0 rn124_0 (rn124_0).ra (by omega) (by omega) (by omega)) (by omega) (by omega) (fun v128 hc128 q128 => ?_)
          obtain ⟨rfl, frc129, rn129_0, rn129_1⟩ := q128
          have rk5130_0 : RP hp 84 hc128 (f + 6) (R) := (rk5125_0).fr frc129 (Ai.c (show AP (f + 6) (f + 8) by unfold AP; omega) (Ai_pl (by omega)))
          refine Go.nf (h' := hc128) (st' := []) rfl rfl (Nat.le_refl _) (Nat.le_refl _) ?_
          have fw131 : FW hp B f h0 gr0 gp0 hc128 gr1 gp gt1 gq gR n1 0 0 tg1 (ld hp f0) sz1 n1 (Q1) := FW.pr fw126 frc129 (fw_c (by omega) fw_pl) (six (Or.inl (Ai.c (show AP (f + 6) (f + 8) by unfold AP; omega) (Ai_pl (by omega)))) (Or.inr (rn129_0).ra) (Or.inl (Ai.c (show AP (f + 10) (f + 8) by unfold AP; omega) (Ai_pl (by omega)))) (Or.inl (Ai.c (show AP (f + 15) (f + 8) by unfold AP; omega) (Ai_pl (by omega)))) (Or.inl (Ai.c (show AP (f + 17) (f + 8) by unfold AP; omega) (Ai_pl (by omega)))) (Or.inl (Ai.c (show AP (f + 19) (f + 8) by unfold AP; omega) (Ai_pl (by omega))))) (Or.inl ⟨(Ni.c ⟨(show NE (f + 12) (f + 8) by unfold NE; omega), (show NE (f + 12) (f + 9) by unfold NE; omega)⟩ (Ni_pl (by omega))), rfl⟩) (Or.inl (Ni.c ⟨(show NE (f + 13) (f + 8) by unfold NE; omega), (show NE (f + 13) (f + 9) by unfold NE; omega)⟩ (Ni_pl (by omega)))) (Or.inl (Ni.c ⟨(show NE (f + 14) (f + 8) by unfold NE; omega), (show NE (f + 14) (f + 9) by unfold NE; omega)⟩ (Ni_pl (by omega))))
          refine g_aload_n 2 dX0_search_112 rfl ?_
          refine g_getf 10 dX0_search_113 kX0 (by decide) fX0_41 (FW.ob fw131) rfl ?_
          refine g_aload_n 2 dX0_search_116 rfl ?_
          refine g_getf 8 dX0_search_117 kX0 (by decide) fX0_34 (FW.ob fw131) rfl ?_
          have hdc133 := (rk5130_0).lt
          refine g_callV (nc2 := 0) (ns2 := 0) (ci := 5) (As := [.ref (f + 6)]) (st := []) rfl dX0_search_120 okX5_copy lX0_84 itX5_copy seX5_copy rfl (Classical.choose_spec (RA.o (FW.ra fw131 10 (by omega)))) (by decide) (by decide) rfl (Nat.le_of_ble_eq_true rfl) (sP_copy N _ (f + 10) (f + 6) 84 84 p hp hp2 (R) (FW.ra fw131 10 (by omega)) rk5130_0 (by omega) (show AP (f + 10) (f + 6) by unfold AP; omega)) (by omega) (by omega) (fun v132 hc132 q132 => ?_)
          obtain ⟨rfl, frc134, rn134_0⟩ := q132
          have rk135_2 : PW p B hc132 := (rn129_1).fr2 frc134 (ok_c (by omega) (fun _ h => absurd h (List.not_mem_nil)))
          have rk5135_0 : RP hp 84 hc132 (f + 6) (R) := (rk5130_0).fr frc134 (Ai.c (show AP (f + 6) (f + 10) by unfold AP; omega) (Ai.n _))
          have rk5135_1 : RP hp 84 hc132 (f + 8) (gP hp R (drv hp R)) := (rn129_0).fr frc134 (Ai.c (show AP (f + 8) (f + 10) by unfold AP; omega) (Ai.n _))
          refine Go.nf (h' := hc132) (st' := []) rfl rfl (Nat.le_refl _) (Nat.le_refl _) ?_
          have fw136 : FW hp B f h0 gr0 gp0 hc132 gr1 gp gt1 gq gR n1 0 0 tg1 (ld hp f0) sz1 n1 (Q1) := FW.pr fw131 frc134 (fw_c (by omega) fw_n) (six (Or.inl (Ai.c (show AP (f + 6) (f + 10) by unfold AP; omega) (Ai.n _))) (Or.inl (Ai.c (show AP (f + 8) (f + 10) by unfold AP; omega) (Ai.n _))) (Or.inr (rn134_0).ra) (Or.inl (Ai.c (show AP (f + 15) (f + 10) by unfold AP; omega) (Ai.n _))) (Or.inl (Ai.c (show AP (f + 17) (f + 10) by unfold AP; omega) (Ai.n _))) (Or.inl (Ai.c (show AP (f + 19) (f + 10) by unfold AP; omega) (Ai.n _)))) (Or.inl ⟨(Ni.c ⟨(show NE (f + 12) (f + 10) by unfold NE; omega), (show NE (f + 12) (f + 11) by unfold NE; omega)⟩ (Ni.n _)), rfl⟩) (Or.inl (Ni.c ⟨(show NE (f + 13) (f + 10) by unfold NE; omega), (show NE (f + 13) (f + 11) by unfold NE; omega)⟩ (Ni.n _))) (Or.inl (Ni.c ⟨(show NE (f + 14) (f + 10) by unfold NE; omega), (show NE (f + 14) (f + 11) by unfold NE; omega)⟩ (Ni.n _)))
          refine g_aload_n 2 dX0_search_123 rfl ?_
          refine g_getf 1 dX0_search_124 kX0 (by decide) fX0_48 (FW.ob fw136) rfl ?_
          refine g_aload_n 2 dX0_search_127 rfl ?_
          refine g_getf 10 dX0_search_128 kX0 (by decide) fX0_41 (FW.ob fw136) rfl ?_
          refine g_aload_n 2 dX0_search_131 rfl ?_
          refine g_getf 9 dX0_search_132 kX0 (by decide) fX0_38 (FW.ob fw136) rfl ?_
          refine g_aload_n 2 dX0_search_135 rfl ?_
          refine g_getf 1 dX0_search_136 kX0 (by decide) fX0_48 (FW.ob fw136) rfl ?_
          refine g_getf 7 dX0_search_139 kX2 (by decide) fX0_112 (rk135_2).1 rfl ?_
          refine g_callV (nc2 := 0) (ns2 := 0) (ci := 2) (As := [.ref (f + 10), .ref (f + 8), .ref (B + 20)]) (st := []) rfl dX0_search_142 okX2_reduce lX0_115 itX2_reduce seX2_reduce rfl (rk135_2).1 (by decide) (by decide) rfl (Nat.le_of_ble_eq_true rfl) (sP_reduce N _ B (f + 10) (f + 8) (B + 20) 84 84 84 p hp hp2 (dgi hp (R)) (p : Int) (R) (gP hp R (drv hp R)) (by omega) (rk135_2).1 (rk135_2).2.1 (rn134_0).ru rk5135_1 (rk135_2).r20 (by omega) (by omega) (show AP (f + 10) (f + 8) by unfold AP; omega) (show AP (f + 10) (B + 20) by unfold AP; omega) (show AP (f + 8) (B + 20) by unfold AP; omega) (by omega) (by omega) (by omega)) (by omega) (by omega) (fun v137 hc137 q137 => ?_)
          obtain ⟨rfl, frc138, rn138_0, rn138_1⟩ := q137
          have rk5139_0 : RP hp 84 hc137 (f + 6) (R) := (rk5135_0).fr frc138 (Ai.c (show AP (f + 6) (f + 10) by unfold AP; omega) (Ai.c (show AP (f + 6) (B + 20) by unfold AP; omega) (Ai.n _)))
          have rk5139_1 : RP hp 84 hc137 (f + 8) (gP hp R (drv hp R)) := (rk5135_1).fr frc138 (Ai.c (show AP (f + 8) (f + 10) by unfold AP; omega) (Ai.c (show AP (f + 8) (B + 20) by unfold AP; omega) (Ai.n _)))
          refine Go.nf (h' := hc137) (st' := []) rfl rfl (Nat.le_refl _) (Nat.le_refl _) ?_
          have pw140 : PW p B hc137 := PW.upd rk135_2 frc138 (out8_c (by omega) (out8_c (by omega) out8_n)) (pl_all (Or.inl (Ai.c (by unfold AP; omega) (Ai.c (by unfold AP; omega) (Ai.n _)))) (Or.inl (Ai.c (by unfold AP; omega) (Ai.c (by unfold AP; omega) (Ai.n _)))) (Or.inl (Ai.c (by unfold AP; omega) (Ai.c (by unfold AP; omega) (Ai.n _)))) (Or.inl (Ai.c (by unfold AP; omega) (Ai.c (by unfold AP; omega) (Ai.n _)))) (Or.inl (Ai.c (by unfold AP; omega) (Ai.c (by unfold AP; omega) (Ai.n _)))) (Or.inl (Ai.c (by unfold AP; omega) (Ai.c (by unfold AP; omega) (Ai.n _)))) (Or.inr (rn138_1).ra) (Or.inl (Ai.c (by unfold AP; omega) (Ai.c (by unfold AP; omega) (Ai.n _)))))
          have fw141 : FW hp B f h0 gr0 gp0 hc137 gr1 gp gt1 gq gR n1 0 0 tg1 (ld hp f0) sz1 n1 (Q1) := FW.pr fw136 frc138 (fw_c (by omega) (fw_c (by omega) fw_n)) (six (Or.inl (Ai.c (show AP (f + 6) (f + 10) by unfold AP; omega) (Ai.c (show AP (f + 6) (B + 20) by unfold AP; omega) (Ai.n _)))) (Or.inl (Ai.c (show AP (f + 8) (f + 10) by unfold AP; omega) (Ai.c (show AP (f + 8) (B + 20) by unfold AP; omega) (Ai.n _)))) (Or.inr (rn138_0).ra) (Or.inl (Ai.c (show AP (f + 15) (f + 10) by unfold AP; omega) (Ai.c (show AP (f + 15) (B + 20) by unfold AP; omega) (Ai.n _)))) (Or.inl (Ai.c (show AP (f + 17) (f + 10) by unfold AP; omega) (Ai.c (show AP (f + 17) (B + 20) by unfold AP; omega) (Ai.n _)))) (Or.inl (Ai.c (show AP (f + 19) (f + 10) by unfold AP; omega) (Ai.c (show AP (f + 19) (B + 20) by unfold AP; omega) (Ai.n _))))) (Or.inl ⟨(Ni.c ⟨(show NE (f + 12) (f + 10) by unfold NE; omega), (show NE (f + 12) (f + 11) by unfold NE; omega)⟩ (Ni.c ⟨(show NE (f + 12) (B + 20) by unfold NE; omega), (show NE (f + 12) (B + 21) by unfold NE; omega)⟩ (Ni.n _))), rfl⟩) (Or.inl (Ni.c ⟨(show NE (f + 13) (f + 10) by unfold NE; omega), (show NE (f + 13) (f + 11) by unfold NE; omega)⟩ (Ni.c ⟨(show NE (f + 13) (B + 20) by unfold NE; omega), (show NE (f + 13) (B + 21) by unfold NE; omega)⟩ (Ni.n _)))) (Or.inl (Ni.c ⟨(show NE (f + 14) (f + 10) by unfold NE; omega), (show NE (f + 14) (f + 11) by unfold NE; omega)⟩ (Ni.c ⟨(show NE (f + 14) (B + 20) by unfold NE; omega), (show NE (f + 14) (B + 21) by unfold NE; omega)⟩ (Ni.n _))))
          refine g_aload_n 2 dX0_search_145 rfl ?_
          refine g_getf 10 dX0_search_146 kX0 (by decide) fX0_41 (FW.ob fw141) rfl ?_
          refine g_aload_n 2 dX0_search_149 rfl ?_
          refine g_getf 1 dX0_search_150 kX0 (by decide) fX0_48 (FW.ob fw141) rfl ?_
          refine g_getf 7 dX0_search_153 kX2 (by decide) fX0_112 (pw140).1 rfl ?_
          have hdc143 := (rn138_1).lt
          refine g_callV (nc2 := 0) (ns2 := 0) (ci := 5) (As := [.ref (B + 20)]) (st := []) rfl dX0_search_156 okX5_copy lX0_84 itX5_copy seX5_copy rfl (rn138_0).o (by decide) (by decide) rfl (Nat.le_of_ble_eq_true rfl) (sP_copy N _ (f + 10) (B + 20) 84 84 p hp hp2 (qt hp (R) (gP hp R (drv hp R))) (rn138_0).ra rn138_1 (by omega) (show AP (f + 10) (B + 20) by unfold AP; omega)) (by omega) (by omega) (fun v142 hc142 q142 => ?_)
          obtain ⟨rfl, frc144, rn144_0⟩ := q142
          have rk145_4 : PW p B hc142 := (pw140).fr2 frc144 (ok_c (by omega) (fun _ h => absurd h (List.not_mem_nil)))
          have rk5145_0 : RP hp 84 hc142 (f + 6) (R) := (rk5139_0).fr frc144 (Ai.c (show AP (f + 6) (f + 10) by unfold AP; omega) (Ai.n _))
          have rk5145_1 : RP hp 84 hc142 (f + 8) (gP hp R (drv hp R)) := (rk5139_1).fr frc144 (Ai.c (show AP (f + 8) (f + 10) by unfold AP; omega) (Ai.n _))
          have rk5145_3 : RP hp 84 hc142 (B + 20) (qt hp (R) (gP hp R (drv hp R))) := (rn138_1).fr frc144 (Ai.c (show AP (B + 20) (f + 10) by unfold AP; omega) (Ai.n _))
          refine Go.nf (h' := hc142) (st' := []) rfl rfl (Nat.le_refl _) (Nat.le_refl _) ?_
          have fw146 : FW hp B f h0 gr0 gp0 hc142 gr1 gp gt1 gq gR n1 0 0 tg1 (ld hp f0) sz1 n1 (Q1) := FW.pr fw141 frc144 (fw_c (by omega) fw_n) (six (Or.inl (Ai.c (show AP (f + 6) (f + 10) by unfold AP; omega) (Ai.n _))) (Or.inl (Ai.c (show AP (f + 8) (f + 10) by unfold AP; omega) (Ai.n _))) (Or.inr (rn144_0).ra) (Or.inl (Ai.c (show AP (f + 15) (f + 10) by unfold AP; omega) (Ai.n _))) (Or.inl (Ai.c (show AP (f + 17) (f + 10) by unfold AP; omega) (Ai.n _))) (Or.inl (Ai.c (show AP (f + 19) (f + 10) by unfold AP; omega) (Ai.n _)))) (Or.inl ⟨(Ni.c ⟨(show NE (f + 12) (f + 10) by unfold NE; omega), (show NE (f + 12) (f + 11) by unfold NE; omega)⟩ (Ni.n _)), rfl⟩) (Or.inl (Ni.c ⟨(show NE (f + 13) (f + 10) by unfold NE; omega), (show NE (f + 13) (f + 11) by unfold NE; omega)⟩ (Ni.n _))) (Or.inl (Ni.c ⟨(show NE (f + 14) (f + 10) by unfold NE; omega), (show NE (f + 14) (f + 11) by unfold NE; omega)⟩ (Ni.n _)))
          refine g_aload_n 2 dX0_search_159 rfl ?_
          refine g_getf 11 dX0_search_160 kX0 (by decide) fX0_61 (FW.ob fw146) rfl ?_
          refine g_istore (ls2 := [(4, .int (gI (n1))), (3, .int (gI (turn))), (2, .int (gI (q))), (0, .ref (f)), (1, .ref (r))]) dX0_search_163 (by decide) rfl ?_
          refine g_aload_n 3 dX0_search_165 rfl ?_
          refine g_aload_n 3 dX0_search_166 rfl ?_
          refine g_getf 2 dX0_search_167 kX0 (by decide) fX0_57 (FW.ob fw146) rfl ?_
          refine g_aload_n 3 dX0_search_170 rfl ?_
          refine g_getf 10 dX0_search_171 kX0 (by decide) fX0_41 (FW.ob fw146) rfl ?_
          refine g_aload_n 3 dX0_search_174 rfl ?_
          refine g_getf 3 dX0_search_175 kX0 (by decide) fX0_11 (FW.ob fw146) rfl ?_
          refine g_iload 0 dX0_search_178 rfl ?_
          have htr0 := trB_n (show 0 ≤ n1 by omega) (show n1 < 40 by omega)
          refine g_callV (nc2 := 2 * (40 - n1).toNat) (ns2 := 86 * (40 - n1).toNat) (ci := 6) (As := [.ref (f + 10), .ref (f + 1), .int (gI (n1))]) (st := [.ref (f)]) rfl dX0_search_180 okX6_split lX0_118 itX6_split seX6_split rfl (FW.sp fw146) (by decide) (by decide) rfl (Nat.le_of_ble_eq_true rfl) (sF_split N _ B f p hp hp2 hBf h0 gr0 gp0 gr1 gp gt1 gq gR n1 0 0 tg1 (ld hp f0) sz1 (n1) (Q1) (qt hp R (gP hp R (drv hp R))) ⟨by omega, by omega⟩ (by omega) hk3 hk4 fw146 rk145_4 rn144_0) (by omega) (by omega) (fun v147 hc147 q147 => ?_)
          obtain ⟨pw148, kp148, e1, gr2, Q2, rfl, he1, he2, hsp, hirr, sz2, fw148⟩ := q147
          have h6_148 : RP hp 84 hc147 (f + 6) R := (rk5145_0).of1 (fun x e hx he => kp148 x e (by omega) (by omega) he)
          have htr1 := trB_n (show 0 ≤ n1 by omega) (show n1 < 40 by omega)
          have htr2 := trB_e (n := n1) (e := e1) (by omega)
          refine Go.nf (h' := hc147) (st' := [.int (gI (e1)), .ref (f)]) rfl rfl (Nat.le_refl _) (Nat.le_refl _) ?_
          refine g_putf 11 dX0_search_183 kX0 (by decide) fX0_61 rfl (FW.ob fw148) (Nat.le_of_ble_eq_true rfl) rfl rfl ?_
          obtain ⟨hh149, eh149⟩ : ∃ z : GH, z = hset hc147 (f) (oB 0 [.ref (B + 1), .ref (B + 7), .ref (f + 12), .ref (f + 1), .ref (f + 2), .ref (f + 3), .ref (f + 4), .ref (f + 5), .ref (f + 6), .ref (f + 8), .ref (f + 10), .int (gI (e1)), .int (gI (0)), .int (gI (0)), .int (gI (tg1)), .long (gJ (ld hp f0))]) := ⟨_, rfl⟩
          refine Go.hp eh149.symm ?_
          have rh149_0 : FW hp B f h0 gr0 gp0 hh149 gr2 gp gt1 gq gR e1 0 0 tg1 (ld hp f0) sz2 e1 (Q2) := FW.cell fw148 (by rw [eh149]; rfl) (fun x x1 x2 x3 x4 => by rw [eh149, hset_n _ _ x1]) (hs_s eh149) (hs_n eh149 (show NE (f + 2) (f) by unfold NE; omega) (FW.t2 fw148)) (hs_n eh149 (show NE (f + 4) (f) by unfold NE; omega) (FW.t4 fw148)) (hs_n eh149 (show NE (f + 5) (f) by unfold NE; omega) (FW.t5 fw148))
          have rh149_1 : PW p B hh149 := PW.hs pw148 (by omega) eh149
          have rh149_2 : RP hp 84 hh149 (f + 6) (R) := (h6_148).of (fun x hx => by rw [eh149, hset_n _ _ (by omega)])
          refine g_iload 0 dX0_search_186 rfl ?_
          refine g_istore (ls2 := [(5, .int (gI (n1))), (4, .int (gI (n1))), (3, .int (gI (turn))), (2, .int (gI (q))), (0, .ref (f)), (1, .ref (r))]) dX0_search_188 (by decide) rfl ?_
          have lk : ∀ (kk : Nat) (k : Int) (R1 : Px p) (gt2 : Int → Int) (tg2 : Int) (hlk : GH), kk = (50 - k).toNat → True → FW hp B f h0 gr0 gp0 hlk gr2 gp gt2 gq gR e1 0 0 tg2 (ld hp f0) sz2 e1 (Q2) → PW p B hlk → RP hp 84 hlk (f + 6) (R1) → (sei hp (mon hp f0) R R1 q n1 k e1 tg2 Q2 gt2) → Go N mX0_search (fun v h1 => v = none ∧ ∃ gr1 gp1 gt1 gq1 gR1 n1 pn1 rn1 tg1 le1 sz1 Q1, PW p B h1 ∧ FW hp B f h0 gr0 gp0 h1 gr1 gp1 gt1 gq1 gR1 n1 pn1 rn1 tg1 le1 sz1 n1 Q1 ∧ FAc hp h1 (some f0) gr1 gp1 gt1 gq1 gR1 n1 pn1 rn1 tg1 le1) (2 * trB (39 - n1).toNat + 16) (86 * trB (39 - n1).toNat + 688) hlk 190 [(5, .int (gI (k))), (4, .int (gI (n1))), (3, .int (gI (turn))), (2, .int (gI (q))), (0, .ref (f)), (1, .ref (r))] [] := by
            refine Go.ind (fun kk ih_lk => ?_)
            intro k R1 gt2 tg2 hlk hkk_lk fr_lk cr_lk_0 cr_lk_1 cr_lk_2 hsi
            have hi1 := hsi.2.1
            have hi2 := hsi.2.2.1
            have hi3 := hsi.1.2.1
            refine g_iload 0 dX0_search_190 rfl ?_
            refine g_aload_n 4 dX0_search_192 rfl ?_
            refine g_getf 11 dX0_search_193 kX0 (by decide) fX0_61 (FW.ob cr_lk_0) rfl ?_
            refine g_icmp_ge (tgt := 243) dX0_search_196 rfl (by first | assumption | (unfold gW; omega) | (unfold gW; split <;> omega)) (by first | assumption | (unfold gW; omega) | (unfold gW; split <;> omega)) (fun c250 => ?_) (fun c250 => ?_)
            · skip
              refine g_iinc 2 (ls2 := [(3, .int (gI (turn + 1))), (5, .int (gI (k))), (4, .int (gI (n1))), (2, .int (gI (q))), (0, .ref (f)), (1, .ref (r))]) dX0_search_243 rfl (by decide) rfl ?_
              refine g_goto (tgt := 35) dX0_search_246 rfl ?_
              refine Go.sub [0, 3, 4, 5] rfl ?_
              exact Go.imp (by omega) (by omega) (ih_lt _ (by omega) (turn + 1) (q) (R1) (gr2) (gt2) (e1) (tg2) (Q2) (sz2) hlk rfl fr_lk cr_lk_1 cr_lk_2 cr_lk_0 (by have h9 := hsi.2.2.1; omega) (by
                                                                      have e9 : k = e1 := by omega
                                                                      have e8 := hsi.1
                                                                      rw [e9] at e8; exact e8))
            · skip
              refine g_aload_n 4 dX0_search_199 rfl ?_
              refine g_getf 4 dX0_search_200 kX0 (by decide) fX0_17 (FW.ob cr_lk_0) rfl ?_
              refine g_iload 0 dX0_search_203 rfl ?_
              refine g_iload_n 3 dX0_search_205 rfl ?_
              refine g_aload_n 4 dX0_search_206 rfl ?_
              refine g_aload_n 4 dX0_search_207 rfl ?_
              refine g_getf 3 dX0_search_208 kX0 (by decide) fX0_11 (FW.ob cr_lk_0) rfl ?_
              refine g_iload 0 dX0_search_211 rfl ?_
              obtain ⟨r252, ga252, gh252⟩ := (cr_lk_0).2.2.1 (k) (by omega) (by omega)
              have gb252 := FW.lr cr_lk_0 ga252
              refine g_callS (nc2 := 0) (ns2 := 0) (As := [.ref (f + 1), .int (gI (k))]) (st := [.ref (f), .int (gI (q)), .int (gI (k)), .ref (f + 2)]) rfl dX0_search_213 okX5_in lX0_122 stX5_in (by decide) (by decide) rfl (Nat.le_of_ble_eq_true rfl) (sL_in0 N _ (f + 1) 40 r252 (gr2) (k) ⟨by omega, by omega⟩ (by omega) (FW.ls cr_lk_0) ga252) (by omega) (by omega) (fun v251 hc251 q251 => ?_)
              obtain ⟨hq252, rfl⟩ := q251
              refine Go.nf (h' := hlk) (st' := [.ref (r252), .ref (f), .int (gI (q)), .int (gI (k)), .ref (f + 2)]) hq252 rfl (Nat.le_refl _) (Nat.le_refl _) ?_
              refine g_callV (nc2 := 0) (ns2 := 0) (ci := 0) (As := [.ref (r252)]) (st := [.int (gI (q)), .int (gI (k)), .ref (f + 2)]) rfl dX0_search_216 okX0_divideOut lX0_126 itX0_divideOut seX0_divideOut rfl (FW.ob cr_lk_0) (by decide) (by decide) rfl (Nat.le_of_ble_eq_true rfl) (sF_divideOut N _ B f r252 p hp hp2 hBf gb252 h0 gr0 gp0 gr2 gp gt2 gq gR e1 0 0 tg2 (ld hp f0) sz2 e1 (Q2) (Q2 k) R1 (hsi.2.2.2 k (by omega) (by omega)).1 ⟨by omega, by omega⟩ cr_lk_0 cr_lk_1 cr_lk_2 gh252) (by omega) (by omega) (fun v253 hc253 q253 => ?_)
              obtain ⟨m, R2, rfl, hdo, hme, h6_254, pw254, fw254⟩ := q253
              refine Go.nf (h' := hc253) (st' := [.int (gI (m)), .int (gI (q)), .int (gI (k)), .ref (f + 2)]) rfl rfl (Nat.le_refl _) (Nat.le_refl _) ?_
              refine g_imul dX0_search_219 ?_
              refine g_iastore dX0_search_220 (FW.t2 fw254) (by omega) (by omega) (by omega) ?_
              obtain ⟨hh255, eh255⟩ : ∃ z : GH, z = hset hc253 (f + 2) (aI 40 (gup (gt2) (k) ((q) * (m)))) := ⟨_, rfl⟩
              refine Go.hp eh255.symm ?_
              have rh255_0 : FW hp B f h0 gr0 gp0 hh255 gr2 gp (gup (gt2) (k) ((q) * (m))) gq gR e1 0 0 tg2 (ld hp f0) sz2 e1 (Q2) := FW.cell fw254 (by rw [eh255]; rfl) (fun x x1 x2 x3 x4 => by rw [eh255, hset_n _ _ x2]) (hs_n eh255 (show NE (f) (f + 2) by unfold NE; omega) (FW.ob fw254)) (hs_s eh255) (hs_n eh255 (show NE (f + 4) (f + 2) by unfold NE; omega) (FW.t4 fw254)) (hs_n eh255 (show NE (f + 5) (f + 2) by unfold NE; omega) (FW.t5 fw254))
              have rh255_1 : PW p B hh255 := PW.hs pw254 (by omega) eh255
              have rh255_2 : RP hp 84 hh255 (f + 6) (R2) := (h6_254).of (fun x hx => by rw [eh255, hset_n _ _ (by omega)])
              refine g_aload_n 4 dX0_search_221 rfl ?_
              refine g_dup dX0_search_222 rfl ?_
              refine g_getf 14 dX0_search_223 kX0 (by decide) fX0_71 (FW.ob rh255_0) rfl ?_
              refine g_aload_n 4 dX0_search_226 rfl ?_
              refine g_getf 4 dX0_search_227 kX0 (by decide) fX0_17 (FW.ob rh255_0) rfl ?_
              refine g_iload 0 dX0_search_230 rfl ?_
              refine g_iaload dX0_search_232 (FW.t2 rh255_0) (by omega) (by omega) (by omega) ?_
              rw [gup_s]
              refine g_iadd dX0_search_233 ?_
              refine g_putf 14 dX0_search_234 kX0 (by decide) fX0_71 rfl (FW.ob rh255_0) (Nat.le_of_ble_eq_true rfl) rfl rfl ?_
              obtain ⟨hh256, eh256⟩ : ∃ z : GH, z = hset hh255 (f) (oB 0 [.ref (B + 1), .ref (B + 7), .ref (f + 12), .ref (f + 1), .ref (f + 2), .ref (f + 3), .ref (f + 4), .ref (f + 5), .ref (f + 6), .ref (f + 8), .ref (f + 10), .int (gI (e1)), .int (gI (0)), .int (gI (0)), .int (gI ((tg2) + ((q) * (m)))), .long (gJ (ld hp f0))]) := ⟨_, rfl⟩
              refine Go.hp eh256.symm ?_
              have rh256_0 : FW hp B f h0 gr0 gp0 hh256 gr2 gp (gup (gt2) (k) ((q) * (m))) gq gR e1 0 0 ((tg2) + ((q) * (m))) (ld hp f0) sz2 e1 (Q2) := FW.cell rh255_0 (by rw [eh256]; rfl) (fun x x1 x2 x3 x4 => by rw [eh256, hset_n _ _ x1]) (hs_s eh256) (hs_n eh256 (show NE (f + 2) (f) by unfold NE; omega) (FW.t2 rh255_0)) (hs_n eh256 (show NE (f + 4) (f) by unfold NE; omega) (FW.t4 rh255_0)) (hs_n eh256 (show NE (f + 5) (f) by unfold NE; omega) (FW.t5 rh255_0))
              have rh256_1 : PW p B hh256 := PW.hs rh255_1 (by omega) eh256
              have rh256_2 : RP hp 84 hh256 (f + 6) (R2) := (rh255_2).of (fun x hx => by rw [eh256, hset_n _ _ (by omega)])
              refine g_iinc 0 (ls2 := [(5, .int (gI (k + 1))), (4, .int (gI (n1))), (3, .int (gI (turn))), (2, .int (gI (q))), (0, .ref (f)), (1, .ref (r))]) dX0_search_237 rfl (by decide) rfl ?_
              refine g_goto (tgt := 190) dX0_search_240 rfl ?_
              exact Go.imp (by omega) (by omega) (ih_lk _ (by omega) (k + 1) (R2) (gup (gt2) (k) ((q) * (m))) ((tg2) + ((q) * (m))) hh256 rfl fr_lk rh256_0 rh256_1 rh256_2 (sei_s hp hsi (by omega) hdo hme))
          exact Go.imp (by omega) (by omega) (lk _ (n1) (R) (gt1) (tg1) hh149 rfl fr_lt rh149_0 rh149_1 rh149_2 (sei_0 hp hse ⟨_, (gP_po hp hse.1 (drv_po hp hse.1)), hk2⟩ hk4 hsp hirr (by omega)))
        · skip
          refine g_aload_n 2 dX0_search_76 rfl ?_
          refine g_callV (nc2 := 0) (ns2 := 0) (ci := 0) (As := []) (st := []) rfl dX0_search_77 okX0_takeRoot lX0_100 itX0_takeRoot seX0_takeRoot rfl (FW.ob fw126) (by decide) (by decide) rfl (Nat.le_of_ble_eq_true rfl) (sF_takeRoot N _ B f p hp hp2 hBf n1 0 0 tg1 (ld hp f0) (R) (by omega) (FW.ob fw126) (rk125_0).2.1 rk5125_0) (by omega) (by omega) (fun v357 hc357 q357 => ?_)
          obtain ⟨rfl, frc358, rn358_0⟩ := q357
          have rk359_1 : PW p B hc357 := (rk125_0).fr2 frc358 (ok_c (by omega) (fun _ h => absurd h (List.not_mem_nil)))
          refine Go.nf (h' := hc357) (st' := []) rfl rfl (Nat.le_refl _) (Nat.le_refl _) ?_
          have fw360 : FW hp B f h0 gr0 gp0 hc357 gr1 gp gt1 gq gR n1 0 0 tg1 (ld hp f0) sz1 n1 (Q1) := FW.pr fw126 frc358 (fw_c (by omega) fw_n) (six (Or.inr (rn358_0).ra) (Or.inl (Ai.c (show AP (f + 8) (f + 6) by unfold AP; omega) (Ai.n _))) (Or.inl (Ai.c (show AP (f + 10) (f + 6) by unfold AP; omega) (Ai.n _))) (Or.inl (Ai.c (show AP (f + 15) (f + 6) by unfold AP; omega) (Ai.n _))) (Or.inl (Ai.c (show AP (f + 17) (f + 6) by unfold AP; omega) (Ai.n _))) (Or.inl (Ai.c (show AP (f + 19) (f + 6) by unfold AP; omega) (Ai.n _)))) (Or.inl ⟨(Ni.c ⟨(show NE (f + 12) (f + 6) by unfold NE; omega), (show NE (f + 12) (f + 7) by unfold NE; omega)⟩ (Ni.n _)), rfl⟩) (Or.inl (Ni.c ⟨(show NE (f + 13) (f + 6) by unfold NE; omega), (show NE (f + 13) (f + 7) by unfold NE; omega)⟩ (Ni.n _))) (Or.inl (Ni.c ⟨(show NE (f + 14) (f + 6) by unfold NE; omega), (show NE (f + 14) (f + 7) by unfold NE; omega)⟩ (Ni.n _)))
          refine g_iload_n 1 dX0_search_80 rfl ?_
          refine g_aload_n 2 dX0_search_81 rfl ?_
          refine g_getf 0 dX0_search_82 kX0 (by decide) fX0_44 (FW.ob fw360) rfl ?_
          refine g_getf 0 dX0_search_85 kX1 (by decide) fX0_103 (rk359_1).2.1 rfl ?_
          refine g_imul dX0_search_88 ?_
          refine g_istore_n (ls2 := [(2, .int (gI ((q) * ((p : Int))))), (3, .int (gI (turn))), (0, .ref (f)), (1, .ref (r))]) dX0_search_89 rfl (by decide) rfl ?_
          refine g_goto (tgt := 243) dX0_search_90 rfl ?_
          refine g_iinc 1 (ls2 := [(3, .int (gI (turn + 1))), (2, .int (gI ((q) * ((p : Int))))), (0, .ref (f)), (1, .ref (r))]) dX0_search_243 rfl (by decide) rfl ?_
          refine g_goto (tgt := 35) dX0_search_246 rfl ?_
          exact Go.imp (by omega) (by omega) (ih_lt _ (by omega) (turn + 1) (q * (p : Int)) (rtP R) (gr1) (gt1) (n1) (tg1) (Q1) (sz1) hc357 rfl fr_lt rk359_1 rn358_0 fw360 (by have := (sea_root hp hse (by omega) (by omega)).2; omega) ((sea_root hp hse (by omega) (by omega)).1))
  exact Go.imp (by omega) (by omega) (lt _ (0) (1) (mon hp f0) (gr) (gt) (0) (0) (Q) (sz) hc11 rfl trivial rk13_1 rn12_0 fw14 (by omega) (sea_0 hp hmp (by omega) (by omega) (mon_mnc hp hrp) _ _))
