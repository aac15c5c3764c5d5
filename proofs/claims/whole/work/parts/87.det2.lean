section
variable {p : Nat}
theorem FSq.g {B s : Nat} {h h1 : GH} {g g1 g2 : Int → Option Nat} (a : FSq B s h g h1 g1) (b : ∀ x, SF s g2 x → SF s g1 x) : FSq B s h g h1 g2 := ⟨a.1, a.2.1, fun x hx => a.2.2 x (b x hx)⟩
theorem swG_row {g : Int → Option Nat} {sz w c i j : Int} (c0 : 0 ≤ c) (hw : c ≤ w) (hw1 : w < sz) (i0 : c ≤ i) (i1 : i < sz) (j0 : 0 ≤ j) (j1 : j < sz) : ∃ i2, c ≤ i2 ∧ i2 < sz ∧ swG g sz w c sz (i * sz + j) = g (i2 * sz + j) := by
  have e := ix_div (i := i) j0 j1
  unfold swG
  rw [e.1, e.2]
  by_cases z : i = w
  · exact ⟨c, by omega, by omega, by rw [if_pos ⟨z, j1⟩]⟩
  · rw [if_neg (fun q => z q.1)]
    by_cases y : i = c
    · exact ⟨w, hw, hw1, by rw [if_pos ⟨y, j1⟩]⟩
    · exact ⟨i, i0, i1, by rw [if_neg (fun q => y q.1)]⟩
theorem swC_0 (C : Int → Int → Px p) (w c i q : Int) (hq : 0 ≤ q) : swC C w c 0 i q = C i q := by unfold swC; rw [if_neg (by omega)]
end
section
variable {p : Nat}
theorem cz_n1 (h : prm p) : letI := fR h; letI := pR h; cz h (-1) = -1 := by
  letI := fR h
  letI := pR h
  have e := cz_sub h (0 : Fp p) 1
  have e2 : (0 : Fp p) - 1 = -1 := by grind
  rw [e2, cz_0] at e
  rw [e]
  have e3 : cz h (1 : Fp p) = 1 := rfl
  rw [e3]
  grind
end
set_option maxHeartbeats 4000000 in
set_option maxRecDepth 100000 in
theorem sS_determinant (N : GN) (h : GH) (B s p : Nat) (hp : prm p) (hp2 : p ≤ 65536) (sz : Int) (hsz : 2 ≤ sz ∧ sz ≤ 12) (hBs : B + 58 ≤ s) (g0 : Int → Option Nat) (C0 : Int → Int → Px p) (A0 : Nat → Nat → Px p) (hI0 : barI hp sz.toNat (0 : Int).toNat A0) (hC0 : ∀ i q, 0 ≤ i → i < sz → 0 ≤ q → q < sz → C0 i q = mqI hp A0 0 i q) (hso : h.2 s = some (sO B s sz)) (hth : h.2 (B + 7) = some (oB 2 [.ref (B + 1), .ref (B + 8), .ref (B + 10), .ref (B + 12), .ref (B + 14), .ref (B + 16), .ref (B + 18), .ref (B + 20), .ref (B + 22)])) (hfl : h.2 (B + 1) = some (oB 1 [.int (gI ((p : Int)))])) (hls : LSq hp s h g0 sz C0) (h2 : RA 160 h (s + 2)) (h4 : RA 160 h (s + 4)) (h33 : RA 84 h (B + 33)) (hone : RP hp 1 h (s + 6) (pvt (pR hp) A0 (0 : Int).toNat)) : Sp N yX7_determinant mX7_determinant 0 0 [.ref (s), .ref (B + 33)] h (fun v h1 => v = none ∧ ∃ g, FSq B s h g0 h1 g ∧ RP hp 84 h1 (B + 33) (barR hp sz.toNat (sz - 1).toNat 0 A0 false) ∧ RLi 144 (s + 8) h1 (s + 1) g ∧ RA 160 h1 (s + 2) ∧ RA 160 h1 (s + 4) ∧ h1.2 s = some (sO B s sz) ∧ True) := by
  refine Sp.of (by decide) rfl rfl (Nat.le_of_ble_eq_true rfl) ?_
  show Go N mX7_determinant _ 0 0 h 0 [(0, .ref (s)), (1, .ref (B + 33))] []
  refine Go.wf (fun wf => ?_)
  have hp1 := hp.1
  have hsz := And.intro (show 1 ≤ sz by omega) hsz.2
  refine g_aload_n 0 dX7_determinant_0 rfl ?_
  refine g_getf 5 dX7_determinant_1 kX7 (by decide) fX7_27 hso rfl ?_
  refine g_astore_n (ls2 := [(2, .ref (s + 6)), (0, .ref (s)), (1, .ref (B + 33))]) dX7_determinant_4 rfl (by decide) rfl ?_
  refine g_iconst dX7_determinant_5 ?_
  refine g_istore_n (ls2 := [(3, .int (gI (1))), (2, .ref (s + 6)), (0, .ref (s)), (1, .ref (B + 33))]) dX7_determinant_6 rfl (by decide) rfl ?_
  refine g_iconst dX7_determinant_7 ?_
  refine g_istore (ls2 := [(4, .int (gI (0))), (3, .int (gI (1))), (2, .ref (s + 6)), (0, .ref (s)), (1, .ref (B + 33))]) dX7_determinant_8 (by decide) rfl ?_
  have lc : ∀ (kk : Nat) (c : Int) (sg : Int) (bA : Nat) (nb : Nat) (g : Int → Option Nat) (A : Nat → Nat → Px p) (C : Int → Int → Px p) (hlc : GH), kk = (12 - c).toNat → FSq B s h g0 hlc g → hlc.2 (s) = some (oB 7 [.ref (B + 1), .ref (B + 7), .ref (s + 1), .ref (s + 2), .ref (s + 4), .ref (s + 6), .int (gI (sz))]) → hlc.2 (B + 7) = some (oB 2 [.ref (B + 1), .ref (B + 8), .ref (B + 10), .ref (B + 12), .ref (B + 14), .ref (B + 16), .ref (B + 18), .ref (B + 20), .ref (B + 22)]) → hlc.2 (B + 1) = some (oB 1 [.int (gI ((p : Int)))]) → LSq hp s hlc (g) sz (C) → RA 160 hlc (s + 2) → RA 160 hlc (s + 4) → RA 84 hlc (B + 33) → RP hp nb hlc (bA) (pvt (pR hp) A c.toNat) → (0 ≤ c ∧ c ≤ sz - 1) → (sg = 1 ∨ sg = -1) → (barI hp sz.toNat c.toNat A) → (barR hp sz.toNat (sz - 1 - c).toNat c.toNat A (decide (sg = -1)) = barR hp sz.toNat (sz - 1).toNat 0 A0 false) → (∀ i q, c ≤ i → i < sz → c ≤ q → q < sz → C i q = mqI hp A c i q) → (s + 6 ≤ bA) → (∀ (i j : Int) (r : Nat), c ≤ i → i < sz → c ≤ j → j < sz → g (i * sz + j) = some r → AP bA r) → Go N mX7_determinant (fun v h1 => v = none ∧ ∃ g, FSq B s h g0 h1 g ∧ RP hp 84 h1 (B + 33) (barR hp sz.toNat (sz - 1).toNat 0 A0 false) ∧ RLi 144 (s + 8) h1 (s + 1) g ∧ RA 160 h1 (s + 2) ∧ RA 160 h1 (s + 4) ∧ h1.2 s = some (sO B s sz) ∧ True) 0 0 hlc 10 [(4, .int (gI (c))), (3, .int (gI (sg))), (2, .ref (bA)), (0, .ref (s)), (1, .ref (B + 33))] [] := by
    refine Go.ind (fun kk ih_lc => ?_)
    intro c sg bA nb g A C hlc hkk_lc fr_lc cf_lc_0 cf_lc_1 cf_lc_2 cr_lc_0 cr_lc_1 cr_lc_2 cr_lc_3 cr_lc_4 hc hsg hI hR hC lb hap
    have hmp : ∀ i q, c ≤ i → i < sz → c ≤ q → q < sz → po (fR hp) (mqI hp A c i q) ∧ dgi hp (mqI hp A c i q) < 80 := fun i q i0 i1 q0 q1 => mqI_po hp hI (by omega) hc.1 (by omega) i1 (by omega) q1
    refine g_iload 0 dX7_determinant_10 rfl ?_
    refine g_iconst dX7_determinant_12 ?_
    refine g_iadd dX7_determinant_13 ?_
    refine g_aload_n 3 dX7_determinant_14 rfl ?_
    refine g_getf 6 dX7_determinant_15 kX7 (by decide) fX7_42 cf_lc_0 rfl ?_
    refine g_icmp_ge (tgt := 80) dX7_determinant_18 rfl (by first | assumption | (unfold gW; omega) | (unfold gW; split <;> omega)) (by first | assumption | (unfold gW; omega) | (unfold gW; split <;> omega)) (fun c101 => ?_) (fun c101 => ?_)
    · skip
      have hc9 : c = sz - 1 := by omega
      refine g_aload_n 3 dX7_determinant_80 rfl ?_
      refine g_getf 1 dX7_determinant_81 kX7 (by decide) fX7_34 cf_lc_0 rfl ?_
      refine g_aload_n 3 dX7_determinant_84 rfl ?_
      refine g_aload_n 3 dX7_determinant_85 rfl ?_
      refine g_getf 6 dX7_determinant_86 kX7 (by decide) fX7_42 cf_lc_0 rfl ?_
      refine g_iconst dX7_determinant_89 ?_
      refine g_isub dX7_determinant_90 ?_
      refine g_aload_n 3 dX7_determinant_91 rfl ?_
      refine g_getf 6 dX7_determinant_92 kX7 (by decide) fX7_42 cf_lc_0 rfl ?_
      refine g_iconst dX7_determinant_95 ?_
      refine g_isub dX7_determinant_96 ?_
      obtain ⟨r103, hg103, hP103⟩ := (cr_lc_0).2 ((sz) - (1)) ((sz) - (1)) (by omega) (by omega) (by omega) (by omega)
      have hb103 := ix_bd (sz := sz) (show 0 ≤ (sz) - (1) by omega) (show (sz) - (1) < sz by omega) (show 0 ≤ (sz) - (1) by omega) (show (sz) - (1) < sz by omega) hsz.2
      have lr103 := ((cr_lc_0).1.2.1 _ r103 hg103).1
      refine g_callV (nc2 := 0) (ns2 := 0) (ci := 7) (As := [.int (gI ((sz) - (1))), .int (gI ((sz) - (1)))]) (st := [.ref (B + 7)]) rfl dX7_determinant_97 okX7_cell lX7_55 itX7_cell seX7_cell rfl cf_lc_0 (by decide) (by decide) rfl (Nat.le_of_ble_eq_true rfl) (sS_cell0 N _ B s r103 sz ((sz) - (1)) ((sz) - (1)) (g) hb103 cf_lc_0 (cr_lc_0).1.1 hg103) (by omega) (by omega) (fun v102 hc102 q102 => ?_)
      obtain ⟨hq103, rfl⟩ := q102
      refine Go.nf (h' := hlc) (st' := [.ref (r103), .ref (B + 7)]) hq103 rfl (Nat.le_refl _) (Nat.le_refl _) ?_
      refine g_iload_n 1 dX7_determinant_100 rfl ?_
      refine g_i2l dX7_determinant_101 (by first | assumption | (unfold gW; omega) | (unfold gW; split <;> omega)) ?_
      refine g_aload_n 4 dX7_determinant_102 rfl ?_
      have hone_ : letI := fR hp; zi hp sg ≠ 0 := by
                                                                      letI := fR hp
                                                                      rcases hsg with z | z
                                                                      · rw [z]; exact zi_ne hp (by omega) (by omega)
                                                                      · rw [z, zi_neg, zi_1]
                                                                        intro e
                                                                        apply (fld_p hp).2
                                                                        have : (1 : Fp p) = -(-1) := by grind
                                                                        rw [this, e]; grind
      have hdl : dgi hp ((C) ((sz) - (1)) ((sz) - (1))) < 84 := by rw [hC (sz - 1) (sz - 1) (by omega) (by omega) (by omega) (by omega)]; have := (hmp (sz - 1) (sz - 1) (by omega) (by omega) (by omega) (by omega)).2; omega
      refine g_callV (nc2 := 0) (ns2 := 0) (ci := 2) (As := [.ref (r103), .long (gJ (sg)), .ref (B + 33)]) (st := []) rfl dX7_determinant_103 okX2_multiplyBy lX7_74 itX2_multiplyBy seX2_multiplyBy rfl cf_lc_1 (by decide) (by decide) rfl (Nat.le_of_ble_eq_true rfl) (sP_multiplyBy N _ B (r103) (B + 33) 84 84 p hp hp2 ((C) ((sz) - (1)) ((sz) - (1))) sg (by omega) (by omega) hone_ cf_lc_1 cf_lc_2 hP103 cr_lc_3 hdl (by omega) (show AP (r103) (B + 33) by unfold AP; omega)) (by omega) (by omega) (fun v104 hc104 q104 => ?_)
      obtain ⟨rfl, frc105, rn105_0⟩ := q104
      have fk106_0 : hc104.2 (s) = some (oB 7 [.ref (B + 1), .ref (B + 7), .ref (s + 1), .ref (s + 2), .ref (s + 4), .ref (s + 6), .int (gI (sz))]) := Fr.at0 frc105 (Ni.c ⟨(show NE (s) (B + 33) by unfold NE; omega), (show NE (s) (B + 34) by unfold NE; omega)⟩ (Ni.n _)) cf_lc_0
      have fk106_1 : hc104.2 (B + 7) = some (oB 2 [.ref (B + 1), .ref (B + 8), .ref (B + 10), .ref (B + 12), .ref (B + 14), .ref (B + 16), .ref (B + 18), .ref (B + 20), .ref (B + 22)]) := Fr.at0 frc105 (Ni.c ⟨(show NE (B + 7) (B + 33) by unfold NE; omega), (show NE (B + 7) (B + 34) by unfold NE; omega)⟩ (Ni.n _)) cf_lc_1
      have fk106_2 : hc104.2 (B + 1) = some (oB 1 [.int (gI ((p : Int)))]) := Fr.at0 frc105 (Ni.c ⟨(show NE (B + 1) (B + 33) by unfold NE; omega), (show NE (B + 1) (B + 34) by unfold NE; omega)⟩ (Ni.n _)) cf_lc_2
      have ls106 : LSq hp s hc104 g sz (C) := (cr_lc_0).lo frc105 (lsq_c (by omega) (fun _ h => absurd h (List.not_mem_nil)))
      have rk5106_0 : RA 160 hc104 (s + 2) := (cr_lc_1).fr frc105 (Ai.c (show AP (s + 2) (B + 33) by unfold AP; omega) (Ai.n _))
      have rk5106_1 : RA 160 hc104 (s + 4) := (cr_lc_2).fr frc105 (Ai.c (show AP (s + 4) (B + 33) by unfold AP; omega) (Ai.n _))
      have rk5106_3 : RP hp nb hc104 (bA) (pvt (pR hp) A c.toNat) := (cr_lc_4).fr frc105 (Ai.c (show AP (bA) (B + 33) by unfold AP; omega) (Ai.n _))
      have rk5106_4 : RP hp 84 hc104 (r103) ((C) ((sz) - (1)) ((sz) - (1))) := (hP103).fr frc105 (Ai.c (show AP (r103) (B + 33) by unfold AP; omega) (Ai.n _))
      have fr106 : FSq B s h g0 hc104 (g) := FSq.tr wf fr_lc (FSq.of frc105 (sf_b (by omega) sf_n))
      refine Go.nf (h' := hc104) (st' := []) rfl rfl (Nat.le_refl _) (Nat.le_refl _) ?_
      exact g_vret dX7_determinant_106 rfl ⟨rfl, g, fr106, by
                                                                      have e9 : barR hp sz.toNat (sz - 1).toNat 0 A0 false = pml hp (cz hp (zi hp sg)) ((C) ((sz) - (1)) ((sz) - (1))) := by
                                                                        rw [← hR, show (sz - 1 - c).toNat = 0 by omega]
                                                                        unfold barR
                                                                        have e8 := hC c c (by omega) (by omega) (by omega) (by omega)
                                                                        unfold mqI at e8
                                                                        rw [← e8, show ((C) ((sz) - (1)) ((sz) - (1))) = C c c by rw [hc9]]
                                                                        letI := pR hp
                                                                        rcases hsg with z | z
                                                                        · rw [z, if_neg (by decide), cz_z1]
                                                                          show _ = 1 * C c c
                                                                          generalize C c c = x
                                                                          grind
                                                                        · rw [z, if_pos (by decide), zi_neg, zi_1, cz_n1]
                                                                          show _ = (-1) * C c c
                                                                          generalize C c c = x
                                                                          grind
                                                                      rw [e9]; exact rn105_0, (ls106).1, rk5106_0, rk5106_1, fk106_0, trivial⟩
    · skip
      refine g_aload_n 3 dX7_determinant_21 rfl ?_
      refine g_iload 0 dX7_determinant_22 rfl ?_
      refine g_callV (nc2 := 0) (ns2 := 0) (ci := 7) (As := [.int (gI (c))]) (st := []) rfl dX7_determinant_24 okX7_pivotRow lX7_63 itX7_pivotRow seX7_pivotRow rfl cf_lc_0 (by decide) (by decide) rfl (Nat.le_of_ble_eq_true rfl) (sS_pivotRow N _ B s p hp sz (c) hsz (by omega) g (C) cf_lc_0 cr_lc_0) (by omega) (by omega) (fun v107 hc107 q107 => ?_)
      obtain ⟨hq108, hd108⟩ := q107
      rcases hd108 with ⟨w, w0, w1, w2, w3, rfl⟩ | ⟨rfl, w3⟩
      · skip
        refine Go.nf (h' := hlc) (st' := [.int (gI (w))]) hq108 rfl (Nat.le_refl _) (Nat.le_refl _) ?_
        have hpvt : isPv hp sz.toNat c.toNat A w.toNat := isPv_I hp hc.1 w0 w1 (by rw [← hC w c w0 w1 (by omega) (by omega)]; exact w2) (fun t t0 t1 => by rw [← hC t c t0 (by omega) (by omega) (by omega)]; exact w3 t t0 t1) (fun t t0 t1 => (hmp t c t0 t1 (by omega) (by omega)).1)
        have hI2 : barI hp sz.toNat c.toNat (swr A c.toNat w.toNat) := barI_sw hp hI (by omega) (by omega)
        have hpv10 : pvt (pR hp) (swr A c.toNat w.toNat) c.toNat = pvt (pR hp) A c.toNat := pvt_cg _ (fun a b ha => swr_row A (by omega) (by omega) b)
        have hpnz : mqI hp (swr A c.toNat w.toNat) c c c ≠ (letI := pR hp; 0) := by
                                                                      unfold mqI
                                                                      rw [mnr_sw hp A (by omega)]
                                                                      have e9 : swi c.toNat w.toNat c.toNat = w.toNat := if_pos rfl
                                                                      rw [e9]; exact hpvt.2.2.1
        have hI3 : barI hp sz.toNat (c + 1).toNat (swr A c.toNat w.toNat) := by
                                                                      rw [show (c + 1).toNat = c.toNat + 1 by omega]
                                                                      exact barI_s hp hI2 (by omega) hpnz
        refine g_istore (ls2 := [(5, .int (gI (w))), (4, .int (gI (c))), (3, .int (gI (sg))), (2, .ref (bA)), (0, .ref (s)), (1, .ref (B + 33))]) dX7_determinant_27 (by decide) rfl ?_
        refine g_iload 0 dX7_determinant_29 rfl ?_
        refine g_if_ge (tgt := 40) dX7_determinant_31 rfl (by first | assumption | (unfold gW; omega) | (unfold gW; split <;> omega)) (fun c109 => ?_) (fun c109 => ?_)
        · skip
          refine g_iload 0 dX7_determinant_40 rfl ?_
          refine g_iload 1 dX7_determinant_42 rfl ?_
          refine g_icmp_eq (tgt := 58) dX7_determinant_44 rfl (by first | assumption | (unfold gW; omega) | (unfold gW; split <;> omega)) (by first | assumption | (unfold gW; omega) | (unfold gW; split <;> omega)) (fun c110 => ?_) (fun c110 => ?_)
          · skip
            have hC2 : ∀ i q, c ≤ i → i < sz → c ≤ q → q < sz → C i q = mqI hp (swr A c.toNat w.toNat) c i q := fun i q i0 i1 q0 q1 => by rw [← swC_0 C w c i q (by omega)]; exact swC_m hp hC hc.1 w0 w1 (Or.inr (by omega)) i0 i1 q0 q1
            have hap2 := hap
            refine g_aload_n 4 dX7_determinant_58 rfl ?_
            refine g_iload 1 dX7_determinant_59 rfl ?_
            refine g_aload_n 3 dX7_determinant_61 rfl ?_
            refine g_callV (nc2 := 0) (ns2 := 0) (ci := 7) (As := [.int (gI (c)), .ref (bA)]) (st := []) rfl dX7_determinant_62 okX7_eliminate lX7_71 itX7_eliminate seX7_eliminate rfl cf_lc_0 (by decide) (by decide) rfl (Nat.le_of_ble_eq_true rfl) (sS_eliminate N _ B s bA nb p hp hp2 sz c hsz (by omega) hBs lb (g) (C) (swr A c.toNat w.toNat) hI2 hI3 hC2 (fun i j r i0 i1 j0 j1 hr => hap2 i j r (by omega) i1 (by omega) j1 hr) cf_lc_0 cf_lc_1 cf_lc_2 cr_lc_0 cr_lc_1 cr_lc_2 (by rw [hpv10]; exact cr_lc_4) cr_lc_3) (by omega) (by omega) (fun v111 hc111 q111 => ?_)
            obtain ⟨rfl, fse112, C2, lse112, hE2, ra2_112, ra4_112, rb112, so112, th112, fl112, r33_112⟩ := q111
            have fr112 : FSq B s h g0 hc111 (g) := FSq.tr wf fr_lc fse112
            refine Go.nf (h' := hc111) (st' := []) rfl rfl (Nat.le_refl _) (Nat.le_refl _) ?_
            refine g_aload_n 4 dX7_determinant_65 rfl ?_
            refine g_iload 1 dX7_determinant_66 rfl ?_
            refine g_iload 1 dX7_determinant_68 rfl ?_
            obtain ⟨r114, hg114, hP114⟩ := (lse112).2 (c) (c) (by omega) (by omega) (by omega) (by omega)
            have hb114 := ix_bd (sz := sz) (show 0 ≤ c by omega) (show c < sz by omega) (show 0 ≤ c by omega) (show c < sz by omega) hsz.2
            have lr114 := ((lse112).1.2.1 _ r114 hg114).1
            refine g_callV (nc2 := 0) (ns2 := 0) (ci := 7) (As := [.int (gI (c)), .int (gI (c))]) (st := []) rfl dX7_determinant_70 okX7_cell lX7_55 itX7_cell seX7_cell rfl so112 (by decide) (by decide) rfl (Nat.le_of_ble_eq_true rfl) (sS_cell0 N _ B s r114 sz (c) (c) (g) hb114 so112 (lse112).1.1 hg114) (by omega) (by omega) (fun v113 hc113 q113 => ?_)
            obtain ⟨hq114, rfl⟩ := q113
            refine Go.nf (h' := hc111) (st' := [.ref (r114)]) hq114 rfl (Nat.le_refl _) (Nat.le_refl _) ?_
            refine g_astore_n (ls2 := [(2, .ref (r114)), (5, .int (gI (w))), (4, .int (gI (c))), (3, .int (gI (sg))), (0, .ref (s)), (1, .ref (B + 33))]) dX7_determinant_73 rfl (by decide) rfl ?_
            refine g_iinc 2 (ls2 := [(4, .int (gI (c + 1))), (2, .ref (r114)), (5, .int (gI (w))), (3, .int (gI (sg))), (0, .ref (s)), (1, .ref (B + 33))]) dX7_determinant_74 rfl (by decide) rfl ?_
            refine g_goto (tgt := 10) dX7_determinant_77 rfl ?_
            refine Go.sub [0, 3, 1, 4, 5] rfl ?_
            exact ih_lc _ (by omega) (c + 1) (sg) (r114) (84) (g) (swr A c.toNat w.toNat) (C2) hc111 rfl fr112 so112 th112 fl112 lse112 ra2_112 ra4_112 r33_112 (by
                                                                      have e9 : (C2) (c) (c) = pvt (pR hp) (swr A c.toNat w.toNat) (c + 1).toNat := by
                                                                        rw [hE2 c c (by omega) (by omega) (by omega) (by omega), if_neg (by omega), show (c + 1).toNat = c.toNat + 1 by omega, pvt_s]; rfl
                                                                      rw [← e9]; exact hP114) (by omega) (by omega) hI3 (by
                                                                      rw [← hR, show (sz - 1 - c).toNat = (sz - 1 - (c + 1)).toNat + 1 by omega, barR_s hp hpvt, show (c + 1).toNat = c.toNat + 1 by omega]
                                                                      rw [if_pos (show w.toNat = c.toNat by omega)]) (fun x y x0 x1 y0 y1 => by rw [hE2 x y (by omega) x1 (by omega) y1, if_pos (by omega)]) (by omega) (fun i j q i0 i1 j0 j1 hq => (lse112).1.2.2 _ _ _ _ (fun e9 => absurd (ix_inj (show 0 ≤ c by omega) (show c < sz by omega) (show 0 ≤ j by omega) j1 e9) (by omega)) hg114 hq)
          · skip
            refine g_aload_n 4 dX7_determinant_47 rfl ?_
            refine g_iload 0 dX7_determinant_48 rfl ?_
            refine g_iload 1 dX7_determinant_50 rfl ?_
            refine g_callV (nc2 := 0) (ns2 := 0) (ci := 7) (As := [.int (gI (w)), .int (gI (c))]) (st := []) rfl dX7_determinant_52 okX7_swapRows lX7_67 itX7_swapRows seX7_swapRows rfl cf_lc_0 (by decide) (by decide) rfl (Nat.le_of_ble_eq_true rfl) (sS_swapRows N _ B s p hp sz (w) (c) hsz (by omega) (by omega) (by omega) g (C) cf_lc_0 cr_lc_0) (by omega) (by omega) (fun v115 hc115 q115 => ?_)
            obtain ⟨rfl, frc116, ga116, so116⟩ := q115
            have lsw116 := LSq.sw (by omega) cr_lc_0 (show 0 ≤ w ∧ w < sz by omega) (show 0 ≤ c ∧ c < sz by omega) (show w ≠ c by omega) frc116 ga116
            have fk117_1 : hc115.2 (B + 7) = some (oB 2 [.ref (B + 1), .ref (B + 8), .ref (B + 10), .ref (B + 12), .ref (B + 14), .ref (B + 16), .ref (B + 18), .ref (B + 20), .ref (B + 22)]) := Fr.at0 frc116 (Ni.c ⟨(show NE (B + 7) (s) by unfold NE; omega), (show NE (B + 7) (s + 1) by unfold NE; omega)⟩ (Ni.n _)) cf_lc_1
            have fk117_2 : hc115.2 (B + 1) = some (oB 1 [.int (gI ((p : Int)))]) := Fr.at0 frc116 (Ni.c ⟨(show NE (B + 1) (s) by unfold NE; omega), (show NE (B + 1) (s + 1) by unfold NE; omega)⟩ (Ni.n _)) cf_lc_2
            have rk5117_0 : RA 160 hc115 (s + 2) := (cr_lc_1).fr frc116 (Ai.c (show AP (s + 2) (s) by unfold AP; omega) (Ai.n _))
            have rk5117_1 : RA 160 hc115 (s + 4) := (cr_lc_2).fr frc116 (Ai.c (show AP (s + 4) (s) by unfold AP; omega) (Ai.n _))
            have rk5117_2 : RA 84 hc115 (B + 33) := (cr_lc_3).fr frc116 (Ai.c (show AP (B + 33) (s) by unfold AP; omega) (Ai.n _))
            have rk5117_3 : RP hp nb hc115 (bA) (pvt (pR hp) A c.toNat) := (cr_lc_4).fr frc116 (Ai.c (show AP (bA) (s) by unfold AP; omega) (Ai.n _))
            have fr117 : FSq B s h g0 hc115 (g) := FSq.tr wf fr_lc (FSq.of frc116 (sf_s (by omega) sf_n))
            have frg116 : FSq B s h g0 hc115 (swG g sz w c sz) := (fr117).g lsw116.2
            refine Go.nf (h' := hc115) (st' := []) rfl rfl (Nat.le_refl _) (Nat.le_refl _) ?_
            refine g_iload_n 2 dX7_determinant_55 rfl ?_
            refine g_ineg dX7_determinant_56 ?_
            refine g_istore_n (ls2 := [(3, .int (gI (-(sg)))), (5, .int (gI (w))), (4, .int (gI (c))), (2, .ref (bA)), (0, .ref (s)), (1, .ref (B + 33))]) dX7_determinant_57 rfl (by decide) rfl ?_
            have hC2 : ∀ i q, c ≤ i → i < sz → c ≤ q → q < sz → swC C w c sz i q = mqI hp (swr A c.toNat w.toNat) c i q := fun i q i0 i1 q0 q1 => swC_m hp hC hc.1 w0 w1 (Or.inl rfl) i0 i1 q0 q1
            have hap2 : ∀ (i j : Int) (r : Nat), c ≤ i → i < sz → c ≤ j → j < sz → swG g sz w c sz (i * sz + j) = some r → AP bA r := fun i j r i0 i1 j0 j1 hr => by
                                                                      obtain ⟨i2, a0, a1, a2⟩ := swG_row (g := g) hc.1 w0 w1 i0 i1 (show 0 ≤ j by omega) j1
                                                                      rw [a2] at hr
                                                                      exact hap i2 j r a0 a1 j0 j1 hr
            refine g_aload_n 4 dX7_determinant_58 rfl ?_
            refine g_iload 2 dX7_determinant_59 rfl ?_
            refine g_aload_n 3 dX7_determinant_61 rfl ?_
            refine g_callV (nc2 := 0) (ns2 := 0) (ci := 7) (As := [.int (gI (c)), .ref (bA)]) (st := []) rfl dX7_determinant_62 okX7_eliminate lX7_71 itX7_eliminate seX7_eliminate rfl so116 (by decide) (by decide) rfl (Nat.le_of_ble_eq_true rfl) (sS_eliminate N _ B s bA nb p hp hp2 sz c hsz (by omega) hBs lb (swG g sz w c sz) (swC C w c sz) (swr A c.toNat w.toNat) hI2 hI3 hC2 (fun i j r i0 i1 j0 j1 hr => hap2 i j r (by omega) i1 (by omega) j1 hr) so116 fk117_1 fk117_2 lsw116.1 rk5117_0 rk5117_1 (by rw [hpv10]; exact rk5117_3) rk5117_2) (by omega) (by omega) (fun v118 hc118 q118 => ?_)
            obtain ⟨rfl, fse119, C2, lse119, hE2, ra2_119, ra4_119, rb119, so119, th119, fl119, r33_119⟩ := q118
            have fr119 : FSq B s h g0 hc118 (swG g sz w c sz) := FSq.tr wf frg116 fse119
            refine Go.nf (h' := hc118) (st' := []) rfl rfl (Nat.le_refl _) (Nat.le_refl _) ?_
            refine g_aload_n 4 dX7_determinant_65 rfl ?_
            refine g_iload 2 dX7_determinant_66 rfl ?_
            refine g_iload 2 dX7_determinant_68 rfl ?_
            obtain ⟨r121, hg121, hP121⟩ := (lse119).2 (c) (c) (by omega) (by omega) (by omega) (by omega)
            have hb121 := ix_bd (sz := sz) (show 0 ≤ c by omega) (show c < sz by omega) (show 0 ≤ c by omega) (show c < sz by omega) hsz.2
            have lr121 := ((lse119).1.2.1 _ r121 hg121).1
            refine g_callV (nc2 := 0) (ns2 := 0) (ci := 7) (As := [.int (gI (c)), .int (gI (c))]) (st := []) rfl dX7_determinant_70 okX7_cell lX7_55 itX7_cell seX7_cell rfl so119 (by decide) (by decide) rfl (Nat.le_of_ble_eq_true rfl) (sS_cell0 N _ B s r121 sz (c) (c) (swG g sz w c sz) hb121 so119 (lse119).1.1 hg121) (by omega) (by omega) (fun v120 hc120 q120 => ?_)
            obtain ⟨hq121, rfl⟩ := q120
            refine Go.nf (h' := hc118) (st' := [.ref (r121)]) hq121 rfl (Nat.le_refl _) (Nat.le_refl _) ?_
            refine g_astore_n (ls2 := [(2, .ref (r121)), (3, .int (gI (-(sg)))), (5, .int (gI (w))), (4, .int (gI (c))), (0, .ref (s)), (1, .ref (B + 33))]) dX7_determinant_73 rfl (by decide) rfl ?_
            refine g_iinc 3 (ls2 := [(4, .int (gI (c + 1))), (2, .ref (r121)), (3, .int (gI (-(sg)))), (5, .int (gI (w))), (0, .ref (s)), (1, .ref (B + 33))]) dX7_determinant_74 rfl (by decide) rfl ?_
            refine g_goto (tgt := 10) dX7_determinant_77 rfl ?_
            refine Go.sub [0, 2, 1, 4, 5] rfl ?_
            exact ih_lc _ (by omega) (c + 1) (-(sg)) (r121) (84) (swG g sz w c sz) (swr A c.toNat w.toNat) (C2) hc118 rfl fr119 so119 th119 fl119 lse119 ra2_119 ra4_119 r33_119 (by
                                                                      have e9 : (C2) (c) (c) = pvt (pR hp) (swr A c.toNat w.toNat) (c + 1).toNat := by
                                                                        rw [hE2 c c (by omega) (by omega) (by omega) (by omega), if_neg (by omega), show (c + 1).toNat = c.toNat + 1 by omega, pvt_s]; rfl
                                                                      rw [← e9]; exact hP121) (by omega) (by omega) hI3 (by
                                                                      rw [← hR, show (sz - 1 - c).toNat = (sz - 1 - (c + 1)).toNat + 1 by omega, barR_s hp hpvt, show (c + 1).toNat = c.toNat + 1 by omega]
                                                                      rw [if_neg (show ¬ w.toNat = c.toNat by omega)]
                                                                      rcases hsg with z | z <;> rw [z] <;> rfl) (fun x y x0 x1 y0 y1 => by rw [hE2 x y (by omega) x1 (by omega) y1, if_pos (by omega)]) (by omega) (fun i j q i0 i1 j0 j1 hq => (lse119).1.2.2 _ _ _ _ (fun e9 => absurd (ix_inj (show 0 ≤ c by omega) (show c < sz by omega) (show 0 ≤ j by omega) j1 e9) (by omega)) hg121 hq)
        · skip
          refine g_aload_n 5 dX7_determinant_34 rfl ?_
          refine g_lconst0 dX7_determinant_35 ?_
          refine g_callV (nc2 := 0) (ns2 := 0) (ci := 5) (As := [.long (gJ (0))]) (st := []) rfl dX7_determinant_36 okX5_become lX7_38 itX5_become seX5_become rfl (Classical.choose_spec (RA.o cr_lc_3)) (by decide) (by decide) rfl (Nat.le_of_ble_eq_true rfl) (sP_become N _ (B + 33) 84 p hp hp2 (0) (by omega) (by omega) cr_lc_3) (by omega) (by omega) (fun v122 hc122 q122 => ?_)
          obtain ⟨rfl, frc123, rn123_0⟩ := q122
          have fk124_0 : hc122.2 (s) = some (oB 7 [.ref (B + 1), .ref (B + 7), .ref (s + 1), .ref (s + 2), .ref (s + 4), .ref (s + 6), .int (gI (sz))]) := Fr.at0 frc123 (Ni.c ⟨(show NE (s) (B + 33) by unfold NE; omega), (show NE (s) (B + 34) by unfold NE; omega)⟩ (Ni.n _)) cf_lc_0
          have fk124_1 : hc122.2 (B + 7) = some (oB 2 [.ref (B + 1), .ref (B + 8), .ref (B + 10), .ref (B + 12), .ref (B + 14), .ref (B + 16), .ref (B + 18), .ref (B + 20), .ref (B + 22)]) := Fr.at0 frc123 (Ni.c ⟨(show NE (B + 7) (B + 33) by unfold NE; omega), (show NE (B + 7) (B + 34) by unfold NE; omega)⟩ (Ni.n _)) cf_lc_1
          have fk124_2 : hc122.2 (B + 1) = some (oB 1 [.int (gI ((p : Int)))]) := Fr.at0 frc123 (Ni.c ⟨(show NE (B + 1) (B + 33) by unfold NE; omega), (show NE (B + 1) (B + 34) by unfold NE; omega)⟩ (Ni.n _)) cf_lc_2
          have ls124 : LSq hp s hc122 g sz (C) := (cr_lc_0).lo frc123 (lsq_c (by omega) (fun _ h => absurd h (List.not_mem_nil)))
          have rk5124_0 : RA 160 hc122 (s + 2) := (cr_lc_1).fr frc123 (Ai.c (show AP (s + 2) (B + 33) by unfold AP; omega) (Ai.n _))
          have rk5124_1 : RA 160 hc122 (s + 4) := (cr_lc_2).fr frc123 (Ai.c (show AP (s + 4) (B + 33) by unfold AP; omega) (Ai.n _))
          have rk5124_3 : RP hp nb hc122 (bA) (pvt (pR hp) A c.toNat) := (cr_lc_4).fr frc123 (Ai.c (show AP (bA) (B + 33) by unfold AP; omega) (Ai.n _))
          have fr124 : FSq B s h g0 hc122 (g) := FSq.tr wf fr_lc (FSq.of frc123 (sf_b (by omega) sf_n))
          refine Go.nf (h' := hc122) (st' := []) rfl rfl (Nat.le_refl _) (Nat.le_refl _) ?_
          exact g_vret dX7_determinant_39 rfl ⟨rfl, g, fr124, by first | (exfalso; omega) | (rw [hR0]; exact rn123_0), (ls124).1, rk5124_0, rk5124_1, fk124_0, trivial⟩
      · skip
        refine Go.nf (h' := hlc) (st' := [.int (gI ((-1)))]) hq108 rfl (Nat.le_refl _) (Nat.le_refl _) ?_
        have hR0 : barR hp sz.toNat (sz - 1).toNat 0 A0 false = cz hp (zi hp 0) := by
                                                                      rw [← hR, cz_z0, show (sz - 1 - c).toNat = (sz - 1 - c).toNat - 1 + 1 by omega]
                                                                      exact barR_none hp hc.1 (fun t t0 t1 => by rw [← hC t c t0 t1 (by omega) (by omega)]; exact w3 t t0 t1) (fun t t0 t1 => (hmp t c t0 t1 (by omega) (by omega)).1)
        refine g_istore (ls2 := [(5, .int (gI ((-1)))), (4, .int (gI (c))), (3, .int (gI (sg))), (2, .ref (bA)), (0, .ref (s)), (1, .ref (B + 33))]) dX7_determinant_27 (by decide) rfl ?_
        refine g_iload 0 dX7_determinant_29 rfl ?_
        refine g_if_ge (tgt := 40) dX7_determinant_31 rfl (by first | assumption | (unfold gW; omega) | (unfold gW; split <;> omega)) (fun c125 => absurd c125 (by omega)) (fun c125 => ?_)
        refine g_aload_n 5 dX7_determinant_34 rfl ?_
        refine g_lconst0 dX7_determinant_35 ?_
        refine g_callV (nc2 := 0) (ns2 := 0) (ci := 5) (As := [.long (gJ (0))]) (st := []) rfl dX7_determinant_36 okX5_become lX7_38 itX5_become seX5_become rfl (Classical.choose_spec (RA.o cr_lc_3)) (by decide) (by decide) rfl (Nat.le_of_ble_eq_true rfl) (sP_become N _ (B + 33) 84 p hp hp2 (0) (by omega) (by omega) cr_lc_3) (by omega) (by omega) (fun v126 hc126 q126 => ?_)
        obtain ⟨rfl, frc127, rn127_0⟩ := q126
        have fk128_0 : hc126.2 (s) = some (oB 7 [.ref (B + 1), .ref (B + 7), .ref (s + 1), .ref (s + 2), .ref (s + 4), .ref (s + 6), .int (gI (sz))]) := Fr.at0 frc127 (Ni.c ⟨(show NE (s) (B + 33) by unfold NE; omega), (show NE (s) (B + 34) by unfold NE; omega)⟩ (Ni.n _)) cf_lc_0
        have fk128_1 : hc126.2 (B + 7) = some (oB 2 [.ref (B + 1), .ref (B + 8), .ref (B + 10), .ref (B + 12), .ref (B + 14), .ref (B + 16), .ref (B + 18), .ref (B + 20), .ref (B + 22)]) := Fr.at0 frc127 (Ni.c ⟨(show NE (B + 7) (B + 33) by unfold NE; omega), (show NE (B + 7) (B + 34) by unfold NE; omega)⟩ (Ni.n _)) cf_lc_1
        have fk128_2 : hc126.2 (B + 1) = some (oB 1 [.int (gI ((p : Int)))]) := Fr.at0 frc127 (Ni.c ⟨(show NE (B + 1) (B + 33) by unfold NE; omega), (show NE (B + 1) (B + 34) by unfold NE; omega)⟩ (Ni.n _)) cf_lc_2
        have ls128 : LSq hp s hc126 g sz (C) := (cr_lc_0).lo frc127 (lsq_c (by omega) (fun _ h => absurd h (List.not_mem_nil)))
        have rk5128_0 : RA 160 hc126 (s + 2) := (cr_lc_1).fr frc127 (Ai.c (show AP (s + 2) (B + 33) by unfold AP; omega) (Ai.n _))
        have rk5128_1 : RA 160 hc126 (s + 4) := (cr_lc_2).fr frc127 (Ai.c (show AP (s + 4) (B + 33) by unfold AP; omega) (Ai.n _))
        have rk5128_3 : RP hp nb hc126 (bA) (pvt (pR hp) A c.toNat) := (cr_lc_4).fr frc127 (Ai.c (show AP (bA) (B + 33) by unfold AP; omega) (Ai.n _))
        have fr128 : FSq B s h g0 hc126 (g) := FSq.tr wf fr_lc (FSq.of frc127 (sf_b (by omega) sf_n))
        refine Go.nf (h' := hc126) (st' := []) rfl rfl (Nat.le_refl _) (Nat.le_refl _) ?_
        exact g_vret dX7_determinant_39 rfl ⟨rfl, g, fr128, by first | (exfalso; omega) | (rw [hR0]; exact rn127_0), (ls128).1, rk5128_0, rk5128_1, fk128_0, trivial⟩
  exact lc _ (0) (1) (s + 6) (1) (g0) (A0) (C0) h rfl (FSq.rf B s h g0) hso hth hfl hls h2 h4 h33 hone (by omega) (Or.inl rfl) hI0 (by rw [Int.sub_zero]; rfl) (fun i q i0 i1 q0 q1 => hC0 i q i0 i1 q0 q1) (Nat.le_refl _) (fun i j r i0 i1 j0 j1 hr => by have := (hls.1.2.1 _ r hr).1; unfold AP; omega)
