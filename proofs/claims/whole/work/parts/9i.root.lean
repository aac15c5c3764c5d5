theorem rt_ph {p : Nat} (h : prm p) {g : Int → Int} {d : Int} {f : Px p} (hP : PO h d g f) (hd : 0 ≤ d) : rtP f = ph h (gF g (fun t : Int => g (t * p)) (d / p + 1)) (d / p) := funext fun j => by
  letI := fR h
  have hp := h.1
  have hf : ∀ m : Nat, f m = if (m : Int) ≤ d then zi h (g m) else 0 := fun m => congrFun hP.2.2.2 m
  show f (j * p) = (if (j : Int) ≤ d / p then zi h (gF g (fun t : Int => g (t * p)) (d / p + 1) j) else 0)
  rw [hf]
  have e : ((j * p : Nat) : Int) = (j : Int) * p := Int.natCast_mul j p
  rw [e]
  by_cases z : (j : Int) ≤ d / p
  · have h1 : (j : Int) * p ≤ d := by
      have h2 : (j : Int) * p ≤ d / p * p := Int.mul_le_mul_of_nonneg_right z (by omega)
      have h3 := Int.ediv_mul_le d (show (p : Int) ≠ 0 by omega)
      omega
    rw [if_pos h1, if_pos z]
    unfold gF
    rw [if_pos (by omega)]
  · rw [if_neg z, if_neg (fun q => z ((Int.le_ediv_iff_mul_le (by omega)).mpr q))]
set_option maxHeartbeats 4000000 in
set_option maxRecDepth 100000 in
theorem sF_takeRoot (N : GN) (h : GH) (B f p : Nat) (hp : prm p) (hp2 : p ≤ 65536) (hBf : B + 58 ≤ f) (n pn rn tg le : Int) (fw : Px p) (hd0 : 0 ≤ dgi hp fw) (ho : h.2 f = some (fO B f n pn rn tg le)) (hfl : h.2 (B + 1) = some (oB 1 [.int (gI ((p : Int)))])) (h6 : RP hp 84 h (f + 6) fw) : Sp N yX0_takeRoot mX0_takeRoot 0 0 [.ref (f)] h (fun v h1 => v = none ∧ Fr [f + 6] h h1 ∧ RP hp 84 h1 (f + 6) (rtP fw)) := by
  refine Sp.of (by decide) rfl rfl (Nat.le_of_ble_eq_true rfl) ?_
  show Go N mX0_takeRoot _ 0 0 h 0 [(0, .ref (f))] []
  obtain ⟨g, ⟨y1, y2, y3, y4, y5, y6, y7⟩, hP⟩ := h6
  have hq9 : 0 ≤ dgi hp fw / p ∧ dgi hp fw / p ≤ dgi hp fw := ⟨Int.ediv_nonneg hd0 (by omega), Int.ediv_le_self _ hd0⟩
  have hp1 := hp.1
  refine g_aload_n 0 dX0_takeRoot_0 rfl ?_
  refine g_getf 8 dX0_takeRoot_1 kX0 (by decide) fX0_34 ho rfl ?_
  refine g_getf 1 dX0_takeRoot_4 kX5 (by decide) fX0_93 y1 rfl ?_
  refine g_aload_n 0 dX0_takeRoot_7 rfl ?_
  refine g_getf 0 dX0_takeRoot_8 kX0 (by decide) fX0_44 ho rfl ?_
  refine g_getf 0 dX0_takeRoot_11 kX1 (by decide) fX0_103 hfl rfl ?_
  refine g_idiv dX0_takeRoot_14 (by omega) (by omega) (by omega) (by omega) ?_
  refine g_istore_n (ls2 := [(1, .int (gI ((dgi hp fw) / ((p : Int))))), (0, .ref (f))]) dX0_takeRoot_15 rfl (by decide) rfl ?_
  refine g_iconst dX0_takeRoot_16 ?_
  refine g_istore_n (ls2 := [(2, .int (gI (0))), (1, .int (gI ((dgi hp fw) / ((p : Int))))), (0, .ref (f))]) dX0_takeRoot_17 rfl (by decide) rfl ?_
  have lk : ∀ (kk : Nat) (k : Int) (hlk : GH), kk = (100 - k).toNat → Fr [f + 6] h hlk → hlk.2 (f) = some (oB 0 [.ref (B + 1), .ref (B + 7), .ref (f + 12), .ref (f + 1), .ref (f + 2), .ref (f + 3), .ref (f + 4), .ref (f + 5), .ref (f + 6), .ref (f + 8), .ref (f + 10), .int (gI (n)), .int (gI (pn)), .int (gI (rn)), .int (gI (tg)), .long (gJ (le))]) → hlk.2 (B + 1) = some (oB 1 [.int (gI ((p : Int)))]) → hlk.2 (f + 6) = some (oB 5 [.ref (f + 7), .int (gI (dgi hp fw))]) → hlk.2 (f + 7) = some (aJ 84 (gF g (fun t : Int => g (t * p)) k)) → (0 ≤ k ∧ k ≤ dgi hp fw / p + 1) → Go N mX0_takeRoot (fun v h1 => v = none ∧ Fr [f + 6] h h1 ∧ RP hp 84 h1 (f + 6) (rtP fw)) 0 0 hlk 18 [(2, .int (gI (k))), (1, .int (gI ((dgi hp fw) / ((p : Int))))), (0, .ref (f))] [] := by
    refine Go.ind (fun kk ih_lk => ?_)
    intro k hlk hkk_lk fr_lk cf_lk_0 cf_lk_1 cf_lk_2 cf_lk_3 hk
    refine g_iload_n 0 dX0_takeRoot_18 rfl ?_
    refine g_iload_n 1 dX0_takeRoot_19 rfl ?_
    refine g_icmp_gt (tgt := 55) dX0_takeRoot_20 rfl (by first | assumption | (unfold gW; omega) | (unfold gW; split <;> omega)) (by first | assumption | (unfold gW; omega) | (unfold gW; split <;> omega)) (fun c101 => ?_) (fun c101 => ?_)
    · skip
      have hke : k = dgi hp fw / p + 1 := by omega
      refine g_aload_n 2 dX0_takeRoot_55 rfl ?_
      refine g_getf 8 dX0_takeRoot_56 kX0 (by decide) fX0_34 cf_lk_0 rfl ?_
      refine g_iload_n 1 dX0_takeRoot_59 rfl ?_
      have e8 := cf_lk_3
      rw [hke] at e8
      have hb9 : ∀ t, 0 ≤ t → t ≤ dgi hp fw / p → 0 ≤ gF g (fun t : Int => g (t * p)) (dgi hp fw / p + 1) t ∧ gF g (fun t : Int => g (t * p)) (dgi hp fw / p + 1) t < p := fun t t0 t1 => by
                                                                      unfold gF
                                                                      rw [if_pos (by omega)]
                                                                      dsimp only
                                                                      have h2 : t * p ≤ dgi hp fw / p * p := Int.mul_le_mul_of_nonneg_right t1 (by omega)
                                                                      have h3 := Int.ediv_mul_le (dgi hp fw) (show (p : Int) ≠ 0 by omega)
                                                                      have h4 : 0 ≤ t * p := Int.mul_nonneg t0 (by omega)
                                                                      exact hP.2.1 _ h4 (by omega)
      refine g_callV (nc2 := 0) (ns2 := 0) (ci := 5) (As := [.int (gI ((dgi hp fw) / ((p : Int))))]) (st := []) rfl dX0_takeRoot_60 okX5_settle lX0_142 itX5_settle seX5_settle rfl cf_lk_2 (by decide) (by decide) rfl (Nat.le_of_ble_eq_true rfl) (sP_settle N _ (f + 6) 84 p hp hp2 (dgi hp fw) (dgi hp fw / p) (gF g (fun t : Int => g (t * p)) (dgi hp fw / p + 1)) (rtP fw) (by omega) (by omega) (by omega) (by omega) hb9 (rt_ph hp hP hd0) cf_lk_2 e8) (by omega) (by omega) (fun v102 hc102 q102 => ?_)
      obtain ⟨rfl, frc103, rn103_0⟩ := q102
      have fk104_0 : hc102.2 (f) = some (oB 0 [.ref (B + 1), .ref (B + 7), .ref (f + 12), .ref (f + 1), .ref (f + 2), .ref (f + 3), .ref (f + 4), .ref (f + 5), .ref (f + 6), .ref (f + 8), .ref (f + 10), .int (gI (n)), .int (gI (pn)), .int (gI (rn)), .int (gI (tg)), .long (gJ (le))]) := Fr.at0 frc103 (Ni.c ⟨show NE (f) (f + 6) by unfold NE; omega, show NE (f) (f + 6 + 1) by unfold NE; omega⟩ (Ni.n _)) cf_lk_0
      have fk104_1 : hc102.2 (B + 1) = some (oB 1 [.int (gI ((p : Int)))]) := Fr.at0 frc103 (Ni.c ⟨show NE (B + 1) (f + 6) by unfold NE; omega, show NE (B + 1) (f + 6 + 1) by unfold NE; omega⟩ (Ni.n _)) cf_lk_1
      have fr104 : Fr [f + 6] h hc102 := (fr_lk).tr ((frc103).mo (sub_c (List.Mem.head _) sub_n))
      refine Go.nf (h' := hc102) (st' := []) rfl rfl (Nat.le_refl _) (Nat.le_refl _) ?_
      exact g_vret dX0_takeRoot_63 rfl ⟨rfl, fr104, rn103_0⟩
    · skip
      have h2 : k * p ≤ dgi hp fw / p * p := Int.mul_le_mul_of_nonneg_right (by omega) (by omega)
      have h3 := Int.ediv_mul_le (dgi hp fw) (show (p : Int) ≠ 0 by omega)
      have h4 : k * 1 ≤ k * p := Int.mul_le_mul_of_nonneg_left (by omega) hk.1
      refine g_aload_n 2 dX0_takeRoot_23 rfl ?_
      refine g_getf 8 dX0_takeRoot_24 kX0 (by decide) fX0_34 cf_lk_0 rfl ?_
      refine g_getf 0 dX0_takeRoot_27 kX5 (by decide) fX0_139 cf_lk_2 rfl ?_
      refine g_iload_n 0 dX0_takeRoot_30 rfl ?_
      refine g_aload_n 2 dX0_takeRoot_31 rfl ?_
      refine g_getf 8 dX0_takeRoot_32 kX0 (by decide) fX0_34 cf_lk_0 rfl ?_
      refine g_getf 0 dX0_takeRoot_35 kX5 (by decide) fX0_139 cf_lk_2 rfl ?_
      refine g_iload_n 0 dX0_takeRoot_38 rfl ?_
      refine g_aload_n 2 dX0_takeRoot_39 rfl ?_
      refine g_getf 0 dX0_takeRoot_40 kX0 (by decide) fX0_44 cf_lk_0 rfl ?_
      refine g_getf 0 dX0_takeRoot_43 kX1 (by decide) fX0_103 cf_lk_1 rfl ?_
      refine g_imul dX0_takeRoot_46 ?_
      refine g_laload dX0_takeRoot_47 cf_lk_3 (by omega) (by omega) (by omega) ?_
      have hv_ : (gF g (fun t : Int => g (t * p)) k) ((k) * ((p : Int))) = g (k * p) := by
                                                                      unfold gF
                                                                      rw [if_neg (by omega)]
      rw [hv_]
      refine g_lastore dX0_takeRoot_48 cf_lk_3 (by omega) (by omega) (by omega) ?_
      obtain ⟨hh105, eh105⟩ : ∃ z : GH, z = hset hlk (f + 7) (aJ 84 (gup (gF g (fun t : Int => g (t * p)) k) (k) (g (k * p)))) := ⟨_, rfl⟩
      refine Go.hp eh105.symm ?_
      have fh105_0 : hh105.2 (f) = some (oB 0 [.ref (B + 1), .ref (B + 7), .ref (f + 12), .ref (f + 1), .ref (f + 2), .ref (f + 3), .ref (f + 4), .ref (f + 5), .ref (f + 6), .ref (f + 8), .ref (f + 10), .int (gI (n)), .int (gI (pn)), .int (gI (rn)), .int (gI (tg)), .long (gJ (le))]) := hs_n eh105 (show NE (f) (f + 7) by unfold NE; omega) cf_lk_0
      have fh105_1 : hh105.2 (B + 1) = some (oB 1 [.int (gI ((p : Int)))]) := hs_n eh105 (show NE (B + 1) (f + 7) by unfold NE; omega) cf_lk_1
      have fh105_2 : hh105.2 (f + 6) = some (oB 5 [.ref (f + 7), .int (gI (dgi hp fw))]) := hs_n eh105 (show NE (f + 6) (f + 7) by unfold NE; omega) cf_lk_2
      have fh105_3 : hh105.2 (f + 7) = some (aJ 84 (gup (gF g (fun t : Int => g (t * p)) k) (k) (g (k * p)))) := hs_s eh105
      have fr105 : Fr [f + 6] h hh105 := Fr.w1 fr_lk (List.Mem.head _) eh105
      refine g_iinc 0 (ls2 := [(2, .int (gI (k + 1))), (1, .int (gI ((dgi hp fw) / ((p : Int))))), (0, .ref (f))]) dX0_takeRoot_49 rfl (by decide) rfl ?_
      refine g_goto (tgt := 18) dX0_takeRoot_52 rfl ?_
      exact ih_lk _ (by omega) (k + 1) hh105 rfl fr105 fh105_0 fh105_1 fh105_2 (by rw [← gF_s g (fun t : Int => g (t * p)) hk.1]; exact fh105_3) (by omega)
  exact lk _ (0) h rfl (Fr.rf [f + 6] h) ho hfl y1 (by rw [gF_0]; exact y2) (by omega)
