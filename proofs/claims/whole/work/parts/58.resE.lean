section
variable {p : Nat}
theorem gAnd2 {a b : Int} (a0 : 0 ≤ a) (a1 : a < 2147483648) (b0 : 0 ≤ b) (b1 : b < 2147483648) : gAnd (gAnd a b) 1 = if a % 2 = 1 ∧ b % 2 = 1 then 1 else 0 := by
  have e : gAnd (gAnd a b) 1 = (gI a &&& (gI b &&& gI 1)).toInt := by
    unfold gAnd
    rw [gI_rt, Int32.and_assoc]
  have hb := gAnd1 b0 b1
  unfold gAnd at hb
  have hb2 : gI b &&& gI 1 = gI (b % 2) := by rw [← hb, gI_rt]
  rw [e, hb2]
  rcases (show b % 2 = 0 ∨ b % 2 = 1 by omega) with z | z
  · rw [z, if_neg (by omega), show gI 0 = 0 from rfl, Int32.and_zero]; rfl
  · rw [z]
    have ha := gAnd1 a0 a1
    unfold gAnd at ha
    rw [ha]
    split <;> omega
/-- the leading number -/
noncomputable def ldF (h : prm p) (f : Px p) : Fp p := zi h (ld h f)
/-- the resultant by Euclid's turns -/
noncomputable def rsE (h : prm p) : Nat → Px p → Px p → Fp p
  | 0, u, v => letI := fR h; ldF h v ^ (dgi h u).toNat
  | n + 1, u, v => letI := fR h; if dgi h v ≤ 0 then ldF h v ^ (dgi h u).toNat else if dgi h (rm h u v) < 0 then 0 else (if dgi h u % 2 = 1 ∧ dgi h v % 2 = 1 then -1 else 1) * (ldF h v ^ (dgi h u - dgi h (rm h u v)).toNat * rsE h n v (rm h u v))
theorem rsE_c (h : prm p) (n : Nat) {u v : Px p} (hv : dgi h v ≤ 0) : letI := fR h; rsE h n u v = ldF h v ^ (dgi h u).toNat := by
  cases n with
  | zero => rfl
  | succ n => exact if_pos hv
theorem rm_le (h : prm p) {f g : Px p} (hf : po (fR h) f) (hg : po (fR h) g) (hd : 0 ≤ dgi h g) : dgi h (rm h f g) ≤ dgi h f := by
  rcases Int.lt_or_le (dgi h f) (dgi h g) with z | z
  · rw [rm_small h hf hg z]; omega
  · have := rm_lt h hf hg hd; omega
end
set_option maxHeartbeats 4000000 in
set_option maxRecDepth 100000 in
theorem sP_resultant (N : GN) (h : GH) (B a b p : Nat) (hp : prm p) (hp2 : p ≤ 65536) (fa fb : Px p) (hw : PW p B h) (ha : RP hp 84 h a fa) (hb : RP hp 84 h b fb) (hda : 0 ≤ dgi hp fa) (hdb : 0 ≤ dgi hp fb) (oa : B + 24 ≤ a) (ob : B + 24 ≤ b) : Sp N yX2_resultant mX2_resultant 0 0 [.ref (B + 7), .ref (a), .ref (b)] h (fun v h1 => v = some (.long (gJ (fv (rsE hp 85 fa fb)))) ∧ Fr (pl B) h h1 ∧ PW p B h1) := by
  refine Sp.of (by decide) rfl rfl (Nat.le_of_ble_eq_true rfl) ?_
  show Go N mX2_resultant _ 0 0 h 0 [(0, .ref (B + 7)), (1, .ref (a)), (2, .ref (b))] []
  have hp1 := hp.1
  have hla := ha.lt
  have hlb := hb.lt
  refine g_aload_n 0 dX2_resultant_0 rfl ?_
  refine g_getf 3 dX2_resultant_1 kX2 (by decide) fX2_23 hw.1 rfl ?_
  refine g_astore_n (ls2 := [(3, .ref (B + 12)), (0, .ref (B + 7)), (1, .ref (a)), (2, .ref (b))]) dX2_resultant_4 rfl (by decide) rfl ?_
  refine g_aload_n 1 dX2_resultant_5 rfl ?_
  refine g_getf 4 dX2_resultant_6 kX2 (by decide) fX2_26 hw.1 rfl ?_
  refine g_astore (ls2 := [(4, .ref (B + 14)), (3, .ref (B + 12)), (0, .ref (B + 7)), (1, .ref (a)), (2, .ref (b))]) dX2_resultant_9 (by decide) rfl ?_
  refine g_aload_n 1 dX2_resultant_11 rfl ?_
  refine g_aload_n 3 dX2_resultant_12 rfl ?_
  refine g_callV (nc2 := 0) (ns2 := 0) (ci := 5) (As := [.ref (a)]) (st := []) rfl dX2_resultant_13 okX5_copy lX2_62 itX5_copy seX5_copy rfl (Classical.choose_spec (RA.o (hw.r12))) (by decide) (by decide) rfl (Nat.le_of_ble_eq_true rfl) (sP_copy N _ (B + 12) (a) 84 84 p hp hp2 (fa) (hw.r12) ha (by omega) (show AP (B + 12) (a) by unfold AP; omega)) (by omega) (by omega) (fun v1 hc1 q1 => ?_)
  obtain ⟨rfl, frc2, rn2_0⟩ := q1
  have fk3_0 : hc1.2 (B + 7) = some (oB 2 [.ref (B + 1), .ref (B + 8), .ref (B + 10), .ref (B + 12), .ref (B + 14), .ref (B + 16), .ref (B + 18), .ref (B + 20), .ref (B + 22)]) := Fr.at0 frc2 (Ni.c ⟨(show NE (B + 7) (B + 12) by unfold NE; omega), (show NE (B + 7) (B + 13) by unfold NE; omega)⟩ (Ni.n _)) hw.1
  have fk3_1 : hc1.2 (B + 1) = some (oB 1 [.int (gI ((p : Int)))]) := Fr.at0 frc2 (Ni.c ⟨(show NE (B + 1) (B + 12) by unfold NE; omega), (show NE (B + 1) (B + 13) by unfold NE; omega)⟩ (Ni.n _)) hw.2.1
  have rk3_0 : RP hp 84 hc1 (a) (fa) := (ha).fr frc2 (Ai.c (show AP (a) (B + 12) by unfold AP; omega) (Ai.n _))
  have rk3_1 : RP hp 84 hc1 (b) (fb) := (hb).fr frc2 (Ai.c (show AP (b) (B + 12) by unfold AP; omega) (Ai.n _))
  have rk3_2 : RA 84 hc1 (B + 10) := ((hw.r10)).fr frc2 (Ai.c (show AP (B + 10) (B + 12) by unfold AP; omega) (Ai.n _))
  have rk3_4 : RA 84 hc1 (B + 14) := ((hw.r14)).fr frc2 (Ai.c (show AP (B + 14) (B + 12) by unfold AP; omega) (Ai.n _))
  have fr3 : Fr [B + 10, B + 12, B + 14] h hc1 := ((Fr.rf [B + 10, B + 12, B + 14] h)).tr ((frc2).mo (sub_c (List.Mem.tail _ (List.Mem.head _)) sub_n))
  refine Go.nf (h' := hc1) (st' := []) rfl rfl (Nat.le_refl _) (Nat.le_refl _) ?_
  refine g_aload 0 dX2_resultant_16 rfl ?_
  refine g_aload_n 4 dX2_resultant_18 rfl ?_
  refine g_callV (nc2 := 0) (ns2 := 0) (ci := 5) (As := [.ref (b)]) (st := []) rfl dX2_resultant_19 okX5_copy lX2_62 itX5_copy seX5_copy rfl (Classical.choose_spec (RA.o rk3_4)) (by decide) (by decide) rfl (Nat.le_of_ble_eq_true rfl) (sP_copy N _ (B + 14) (b) 84 84 p hp hp2 (fb) rk3_4 rk3_1 (by omega) (show AP (B + 14) (b) by unfold AP; omega)) (by omega) (by omega) (fun v4 hc4 q4 => ?_)
  obtain ⟨rfl, frc5, rn5_0⟩ := q4
  have fk6_0 : hc4.2 (B + 7) = some (oB 2 [.ref (B + 1), .ref (B + 8), .ref (B + 10), .ref (B + 12), .ref (B + 14), .ref (B + 16), .ref (B + 18), .ref (B + 20), .ref (B + 22)]) := Fr.at0 frc5 (Ni.c ⟨(show NE (B + 7) (B + 14) by unfold NE; omega), (show NE (B + 7) (B + 15) by unfold NE; omega)⟩ (Ni.n _)) fk3_0
  have fk6_1 : hc4.2 (B + 1) = some (oB 1 [.int (gI ((p : Int)))]) := Fr.at0 frc5 (Ni.c ⟨(show NE (B + 1) (B + 14) by unfold NE; omega), (show NE (B + 1) (B + 15) by unfold NE; omega)⟩ (Ni.n _)) fk3_1
  have rk6_0 : RP hp 84 hc4 (a) (fa) := (rk3_0).fr frc5 (Ai.c (show AP (a) (B + 14) by unfold AP; omega) (Ai.n _))
  have rk6_1 : RP hp 84 hc4 (b) (fb) := (rk3_1).fr frc5 (Ai.c (show AP (b) (B + 14) by unfold AP; omega) (Ai.n _))
  have rk6_2 : RA 84 hc4 (B + 10) := (rk3_2).fr frc5 (Ai.c (show AP (B + 10) (B + 14) by unfold AP; omega) (Ai.n _))
  have rk6_4 : RP hp 84 hc4 (B + 12) (fa) := (rn2_0).fr frc5 (Ai.c (show AP (B + 12) (B + 14) by unfold AP; omega) (Ai.n _))
  have fr6 : Fr [B + 10, B + 12, B + 14] h hc4 := (fr3).tr ((frc5).mo (sub_c (List.Mem.tail _ (List.Mem.tail _ (List.Mem.head _))) sub_n))
  refine Go.nf (h' := hc4) (st' := []) rfl rfl (Nat.le_refl _) (Nat.le_refl _) ?_
  refine g_lconst1 dX2_resultant_22 ?_
  refine g_lstore (ls2 := [(5, .long (gJ (1))), (4, .ref (B + 14)), (3, .ref (B + 12)), (0, .ref (B + 7)), (1, .ref (a)), (2, .ref (b))]) dX2_resultant_23 (by decide) rfl ?_
  refine g_iconst dX2_resultant_25 ?_
  refine g_istore (ls2 := [(7, .int (gI (0))), (5, .long (gJ (1))), (4, .ref (B + 14)), (3, .ref (B + 12)), (0, .ref (B + 7)), (1, .ref (a)), (2, .ref (b))]) dX2_resultant_26 (by decide) rfl ?_
  have lg : ∀ (kk : Nat) (turn : Int) (fu : Px p) (fw : Px p) (P : Int) (uA : Nat) (vA : Nat) (hlg : GH), kk = (86 - turn).toNat → Fr [B + 10, B + 12, B + 14] h hlg → RA 84 hlg (B + 10) → RP hp 84 hlg (uA) (fu) → RP hp 84 hlg (vA) (fw) → (0 ≤ turn) → (turn + dgi hp fw ≤ 84 ∧ 0 ≤ dgi hp fu) → (0 ≤ P ∧ P < p) → (0 ≤ dgi hp fw) → ((letI := fR hp; zi hp P * rsE hp (85 - turn).toNat fu fw = rsE hp 85 fa fb)) → ((uA = B + 12 ∧ vA = B + 14) ∨ (uA = B + 14 ∧ vA = B + 12)) → Go N mX2_resultant (fun v h1 => v = some (.long (gJ (fv (rsE hp 85 fa fb)))) ∧ Fr (pl B) h h1 ∧ PW p B h1) 0 0 hlg 28 [(7, .int (gI (turn))), (5, .long (gJ (P))), (4, .ref (vA)), (3, .ref (uA)), (0, .ref (B + 7)), (1, .ref (a)), (2, .ref (b))] [] := by
    refine Go.ind (fun kk ih_lg => ?_)
    intro turn fu fw P uA vA hlg hkk_lg fr_lg cr_lg_0 cr_lg_1 cr_lg_2 ht htv hPb hv0 hR hUV
    have cg_lg_0 : hlg.2 (B + 7) = some (oB 2 [.ref (B + 1), .ref (B + 8), .ref (B + 10), .ref (B + 12), .ref (B + 14), .ref (B + 16), .ref (B + 18), .ref (B + 20), .ref (B + 22)]) := Fr.at0 fr_lg (Ni.c ⟨(show NE (B + 7) (B + 10) by unfold NE; omega), (show NE (B + 7) (B + 11) by unfold NE; omega)⟩ (Ni.c ⟨(show NE (B + 7) (B + 12) by unfold NE; omega), (show NE (B + 7) (B + 13) by unfold NE; omega)⟩ (Ni.c ⟨(show NE (B + 7) (B + 14) by unfold NE; omega), (show NE (B + 7) (B + 15) by unfold NE; omega)⟩ (Ni.n _)))) hw.1
    have cg_lg_1 : hlg.2 (B + 1) = some (oB 1 [.int (gI ((p : Int)))]) := Fr.at0 fr_lg (Ni.c ⟨(show NE (B + 1) (B + 10) by unfold NE; omega), (show NE (B + 1) (B + 11) by unfold NE; omega)⟩ (Ni.c ⟨(show NE (B + 1) (B + 12) by unfold NE; omega), (show NE (B + 1) (B + 13) by unfold NE; omega)⟩ (Ni.c ⟨(show NE (B + 1) (B + 14) by unfold NE; omega), (show NE (B + 1) (B + 15) by unfold NE; omega)⟩ (Ni.n _)))) hw.2.1
    rcases hUV with ⟨rfl, rfl⟩ | ⟨rfl, rfl⟩
    · skip
      have hlu := (cr_lg_1).lt
      have hlv := (cr_lg_2).lt
      have hpu := (cr_lg_1).po
      have hpv := (cr_lg_2).po
      have hld := ld_in hp hpv hv0
      refine g_iload 0 dX2_resultant_28 rfl ?_
      refine g_bipush dX2_resultant_30 (by decide) ?_
      refine g_icmp_gt (tgt := 142) dX2_resultant_32 rfl (by first | exact hwb | (unfold gW; omega)) (by first | exact hwb | (unfold gW; omega)) (fun c107 => ?_) (fun c107 => ?_)
      · skip
        refine g_aload_n 4 dX2_resultant_142 rfl ?_
        refine g_getf 0 dX2_resultant_143 kX2 (by decide) fX2_41 cg_lg_0 rfl ?_
        refine g_lload 1 dX2_resultant_146 rfl ?_
        refine g_aload_n 4 dX2_resultant_148 rfl ?_
        refine g_getf 0 dX2_resultant_149 kX2 (by decide) fX2_41 cg_lg_0 rfl ?_
        refine g_aload 2 dX2_resultant_152 rfl ?_
        refine g_callV (nc2 := 0) (ns2 := 0) (ci := 5) (As := []) (st := [.ref (B + 1), .long (gJ (P)), .ref (B + 1)]) rfl dX2_resultant_154 okX5_leading lX2_79 itX5_leading seX5_leading rfl (cr_lg_2).o (by decide) (by decide) rfl (Nat.le_of_ble_eq_true rfl) (sP_leading N _ (B + 14) 84 p hp (fw) cr_lg_2) (by omega) (by omega) (fun v108 hc108 q108 => ?_)
        obtain ⟨hq109, rfl⟩ := q108
        refine Go.nf (h' := hlg) (st' := [.long (gJ (ld hp (fw))), .ref (B + 1), .long (gJ (P)), .ref (B + 1)]) hq109 rfl (Nat.le_refl _) (Nat.le_refl _) ?_
        refine g_aload_n 3 dX2_resultant_157 rfl ?_
        refine g_getf 1 dX2_resultant_158 kX5 (by decide) fX2_45 (cr_lg_1).o rfl ?_
        refine g_callV (nc2 := 0) (ns2 := 0) (ci := 1) (As := [.long (gJ (ld hp (fw))), .int (gI (dgi hp (fu)))]) (st := [.long (gJ (P)), .ref (B + 1)]) rfl dX2_resultant_161 okX1_raise lX2_66 itX1_raise seX1_raise rfl cg_lg_1 (by decide) (by decide) rfl (Nat.le_of_ble_eq_true rfl) (sX1_raise N _ (B + 1) (p : Int) (ld hp (fw)) (dgi hp (fu)) (by omega) (by omega) (by omega) (by omega) (by omega) (by unfold gW; omega) cg_lg_1) (by omega) (by omega) (fun v110 hc110 q110 => ?_)
        obtain ⟨hq111, rfl⟩ := q110
        refine Go.nf (h' := hlg) (st' := [.long (gJ ((ld hp (fw)) ^ (dgi hp (fu)).toNat % (p : Int))), .long (gJ (P)), .ref (B + 1)]) hq111 rfl (Nat.le_refl _) (Nat.le_refl _) ?_
        have hrb := em_in hp (ld hp fw ^ (dgi hp fu).toNat)
        have bx : gX (P * ((ld hp (fw)) ^ (dgi hp (fu)).toNat % (p : Int))) := by have := g_prod hPb.1 hPb.2 hrb.1 hrb.2 (show (p : Int) ≤ 65536 by omega); unfold gX; omega
        refine g_lmul dX2_resultant_164 ?_
        refine g_callV (nc2 := 0) (ns2 := 0) (ci := 1) (As := [.long (gJ ((P) * ((ld hp (fw)) ^ (dgi hp (fu)).toNat % (p : Int))))]) (st := []) rfl dX2_resultant_165 okX1_mod lX2_111 itX1_mod seX1_mod rfl cg_lg_1 (by decide) (by decide) rfl (Nat.le_of_ble_eq_true rfl) (sX1_mod N _ (B + 1) (p : Int) ((P) * ((ld hp (fw)) ^ (dgi hp (fu)).toNat % (p : Int))) bx (by omega) (by omega) cg_lg_1) (by omega) (by omega) (fun v112 hc112 q112 => ?_)
        obtain ⟨hq113, rfl⟩ := q112
        rw [gMod_em (show (0 : Int) < p by omega)]
        refine Go.nf (h' := hlg) (st' := [.long (gJ (((P) * ((ld hp (fw)) ^ (dgi hp (fu)).toNat % (p : Int))) % (p : Int)))]) hq113 rfl (Nat.le_refl _) (Nat.le_refl _) ?_
        exact g_lret dX2_resultant_168 rfl ⟨by
      letI := fR hp
      rw [rsE_c hp _ (by omega)] at hR
      have e9 : (((P) * ((ld hp (fw)) ^ (dgi hp (fu)).toNat % (p : Int))) % (p : Int) : Int) = fv (rsE hp 85 fa fb) := by
        rw [← hR, ← zi_val hp, zi_mul, zi_mod, zi_pw]
        rfl
      rw [e9], (fr_lg).mo (sub_c (List.Mem.tail _ (List.Mem.head _)) (sub_c (List.Mem.tail _ (List.Mem.tail _ (List.Mem.head _))) (sub_c (List.Mem.tail _ (List.Mem.tail _ (List.Mem.tail _ (List.Mem.head _)))) sub_n))), (PW.upd hw fr_lg (out8_c (by omega) (out8_c (by omega) (out8_c (by omega) out8_n))) (pl_all (Or.inl (Ai.c (show AP (B + 8) (B + 10) by unfold AP; omega) (Ai.c (show AP (B + 8) (B + 12) by unfold AP; omega) (Ai.c (show AP (B + 8) (B + 14) by unfold AP; omega) (Ai.n _))))) (Or.inr cr_lg_0) (Or.inr (cr_lg_1).ra) (Or.inr (cr_lg_2).ra) (Or.inl (Ai.c (show AP (B + 16) (B + 10) by unfold AP; omega) (Ai.c (show AP (B + 16) (B + 12) by unfold AP; omega) (Ai.c (show AP (B + 16) (B + 14) by unfold AP; omega) (Ai.n _))))) (Or.inl (Ai.c (show AP (B + 18) (B + 10) by unfold AP; omega) (Ai.c (show AP (B + 18) (B + 12) by unfold AP; omega) (Ai.c (show AP (B + 18) (B + 14) by unfold AP; omega) (Ai.n _))))) (Or.inl (Ai.c (show AP (B + 20) (B + 10) by unfold AP; omega) (Ai.c (show AP (B + 20) (B + 12) by unfold AP; omega) (Ai.c (show AP (B + 20) (B + 14) by unfold AP; omega) (Ai.n _))))) (Or.inl (Ai.c (show AP (B + 22) (B + 10) by unfold AP; omega) (Ai.c (show AP (B + 22) (B + 12) by unfold AP; omega) (Ai.c (show AP (B + 22) (B + 14) by unfold AP; omega) (Ai.n _)))))))⟩
      · skip
        refine g_aload 2 dX2_resultant_35 rfl ?_
        refine g_getf 1 dX2_resultant_37 kX5 (by decide) fX2_45 (cr_lg_2).o rfl ?_
        refine g_if_le (tgt := 142) dX2_resultant_40 rfl (by first | exact hwb | (unfold gW; omega)) (fun c114 => ?_) (fun c114 => ?_)
        · skip
          refine g_aload_n 4 dX2_resultant_142 rfl ?_
          refine g_getf 0 dX2_resultant_143 kX2 (by decide) fX2_41 cg_lg_0 rfl ?_
          refine g_lload 1 dX2_resultant_146 rfl ?_
          refine g_aload_n 4 dX2_resultant_148 rfl ?_
          refine g_getf 0 dX2_resultant_149 kX2 (by decide) fX2_41 cg_lg_0 rfl ?_
          refine g_aload 2 dX2_resultant_152 rfl ?_
          refine g_callV (nc2 := 0) (ns2 := 0) (ci := 5) (As := []) (st := [.ref (B + 1), .long (gJ (P)), .ref (B + 1)]) rfl dX2_resultant_154 okX5_leading lX2_79 itX5_leading seX5_leading rfl (cr_lg_2).o (by decide) (by decide) rfl (Nat.le_of_ble_eq_true rfl) (sP_leading N _ (B + 14) 84 p hp (fw) cr_lg_2) (by omega) (by omega) (fun v115 hc115 q115 => ?_)
          obtain ⟨hq116, rfl⟩ := q115
          refine Go.nf (h' := hlg) (st' := [.long (gJ (ld hp (fw))), .ref (B + 1), .long (gJ (P)), .ref (B + 1)]) hq116 rfl (Nat.le_refl _) (Nat.le_refl _) ?_
          refine g_aload_n 3 dX2_resultant_157 rfl ?_
          refine g_getf 1 dX2_resultant_158 kX5 (by decide) fX2_45 (cr_lg_1).o rfl ?_
          refine g_callV (nc2 := 0) (ns2 := 0) (ci := 1) (As := [.long (gJ (ld hp (fw))), .int (gI (dgi hp (fu)))]) (st := [.long (gJ (P)), .ref (B + 1)]) rfl dX2_resultant_161 okX1_raise lX2_66 itX1_raise seX1_raise rfl cg_lg_1 (by decide) (by decide) rfl (Nat.le_of_ble_eq_true rfl) (sX1_raise N _ (B + 1) (p : Int) (ld hp (fw)) (dgi hp (fu)) (by omega) (by omega) (by omega) (by omega) (by omega) (by unfold gW; omega) cg_lg_1) (by omega) (by omega) (fun v117 hc117 q117 => ?_)
          obtain ⟨hq118, rfl⟩ := q117
          refine Go.nf (h' := hlg) (st' := [.long (gJ ((ld hp (fw)) ^ (dgi hp (fu)).toNat % (p : Int))), .long (gJ (P)), .ref (B + 1)]) hq118 rfl (Nat.le_refl _) (Nat.le_refl _) ?_
          have hrb := em_in hp (ld hp fw ^ (dgi hp fu).toNat)
          have bx : gX (P * ((ld hp (fw)) ^ (dgi hp (fu)).toNat % (p : Int))) := by have := g_prod hPb.1 hPb.2 hrb.1 hrb.2 (show (p : Int) ≤ 65536 by omega); unfold gX; omega
          refine g_lmul dX2_resultant_164 ?_
          refine g_callV (nc2 := 0) (ns2 := 0) (ci := 1) (As := [.long (gJ ((P) * ((ld hp (fw)) ^ (dgi hp (fu)).toNat % (p : Int))))]) (st := []) rfl dX2_resultant_165 okX1_mod lX2_111 itX1_mod seX1_mod rfl cg_lg_1 (by decide) (by decide) rfl (Nat.le_of_ble_eq_true rfl) (sX1_mod N _ (B + 1) (p : Int) ((P) * ((ld hp (fw)) ^ (dgi hp (fu)).toNat % (p : Int))) bx (by omega) (by omega) cg_lg_1) (by omega) (by omega) (fun v119 hc119 q119 => ?_)
          obtain ⟨hq120, rfl⟩ := q119
          rw [gMod_em (show (0 : Int) < p by omega)]
          refine Go.nf (h' := hlg) (st' := [.long (gJ (((P) * ((ld hp (fw)) ^ (dgi hp (fu)).toNat % (p : Int))) % (p : Int)))]) hq120 rfl (Nat.le_refl _) (Nat.le_refl _) ?_
          exact g_lret dX2_resultant_168 rfl ⟨by
      letI := fR hp
      rw [rsE_c hp _ (by omega)] at hR
      have e9 : (((P) * ((ld hp (fw)) ^ (dgi hp (fu)).toNat % (p : Int))) % (p : Int) : Int) = fv (rsE hp 85 fa fb) := by
        rw [← hR, ← zi_val hp, zi_mul, zi_mod, zi_pw]
        rfl
      rw [e9], (fr_lg).mo (sub_c (List.Mem.tail _ (List.Mem.head _)) (sub_c (List.Mem.tail _ (List.Mem.tail _ (List.Mem.head _))) (sub_c (List.Mem.tail _ (List.Mem.tail _ (List.Mem.tail _ (List.Mem.head _)))) sub_n))), (PW.upd hw fr_lg (out8_c (by omega) (out8_c (by omega) (out8_c (by omega) out8_n))) (pl_all (Or.inl (Ai.c (show AP (B + 8) (B + 10) by unfold AP; omega) (Ai.c (show AP (B + 8) (B + 12) by unfold AP; omega) (Ai.c (show AP (B + 8) (B + 14) by unfold AP; omega) (Ai.n _))))) (Or.inr cr_lg_0) (Or.inr (cr_lg_1).ra) (Or.inr (cr_lg_2).ra) (Or.inl (Ai.c (show AP (B + 16) (B + 10) by unfold AP; omega) (Ai.c (show AP (B + 16) (B + 12) by unfold AP; omega) (Ai.c (show AP (B + 16) (B + 14) by unfold AP; omega) (Ai.n _))))) (Or.inl (Ai.c (show AP (B + 18) (B + 10) by unfold AP; omega) (Ai.c (show AP (B + 18) (B + 12) by unfold AP; omega) (Ai.c (show AP (B + 18) (B + 14) by unfold AP; omega) (Ai.n _))))) (Or.inl (Ai.c (show AP (B + 20) (B + 10) by unfold AP; omega) (Ai.c (show AP (B + 20) (B + 12) by unfold AP; omega) (Ai.c (show AP (B + 20) (B + 14) by unfold AP; omega) (Ai.n _))))) (Or.inl (Ai.c (show AP (B + 22) (B + 10) by unfold AP; omega) (Ai.c (show AP (B + 22) (B + 12) by unfold AP; omega) (Ai.c (show AP (B + 22) (B + 14) by unfold AP; omega) (Ai.n _)))))))⟩
        · skip
          refine g_aload_n 3 dX2_resultant_43 rfl ?_
          refine g_getf 1 dX2_resultant_44 kX5 (by decide) fX2_45 (cr_lg_1).o rfl ?_
          refine g_istore (ls2 := [(8, .int (gI (dgi hp (fu)))), (7, .int (gI (turn))), (5, .long (gJ (P))), (4, .ref (B + 14)), (3, .ref (B + 12)), (0, .ref (B + 7)), (1, .ref (a)), (2, .ref (b))]) dX2_resultant_47 (by decide) rfl ?_
          refine g_iload 0 dX2_resultant_49 rfl ?_
          refine g_aload 3 dX2_resultant_51 rfl ?_
          refine g_getf 1 dX2_resultant_53 kX5 (by decide) fX2_45 (cr_lg_2).o rfl ?_
          refine g_iand dX2_resultant_56 ?_
          refine g_iconst dX2_resultant_57 ?_
          refine g_iand dX2_resultant_58 ?_
          rw [gAnd2 (by omega) (by omega) (by omega) (by omega)]
          have hwb : gW (if dgi hp fu % 2 = 1 ∧ dgi hp fw % 2 = 1 then 1 else 0) := by unfold gW; split <;> omega
          refine g_iconst dX2_resultant_59 ?_
          refine g_icmp_ne (tgt := 75) dX2_resultant_60 rfl (by first | exact hwb | (unfold gW; omega)) (by first | exact hwb | (unfold gW; omega)) (fun c121 => ?_) (fun c121 => ?_)
          · skip
            have hod : ¬ (dgi hp fu % 2 = 1 ∧ dgi hp fw % 2 = 1) := fun z => c121 (if_pos z)
            clear c121
            refine g_aload_n 5 dX2_resultant_75 rfl ?_
            refine g_aload_n 4 dX2_resultant_76 rfl ?_
            refine g_aload 3 dX2_resultant_77 rfl ?_
            refine g_aload_n 5 dX2_resultant_79 rfl ?_
            refine g_getf 2 dX2_resultant_80 kX2 (by decide) fX2_20 cg_lg_0 rfl ?_
            refine g_callV (nc2 := 0) (ns2 := 0) (ci := 2) (As := [.ref (B + 12), .ref (B + 14), .ref (B + 10)]) (st := []) rfl dX2_resultant_83 okX2_reduce lX2_87 itX2_reduce seX2_reduce rfl cg_lg_0 (by decide) (by decide) rfl (Nat.le_of_ble_eq_true rfl) (sP_reduce N _ B (B + 12) (B + 14) (B + 10) 84 84 84 p hp hp2 (dgi hp (fu)) ((p : Int)) (fu) (fw) (by omega) cg_lg_0 cg_lg_1 (cr_lg_1).ru cr_lg_2 cr_lg_0 (by omega) (by omega) (show AP (B + 12) (B + 14) by unfold AP; omega) (show AP (B + 12) (B + 10) by unfold AP; omega) (show AP (B + 14) (B + 10) by unfold AP; omega) (by omega) (by omega) (by omega)) (by omega) (by omega) (fun v122 hc122 q122 => ?_)
            obtain ⟨rfl, frc123, rn123_0, rn123_1⟩ := q122
            have fk124_0 : hc122.2 (B + 7) = some (oB 2 [.ref (B + 1), .ref (B + 8), .ref (B + 10), .ref (B + 12), .ref (B + 14), .ref (B + 16), .ref (B + 18), .ref (B + 20), .ref (B + 22)]) := Fr.at0 frc123 (Ni.c ⟨(show NE (B + 7) (B + 12) by unfold NE; omega), (show NE (B + 7) (B + 13) by unfold NE; omega)⟩ (Ni.c ⟨(show NE (B + 7) (B + 10) by unfold NE; omega), (show NE (B + 7) (B + 11) by unfold NE; omega)⟩ (Ni.n _))) cg_lg_0
            have fk124_1 : hc122.2 (B + 1) = some (oB 1 [.int (gI ((p : Int)))]) := Fr.at0 frc123 (Ni.c ⟨(show NE (B + 1) (B + 12) by unfold NE; omega), (show NE (B + 1) (B + 13) by unfold NE; omega)⟩ (Ni.c ⟨(show NE (B + 1) (B + 10) by unfold NE; omega), (show NE (B + 1) (B + 11) by unfold NE; omega)⟩ (Ni.n _))) cg_lg_1
            have rk124_2 : RP hp 84 hc122 (B + 14) (fw) := (cr_lg_2).fr frc123 (Ai.c (show AP (B + 14) (B + 12) by unfold AP; omega) (Ai.c (show AP (B + 14) (B + 10) by unfold AP; omega) (Ai.n _)))
            have fr124 : Fr [B + 10, B + 12, B + 14] h hc122 := (fr_lg).tr ((frc123).mo (sub_c (List.Mem.tail _ (List.Mem.head _)) (sub_c (List.Mem.head _) sub_n)))
            refine Go.nf (h' := hc122) (st' := []) rfl rfl (Nat.le_refl _) (Nat.le_refl _) ?_
            have hrl := rm_lt hp hpu hpv hv0
            have hrg := dgi_ge hp (rm_po hp hpu hpv hv0)
            have hre := rm_le hp hpu hpv hv0
            have hfu : (85 - turn).toNat = (84 - turn).toNat + 1 := by omega
            refine g_aload_n 4 dX2_resultant_86 rfl ?_
            refine g_getf 1 dX2_resultant_87 kX5 (by decide) fX2_45 (rn123_0).o rfl ?_
            refine g_if_ge (tgt := 95) dX2_resultant_90 rfl (by first | exact hwb | (unfold gW; omega)) (fun c125 => ?_) (fun c125 => ?_)
            · skip
              refine g_aload_n 5 dX2_resultant_95 rfl ?_
              refine g_getf 0 dX2_resultant_96 kX2 (by decide) fX2_41 fk124_0 rfl ?_
              refine g_lload 2 dX2_resultant_99 rfl ?_
              refine g_aload_n 5 dX2_resultant_101 rfl ?_
              refine g_getf 0 dX2_resultant_102 kX2 (by decide) fX2_41 fk124_0 rfl ?_
              refine g_aload 3 dX2_resultant_105 rfl ?_
              refine g_callV (nc2 := 0) (ns2 := 0) (ci := 5) (As := []) (st := [.ref (B + 1), .long (gJ (P)), .ref (B + 1)]) rfl dX2_resultant_107 okX5_leading lX2_79 itX5_leading seX5_leading rfl (rk124_2).o (by decide) (by decide) rfl (Nat.le_of_ble_eq_true rfl) (sP_leading N _ (B + 14) 84 p hp (fw) rk124_2) (by omega) (by omega) (fun v126 hc126 q126 => ?_)
              obtain ⟨hq127, rfl⟩ := q126
              refine Go.nf (h' := hc122) (st' := [.long (gJ (ld hp (fw))), .ref (B + 1), .long (gJ (P)), .ref (B + 1)]) hq127 rfl (Nat.le_refl _) (Nat.le_refl _) ?_
              refine g_iload 0 dX2_resultant_110 rfl ?_
              refine g_aload_n 4 dX2_resultant_112 rfl ?_
              refine g_getf 1 dX2_resultant_113 kX5 (by decide) fX2_45 (rn123_0).o rfl ?_
              refine g_isub dX2_resultant_116 ?_
              refine g_callV (nc2 := 0) (ns2 := 0) (ci := 1) (As := [.long (gJ (ld hp (fw))), .int (gI ((dgi hp (fu)) - (dgi hp (rm hp (fu) (fw)))))]) (st := [.long (gJ (P)), .ref (B + 1)]) rfl dX2_resultant_117 okX1_raise lX2_66 itX1_raise seX1_raise rfl fk124_1 (by decide) (by decide) rfl (Nat.le_of_ble_eq_true rfl) (sX1_raise N _ (B + 1) (p : Int) (ld hp (fw)) ((dgi hp (fu)) - (dgi hp (rm hp (fu) (fw)))) (by omega) (by omega) (by omega) (by omega) (by omega) (by unfold gW; omega) fk124_1) (by omega) (by omega) (fun v128 hc128 q128 => ?_)
              obtain ⟨hq129, rfl⟩ := q128
              refine Go.nf (h' := hc122) (st' := [.long (gJ ((ld hp (fw)) ^ ((dgi hp (fu)) - (dgi hp (rm hp (fu) (fw)))).toNat % (p : Int))), .long (gJ (P)), .ref (B + 1)]) hq129 rfl (Nat.le_refl _) (Nat.le_refl _) ?_
              have hpb : 0 ≤ (P) ∧ (P) < p := hPb
              have hrb := em_in hp (ld hp fw ^ (dgi hp fu - dgi hp (rm hp fu fw)).toNat)
              have bx : gX ((P) * ((ld hp (fw)) ^ ((dgi hp (fu)) - (dgi hp (rm hp (fu) (fw)))).toNat % (p : Int))) := by have := g_prod hpb.1 hpb.2 hrb.1 hrb.2 (show (p : Int) ≤ 65536 by omega); unfold gX; omega
              refine g_lmul dX2_resultant_120 ?_
              refine g_callV (nc2 := 0) (ns2 := 0) (ci := 1) (As := [.long (gJ ((P) * ((ld hp (fw)) ^ ((dgi hp (fu)) - (dgi hp (rm hp (fu) (fw)))).toNat % (p : Int))))]) (st := []) rfl dX2_resultant_121 okX1_mod lX2_111 itX1_mod seX1_mod rfl fk124_1 (by decide) (by decide) rfl (Nat.le_of_ble_eq_true rfl) (sX1_mod N _ (B + 1) (p : Int) ((P) * ((ld hp (fw)) ^ ((dgi hp (fu)) - (dgi hp (rm hp (fu) (fw)))).toNat % (p : Int))) bx (by omega) (by omega) fk124_1) (by omega) (by omega) (fun v130 hc130 q130 => ?_)
              obtain ⟨hq131, rfl⟩ := q130
              rw [gMod_em (show (0 : Int) < p by omega)]
              refine Go.nf (h' := hc122) (st' := [.long (gJ (((P) * ((ld hp (fw)) ^ ((dgi hp (fu)) - (dgi hp (rm hp (fu) (fw)))).toNat % (p : Int))) % (p : Int)))]) hq131 rfl (Nat.le_refl _) (Nat.le_refl _) ?_
              refine g_lstore (ls2 := [(5, .long (gJ (((P) * ((ld hp (fw)) ^ ((dgi hp (fu)) - (dgi hp (rm hp (fu) (fw)))).toNat % (p : Int))) % (p : Int)))), (8, .int (gI (dgi hp (fu)))), (7, .int (gI (turn))), (4, .ref (B + 14)), (3, .ref (B + 12)), (0, .ref (B + 7)), (1, .ref (a)), (2, .ref (b))]) dX2_resultant_124 (by decide) rfl ?_
              refine g_aload_n 4 dX2_resultant_126 rfl ?_
              refine g_astore (ls2 := [(9, .ref (B + 12)), (5, .long (gJ (((P) * ((ld hp (fw)) ^ ((dgi hp (fu)) - (dgi hp (rm hp (fu) (fw)))).toNat % (p : Int))) % (p : Int)))), (8, .int (gI (dgi hp (fu)))), (7, .int (gI (turn))), (4, .ref (B + 14)), (3, .ref (B + 12)), (0, .ref (B + 7)), (1, .ref (a)), (2, .ref (b))]) dX2_resultant_127 (by decide) rfl ?_
              refine g_aload 4 dX2_resultant_129 rfl ?_
              refine g_astore_n (ls2 := [(3, .ref (B + 14)), (9, .ref (B + 12)), (5, .long (gJ (((P) * ((ld hp (fw)) ^ ((dgi hp (fu)) - (dgi hp (rm hp (fu) (fw)))).toNat % (p : Int))) % (p : Int)))), (8, .int (gI (dgi hp (fu)))), (7, .int (gI (turn))), (4, .ref (B + 14)), (0, .ref (B + 7)), (1, .ref (a)), (2, .ref (b))]) dX2_resultant_131 rfl (by decide) rfl ?_
              refine g_aload 1 dX2_resultant_132 rfl ?_
              refine g_astore (ls2 := [(4, .ref (B + 12)), (3, .ref (B + 14)), (9, .ref (B + 12)), (5, .long (gJ (((P) * ((ld hp (fw)) ^ ((dgi hp (fu)) - (dgi hp (rm hp (fu) (fw)))).toNat % (p : Int))) % (p : Int)))), (8, .int (gI (dgi hp (fu)))), (7, .int (gI (turn))), (0, .ref (B + 7)), (1, .ref (a)), (2, .ref (b))]) dX2_resultant_134 (by decide) rfl ?_
              refine g_iinc 5 (ls2 := [(7, .int (gI (turn + 1))), (4, .ref (B + 12)), (3, .ref (B + 14)), (9, .ref (B + 12)), (5, .long (gJ (((P) * ((ld hp (fw)) ^ ((dgi hp (fu)) - (dgi hp (rm hp (fu) (fw)))).toNat % (p : Int))) % (p : Int)))), (8, .int (gI (dgi hp (fu)))), (0, .ref (B + 7)), (1, .ref (a)), (2, .ref (b))]) dX2_resultant_136 rfl (by decide) rfl ?_
              refine g_goto (tgt := 28) dX2_resultant_139 rfl ?_
              refine Go.sub [0, 4, 1, 2, 6, 7, 8] rfl ?_
              exact ih_lg _ (by omega) (turn + 1) (fw) (rm hp fu fw) (((P) * ((ld hp (fw)) ^ ((dgi hp (fu)) - (dgi hp (rm hp (fu) (fw)))).toNat % (p : Int))) % (p : Int)) (B + 14) (B + 12) hc122 rfl fr124 (rn123_1).ra rk124_2 rn123_0 (by omega) (by omega) (em_in hp _) (by omega) (by
        letI := fR hp
        rw [hfu, rsE, if_neg (by omega), if_neg (by omega)] at hR
        rw [show (85 - (turn + 1)).toNat = (84 - turn).toNat by omega, ← hR, zi_mod, zi_mul, zi_mod, zi_pw]
        show zi hp P * ldF hp fw ^ _ * _ = _
        rw [if_neg hod]
        generalize rsE hp (84 - turn).toNat fw (rm hp fu fw) = z1
        generalize ldF hp fw ^ (dgi hp fu - dgi hp (rm hp fu fw)).toNat = z2
        generalize zi hp P = z3
        grind) (Or.inr ⟨rfl, rfl⟩)
            · skip
              refine g_lconst0 dX2_resultant_93 ?_
              exact g_lret dX2_resultant_94 rfl ⟨by
      letI := fR hp
      rw [hfu, rsE, if_neg (by omega), if_pos (by omega)] at hR
      have e9 : zi hp P * 0 = 0 := by grind
      rw [e9] at hR
      rw [← hR, f_zero hp], (fr124).mo (sub_c (List.Mem.tail _ (List.Mem.head _)) (sub_c (List.Mem.tail _ (List.Mem.tail _ (List.Mem.head _))) (sub_c (List.Mem.tail _ (List.Mem.tail _ (List.Mem.tail _ (List.Mem.head _)))) sub_n))), (PW.upd hw fr124 (out8_c (by omega) (out8_c (by omega) (out8_c (by omega) out8_n))) (pl_all (Or.inl (Ai.c (show AP (B + 8) (B + 10) by unfold AP; omega) (Ai.c (show AP (B + 8) (B + 12) by unfold AP; omega) (Ai.c (show AP (B + 8) (B + 14) by unfold AP; omega) (Ai.n _))))) (Or.inr (rn123_1).ra) (Or.inr (rn123_0).ra) (Or.inr (rk124_2).ra) (Or.inl (Ai.c (show AP (B + 16) (B + 10) by unfold AP; omega) (Ai.c (show AP (B + 16) (B + 12) by unfold AP; omega) (Ai.c (show AP (B + 16) (B + 14) by unfold AP; omega) (Ai.n _))))) (Or.inl (Ai.c (show AP (B + 18) (B + 10) by unfold AP; omega) (Ai.c (show AP (B + 18) (B + 12) by unfold AP; omega) (Ai.c (show AP (B + 18) (B + 14) by unfold AP; omega) (Ai.n _))))) (Or.inl (Ai.c (show AP (B + 20) (B + 10) by unfold AP; omega) (Ai.c (show AP (B + 20) (B + 12) by unfold AP; omega) (Ai.c (show AP (B + 20) (B + 14) by unfold AP; omega) (Ai.n _))))) (Or.inl (Ai.c (show AP (B + 22) (B + 10) by unfold AP; omega) (Ai.c (show AP (B + 22) (B + 12) by unfold AP; omega) (Ai.c (show AP (B + 22) (B + 14) by unfold AP; omega) (Ai.n _)))))))⟩
          · skip
            have hod : dgi hp fu % 2 = 1 ∧ dgi hp fw % 2 = 1 := by
              by_cases z : dgi hp fu % 2 = 1 ∧ dgi hp fw % 2 = 1
              · exact z
              · rw [if_neg z] at c121; omega
            clear c121
            refine g_aload_n 5 dX2_resultant_63 rfl ?_
            refine g_getf 0 dX2_resultant_64 kX2 (by decide) fX2_41 cg_lg_0 rfl ?_
            refine g_lload 2 dX2_resultant_67 rfl ?_
            refine g_lneg dX2_resultant_69 ?_
            refine g_callV (nc2 := 0) (ns2 := 0) (ci := 1) (As := [.long (gJ (-(P)))]) (st := []) rfl dX2_resultant_70 okX1_mod lX2_111 itX1_mod seX1_mod rfl cg_lg_1 (by decide) (by decide) rfl (Nat.le_of_ble_eq_true rfl) (sX1_mod N _ (B + 1) (p : Int) (-(P)) (by unfold gX; omega) (by omega) (by omega) cg_lg_1) (by omega) (by omega) (fun v132 hc132 q132 => ?_)
            obtain ⟨hq133, rfl⟩ := q132
            rw [gMod_em (show (0 : Int) < p by omega)]
            refine Go.nf (h' := hlg) (st' := [.long (gJ ((-(P)) % (p : Int)))]) hq133 rfl (Nat.le_refl _) (Nat.le_refl _) ?_
            refine g_lstore (ls2 := [(5, .long (gJ ((-(P)) % (p : Int)))), (8, .int (gI (dgi hp (fu)))), (7, .int (gI (turn))), (4, .ref (B + 14)), (3, .ref (B + 12)), (0, .ref (B + 7)), (1, .ref (a)), (2, .ref (b))]) dX2_resultant_73 (by decide) rfl ?_
            refine g_aload_n 5 dX2_resultant_75 rfl ?_
            refine g_aload_n 4 dX2_resultant_76 rfl ?_
            refine g_aload 3 dX2_resultant_77 rfl ?_
            refine g_aload_n 5 dX2_resultant_79 rfl ?_
            refine g_getf 2 dX2_resultant_80 kX2 (by decide) fX2_20 cg_lg_0 rfl ?_
            refine g_callV (nc2 := 0) (ns2 := 0) (ci := 2) (As := [.ref (B + 12), .ref (B + 14), .ref (B + 10)]) (st := []) rfl dX2_resultant_83 okX2_reduce lX2_87 itX2_reduce seX2_reduce rfl cg_lg_0 (by decide) (by decide) rfl (Nat.le_of_ble_eq_true rfl) (sP_reduce N _ B (B + 12) (B + 14) (B + 10) 84 84 84 p hp hp2 (dgi hp (fu)) ((p : Int)) (fu) (fw) (by omega) cg_lg_0 cg_lg_1 (cr_lg_1).ru cr_lg_2 cr_lg_0 (by omega) (by omega) (show AP (B + 12) (B + 14) by unfold AP; omega) (show AP (B + 12) (B + 10) by unfold AP; omega) (show AP (B + 14) (B + 10) by unfold AP; omega) (by omega) (by omega) (by omega)) (by omega) (by omega) (fun v134 hc134 q134 => ?_)
            obtain ⟨rfl, frc135, rn135_0, rn135_1⟩ := q134
            have fk136_0 : hc134.2 (B + 7) = some (oB 2 [.ref (B + 1), .ref (B + 8), .ref (B + 10), .ref (B + 12), .ref (B + 14), .ref (B + 16), .ref (B + 18), .ref (B + 20), .ref (B + 22)]) := Fr.at0 frc135 (Ni.c ⟨(show NE (B + 7) (B + 12) by unfold NE; omega), (show NE (B + 7) (B + 13) by unfold NE; omega)⟩ (Ni.c ⟨(show NE (B + 7) (B + 10) by unfold NE; omega), (show NE (B + 7) (B + 11) by unfold NE; omega)⟩ (Ni.n _))) cg_lg_0
            have fk136_1 : hc134.2 (B + 1) = some (oB 1 [.int (gI ((p : Int)))]) := Fr.at0 frc135 (Ni.c ⟨(show NE (B + 1) (B + 12) by unfold NE; omega), (show NE (B + 1) (B + 13) by unfold NE; omega)⟩ (Ni.c ⟨(show NE (B + 1) (B + 10) by unfold NE; omega), (show NE (B + 1) (B + 11) by unfold NE; omega)⟩ (Ni.n _))) cg_lg_1
            have rk136_2 : RP hp 84 hc134 (B + 14) (fw) := (cr_lg_2).fr frc135 (Ai.c (show AP (B + 14) (B + 12) by unfold AP; omega) (Ai.c (show AP (B + 14) (B + 10) by unfold AP; omega) (Ai.n _)))
            have fr136 : Fr [B + 10, B + 12, B + 14] h hc134 := (fr_lg).tr ((frc135).mo (sub_c (List.Mem.tail _ (List.Mem.head _)) (sub_c (List.Mem.head _) sub_n)))
            refine Go.nf (h' := hc134) (st' := []) rfl rfl (Nat.le_refl _) (Nat.le_refl _) ?_
            have hrl := rm_lt hp hpu hpv hv0
            have hrg := dgi_ge hp (rm_po hp hpu hpv hv0)
            have hre := rm_le hp hpu hpv hv0
            have hfu : (85 - turn).toNat = (84 - turn).toNat + 1 := by omega
            refine g_aload_n 4 dX2_resultant_86 rfl ?_
            refine g_getf 1 dX2_resultant_87 kX5 (by decide) fX2_45 (rn135_0).o rfl ?_
            refine g_if_ge (tgt := 95) dX2_resultant_90 rfl (by first | exact hwb | (unfold gW; omega)) (fun c137 => ?_) (fun c137 => ?_)
            · skip
              refine g_aload_n 5 dX2_resultant_95 rfl ?_
              refine g_getf 0 dX2_resultant_96 kX2 (by decide) fX2_41 fk136_0 rfl ?_
              refine g_lload 0 dX2_resultant_99 rfl ?_
              refine g_aload_n 5 dX2_resultant_101 rfl ?_
              refine g_getf 0 dX2_resultant_102 kX2 (by decide) fX2_41 fk136_0 rfl ?_
              refine g_aload 3 dX2_resultant_105 rfl ?_
              refine g_callV (nc2 := 0) (ns2 := 0) (ci := 5) (As := []) (st := [.ref (B + 1), .long (gJ ((-(P)) % (p : Int))), .ref (B + 1)]) rfl dX2_resultant_107 okX5_leading lX2_79 itX5_leading seX5_leading rfl (rk136_2).o (by decide) (by decide) rfl (Nat.le_of_ble_eq_true rfl) (sP_leading N _ (B + 14) 84 p hp (fw) rk136_2) (by omega) (by omega) (fun v138 hc138 q138 => ?_)
              obtain ⟨hq139, rfl⟩ := q138
              refine Go.nf (h' := hc134) (st' := [.long (gJ (ld hp (fw))), .ref (B + 1), .long (gJ ((-(P)) % (p : Int))), .ref (B + 1)]) hq139 rfl (Nat.le_refl _) (Nat.le_refl _) ?_
              refine g_iload 1 dX2_resultant_110 rfl ?_
              refine g_aload_n 4 dX2_resultant_112 rfl ?_
              refine g_getf 1 dX2_resultant_113 kX5 (by decide) fX2_45 (rn135_0).o rfl ?_
              refine g_isub dX2_resultant_116 ?_
              refine g_callV (nc2 := 0) (ns2 := 0) (ci := 1) (As := [.long (gJ (ld hp (fw))), .int (gI ((dgi hp (fu)) - (dgi hp (rm hp (fu) (fw)))))]) (st := [.long (gJ ((-(P)) % (p : Int))), .ref (B + 1)]) rfl dX2_resultant_117 okX1_raise lX2_66 itX1_raise seX1_raise rfl fk136_1 (by decide) (by decide) rfl (Nat.le_of_ble_eq_true rfl) (sX1_raise N _ (B + 1) (p : Int) (ld hp (fw)) ((dgi hp (fu)) - (dgi hp (rm hp (fu) (fw)))) (by omega) (by omega) (by omega) (by omega) (by omega) (by unfold gW; omega) fk136_1) (by omega) (by omega) (fun v140 hc140 q140 => ?_)
              obtain ⟨hq141, rfl⟩ := q140
              refine Go.nf (h' := hc134) (st' := [.long (gJ ((ld hp (fw)) ^ ((dgi hp (fu)) - (dgi hp (rm hp (fu) (fw)))).toNat % (p : Int))), .long (gJ ((-(P)) % (p : Int))), .ref (B + 1)]) hq141 rfl (Nat.le_refl _) (Nat.le_refl _) ?_
              have hpb : 0 ≤ ((-(P)) % (p : Int)) ∧ ((-(P)) % (p : Int)) < p := em_in hp _
              have hrb := em_in hp (ld hp fw ^ (dgi hp fu - dgi hp (rm hp fu fw)).toNat)
              have bx : gX (((-(P)) % (p : Int)) * ((ld hp (fw)) ^ ((dgi hp (fu)) - (dgi hp (rm hp (fu) (fw)))).toNat % (p : Int))) := by have := g_prod hpb.1 hpb.2 hrb.1 hrb.2 (show (p : Int) ≤ 65536 by omega); unfold gX; omega
              refine g_lmul dX2_resultant_120 ?_
              refine g_callV (nc2 := 0) (ns2 := 0) (ci := 1) (As := [.long (gJ (((-(P)) % (p : Int)) * ((ld hp (fw)) ^ ((dgi hp (fu)) - (dgi hp (rm hp (fu) (fw)))).toNat % (p : Int))))]) (st := []) rfl dX2_resultant_121 okX1_mod lX2_111 itX1_mod seX1_mod rfl fk136_1 (by decide) (by decide) rfl (Nat.le_of_ble_eq_true rfl) (sX1_mod N _ (B + 1) (p : Int) (((-(P)) % (p : Int)) * ((ld hp (fw)) ^ ((dgi hp (fu)) - (dgi hp (rm hp (fu) (fw)))).toNat % (p : Int))) bx (by omega) (by omega) fk136_1) (by omega) (by omega) (fun v142 hc142 q142 => ?_)
              obtain ⟨hq143, rfl⟩ := q142
              rw [gMod_em (show (0 : Int) < p by omega)]
              refine Go.nf (h' := hc134) (st' := [.long (gJ ((((-(P)) % (p : Int)) * ((ld hp (fw)) ^ ((dgi hp (fu)) - (dgi hp (rm hp (fu) (fw)))).toNat % (p : Int))) % (p : Int)))]) hq143 rfl (Nat.le_refl _) (Nat.le_refl _) ?_
              refine g_lstore (ls2 := [(5, .long (gJ ((((-(P)) % (p : Int)) * ((ld hp (fw)) ^ ((dgi hp (fu)) - (dgi hp (rm hp (fu) (fw)))).toNat % (p : Int))) % (p : Int)))), (8, .int (gI (dgi hp (fu)))), (7, .int (gI (turn))), (4, .ref (B + 14)), (3, .ref (B + 12)), (0, .ref (B + 7)), (1, .ref (a)), (2, .ref (b))]) dX2_resultant_124 (by decide) rfl ?_
              refine g_aload_n 4 dX2_resultant_126 rfl ?_
              refine g_astore (ls2 := [(9, .ref (B + 12)), (5, .long (gJ ((((-(P)) % (p : Int)) * ((ld hp (fw)) ^ ((dgi hp (fu)) - (dgi hp (rm hp (fu) (fw)))).toNat % (p : Int))) % (p : Int)))), (8, .int (gI (dgi hp (fu)))), (7, .int (gI (turn))), (4, .ref (B + 14)), (3, .ref (B + 12)), (0, .ref (B + 7)), (1, .ref (a)), (2, .ref (b))]) dX2_resultant_127 (by decide) rfl ?_
              refine g_aload 4 dX2_resultant_129 rfl ?_
              refine g_astore_n (ls2 := [(3, .ref (B + 14)), (9, .ref (B + 12)), (5, .long (gJ ((((-(P)) % (p : Int)) * ((ld hp (fw)) ^ ((dgi hp (fu)) - (dgi hp (rm hp (fu) (fw)))).toNat % (p : Int))) % (p : Int)))), (8, .int (gI (dgi hp (fu)))), (7, .int (gI (turn))), (4, .ref (B + 14)), (0, .ref (B + 7)), (1, .ref (a)), (2, .ref (b))]) dX2_resultant_131 rfl (by decide) rfl ?_
              refine g_aload 1 dX2_resultant_132 rfl ?_
              refine g_astore (ls2 := [(4, .ref (B + 12)), (3, .ref (B + 14)), (9, .ref (B + 12)), (5, .long (gJ ((((-(P)) % (p : Int)) * ((ld hp (fw)) ^ ((dgi hp (fu)) - (dgi hp (rm hp (fu) (fw)))).toNat % (p : Int))) % (p : Int)))), (8, .int (gI (dgi hp (fu)))), (7, .int (gI (turn))), (0, .ref (B + 7)), (1, .ref (a)), (2, .ref (b))]) dX2_resultant_134 (by decide) rfl ?_
              refine g_iinc 5 (ls2 := [(7, .int (gI (turn + 1))), (4, .ref (B + 12)), (3, .ref (B + 14)), (9, .ref (B + 12)), (5, .long (gJ ((((-(P)) % (p : Int)) * ((ld hp (fw)) ^ ((dgi hp (fu)) - (dgi hp (rm hp (fu) (fw)))).toNat % (p : Int))) % (p : Int)))), (8, .int (gI (dgi hp (fu)))), (0, .ref (B + 7)), (1, .ref (a)), (2, .ref (b))]) dX2_resultant_136 rfl (by decide) rfl ?_
              refine g_goto (tgt := 28) dX2_resultant_139 rfl ?_
              refine Go.sub [0, 4, 1, 2, 6, 7, 8] rfl ?_
              exact ih_lg _ (by omega) (turn + 1) (fw) (rm hp fu fw) ((((-(P)) % (p : Int)) * ((ld hp (fw)) ^ ((dgi hp (fu)) - (dgi hp (rm hp (fu) (fw)))).toNat % (p : Int))) % (p : Int)) (B + 14) (B + 12) hc134 rfl fr136 (rn135_1).ra rk136_2 rn135_0 (by omega) (by omega) (em_in hp _) (by omega) (by
        letI := fR hp
        rw [hfu, rsE, if_neg (by omega), if_neg (by omega)] at hR
        rw [show (85 - (turn + 1)).toNat = (84 - turn).toNat by omega, ← hR, zi_mod, zi_mul, zi_mod, zi_mod, zi_pw, zi_neg]
        show (-zi hp P) * ldF hp fw ^ _ * _ = _
        rw [if_pos hod]
        generalize rsE hp (84 - turn).toNat fw (rm hp fu fw) = z1
        generalize ldF hp fw ^ (dgi hp fu - dgi hp (rm hp fu fw)).toNat = z2
        generalize zi hp P = z3
        grind) (Or.inr ⟨rfl, rfl⟩)
            · skip
              refine g_lconst0 dX2_resultant_93 ?_
              exact g_lret dX2_resultant_94 rfl ⟨by
      letI := fR hp
      rw [hfu, rsE, if_neg (by omega), if_pos (by omega)] at hR
      have e9 : zi hp P * 0 = 0 := by grind
      rw [e9] at hR
      rw [← hR, f_zero hp], (fr136).mo (sub_c (List.Mem.tail _ (List.Mem.head _)) (sub_c (List.Mem.tail _ (List.Mem.tail _ (List.Mem.head _))) (sub_c (List.Mem.tail _ (List.Mem.tail _ (List.Mem.tail _ (List.Mem.head _)))) sub_n))), (PW.upd hw fr136 (out8_c (by omega) (out8_c (by omega) (out8_c (by omega) out8_n))) (pl_all (Or.inl (Ai.c (show AP (B + 8) (B + 10) by unfold AP; omega) (Ai.c (show AP (B + 8) (B + 12) by unfold AP; omega) (Ai.c (show AP (B + 8) (B + 14) by unfold AP; omega) (Ai.n _))))) (Or.inr (rn135_1).ra) (Or.inr (rn135_0).ra) (Or.inr (rk136_2).ra) (Or.inl (Ai.c (show AP (B + 16) (B + 10) by unfold AP; omega) (Ai.c (show AP (B + 16) (B + 12) by unfold AP; omega) (Ai.c (show AP (B + 16) (B + 14) by unfold AP; omega) (Ai.n _))))) (Or.inl (Ai.c (show AP (B + 18) (B + 10) by unfold AP; omega) (Ai.c (show AP (B + 18) (B + 12) by unfold AP; omega) (Ai.c (show AP (B + 18) (B + 14) by unfold AP; omega) (Ai.n _))))) (Or.inl (Ai.c (show AP (B + 20) (B + 10) by unfold AP; omega) (Ai.c (show AP (B + 20) (B + 12) by unfold AP; omega) (Ai.c (show AP (B + 20) (B + 14) by unfold AP; omega) (Ai.n _))))) (Or.inl (Ai.c (show AP (B + 22) (B + 10) by unfold AP; omega) (Ai.c (show AP (B + 22) (B + 12) by unfold AP; omega) (Ai.c (show AP (B + 22) (B + 14) by unfold AP; omega) (Ai.n _)))))))⟩
    · skip
      have hlu := (cr_lg_1).lt
      have hlv := (cr_lg_2).lt
      have hpu := (cr_lg_1).po
      have hpv := (cr_lg_2).po
      have hld := ld_in hp hpv hv0
      refine g_iload 0 dX2_resultant_28 rfl ?_
      refine g_bipush dX2_resultant_30 (by decide) ?_
      refine g_icmp_gt (tgt := 142) dX2_resultant_32 rfl (by first | exact hwb | (unfold gW; omega)) (by first | exact hwb | (unfold gW; omega)) (fun c344 => ?_) (fun c344 => ?_)
      · skip
        refine g_aload_n 4 dX2_resultant_142 rfl ?_
        refine g_getf 0 dX2_resultant_143 kX2 (by decide) fX2_41 cg_lg_0 rfl ?_
        refine g_lload 1 dX2_resultant_146 rfl ?_
        refine g_aload_n 4 dX2_resultant_148 rfl ?_
        refine g_getf 0 dX2_resultant_149 kX2 (by decide) fX2_41 cg_lg_0 rfl ?_
        refine g_aload 2 dX2_resultant_152 rfl ?_
        refine g_callV (nc2 := 0) (ns2 := 0) (ci := 5) (As := []) (st := [.ref (B + 1), .long (gJ (P)), .ref (B + 1)]) rfl dX2_resultant_154 okX5_leading lX2_79 itX5_leading seX5_leading rfl (cr_lg_2).o (by decide) (by decide) rfl (Nat.le_of_ble_eq_true rfl) (sP_leading N _ (B + 12) 84 p hp (fw) cr_lg_2) (by omega) (by omega) (fun v345 hc345 q345 => ?_)
        obtain ⟨hq346, rfl⟩ := q345
        refine Go.nf (h' := hlg) (st' := [.long (gJ (ld hp (fw))), .ref (B + 1), .long (gJ (P)), .ref (B + 1)]) hq346 rfl (Nat.le_refl _) (Nat.le_refl _) ?_
        refine g_aload_n 3 dX2_resultant_157 rfl ?_
        refine g_getf 1 dX2_resultant_158 kX5 (by decide) fX2_45 (cr_lg_1).o rfl ?_
        refine g_callV (nc2 := 0) (ns2 := 0) (ci := 1) (As := [.long (gJ (ld hp (fw))), .int (gI (dgi hp (fu)))]) (st := [.long (gJ (P)), .ref (B + 1)]) rfl dX2_resultant_161 okX1_raise lX2_66 itX1_raise seX1_raise rfl cg_lg_1 (by decide) (by decide) rfl (Nat.le_of_ble_eq_true rfl) (sX1_raise N _ (B + 1) (p : Int) (ld hp (fw)) (dgi hp (fu)) (by omega) (by omega) (by omega) (by omega) (by omega) (by unfold gW; omega) cg_lg_1) (by omega) (by omega) (fun v347 hc347 q347 => ?_)
        obtain ⟨hq348, rfl⟩ := q347
        refine Go.nf (h' := hlg) (st' := [.long (gJ ((ld hp (fw)) ^ (dgi hp (fu)).toNat % (p : Int))), .long (gJ (P)), .ref (B + 1)]) hq348 rfl (Nat.le_refl _) (Nat.le_refl _) ?_
        have hrb := em_in hp (ld hp fw ^ (dgi hp fu).toNat)
        have bx : gX (P * ((ld hp (fw)) ^ (dgi hp (fu)).toNat % (p : Int))) := by have := g_prod hPb.1 hPb.2 hrb.1 hrb.2 (show (p : Int) ≤ 65536 by omega); unfold gX; omega
        refine g_lmul dX2_resultant_164 ?_
        refine g_callV (nc2 := 0) (ns2 := 0) (ci := 1) (As := [.long (gJ ((P) * ((ld hp (fw)) ^ (dgi hp (fu)).toNat % (p : Int))))]) (st := []) rfl dX2_resultant_165 okX1_mod lX2_111 itX1_mod seX1_mod rfl cg_lg_1 (by decide) (by decide) rfl (Nat.le_of_ble_eq_true rfl) (sX1_mod N _ (B + 1) (p : Int) ((P) * ((ld hp (fw)) ^ (dgi hp (fu)).toNat % (p : Int))) bx (by omega) (by omega) cg_lg_1) (by omega) (by omega) (fun v349 hc349 q349 => ?_)
        obtain ⟨hq350, rfl⟩ := q349
        rw [gMod_em (show (0 : Int) < p by omega)]
        refine Go.nf (h' := hlg) (st' := [.long (gJ (((P) * ((ld hp (fw)) ^ (dgi hp (fu)).toNat % (p : Int))) % (p : Int)))]) hq350 rfl (Nat.le_refl _) (Nat.le_refl _) ?_
        exact g_lret dX2_resultant_168 rfl ⟨by
      letI := fR hp
      rw [rsE_c hp _ (by omega)] at hR
      have e9 : (((P) * ((ld hp (fw)) ^ (dgi hp (fu)).toNat % (p : Int))) % (p : Int) : Int) = fv (rsE hp 85 fa fb) := by
        rw [← hR, ← zi_val hp, zi_mul, zi_mod, zi_pw]
        rfl
      rw [e9], (fr_lg).mo (sub_c (List.Mem.tail _ (List.Mem.head _)) (sub_c (List.Mem.tail _ (List.Mem.tail _ (List.Mem.head _))) (sub_c (List.Mem.tail _ (List.Mem.tail _ (List.Mem.tail _ (List.Mem.head _)))) sub_n))), (PW.upd hw fr_lg (out8_c (by omega) (out8_c (by omega) (out8_c (by omega) out8_n))) (pl_all (Or.inl (Ai.c (show AP (B + 8) (B + 10) by unfold AP; omega) (Ai.c (show AP (B + 8) (B + 12) by unfold AP; omega) (Ai.c (show AP (B + 8) (B + 14) by unfold AP; omega) (Ai.n _))))) (Or.inr cr_lg_0) (Or.inr (cr_lg_2).ra) (Or.inr (cr_lg_1).ra) (Or.inl (Ai.c (show AP (B + 16) (B + 10) by unfold AP; omega) (Ai.c (show AP (B + 16) (B + 12) by unfold AP; omega) (Ai.c (show AP (B + 16) (B + 14) by unfold AP; omega) (Ai.n _))))) (Or.inl (Ai.c (show AP (B + 18) (B + 10) by unfold AP; omega) (Ai.c (show AP (B + 18) (B + 12) by unfold AP; omega) (Ai.c (show AP (B + 18) (B + 14) by unfold AP; omega) (Ai.n _))))) (Or.inl (Ai.c (show AP (B + 20) (B + 10) by unfold AP; omega) (Ai.c (show AP (B + 20) (B + 12) by unfold AP; omega) (Ai.c (show AP (B + 20) (B + 14) by unfold AP; omega) (Ai.n _))))) (Or.inl (Ai.c (show AP (B + 22) (B + 10) by unfold AP; omega) (Ai.c (show AP (B + 22) (B + 12) by unfold AP; omega) (Ai.c (show AP (B + 22) (B + 14) by unfold AP; omega) (Ai.n _)))))))⟩
      · skip
        refine g_aload 2 dX2_resultant_35 rfl ?_
        refine g_getf 1 dX2_resultant_37 kX5 (by decide) fX2_45 (cr_lg_2).o rfl ?_
        refine g_if_le (tgt := 142) dX2_resultant_40 rfl (by first | exact hwb | (unfold gW; omega)) (fun c351 => ?_) (fun c351 => ?_)
        · skip
          refine g_aload_n 4 dX2_resultant_142 rfl ?_
          refine g_getf 0 dX2_resultant_143 kX2 (by decide) fX2_41 cg_lg_0 rfl ?_
          refine g_lload 1 dX2_resultant_146 rfl ?_
          refine g_aload_n 4 dX2_resultant_148 rfl ?_
          refine g_getf 0 dX2_resultant_149 kX2 (by decide) fX2_41 cg_lg_0 rfl ?_
          refine g_aload 2 dX2_resultant_152 rfl ?_
          refine g_callV (nc2 := 0) (ns2 := 0) (ci := 5) (As := []) (st := [.ref (B + 1), .long (gJ (P)), .ref (B + 1)]) rfl dX2_resultant_154 okX5_leading lX2_79 itX5_leading seX5_leading rfl (cr_lg_2).o (by decide) (by decide) rfl (Nat.le_of_ble_eq_true rfl) (sP_leading N _ (B + 12) 84 p hp (fw) cr_lg_2) (by omega) (by omega) (fun v352 hc352 q352 => ?_)
          obtain ⟨hq353, rfl⟩ := q352
          refine Go.nf (h' := hlg) (st' := [.long (gJ (ld hp (fw))), .ref (B + 1), .long (gJ (P)), .ref (B + 1)]) hq353 rfl (Nat.le_refl _) (Nat.le_refl _) ?_
          refine g_aload_n 3 dX2_resultant_157 rfl ?_
          refine g_getf 1 dX2_resultant_158 kX5 (by decide) fX2_45 (cr_lg_1).o rfl ?_
          refine g_callV (nc2 := 0) (ns2 := 0) (ci := 1) (As := [.long (gJ (ld hp (fw))), .int (gI (dgi hp (fu)))]) (st := [.long (gJ (P)), .ref (B + 1)]) rfl dX2_resultant_161 okX1_raise lX2_66 itX1_raise seX1_raise rfl cg_lg_1 (by decide) (by decide) rfl (Nat.le_of_ble_eq_true rfl) (sX1_raise N _ (B + 1) (p : Int) (ld hp (fw)) (dgi hp (fu)) (by omega) (by omega) (by omega) (by omega) (by omega) (by unfold gW; omega) cg_lg_1) (by omega) (by omega) (fun v354 hc354 q354 => ?_)
          obtain ⟨hq355, rfl⟩ := q354
          refine Go.nf (h' := hlg) (st' := [.long (gJ ((ld hp (fw)) ^ (dgi hp (fu)).toNat % (p : Int))), .long (gJ (P)), .ref (B + 1)]) hq355 rfl (Nat.le_refl _) (Nat.le_refl _) ?_
          have hrb := em_in hp (ld hp fw ^ (dgi hp fu).toNat)
          have bx : gX (P * ((ld hp (fw)) ^ (dgi hp (fu)).toNat % (p : Int))) := by have := g_prod hPb.1 hPb.2 hrb.1 hrb.2 (show (p : Int) ≤ 65536 by omega); unfold gX; omega
          refine g_lmul dX2_resultant_164 ?_
          refine g_callV (nc2 := 0) (ns2 := 0) (ci := 1) (As := [.long (gJ ((P) * ((ld hp (fw)) ^ (dgi hp (fu)).toNat % (p : Int))))]) (st := []) rfl dX2_resultant_165 okX1_mod lX2_111 itX1_mod seX1_mod rfl cg_lg_1 (by decide) (by decide) rfl (Nat.le_of_ble_eq_true rfl) (sX1_mod N _ (B + 1) (p : Int) ((P) * ((ld hp (fw)) ^ (dgi hp (fu)).toNat % (p : Int))) bx (by omega) (by omega) cg_lg_1) (by omega) (by omega) (fun v356 hc356 q356 => ?_)
          obtain ⟨hq357, rfl⟩ := q356
          rw [gMod_em (show (0 : Int) < p by omega)]
          refine Go.nf (h' := hlg) (st' := [.long (gJ (((P) * ((ld hp (fw)) ^ (dgi hp (fu)).toNat % (p : Int))) % (p : Int)))]) hq357 rfl (Nat.le_refl _) (Nat.le_refl _) ?_
          exact g_lret dX2_resultant_168 rfl ⟨by
      letI := fR hp
      rw [rsE_c hp _ (by omega)] at hR
      have e9 : (((P) * ((ld hp (fw)) ^ (dgi hp (fu)).toNat % (p : Int))) % (p : Int) : Int) = fv (rsE hp 85 fa fb) := by
        rw [← hR, ← zi_val hp, zi_mul, zi_mod, zi_pw]
        rfl
      rw [e9], (fr_lg).mo (sub_c (List.Mem.tail _ (List.Mem.head _)) (sub_c (List.Mem.tail _ (List.Mem.tail _ (List.Mem.head _))) (sub_c (List.Mem.tail _ (List.Mem.tail _ (List.Mem.tail _ (List.Mem.head _)))) sub_n))), (PW.upd hw fr_lg (out8_c (by omega) (out8_c (by omega) (out8_c (by omega) out8_n))) (pl_all (Or.inl (Ai.c (show AP (B + 8) (B + 10) by unfold AP; omega) (Ai.c (show AP (B + 8) (B + 12) by unfold AP; omega) (Ai.c (show AP (B + 8) (B + 14) by unfold AP; omega) (Ai.n _))))) (Or.inr cr_lg_0) (Or.inr (cr_lg_2).ra) (Or.inr (cr_lg_1).ra) (Or.inl (Ai.c (show AP (B + 16) (B + 10) by unfold AP; omega) (Ai.c (show AP (B + 16) (B + 12) by unfold AP; omega) (Ai.c (show AP (B + 16) (B + 14) by unfold AP; omega) (Ai.n _))))) (Or.inl (Ai.c (show AP (B + 18) (B + 10) by unfold AP; omega) (Ai.c (show AP (B + 18) (B + 12) by unfold AP; omega) (Ai.c (show AP (B + 18) (B + 14) by unfold AP; omega) (Ai.n _))))) (Or.inl (Ai.c (show AP (B + 20) (B + 10) by unfold AP; omega) (Ai.c (show AP (B + 20) (B + 12) by unfold AP; omega) (Ai.c (show AP (B + 20) (B + 14) by unfold AP; omega) (Ai.n _))))) (Or.inl (Ai.c (show AP (B + 22) (B + 10) by unfold AP; omega) (Ai.c (show AP (B + 22) (B + 12) by unfold AP; omega) (Ai.c (show AP (B + 22) (B + 14) by unfold AP; omega) (Ai.n _)))))))⟩
        · skip
          refine g_aload_n 3 dX2_resultant_43 rfl ?_
          refine g_getf 1 dX2_resultant_44 kX5 (by decide) fX2_45 (cr_lg_1).o rfl ?_
          refine g_istore (ls2 := [(8, .int (gI (dgi hp (fu)))), (7, .int (gI (turn))), (5, .long (gJ (P))), (4, .ref (B + 12)), (3, .ref (B + 14)), (0, .ref (B + 7)), (1, .ref (a)), (2, .ref (b))]) dX2_resultant_47 (by decide) rfl ?_
          refine g_iload 0 dX2_resultant_49 rfl ?_
          refine g_aload 3 dX2_resultant_51 rfl ?_
          refine g_getf 1 dX2_resultant_53 kX5 (by decide) fX2_45 (cr_lg_2).o rfl ?_
          refine g_iand dX2_resultant_56 ?_
          refine g_iconst dX2_resultant_57 ?_
          refine g_iand dX2_resultant_58 ?_
          rw [gAnd2 (by omega) (by omega) (by omega) (by omega)]
          have hwb : gW (if dgi hp fu % 2 = 1 ∧ dgi hp fw % 2 = 1 then 1 else 0) := by unfold gW; split <;> omega
          refine g_iconst dX2_resultant_59 ?_
          refine g_icmp_ne (tgt := 75) dX2_resultant_60 rfl (by first | exact hwb | (unfold gW; omega)) (by first | exact hwb | (unfold gW; omega)) (fun c358 => ?_) (fun c358 => ?_)
          · skip
            have hod : ¬ (dgi hp fu % 2 = 1 ∧ dgi hp fw % 2 = 1) := fun z => c358 (if_pos z)
            clear c358
            refine g_aload_n 5 dX2_resultant_75 rfl ?_
            refine g_aload_n 4 dX2_resultant_76 rfl ?_
            refine g_aload 3 dX2_resultant_77 rfl ?_
            refine g_aload_n 5 dX2_resultant_79 rfl ?_
            refine g_getf 2 dX2_resultant_80 kX2 (by decide) fX2_20 cg_lg_0 rfl ?_
            refine g_callV (nc2 := 0) (ns2 := 0) (ci := 2) (As := [.ref (B + 14), .ref (B + 12), .ref (B + 10)]) (st := []) rfl dX2_resultant_83 okX2_reduce lX2_87 itX2_reduce seX2_reduce rfl cg_lg_0 (by decide) (by decide) rfl (Nat.le_of_ble_eq_true rfl) (sP_reduce N _ B (B + 14) (B + 12) (B + 10) 84 84 84 p hp hp2 (dgi hp (fu)) ((p : Int)) (fu) (fw) (by omega) cg_lg_0 cg_lg_1 (cr_lg_1).ru cr_lg_2 cr_lg_0 (by omega) (by omega) (show AP (B + 14) (B + 12) by unfold AP; omega) (show AP (B + 14) (B + 10) by unfold AP; omega) (show AP (B + 12) (B + 10) by unfold AP; omega) (by omega) (by omega) (by omega)) (by omega) (by omega) (fun v359 hc359 q359 => ?_)
            obtain ⟨rfl, frc360, rn360_0, rn360_1⟩ := q359
            have fk361_0 : hc359.2 (B + 7) = some (oB 2 [.ref (B + 1), .ref (B + 8), .ref (B + 10), .ref (B + 12), .ref (B + 14), .ref (B + 16), .ref (B + 18), .ref (B + 20), .ref (B + 22)]) := Fr.at0 frc360 (Ni.c ⟨(show NE (B + 7) (B + 14) by unfold NE; omega), (show NE (B + 7) (B + 15) by unfold NE; omega)⟩ (Ni.c ⟨(show NE (B + 7) (B + 10) by unfold NE; omega), (show NE (B + 7) (B + 11) by unfold NE; omega)⟩ (Ni.n _))) cg_lg_0
            have fk361_1 : hc359.2 (B + 1) = some (oB 1 [.int (gI ((p : Int)))]) := Fr.at0 frc360 (Ni.c ⟨(show NE (B + 1) (B + 14) by unfold NE; omega), (show NE (B + 1) (B + 15) by unfold NE; omega)⟩ (Ni.c ⟨(show NE (B + 1) (B + 10) by unfold NE; omega), (show NE (B + 1) (B + 11) by unfold NE; omega)⟩ (Ni.n _))) cg_lg_1
            have rk361_2 : RP hp 84 hc359 (B + 12) (fw) := (cr_lg_2).fr frc360 (Ai.c (show AP (B + 12) (B + 14) by unfold AP; omega) (Ai.c (show AP (B + 12) (B + 10) by unfold AP; omega) (Ai.n _)))
            have fr361 : Fr [B + 10, B + 12, B + 14] h hc359 := (fr_lg).tr ((frc360).mo (sub_c (List.Mem.tail _ (List.Mem.tail _ (List.Mem.head _))) (sub_c (List.Mem.head _) sub_n)))
            refine Go.nf (h' := hc359) (st' := []) rfl rfl (Nat.le_refl _) (Nat.le_refl _) ?_
            have hrl := rm_lt hp hpu hpv hv0
            have hrg := dgi_ge hp (rm_po hp hpu hpv hv0)
            have hre := rm_le hp hpu hpv hv0
            have hfu : (85 - turn).toNat = (84 - turn).toNat + 1 := by omega
            refine g_aload_n 4 dX2_resultant_86 rfl ?_
            refine g_getf 1 dX2_resultant_87 kX5 (by decide) fX2_45 (rn360_0).o rfl ?_
            refine g_if_ge (tgt := 95) dX2_resultant_90 rfl (by first | exact hwb | (unfold gW; omega)) (fun c362 => ?_) (fun c362 => ?_)
            · skip
              refine g_aload_n 5 dX2_resultant_95 rfl ?_
              refine g_getf 0 dX2_resultant_96 kX2 (by decide) fX2_41 fk361_0 rfl ?_
              refine g_lload 2 dX2_resultant_99 rfl ?_
              refine g_aload_n 5 dX2_resultant_101 rfl ?_
              refine g_getf 0 dX2_resultant_102 kX2 (by decide) fX2_41 fk361_0 rfl ?_
              refine g_aload 3 dX2_resultant_105 rfl ?_
              refine g_callV (nc2 := 0) (ns2 := 0) (ci := 5) (As := []) (st := [.ref (B + 1), .long (gJ (P)), .ref (B + 1)]) rfl dX2_resultant_107 okX5_leading lX2_79 itX5_leading seX5_leading rfl (rk361_2).o (by decide) (by decide) rfl (Nat.le_of_ble_eq_true rfl) (sP_leading N _ (B + 12) 84 p hp (fw) rk361_2) (by omega) (by omega) (fun v363 hc363 q363 => ?_)
              obtain ⟨hq364, rfl⟩ := q363
              refine Go.nf (h' := hc359) (st' := [.long (gJ (ld hp (fw))), .ref (B + 1), .long (gJ (P)), .ref (B + 1)]) hq364 rfl (Nat.le_refl _) (Nat.le_refl _) ?_
              refine g_iload 0 dX2_resultant_110 rfl ?_
              refine g_aload_n 4 dX2_resultant_112 rfl ?_
              refine g_getf 1 dX2_resultant_113 kX5 (by decide) fX2_45 (rn360_0).o rfl ?_
              refine g_isub dX2_resultant_116 ?_
              refine g_callV (nc2 := 0) (ns2 := 0) (ci := 1) (As := [.long (gJ (ld hp (fw))), .int (gI ((dgi hp (fu)) - (dgi hp (rm hp (fu) (fw)))))]) (st := [.long (gJ (P)), .ref (B + 1)]) rfl dX2_resultant_117 okX1_raise lX2_66 itX1_raise seX1_raise rfl fk361_1 (by decide) (by decide) rfl (Nat.le_of_ble_eq_true rfl) (sX1_raise N _ (B + 1) (p : Int) (ld hp (fw)) ((dgi hp (fu)) - (dgi hp (rm hp (fu) (fw)))) (by omega) (by omega) (by omega) (by omega) (by omega) (by unfold gW; omega) fk361_1) (by omega) (by omega) (fun v365 hc365 q365 => ?_)
              obtain ⟨hq366, rfl⟩ := q365
              refine Go.nf (h' := hc359) (st' := [.long (gJ ((ld hp (fw)) ^ ((dgi hp (fu)) - (dgi hp (rm hp (fu) (fw)))).toNat % (p : Int))), .long (gJ (P)), .ref (B + 1)]) hq366 rfl (Nat.le_refl _) (Nat.le_refl _) ?_
              have hpb : 0 ≤ (P) ∧ (P) < p := hPb
              have hrb := em_in hp (ld hp fw ^ (dgi hp fu - dgi hp (rm hp fu fw)).toNat)
              have bx : gX ((P) * ((ld hp (fw)) ^ ((dgi hp (fu)) - (dgi hp (rm hp (fu) (fw)))).toNat % (p : Int))) := by have := g_prod hpb.1 hpb.2 hrb.1 hrb.2 (show (p : Int) ≤ 65536 by omega); unfold gX; omega
              refine g_lmul dX2_resultant_120 ?_
              refine g_callV (nc2 := 0) (ns2 := 0) (ci := 1) (As := [.long (gJ ((P) * ((ld hp (fw)) ^ ((dgi hp (fu)) - (dgi hp (rm hp (fu) (fw)))).toNat % (p : Int))))]) (st := []) rfl dX2_resultant_121 okX1_mod lX2_111 itX1_mod seX1_mod rfl fk361_1 (by decide) (by decide) rfl (Nat.le_of_ble_eq_true rfl) (sX1_mod N _ (B + 1) (p : Int) ((P) * ((ld hp (fw)) ^ ((dgi hp (fu)) - (dgi hp (rm hp (fu) (fw)))).toNat % (p : Int))) bx (by omega) (by omega) fk361_1) (by omega) (by omega) (fun v367 hc367 q367 => ?_)
              obtain ⟨hq368, rfl⟩ := q367
              rw [gMod_em (show (0 : Int) < p by omega)]
              refine Go.nf (h' := hc359) (st' := [.long (gJ (((P) * ((ld hp (fw)) ^ ((dgi hp (fu)) - (dgi hp (rm hp (fu) (fw)))).toNat % (p : Int))) % (p : Int)))]) hq368 rfl (Nat.le_refl _) (Nat.le_refl _) ?_
              refine g_lstore (ls2 := [(5, .long (gJ (((P) * ((ld hp (fw)) ^ ((dgi hp (fu)) - (dgi hp (rm hp (fu) (fw)))).toNat % (p : Int))) % (p : Int)))), (8, .int (gI (dgi hp (fu)))), (7, .int (gI (turn))), (4, .ref (B + 12)), (3, .ref (B + 14)), (0, .ref (B + 7)), (1, .ref (a)), (2, .ref (b))]) dX2_resultant_124 (by decide) rfl ?_
              refine g_aload_n 4 dX2_resultant_126 rfl ?_
              refine g_astore (ls2 := [(9, .ref (B + 14)), (5, .long (gJ (((P) * ((ld hp (fw)) ^ ((dgi hp (fu)) - (dgi hp (rm hp (fu) (fw)))).toNat % (p : Int))) % (p : Int)))), (8, .int (gI (dgi hp (fu)))), (7, .int (gI (turn))), (4, .ref (B + 12)), (3, .ref (B + 14)), (0, .ref (B + 7)), (1, .ref (a)), (2, .ref (b))]) dX2_resultant_127 (by decide) rfl ?_
              refine g_aload 4 dX2_resultant_129 rfl ?_
              refine g_astore_n (ls2 := [(3, .ref (B + 12)), (9, .ref (B + 14)), (5, .long (gJ (((P) * ((ld hp (fw)) ^ ((dgi hp (fu)) - (dgi hp (rm hp (fu) (fw)))).toNat % (p : Int))) % (p : Int)))), (8, .int (gI (dgi hp (fu)))), (7, .int (gI (turn))), (4, .ref (B + 12)), (0, .ref (B + 7)), (1, .ref (a)), (2, .ref (b))]) dX2_resultant_131 rfl (by decide) rfl ?_
              refine g_aload 1 dX2_resultant_132 rfl ?_
              refine g_astore (ls2 := [(4, .ref (B + 14)), (3, .ref (B + 12)), (9, .ref (B + 14)), (5, .long (gJ (((P) * ((ld hp (fw)) ^ ((dgi hp (fu)) - (dgi hp (rm hp (fu) (fw)))).toNat % (p : Int))) % (p : Int)))), (8, .int (gI (dgi hp (fu)))), (7, .int (gI (turn))), (0, .ref (B + 7)), (1, .ref (a)), (2, .ref (b))]) dX2_resultant_134 (by decide) rfl ?_
              refine g_iinc 5 (ls2 := [(7, .int (gI (turn + 1))), (4, .ref (B + 14)), (3, .ref (B + 12)), (9, .ref (B + 14)), (5, .long (gJ (((P) * ((ld hp (fw)) ^ ((dgi hp (fu)) - (dgi hp (rm hp (fu) (fw)))).toNat % (p : Int))) % (p : Int)))), (8, .int (gI (dgi hp (fu)))), (0, .ref (B + 7)), (1, .ref (a)), (2, .ref (b))]) dX2_resultant_136 rfl (by decide) rfl ?_
              refine g_goto (tgt := 28) dX2_resultant_139 rfl ?_
              refine Go.sub [0, 4, 1, 2, 6, 7, 8] rfl ?_
              exact ih_lg _ (by omega) (turn + 1) (fw) (rm hp fu fw) (((P) * ((ld hp (fw)) ^ ((dgi hp (fu)) - (dgi hp (rm hp (fu) (fw)))).toNat % (p : Int))) % (p : Int)) (B + 12) (B + 14) hc359 rfl fr361 (rn360_1).ra rk361_2 rn360_0 (by omega) (by omega) (em_in hp _) (by omega) (by
        letI := fR hp
        rw [hfu, rsE, if_neg (by omega), if_neg (by omega)] at hR
        rw [show (85 - (turn + 1)).toNat = (84 - turn).toNat by omega, ← hR, zi_mod, zi_mul, zi_mod, zi_pw]
        show zi hp P * ldF hp fw ^ _ * _ = _
        rw [if_neg hod]
        generalize rsE hp (84 - turn).toNat fw (rm hp fu fw) = z1
        generalize ldF hp fw ^ (dgi hp fu - dgi hp (rm hp fu fw)).toNat = z2
        generalize zi hp P = z3
        grind) (Or.inl ⟨rfl, rfl⟩)
            · skip
              refine g_lconst0 dX2_resultant_93 ?_
              exact g_lret dX2_resultant_94 rfl ⟨by
      letI := fR hp
      rw [hfu, rsE, if_neg (by omega), if_pos (by omega)] at hR
      have e9 : zi hp P * 0 = 0 := by grind
      rw [e9] at hR
      rw [← hR, f_zero hp], (fr361).mo (sub_c (List.Mem.tail _ (List.Mem.head _)) (sub_c (List.Mem.tail _ (List.Mem.tail _ (List.Mem.head _))) (sub_c (List.Mem.tail _ (List.Mem.tail _ (List.Mem.tail _ (List.Mem.head _)))) sub_n))), (PW.upd hw fr361 (out8_c (by omega) (out8_c (by omega) (out8_c (by omega) out8_n))) (pl_all (Or.inl (Ai.c (show AP (B + 8) (B + 10) by unfold AP; omega) (Ai.c (show AP (B + 8) (B + 12) by unfold AP; omega) (Ai.c (show AP (B + 8) (B + 14) by unfold AP; omega) (Ai.n _))))) (Or.inr (rn360_1).ra) (Or.inr (rk361_2).ra) (Or.inr (rn360_0).ra) (Or.inl (Ai.c (show AP (B + 16) (B + 10) by unfold AP; omega) (Ai.c (show AP (B + 16) (B + 12) by unfold AP; omega) (Ai.c (show AP (B + 16) (B + 14) by unfold AP; omega) (Ai.n _))))) (Or.inl (Ai.c (show AP (B + 18) (B + 10) by unfold AP; omega) (Ai.c (show AP (B + 18) (B + 12) by unfold AP; omega) (Ai.c (show AP (B + 18) (B + 14) by unfold AP; omega) (Ai.n _))))) (Or.inl (Ai.c (show AP (B + 20) (B + 10) by unfold AP; omega) (Ai.c (show AP (B + 20) (B + 12) by unfold AP; omega) (Ai.c (show AP (B + 20) (B + 14) by unfold AP; omega) (Ai.n _))))) (Or.inl (Ai.c (show AP (B + 22) (B + 10) by unfold AP; omega) (Ai.c (show AP (B + 22) (B + 12) by unfold AP; omega) (Ai.c (show AP (B + 22) (B + 14) by unfold AP; omega) (Ai.n _)))))))⟩
          · skip
            have hod : dgi hp fu % 2 = 1 ∧ dgi hp fw % 2 = 1 := by
              by_cases z : dgi hp fu % 2 = 1 ∧ dgi hp fw % 2 = 1
              · exact z
              · rw [if_neg z] at c358; omega
            clear c358
            refine g_aload_n 5 dX2_resultant_63 rfl ?_
            refine g_getf 0 dX2_resultant_64 kX2 (by decide) fX2_41 cg_lg_0 rfl ?_
            refine g_lload 2 dX2_resultant_67 rfl ?_
            refine g_lneg dX2_resultant_69 ?_
            refine g_callV (nc2 := 0) (ns2 := 0) (ci := 1) (As := [.long (gJ (-(P)))]) (st := []) rfl dX2_resultant_70 okX1_mod lX2_111 itX1_mod seX1_mod rfl cg_lg_1 (by decide) (by decide) rfl (Nat.le_of_ble_eq_true rfl) (sX1_mod N _ (B + 1) (p : Int) (-(P)) (by unfold gX; omega) (by omega) (by omega) cg_lg_1) (by omega) (by omega) (fun v369 hc369 q369 => ?_)
            obtain ⟨hq370, rfl⟩ := q369
            rw [gMod_em (show (0 : Int) < p by omega)]
            refine Go.nf (h' := hlg) (st' := [.long (gJ ((-(P)) % (p : Int)))]) hq370 rfl (Nat.le_refl _) (Nat.le_refl _) ?_
            refine g_lstore (ls2 := [(5, .long (gJ ((-(P)) % (p : Int)))), (8, .int (gI (dgi hp (fu)))), (7, .int (gI (turn))), (4, .ref (B + 12)), (3, .ref (B + 14)), (0, .ref (B + 7)), (1, .ref (a)), (2, .ref (b))]) dX2_resultant_73 (by decide) rfl ?_
            refine g_aload_n 5 dX2_resultant_75 rfl ?_
            refine g_aload_n 4 dX2_resultant_76 rfl ?_
            refine g_aload 3 dX2_resultant_77 rfl ?_
            refine g_aload_n 5 dX2_resultant_79 rfl ?_
            refine g_getf 2 dX2_resultant_80 kX2 (by decide) fX2_20 cg_lg_0 rfl ?_
            refine g_callV (nc2 := 0) (ns2 := 0) (ci := 2) (As := [.ref (B + 14), .ref (B + 12), .ref (B + 10)]) (st := []) rfl dX2_resultant_83 okX2_reduce lX2_87 itX2_reduce seX2_reduce rfl cg_lg_0 (by decide) (by decide) rfl (Nat.le_of_ble_eq_true rfl) (sP_reduce N _ B (B + 14) (B + 12) (B + 10) 84 84 84 p hp hp2 (dgi hp (fu)) ((p : Int)) (fu) (fw) (by omega) cg_lg_0 cg_lg_1 (cr_lg_1).ru cr_lg_2 cr_lg_0 (by omega) (by omega) (show AP (B + 14) (B + 12) by unfold AP; omega) (show AP (B + 14) (B + 10) by unfold AP; omega) (show AP (B + 12) (B + 10) by unfold AP; omega) (by omega) (by omega) (by omega)) (by omega) (by omega) (fun v371 hc371 q371 => ?_)
            obtain ⟨rfl, frc372, rn372_0, rn372_1⟩ := q371
            have fk373_0 : hc371.2 (B + 7) = some (oB 2 [.ref (B + 1), .ref (B + 8), .ref (B + 10), .ref (B + 12), .ref (B + 14), .ref (B + 16), .ref (B + 18), .ref (B + 20), .ref (B + 22)]) := Fr.at0 frc372 (Ni.c ⟨(show NE (B + 7) (B + 14) by unfold NE; omega), (show NE (B + 7) (B + 15) by unfold NE; omega)⟩ (Ni.c ⟨(show NE (B + 7) (B + 10) by unfold NE; omega), (show NE (B + 7) (B + 11) by unfold NE; omega)⟩ (Ni.n _))) cg_lg_0
            have fk373_1 : hc371.2 (B + 1) = some (oB 1 [.int (gI ((p : Int)))]) := Fr.at0 frc372 (Ni.c ⟨(show NE (B + 1) (B + 14) by unfold NE; omega), (show NE (B + 1) (B + 15) by unfold NE; omega)⟩ (Ni.c ⟨(show NE (B + 1) (B + 10) by unfold NE; omega), (show NE (B + 1) (B + 11) by unfold NE; omega)⟩ (Ni.n _))) cg_lg_1
            have rk373_2 : RP hp 84 hc371 (B + 12) (fw) := (cr_lg_2).fr frc372 (Ai.c (show AP (B + 12) (B + 14) by unfold AP; omega) (Ai.c (show AP (B + 12) (B + 10) by unfold AP; omega) (Ai.n _)))
            have fr373 : Fr [B + 10, B + 12, B + 14] h hc371 := (fr_lg).tr ((frc372).mo (sub_c (List.Mem.tail _ (List.Mem.tail _ (List.Mem.head _))) (sub_c (List.Mem.head _) sub_n)))
            refine Go.nf (h' := hc371) (st' := []) rfl rfl (Nat.le_refl _) (Nat.le_refl _) ?_
            have hrl := rm_lt hp hpu hpv hv0
            have hrg := dgi_ge hp (rm_po hp hpu hpv hv0)
            have hre := rm_le hp hpu hpv hv0
            have hfu : (85 - turn).toNat = (84 - turn).toNat + 1 := by omega
            refine g_aload_n 4 dX2_resultant_86 rfl ?_
            refine g_getf 1 dX2_resultant_87 kX5 (by decide) fX2_45 (rn372_0).o rfl ?_
            refine g_if_ge (tgt := 95) dX2_resultant_90 rfl (by first | exact hwb | (unfold gW; omega)) (fun c374 => ?_) (fun c374 => ?_)
            · skip
              refine g_aload_n 5 dX2_resultant_95 rfl ?_
              refine g_getf 0 dX2_resultant_96 kX2 (by decide) fX2_41 fk373_0 rfl ?_
              refine g_lload 0 dX2_resultant_99 rfl ?_
              refine g_aload_n 5 dX2_resultant_101 rfl ?_
              refine g_getf 0 dX2_resultant_102 kX2 (by decide) fX2_41 fk373_0 rfl ?_
              refine g_aload 3 dX2_resultant_105 rfl ?_
              refine g_callV (nc2 := 0) (ns2 := 0) (ci := 5) (As := []) (st := [.ref (B + 1), .long (gJ ((-(P)) % (p : Int))), .ref (B + 1)]) rfl dX2_resultant_107 okX5_leading lX2_79 itX5_leading seX5_leading rfl (rk373_2).o (by decide) (by decide) rfl (Nat.le_of_ble_eq_true rfl) (sP_leading N _ (B + 12) 84 p hp (fw) rk373_2) (by omega) (by omega) (fun v375 hc375 q375 => ?_)
              obtain ⟨hq376, rfl⟩ := q375
              refine Go.nf (h' := hc371) (st' := [.long (gJ (ld hp (fw))), .ref (B + 1), .long (gJ ((-(P)) % (p : Int))), .ref (B + 1)]) hq376 rfl (Nat.le_refl _) (Nat.le_refl _) ?_
              refine g_iload 1 dX2_resultant_110 rfl ?_
              refine g_aload_n 4 dX2_resultant_112 rfl ?_
              refine g_getf 1 dX2_resultant_113 kX5 (by decide) fX2_45 (rn372_0).o rfl ?_
              refine g_isub dX2_resultant_116 ?_
              refine g_callV (nc2 := 0) (ns2 := 0) (ci := 1) (As := [.long (gJ (ld hp (fw))), .int (gI ((dgi hp (fu)) - (dgi hp (rm hp (fu) (fw)))))]) (st := [.long (gJ ((-(P)) % (p : Int))), .ref (B + 1)]) rfl dX2_resultant_117 okX1_raise lX2_66 itX1_raise seX1_raise rfl fk373_1 (by decide) (by decide) rfl (Nat.le_of_ble_eq_true rfl) (sX1_raise N _ (B + 1) (p : Int) (ld hp (fw)) ((dgi hp (fu)) - (dgi hp (rm hp (fu) (fw)))) (by omega) (by omega) (by omega) (by omega) (by omega) (by unfold gW; omega) fk373_1) (by omega) (by omega) (fun v377 hc377 q377 => ?_)
              obtain ⟨hq378, rfl⟩ := q377
              refine Go.nf (h' := hc371) (st' := [.long (gJ ((ld hp (fw)) ^ ((dgi hp (fu)) - (dgi hp (rm hp (fu) (fw)))).toNat % (p : Int))), .long (gJ ((-(P)) % (p : Int))), .ref (B + 1)]) hq378 rfl (Nat.le_refl _) (Nat.le_refl _) ?_
              have hpb : 0 ≤ ((-(P)) % (p : Int)) ∧ ((-(P)) % (p : Int)) < p := em_in hp _
              have hrb := em_in hp (ld hp fw ^ (dgi hp fu - dgi hp (rm hp fu fw)).toNat)
              have bx : gX (((-(P)) % (p : Int)) * ((ld hp (fw)) ^ ((dgi hp (fu)) - (dgi hp (rm hp (fu) (fw)))).toNat % (p : Int))) := by have := g_prod hpb.1 hpb.2 hrb.1 hrb.2 (show (p : Int) ≤ 65536 by omega); unfold gX; omega
              refine g_lmul dX2_resultant_120 ?_
              refine g_callV (nc2 := 0) (ns2 := 0) (ci := 1) (As := [.long (gJ (((-(P)) % (p : Int)) * ((ld hp (fw)) ^ ((dgi hp (fu)) - (dgi hp (rm hp (fu) (fw)))).toNat % (p : Int))))]) (st := []) rfl dX2_resultant_121 okX1_mod lX2_111 itX1_mod seX1_mod rfl fk373_1 (by decide) (by decide) rfl (Nat.le_of_ble_eq_true rfl) (sX1_mod N _ (B + 1) (p : Int) (((-(P)) % (p : Int)) * ((ld hp (fw)) ^ ((dgi hp (fu)) - (dgi hp (rm hp (fu) (fw)))).toNat % (p : Int))) bx (by omega) (by omega) fk373_1) (by omega) (by omega) (fun v379 hc379 q379 => ?_)
              obtain ⟨hq380, rfl⟩ := q379
              rw [gMod_em (show (0 : Int) < p by omega)]
              refine Go.nf (h' := hc371) (st' := [.long (gJ ((((-(P)) % (p : Int)) * ((ld hp (fw)) ^ ((dgi hp (fu)) - (dgi hp (rm hp (fu) (fw)))).toNat % (p : Int))) % (p : Int)))]) hq380 rfl (Nat.le_refl _) (Nat.le_refl _) ?_
              refine g_lstore (ls2 := [(5, .long (gJ ((((-(P)) % (p : Int)) * ((ld hp (fw)) ^ ((dgi hp (fu)) - (dgi hp (rm hp (fu) (fw)))).toNat % (p : Int))) % (p : Int)))), (8, .int (gI (dgi hp (fu)))), (7, .int (gI (turn))), (4, .ref (B + 12)), (3, .ref (B + 14)), (0, .ref (B + 7)), (1, .ref (a)), (2, .ref (b))]) dX2_resultant_124 (by decide) rfl ?_
              refine g_aload_n 4 dX2_resultant_126 rfl ?_
              refine g_astore (ls2 := [(9, .ref (B + 14)), (5, .long (gJ ((((-(P)) % (p : Int)) * ((ld hp (fw)) ^ ((dgi hp (fu)) - (dgi hp (rm hp (fu) (fw)))).toNat % (p : Int))) % (p : Int)))), (8, .int (gI (dgi hp (fu)))), (7, .int (gI (turn))), (4, .ref (B + 12)), (3, .ref (B + 14)), (0, .ref (B + 7)), (1, .ref (a)), (2, .ref (b))]) dX2_resultant_127 (by decide) rfl ?_
              refine g_aload 4 dX2_resultant_129 rfl ?_
              refine g_astore_n (ls2 := [(3, .ref (B + 12)), (9, .ref (B + 14)), (5, .long (gJ ((((-(P)) % (p : Int)) * ((ld hp (fw)) ^ ((dgi hp (fu)) - (dgi hp (rm hp (fu) (fw)))).toNat % (p : Int))) % (p : Int)))), (8, .int (gI (dgi hp (fu)))), (7, .int (gI (turn))), (4, .ref (B + 12)), (0, .ref (B + 7)), (1, .ref (a)), (2, .ref (b))]) dX2_resultant_131 rfl (by decide) rfl ?_
              refine g_aload 1 dX2_resultant_132 rfl ?_
              refine g_astore (ls2 := [(4, .ref (B + 14)), (3, .ref (B + 12)), (9, .ref (B + 14)), (5, .long (gJ ((((-(P)) % (p : Int)) * ((ld hp (fw)) ^ ((dgi hp (fu)) - (dgi hp (rm hp (fu) (fw)))).toNat % (p : Int))) % (p : Int)))), (8, .int (gI (dgi hp (fu)))), (7, .int (gI (turn))), (0, .ref (B + 7)), (1, .ref (a)), (2, .ref (b))]) dX2_resultant_134 (by decide) rfl ?_
              refine g_iinc 5 (ls2 := [(7, .int (gI (turn + 1))), (4, .ref (B + 14)), (3, .ref (B + 12)), (9, .ref (B + 14)), (5, .long (gJ ((((-(P)) % (p : Int)) * ((ld hp (fw)) ^ ((dgi hp (fu)) - (dgi hp (rm hp (fu) (fw)))).toNat % (p : Int))) % (p : Int)))), (8, .int (gI (dgi hp (fu)))), (0, .ref (B + 7)), (1, .ref (a)), (2, .ref (b))]) dX2_resultant_136 rfl (by decide) rfl ?_
              refine g_goto (tgt := 28) dX2_resultant_139 rfl ?_
              refine Go.sub [0, 4, 1, 2, 6, 7, 8] rfl ?_
              exact ih_lg _ (by omega) (turn + 1) (fw) (rm hp fu fw) ((((-(P)) % (p : Int)) * ((ld hp (fw)) ^ ((dgi hp (fu)) - (dgi hp (rm hp (fu) (fw)))).toNat % (p : Int))) % (p : Int)) (B + 12) (B + 14) hc371 rfl fr373 (rn372_1).ra rk373_2 rn372_0 (by omega) (by omega) (em_in hp _) (by omega) (by
        letI := fR hp
        rw [hfu, rsE, if_neg (by omega), if_neg (by omega)] at hR
        rw [show (85 - (turn + 1)).toNat = (84 - turn).toNat by omega, ← hR, zi_mod, zi_mul, zi_mod, zi_mod, zi_pw, zi_neg]
        show (-zi hp P) * ldF hp fw ^ _ * _ = _
        rw [if_pos hod]
        generalize rsE hp (84 - turn).toNat fw (rm hp fu fw) = z1
        generalize ldF hp fw ^ (dgi hp fu - dgi hp (rm hp fu fw)).toNat = z2
        generalize zi hp P = z3
        grind) (Or.inl ⟨rfl, rfl⟩)
            · skip
              refine g_lconst0 dX2_resultant_93 ?_
              exact g_lret dX2_resultant_94 rfl ⟨by
      letI := fR hp
      rw [hfu, rsE, if_neg (by omega), if_pos (by omega)] at hR
      have e9 : zi hp P * 0 = 0 := by grind
      rw [e9] at hR
      rw [← hR, f_zero hp], (fr373).mo (sub_c (List.Mem.tail _ (List.Mem.head _)) (sub_c (List.Mem.tail _ (List.Mem.tail _ (List.Mem.head _))) (sub_c (List.Mem.tail _ (List.Mem.tail _ (List.Mem.tail _ (List.Mem.head _)))) sub_n))), (PW.upd hw fr373 (out8_c (by omega) (out8_c (by omega) (out8_c (by omega) out8_n))) (pl_all (Or.inl (Ai.c (show AP (B + 8) (B + 10) by unfold AP; omega) (Ai.c (show AP (B + 8) (B + 12) by unfold AP; omega) (Ai.c (show AP (B + 8) (B + 14) by unfold AP; omega) (Ai.n _))))) (Or.inr (rn372_1).ra) (Or.inr (rk373_2).ra) (Or.inr (rn372_0).ra) (Or.inl (Ai.c (show AP (B + 16) (B + 10) by unfold AP; omega) (Ai.c (show AP (B + 16) (B + 12) by unfold AP; omega) (Ai.c (show AP (B + 16) (B + 14) by unfold AP; omega) (Ai.n _))))) (Or.inl (Ai.c (show AP (B + 18) (B + 10) by unfold AP; omega) (Ai.c (show AP (B + 18) (B + 12) by unfold AP; omega) (Ai.c (show AP (B + 18) (B + 14) by unfold AP; omega) (Ai.n _))))) (Or.inl (Ai.c (show AP (B + 20) (B + 10) by unfold AP; omega) (Ai.c (show AP (B + 20) (B + 12) by unfold AP; omega) (Ai.c (show AP (B + 20) (B + 14) by unfold AP; omega) (Ai.n _))))) (Or.inl (Ai.c (show AP (B + 22) (B + 10) by unfold AP; omega) (Ai.c (show AP (B + 22) (B + 12) by unfold AP; omega) (Ai.c (show AP (B + 22) (B + 14) by unfold AP; omega) (Ai.n _)))))))⟩
  exact lg _ (0) (fa) (fb) (1) (B + 12) (B + 14) hc4 rfl fr6 rk6_2 rk6_4 rn5_0 (by omega) (by omega) (by omega) (by omega) (by
      letI := fR hp
      rw [zi_1 hp, show (85 - (0 : Int)).toNat = 85 from rfl]; grind) (Or.inl ⟨rfl, rfl⟩)
