section
variable {p : Nat}
theorem sP_mulMod (N : GN) (h : GH) (B a b m o p : Nat) (hp : prm p) (hp2 : p ≤ 65536) (fa fb fm : Px p) (hw : PW p B h) (ha : RP hp 84 h a fa) (hb : RP hp 84 h b fb) (hm : RP hp 84 h m fm) (ho : RA 84 h o) (hd : dgi hp fa + dgi hp fb < 84) (hdm : 0 ≤ dgi hp fm) (oa : B + 24 ≤ a) (ob : B + 24 ≤ b) (om : B + 24 ≤ m) (oo : B + 24 ≤ o) : Sp N yX2_multiplyModulo mX2_multiplyModulo 0 0 [.ref (B + 7), .ref (a), .ref (b), .ref (m), .ref (o)] h (fun v h1 => v = none ∧ Fr (o :: pl B) h h1 ∧ RP hp 84 h1 o (rm hp (pml hp fa fb) fm) ∧ PW p B h1) :=
  Sp.imp (sP_multiplyModulo N h B a b m o p hp hp2 fa fb fm hw.1 hw.2.1 ha hb hm ho hw.r8 hw.r10 hd hdm (by omega) (by omega) (by omega) (by omega)) (fun v h1 ⟨e, fr, r1, r8, r10⟩ => ⟨e, fr.mo (sub_c (List.Mem.head _) (sub_c (List.Mem.tail _ (List.Mem.head _)) (sub_c (List.Mem.tail _ (List.Mem.tail _ (List.Mem.head _))) sub_n))), r1, PW.upd hw fr (out8_c (by omega) (out8_c (by omega) (out8_c (by omega) out8_n))) (pl_all (Or.inr r8) (Or.inr r10) (Or.inl (Ai.c (by unfold AP; omega) (Ai.c (by unfold AP; omega) (Ai.c (by unfold AP; omega) (Ai.n _))))) (Or.inl (Ai.c (by unfold AP; omega) (Ai.c (by unfold AP; omega) (Ai.c (by unfold AP; omega) (Ai.n _))))) (Or.inl (Ai.c (by unfold AP; omega) (Ai.c (by unfold AP; omega) (Ai.c (by unfold AP; omega) (Ai.n _))))) (Or.inl (Ai.c (by unfold AP; omega) (Ai.c (by unfold AP; omega) (Ai.c (by unfold AP; omega) (Ai.n _))))) (Or.inl (Ai.c (by unfold AP; omega) (Ai.c (by unfold AP; omega) (Ai.c (by unfold AP; omega) (Ai.n _))))) (Or.inl (Ai.c (by unfold AP; omega) (Ai.c (by unfold AP; omega) (Ai.c (by unfold AP; omega) (Ai.n _))))))⟩)
/-- a grid that is filled by columns -/
def gfl (F : Int → Int → Int) (gg : Int → Int) (sz c r : Int) : Int → Int := fun t => if (t % sz < c ∧ 0 ≤ t / sz ∧ t / sz < sz) ∨ (t % sz = c ∧ 0 ≤ t / sz ∧ t / sz < r) then F (t / sz) (t % sz) else gg t
theorem ix_dm {sz r c : Int} (h0 : 0 ≤ c) (h1 : c < sz) : (r * sz + c) / sz = r ∧ (r * sz + c) % sz = c := by
  have hs : 0 < sz := by omega
  refine ⟨?_, ?_⟩
  · rw [Int.add_comm, Int.add_mul_ediv_right _ _ (by omega), Int.ediv_eq_zero_of_lt h0 h1]; omega
  · rw [Int.add_comm, Int.add_mul_emod_self_right, Int.emod_eq_of_lt h0 h1]
theorem gfl_0 (F : Int → Int → Int) (gg : Int → Int) {sz : Int} (hs : 0 < sz) : gfl F gg sz 0 0 = gg := funext fun t => by
  unfold gfl
  have := Int.emod_nonneg t (show sz ≠ 0 by omega)
  exact if_neg (by omega)
theorem gfl_s (F : Int → Int → Int) (gg : Int → Int) {sz c r : Int} (c0 : 0 ≤ c) (c1 : c < sz) (r0 : 0 ≤ r) (r1 : r < sz) : gup (gfl F gg sz c r) (r * sz + c) (F r c) = gfl F gg sz c (r + 1) := funext fun t => by
  unfold gup gfl
  obtain ⟨e1, e2⟩ := ix_dm (r := r) c0 c1
  by_cases z : t = r * sz + c
  · rw [if_pos z, z, e1, e2, if_pos (Or.inr ⟨rfl, r0, by omega⟩)]
  · rw [if_neg z]
    have hne : ¬ (t % sz = c ∧ t / sz = r) := fun q => z (by
      have := Int.mul_ediv_add_emod t sz
      rw [q.1, q.2, Int.mul_comm] at this; exact this.symm)
    by_cases y : (t % sz < c ∧ 0 ≤ t / sz ∧ t / sz < sz) ∨ (t % sz = c ∧ 0 ≤ t / sz ∧ t / sz < r)
    · rw [if_pos y, if_pos (by omega)]
    · rw [if_neg y, if_neg (by omega)]
theorem gfl_c (F : Int → Int → Int) (gg : Int → Int) (sz c : Int) : gfl F gg sz c sz = gfl F gg sz (c + 1) 0 := funext fun t => by
  unfold gfl
  by_cases y : (t % sz < c ∧ 0 ≤ t / sz ∧ t / sz < sz) ∨ (t % sz = c ∧ 0 ≤ t / sz ∧ t / sz < sz)
  · rw [if_pos y, if_pos (by omega)]
  · rw [if_neg y, if_neg (by omega)]
theorem gfl_at (F : Int → Int → Int) (gg : Int → Int) {sz i k : Int} (i0 : 0 ≤ i) (i1 : i < sz) (k0 : 0 ≤ k) (k1 : k < sz) : gfl F gg sz sz 0 (i * sz + k) = F i k := by
  unfold gfl
  obtain ⟨e1, e2⟩ := ix_dm (r := i) k0 k1
  rw [e1, e2]
  exact if_pos (Or.inl ⟨k1, i0, i1⟩)
/-- the grid's numbers -/
noncomputable def bgF (h : prm p) (w fr : Px p) (i k : Int) : Int := (cf (bcl h w fr k.toNat) i - (if i = k then 1 else 0)) % p
theorem bgF_bd (h : prm p) (w fr : Px p) (gg : Int → Int) (sz : Int) : gBd p (gfl (bgF h w fr) gg sz sz 0) sz := fun i k i0 i1 k0 k1 => by
  rw [gfl_at _ _ i0 i1 k0 k1]; exact emod_in h _
theorem bgF_M (h : prm p) (w fr : Px p) (gg : Int → Int) {sz : Int} {i k : Nat} (i1 : (i : Int) < sz) (k1 : (k : Int) < sz) : gM h (gfl (bgF h w fr) gg sz sz 0) sz i k = letI := fR h; bcl h w fr k i - (if i = k then 1 else 0) := by
  letI := fR h
  unfold gM
  rw [gfl_at _ _ (by omega) i1 (by omega) k1]
  unfold bgF
  rw [zi_mod]
  have e1 : zi h (cf (bcl h w fr ((k : Int)).toNat) (i : Int)) = bcl h w fr k i := by
    rw [show ((k : Int)).toNat = k by omega]; exact cf_zi h _ i
  by_cases z : i = k
  · rw [if_pos z, if_pos (by omega), zi_sub, e1, zi_1]
  · rw [if_neg z, if_neg (by omega), Int.sub_zero, e1]; grind
/-- the grid's kernel is Berlekamp's -/
theorem bgF_ker (h : prm p) {w : Px p} {n : Nat} (hw : dg (fR h) w n) (hn : 1 ≤ n) (gg : Int → Int) {sz : Int} (hs : sz = n) (v : Px p) (hv : dl (fR h) v n) : ker h w v ↔ krn (fR h) n (gM h (gfl (bgF h w (rm h (pwp h (xm (fR h) (letI := fR h; 1) 1) p) w)) gg sz sz 0) sz) v := by
  letI := fR h
  letI := pR h
  have hwp : po (fR h) w := ⟨_, hw.2⟩
  have e0 : 0 ≤ dgi h w := by rw [dgi_of h hw]; omega
  have hxp : po (fR h) (pwp h (xm (fR h) 1 1) p) := pw_po h (xm_po (fR h) 1 1) p
  have hb := bcl_ok h hw hn (rm_po h hxp hwp e0) (rm_dv h hxp hwp e0)
  rw [ker_krn h hw (bcl h w (rm h (pwp h (xm (fR h) 1 1) p) w)) (fun k _ => (hb k).1) (fun k _ => (hb k).2) hv]
  exact (krn_cM (fR h) (fun i k i1 k1 => bgF_M h w _ gg (by omega) (by omega)) v).symm
theorem PO_x (h : prm p) {g : Int → Int} (g0 : g 0 = 0) (g1 : g 1 = 1) : PO h 1 g (xm (fR h) (letI := fR h; 1) 1) := by
  letI := fR h
  have hp := h.1
  refine ⟨by omega, fun k k0 k1 => ?_, fun _ => by rw [g1]; omega, funext fun k => ?_⟩
  · rcases Int.lt_or_le k 1 with z | z
    · rw [show k = 0 by omega, g0]; omega
    · rw [show k = 1 by omega, g1]; omega
  · show (if k = 1 then (1 : Fp p) else 0) = (if (k : Int) ≤ 1 then zi h (g k) else 0)
    rcases k with _ | _ | k
    · rw [if_neg (by omega), if_pos (by omega)]
      show (0 : Fp p) = zi h (g 0)
      rw [g0]; exact (zi_0 h).symm
    · rw [if_pos rfl, if_pos (by omega)]
      show (1 : Fp p) = zi h (g 1)
      rw [g1]; exact (zi_1 h).symm
    · rw [if_neg (by omega), if_neg (by omega)]
end
set_option maxHeartbeats 4000000 in
set_option maxRecDepth 100000 in
theorem sF_fillGrid (N : GN) (h : GH) (B f r p : Nat) (hp : prm p) (hp2 : p ≤ 65536) (hBf : B + 58 ≤ f) (hrf : B + 58 ≤ r) (sz0 sz : Int) (fw : Px p) (hsd : sz = dgi hp fw) (hsz : 1 ≤ sz ∧ sz ≤ 40) (gg0 : Int → Int) (ar12 : AP r (f + 12)) (ar15 : AP r (f + 15)) (ar17 : AP r (f + 17)) (ar19 : AP r (f + 19)) (hw : PW p B h) (hsp : h.2 (f + 12) = some (spO B f sz0)) (hg : h.2 (f + 13) = some (aJ 1600 gg0)) (h15 : RA 84 h (f + 15)) (h17 : RA 84 h (f + 17)) (h19 : RA 84 h (f + 19)) (hr : RP hp 84 h r fw) : Sp N yX6_fillGrid mX6_fillGrid 0 0 [.ref (f + 12), .ref (r)] h (fun v h1 => v = none ∧ Fr ((f + 12) :: (f + 15) :: (f + 17) :: (f + 19) :: pl B) h h1 ∧ PW p B h1 ∧ h1.2 (f + 13) = some (aJ 1600 (gfl (bgF hp fw (rm hp (pwp hp (xm (fR hp) (letI := fR hp; 1) 1) p) fw)) gg0 sz sz 0)) ∧ h1.2 (f + 12) = some (spO B f sz) ∧ RA 84 h1 (f + 15) ∧ RA 84 h1 (f + 17) ∧ RA 84 h1 (f + 19)) := by
  refine Sp.of (by decide) rfl rfl (Nat.le_of_ble_eq_true rfl) ?_
  show Go N mX6_fillGrid _ 0 0 h 0 [(0, .ref (f + 12)), (1, .ref (r))] []
  have hp1 := hp.1
  refine g_aload_n 0 dX6_fillGrid_0 rfl ?_
  refine g_aload_n 1 dX6_fillGrid_1 rfl ?_
  refine g_getf 1 dX6_fillGrid_2 kX5 (by decide) fX6_50 (hr).o rfl ?_
  refine g_bipush dX6_fillGrid_5 (by decide) ?_
  refine g_min dX6_fillGrid_7 lX6_64 (by first | assumption | (unfold gW; omega) | (unfold gW; split <;> omega)) (by first | assumption | (unfold gW; omega) | (unfold gW; split <;> omega)) (by decide) (Nat.le_of_ble_eq_true rfl) ?_
  have hmn1 : (if 40 < dgi hp (fw) then 40 else dgi hp (fw)) = sz := by
                                                                      split <;> omega
  rw [hmn1]
  refine g_putf 7 dX6_fillGrid_10 kX6 (by decide) fX6_57 rfl hsp (Nat.le_of_ble_eq_true rfl) rfl rfl ?_
  obtain ⟨hh2, eh2⟩ : ∃ z : GH, z = hset h (f + 12) (oB 6 [.ref (B + 1), .ref (B + 7), .ref (f + 13), .ref (f + 14), .ref (f + 15), .ref (f + 17), .ref (f + 19), .int (gI (sz))]) := ⟨_, rfl⟩
  refine Go.hp eh2.symm ?_
  have fh2_0 : hh2.2 (f + 12) = some (oB 6 [.ref (B + 1), .ref (B + 7), .ref (f + 13), .ref (f + 14), .ref (f + 15), .ref (f + 17), .ref (f + 19), .int (gI (sz))]) := hs_s eh2
  have fh2_1 : hh2.2 (f + 13) = some (aJ 1600 (gg0)) := hs_n eh2 (show NE (f + 13) (f + 12) by unfold NE; omega) hg
  have fh2_2 : hh2.2 (B + 7) = some (oB 2 [.ref (B + 1), .ref (B + 8), .ref (B + 10), .ref (B + 12), .ref (B + 14), .ref (B + 16), .ref (B + 18), .ref (B + 20), .ref (B + 22)]) := hs_n eh2 (show NE (B + 7) (f + 12) by unfold NE; omega) hw.1
  have fh2_3 : hh2.2 (B + 1) = some (oB 1 [.int (gI ((p : Int)))]) := hs_n eh2 (show NE (B + 1) (f + 12) by unfold NE; omega) hw.2.1
  have fx2 : Fr [f + 12] h hh2 := Fr.w0 (Fr.rf _ _) (List.Mem.head _) eh2
  have rk2_0 : PW p B hh2 := (hw).fr2 fx2 (ok_c (by omega) (fun _ h => absurd h (List.not_mem_nil)))
  have rk5002_0 : RA 84 hh2 (f + 15) := (h15).fr fx2 (Ai.c (show AP (f + 15) (f + 12) by unfold AP; omega) (Ai.n _))
  have rk5002_1 : RA 84 hh2 (f + 17) := (h17).fr fx2 (Ai.c (show AP (f + 17) (f + 12) by unfold AP; omega) (Ai.n _))
  have rk5002_2 : RA 84 hh2 (f + 19) := (h19).fr fx2 (Ai.c (show AP (f + 19) (f + 12) by unfold AP; omega) (Ai.n _))
  have rk5002_3 : RP hp 84 hh2 (r) (fw) := (hr).fr fx2 (Ai.c ar12 (Ai.n _))
  have fr2 : Fr ((f + 12) :: (f + 15) :: (f + 17) :: (f + 19) :: pl B) h hh2 := Fr.w0 (Fr.rf ((f + 12) :: (f + 15) :: (f + 17) :: (f + 19) :: pl B) h) (List.Mem.head _) eh2
  refine g_aload_n 0 dX6_fillGrid_13 rfl ?_
  refine g_getf 6 dX6_fillGrid_14 kX6 (by decide) fX6_31 fh2_0 rfl ?_
  refine g_lconst1 dX6_fillGrid_17 ?_
  refine g_callV (nc2 := 0) (ns2 := 0) (ci := 5) (As := [.long (gJ (1))]) (st := []) rfl dX6_fillGrid_18 okX5_become lX6_86 itX5_become seX5_become rfl (Classical.choose_spec (RA.o rk5002_2)) (by decide) (by decide) rfl (Nat.le_of_ble_eq_true rfl) (sP_become N _ (f + 19) 84 p hp hp2 (1) (by omega) (by omega) rk5002_2) (by omega) (by omega) (fun v3 hc3 q3 => ?_)
  obtain ⟨rfl, frc4, rn4_0⟩ := q3
  have fk5_0 : hc3.2 (f + 12) = some (oB 6 [.ref (B + 1), .ref (B + 7), .ref (f + 13), .ref (f + 14), .ref (f + 15), .ref (f + 17), .ref (f + 19), .int (gI (sz))]) := Fr.at0 frc4 (Ni.c ⟨(show NE (f + 12) (f + 19) by unfold NE; omega), (show NE (f + 12) (f + 20) by unfold NE; omega)⟩ (Ni.n _)) fh2_0
  have fk5_1 : hc3.2 (f + 13) = some (aJ 1600 (gg0)) := Fr.at0 frc4 (Ni.c ⟨(show NE (f + 13) (f + 19) by unfold NE; omega), (show NE (f + 13) (f + 20) by unfold NE; omega)⟩ (Ni.n _)) fh2_1
  have fk5_2 : hc3.2 (B + 7) = some (oB 2 [.ref (B + 1), .ref (B + 8), .ref (B + 10), .ref (B + 12), .ref (B + 14), .ref (B + 16), .ref (B + 18), .ref (B + 20), .ref (B + 22)]) := Fr.at0 frc4 (Ni.c ⟨(show NE (B + 7) (f + 19) by unfold NE; omega), (show NE (B + 7) (f + 20) by unfold NE; omega)⟩ (Ni.n _)) fh2_2
  have fk5_3 : hc3.2 (B + 1) = some (oB 1 [.int (gI ((p : Int)))]) := Fr.at0 frc4 (Ni.c ⟨(show NE (B + 1) (f + 19) by unfold NE; omega), (show NE (B + 1) (f + 20) by unfold NE; omega)⟩ (Ni.n _)) fh2_3
  have rk5_4 : PW p B hc3 := (rk2_0).fr2 frc4 (ok_c (by omega) (fun _ h => absurd h (List.not_mem_nil)))
  have rk5005_0 : RA 84 hc3 (f + 15) := (rk5002_0).fr frc4 (Ai.c (show AP (f + 15) (f + 19) by unfold AP; omega) (Ai.n _))
  have rk5005_1 : RA 84 hc3 (f + 17) := (rk5002_1).fr frc4 (Ai.c (show AP (f + 17) (f + 19) by unfold AP; omega) (Ai.n _))
  have rk5005_3 : RP hp 84 hc3 (r) (fw) := (rk5002_3).fr frc4 (Ai.c ar19 (Ai.n _))
  have fr5 : Fr ((f + 12) :: (f + 15) :: (f + 17) :: (f + 19) :: pl B) h hc3 := (fr2).tr ((frc4).mo (sub_c (List.Mem.tail _ (List.Mem.tail _ (List.Mem.tail _ (List.Mem.head _)))) sub_n))
  refine Go.nf (h' := hc3) (st' := []) rfl rfl (Nat.le_refl _) (Nat.le_refl _) ?_
  obtain ⟨dr, gr, y1, y2, y3, y4, y5, y6, y7⟩ := rk5005_1
  refine g_aload_n 0 dX6_fillGrid_21 rfl ?_
  refine g_getf 5 dX6_fillGrid_22 kX6 (by decide) fX6_28 fk5_0 rfl ?_
  refine g_getf 0 dX6_fillGrid_25 kX5 (by decide) fX6_90 y1 rfl ?_
  refine g_iconst dX6_fillGrid_28 ?_
  refine g_lconst0 dX6_fillGrid_29 ?_
  refine g_lastore dX6_fillGrid_30 y2 (by omega) (by omega) (by omega) ?_
  obtain ⟨hh6, eh6⟩ : ∃ z : GH, z = hset hc3 (f + 18) (aJ 84 (gup (gr) (0) (0))) := ⟨_, rfl⟩
  refine Go.hp eh6.symm ?_
  have fh6_0 : hh6.2 (f + 12) = some (oB 6 [.ref (B + 1), .ref (B + 7), .ref (f + 13), .ref (f + 14), .ref (f + 15), .ref (f + 17), .ref (f + 19), .int (gI (sz))]) := hs_n eh6 (show NE (f + 12) (f + 18) by unfold NE; omega) fk5_0
  have fh6_1 : hh6.2 (f + 13) = some (aJ 1600 (gg0)) := hs_n eh6 (show NE (f + 13) (f + 18) by unfold NE; omega) fk5_1
  have fh6_2 : hh6.2 (B + 7) = some (oB 2 [.ref (B + 1), .ref (B + 8), .ref (B + 10), .ref (B + 12), .ref (B + 14), .ref (B + 16), .ref (B + 18), .ref (B + 20), .ref (B + 22)]) := hs_n eh6 (show NE (B + 7) (f + 18) by unfold NE; omega) fk5_2
  have fh6_3 : hh6.2 (B + 1) = some (oB 1 [.int (gI ((p : Int)))]) := hs_n eh6 (show NE (B + 1) (f + 18) by unfold NE; omega) fk5_3
  have fh6_4 : hh6.2 (f + 17) = some (oB 5 [.ref (f + 18), .int (gI (dr))]) := hs_n eh6 (show NE (f + 17) (f + 18) by unfold NE; omega) y1
  have fh6_5 : hh6.2 (f + 18) = some (aJ 84 (gup (gr) (0) (0))) := hs_s eh6
  have fx6 : Fr [f + 17] hc3 hh6 := Fr.w1 (Fr.rf _ _) (List.Mem.head _) eh6
  have rk6_2 : PW p B hh6 := (rk5_4).fr2 fx6 (ok_c (by omega) (fun _ h => absurd h (List.not_mem_nil)))
  have rk5006_0 : RA 84 hh6 (f + 15) := (rk5005_0).fr fx6 (Ai.c (show AP (f + 15) (f + 17) by unfold AP; omega) (Ai.n _))
  have rk5006_1 : RP hp 84 hh6 (r) (fw) := (rk5005_3).fr fx6 (Ai.c ar17 (Ai.n _))
  have rk5006_2 : RP hp 84 hh6 (f + 19) (cz hp (zi hp (1))) := (rn4_0).fr fx6 (Ai.c (show AP (f + 19) (f + 17) by unfold AP; omega) (Ai.n _))
  have fr6 : Fr ((f + 12) :: (f + 15) :: (f + 17) :: (f + 19) :: pl B) h hh6 := Fr.w1 fr5 (List.Mem.tail _ (List.Mem.tail _ (List.Mem.head _))) eh6
  refine g_aload_n 0 dX6_fillGrid_31 rfl ?_
  refine g_getf 5 dX6_fillGrid_32 kX6 (by decide) fX6_28 fh6_0 rfl ?_
  refine g_getf 0 dX6_fillGrid_35 kX5 (by decide) fX6_90 fh6_4 rfl ?_
  refine g_iconst dX6_fillGrid_38 ?_
  refine g_lconst1 dX6_fillGrid_39 ?_
  refine g_lastore dX6_fillGrid_40 fh6_5 (by omega) (by omega) (by omega) ?_
  obtain ⟨hh7, eh7⟩ : ∃ z : GH, z = hset hh6 (f + 18) (aJ 84 (gup (gup (gr) (0) (0)) (1) (1))) := ⟨_, rfl⟩
  refine Go.hp eh7.symm ?_
  have fh7_0 : hh7.2 (f + 12) = some (oB 6 [.ref (B + 1), .ref (B + 7), .ref (f + 13), .ref (f + 14), .ref (f + 15), .ref (f + 17), .ref (f + 19), .int (gI (sz))]) := hs_n eh7 (show NE (f + 12) (f + 18) by unfold NE; omega) fh6_0
  have fh7_1 : hh7.2 (f + 13) = some (aJ 1600 (gg0)) := hs_n eh7 (show NE (f + 13) (f + 18) by unfold NE; omega) fh6_1
  have fh7_2 : hh7.2 (B + 7) = some (oB 2 [.ref (B + 1), .ref (B + 8), .ref (B + 10), .ref (B + 12), .ref (B + 14), .ref (B + 16), .ref (B + 18), .ref (B + 20), .ref (B + 22)]) := hs_n eh7 (show NE (B + 7) (f + 18) by unfold NE; omega) fh6_2
  have fh7_3 : hh7.2 (B + 1) = some (oB 1 [.int (gI ((p : Int)))]) := hs_n eh7 (show NE (B + 1) (f + 18) by unfold NE; omega) fh6_3
  have fh7_4 : hh7.2 (f + 17) = some (oB 5 [.ref (f + 18), .int (gI (dr))]) := hs_n eh7 (show NE (f + 17) (f + 18) by unfold NE; omega) fh6_4
  have fh7_5 : hh7.2 (f + 18) = some (aJ 84 (gup (gup (gr) (0) (0)) (1) (1))) := hs_s eh7
  have fx7 : Fr [f + 17] hh6 hh7 := Fr.w1 (Fr.rf _ _) (List.Mem.head _) eh7
  have rk7_3 : PW p B hh7 := (rk6_2).fr2 fx7 (ok_c (by omega) (fun _ h => absurd h (List.not_mem_nil)))
  have rk5007_0 : RA 84 hh7 (f + 15) := (rk5006_0).fr fx7 (Ai.c (show AP (f + 15) (f + 17) by unfold AP; omega) (Ai.n _))
  have rk5007_1 : RP hp 84 hh7 (r) (fw) := (rk5006_1).fr fx7 (Ai.c ar17 (Ai.n _))
  have rk5007_2 : RP hp 84 hh7 (f + 19) (cz hp (zi hp (1))) := (rk5006_2).fr fx7 (Ai.c (show AP (f + 19) (f + 17) by unfold AP; omega) (Ai.n _))
  have fr7 : Fr ((f + 12) :: (f + 15) :: (f + 17) :: (f + 19) :: pl B) h hh7 := Fr.w1 fr6 (List.Mem.tail _ (List.Mem.tail _ (List.Mem.head _))) eh7
  refine g_aload_n 0 dX6_fillGrid_41 rfl ?_
  refine g_getf 5 dX6_fillGrid_42 kX6 (by decide) fX6_28 fh7_0 rfl ?_
  refine g_iconst dX6_fillGrid_45 ?_
  refine g_putf 1 dX6_fillGrid_46 kX5 (by decide) fX6_50 rfl fh7_4 (Nat.le_of_ble_eq_true rfl) rfl rfl ?_
  obtain ⟨hh8, eh8⟩ : ∃ z : GH, z = hset hh7 (f + 17) (oB 5 [.ref (f + 18), .int (gI (1))]) := ⟨_, rfl⟩
  refine Go.hp eh8.symm ?_
  have fh8_0 : hh8.2 (f + 12) = some (oB 6 [.ref (B + 1), .ref (B + 7), .ref (f + 13), .ref (f + 14), .ref (f + 15), .ref (f + 17), .ref (f + 19), .int (gI (sz))]) := hs_n eh8 (show NE (f + 12) (f + 17) by unfold NE; omega) fh7_0
  have fh8_1 : hh8.2 (f + 13) = some (aJ 1600 (gg0)) := hs_n eh8 (show NE (f + 13) (f + 17) by unfold NE; omega) fh7_1
  have fh8_2 : hh8.2 (B + 7) = some (oB 2 [.ref (B + 1), .ref (B + 8), .ref (B + 10), .ref (B + 12), .ref (B + 14), .ref (B + 16), .ref (B + 18), .ref (B + 20), .ref (B + 22)]) := hs_n eh8 (show NE (B + 7) (f + 17) by unfold NE; omega) fh7_2
  have fh8_3 : hh8.2 (B + 1) = some (oB 1 [.int (gI ((p : Int)))]) := hs_n eh8 (show NE (B + 1) (f + 17) by unfold NE; omega) fh7_3
  have fh8_4 : hh8.2 (f + 17) = some (oB 5 [.ref (f + 18), .int (gI (1))]) := hs_s eh8
  have fh8_5 : hh8.2 (f + 18) = some (aJ 84 (gup (gup (gr) (0) (0)) (1) (1))) := hs_n eh8 (show NE (f + 18) (f + 17) by unfold NE; omega) fh7_5
  have fx8 : Fr [f + 17] hh7 hh8 := Fr.w0 (Fr.rf _ _) (List.Mem.head _) eh8
  have rk8_3 : PW p B hh8 := (rk7_3).fr2 fx8 (ok_c (by omega) (fun _ h => absurd h (List.not_mem_nil)))
  have rk5008_0 : RA 84 hh8 (f + 15) := (rk5007_0).fr fx8 (Ai.c (show AP (f + 15) (f + 17) by unfold AP; omega) (Ai.n _))
  have rk5008_1 : RP hp 84 hh8 (r) (fw) := (rk5007_1).fr fx8 (Ai.c ar17 (Ai.n _))
  have rk5008_2 : RP hp 84 hh8 (f + 19) (cz hp (zi hp (1))) := (rk5007_2).fr fx8 (Ai.c (show AP (f + 19) (f + 17) by unfold AP; omega) (Ai.n _))
  have fr8 : Fr ((f + 12) :: (f + 15) :: (f + 17) :: (f + 19) :: pl B) h hh8 := Fr.w0 fr7 (List.Mem.tail _ (List.Mem.tail _ (List.Mem.head _))) eh8
  have hpx := PO_x hp (g := gup (gup (gr) (0) (0)) (1) (1)) rfl rfl
  have hxr : RP hp 84 hh8 (f + 17) (xm (fR hp) (letI := fR hp; 1) 1) := RP.mk fh8_4 fh8_5 (by omega) hpx hp2
  refine g_aload_n 0 dX6_fillGrid_49 rfl ?_
  refine g_getf 1 dX6_fillGrid_50 kX6 (by decide) fX6_38 fh8_0 rfl ?_
  refine g_aload_n 0 dX6_fillGrid_53 rfl ?_
  refine g_getf 5 dX6_fillGrid_54 kX6 (by decide) fX6_28 fh8_0 rfl ?_
  refine g_aload_n 0 dX6_fillGrid_57 rfl ?_
  refine g_getf 0 dX6_fillGrid_58 kX6 (by decide) fX6_34 fh8_0 rfl ?_
  refine g_getf 0 dX6_fillGrid_61 kX1 (by decide) fX6_73 fh8_3 rfl ?_
  refine g_i2l dX6_fillGrid_64 (by first | assumption | (unfold gW; omega) | (unfold gW; split <;> omega)) ?_
  refine g_aload_n 1 dX6_fillGrid_65 rfl ?_
  refine g_aload_n 0 dX6_fillGrid_66 rfl ?_
  refine g_getf 4 dX6_fillGrid_67 kX6 (by decide) fX6_24 fh8_0 rfl ?_
  refine g_callV (nc2 := 0) (ns2 := 0) (ci := 2) (As := [.ref (f + 17), .long (gJ ((p : Int))), .ref (r), .ref (f + 15)]) (st := []) rfl dX6_fillGrid_70 okX2_powerModulo lX6_93 itX2_powerModulo seX2_powerModulo rfl fh8_2 (by decide) (by decide) rfl (Nat.le_of_ble_eq_true rfl) (sP_powerModulo N _ B (f + 17) (r) (f + 15) p hp hp2 ((p : Int)) (xm (fR hp) (letI := fR hp; 1) 1) (fw) rk8_3 hxr rk5008_1 rk5008_0 ⟨by omega, by omega⟩ (by omega) (by unfold gX; omega) (by omega) (by omega) (by omega)) (by omega) (by omega) (fun v9 hc9 q9 => ?_)
  obtain ⟨rfl, frc10, rn10_0, rn10_1⟩ := q9
  have fk11_0 : hc9.2 (f + 12) = some (oB 6 [.ref (B + 1), .ref (B + 7), .ref (f + 13), .ref (f + 14), .ref (f + 15), .ref (f + 17), .ref (f + 19), .int (gI (sz))]) := Fr.at0 frc10 (Ni.c ⟨(show NE (f + 12) (f + 15) by unfold NE; omega), (show NE (f + 12) (f + 16) by unfold NE; omega)⟩ (Ni_pl (by omega))) fh8_0
  have fk11_1 : hc9.2 (f + 13) = some (aJ 1600 (gg0)) := Fr.at0 frc10 (Ni.c ⟨(show NE (f + 13) (f + 15) by unfold NE; omega), (show NE (f + 13) (f + 16) by unfold NE; omega)⟩ (Ni_pl (by omega))) fh8_1
  have fk11_2 : hc9.2 (B + 7) = some (oB 2 [.ref (B + 1), .ref (B + 8), .ref (B + 10), .ref (B + 12), .ref (B + 14), .ref (B + 16), .ref (B + 18), .ref (B + 20), .ref (B + 22)]) := Fr.at0 frc10 (Ni.c ⟨(show NE (B + 7) (f + 15) by unfold NE; omega), (show NE (B + 7) (f + 16) by unfold NE; omega)⟩ (Ni_pl (by omega))) fh8_2
  have fk11_3 : hc9.2 (B + 1) = some (oB 1 [.int (gI ((p : Int)))]) := Fr.at0 frc10 (Ni.c ⟨(show NE (B + 1) (f + 15) by unfold NE; omega), (show NE (B + 1) (f + 16) by unfold NE; omega)⟩ (Ni_pl (by omega))) fh8_3
  have rk5011_1 : RP hp 84 hc9 (r) (fw) := (rk5008_1).fr frc10 (Ai.c ar15 (Ai_pl (by omega)))
  have rk5011_2 : RP hp 84 hc9 (f + 19) (cz hp (zi hp (1))) := (rk5008_2).fr frc10 (Ai.c (show AP (f + 19) (f + 15) by unfold AP; omega) (Ai_pl (by omega)))
  have rk5011_3 : RP hp 84 hc9 (f + 17) (xm (fR hp) (letI := fR hp; 1) 1) := (hxr).fr frc10 (Ai.c (show AP (f + 17) (f + 15) by unfold AP; omega) (Ai_pl (by omega)))
  have fr11 : Fr ((f + 12) :: (f + 15) :: (f + 17) :: (f + 19) :: pl B) h hc9 := (fr8).tr ((frc10).mo (sub_c (List.Mem.tail _ (List.Mem.head _)) (fun _ hx => (List.Mem.tail _ (List.Mem.tail _ (List.Mem.tail _ (List.Mem.tail _ hx)))))))
  refine Go.nf (h' := hc9) (st' := []) rfl rfl (Nat.le_refl _) (Nat.le_refl _) ?_
  refine g_iconst dX6_fillGrid_73 ?_
  refine g_istore_n (ls2 := [(2, .int (gI (0))), (0, .ref (f + 12)), (1, .ref (r))]) dX6_fillGrid_74 rfl (by decide) rfl ?_
  have lc : ∀ (kk : Nat) (c : Int) (hlc : GH), kk = (40 - c).toNat → Fr ((f + 12) :: (f + 15) :: (f + 17) :: (f + 19) :: pl B) h hlc → hlc.2 (f + 12) = some (oB 6 [.ref (B + 1), .ref (B + 7), .ref (f + 13), .ref (f + 14), .ref (f + 15), .ref (f + 17), .ref (f + 19), .int (gI (sz))]) → hlc.2 (f + 13) = some (aJ 1600 (gfl (bgF hp fw (rm hp (pwp hp (xm (fR hp) (letI := fR hp; 1) 1) p) fw)) gg0 sz c 0)) → hlc.2 (B + 7) = some (oB 2 [.ref (B + 1), .ref (B + 8), .ref (B + 10), .ref (B + 12), .ref (B + 14), .ref (B + 16), .ref (B + 18), .ref (B + 20), .ref (B + 22)]) → hlc.2 (B + 1) = some (oB 1 [.int (gI ((p : Int)))]) → RP hp 84 hlc (r) (fw) → RP hp 84 hlc (f + 19) (bcl hp fw (rm hp (pwp hp (xm (fR hp) (letI := fR hp; 1) 1) p) fw) c.toNat) → RP hp 84 hlc (f + 17) (xm (fR hp) (letI := fR hp; 1) 1) → RP hp 84 hlc (f + 15) (rm hp (pwp hp (xm (fR hp) (letI := fR hp; 1) 1) p) fw) → PW p B hlc → (0 ≤ c ∧ c ≤ sz) → (dgi hp (bcl hp fw (rm hp (pwp hp (xm (fR hp) (letI := fR hp; 1) 1) p) fw) c.toNat) ≤ 40) → Go N mX6_fillGrid (fun v h1 => v = none ∧ Fr ((f + 12) :: (f + 15) :: (f + 17) :: (f + 19) :: pl B) h h1 ∧ PW p B h1 ∧ h1.2 (f + 13) = some (aJ 1600 (gfl (bgF hp fw (rm hp (pwp hp (xm (fR hp) (letI := fR hp; 1) 1) p) fw)) gg0 sz sz 0)) ∧ h1.2 (f + 12) = some (spO B f sz) ∧ RA 84 h1 (f + 15) ∧ RA 84 h1 (f + 17) ∧ RA 84 h1 (f + 19)) 0 0 hlc 75 [(2, .int (gI (c))), (0, .ref (f + 12)), (1, .ref (r))] [] := by
    refine Go.ind (fun kk ih_lc => ?_)
    intro c hlc hkk_lc fr_lc cf_lc_0 cf_lc_1 cf_lc_2 cf_lc_3 cr_lc_0 cr_lc_1 cr_lc_2 cr_lc_3 cr_lc_4 hc hdc
    have hbc := cr_lc_1
    have hfb := cr_lc_3
    have hwz := cr_lc_0
    refine g_iload_n 0 dX6_fillGrid_75 rfl ?_
    refine g_aload_n 1 dX6_fillGrid_76 rfl ?_
    refine g_getf 7 dX6_fillGrid_77 kX6 (by decide) fX6_57 cf_lc_0 rfl ?_
    refine g_icmp_ge (tgt := 168) dX6_fillGrid_80 rfl (by first | assumption | (unfold gW; omega) | (unfold gW; split <;> omega)) (by first | assumption | (unfold gW; omega) | (unfold gW; split <;> omega)) (fun c113 => ?_) (fun c113 => ?_)
    · skip
      exact g_vret dX6_fillGrid_168 rfl ⟨rfl, fr_lc, cr_lc_4, by
                                                                      have hcz : c = sz := by omega
                                                                      have e7 := cf_lc_1
                                                                      rw [hcz] at e7; exact e7, cf_lc_0, (cr_lc_3).ra, (cr_lc_2).ra, (cr_lc_1).ra⟩
    · skip
      refine g_iconst dX6_fillGrid_83 ?_
      refine g_istore_n (ls2 := [(3, .int (gI (0))), (2, .int (gI (c))), (0, .ref (f + 12)), (1, .ref (r))]) dX6_fillGrid_84 rfl (by decide) rfl ?_
      have lr : ∀ (kk : Nat) (r0 : Int) (hlr : GH), kk = (40 - r0).toNat → Fr ((f + 12) :: (f + 15) :: (f + 17) :: (f + 19) :: pl B) h hlr → hlr.2 (f + 12) = some (oB 6 [.ref (B + 1), .ref (B + 7), .ref (f + 13), .ref (f + 14), .ref (f + 15), .ref (f + 17), .ref (f + 19), .int (gI (sz))]) → hlr.2 (f + 13) = some (aJ 1600 (gfl (bgF hp fw (rm hp (pwp hp (xm (fR hp) (letI := fR hp; 1) 1) p) fw)) gg0 sz c r0)) → hlr.2 (B + 7) = some (oB 2 [.ref (B + 1), .ref (B + 8), .ref (B + 10), .ref (B + 12), .ref (B + 14), .ref (B + 16), .ref (B + 18), .ref (B + 20), .ref (B + 22)]) → hlr.2 (B + 1) = some (oB 1 [.int (gI ((p : Int)))]) → RP hp 84 hlr (r) (fw) → RP hp 84 hlr (f + 19) (bcl hp fw (rm hp (pwp hp (xm (fR hp) (letI := fR hp; 1) 1) p) fw) c.toNat) → RP hp 84 hlr (f + 17) (xm (fR hp) (letI := fR hp; 1) 1) → RP hp 84 hlr (f + 15) (rm hp (pwp hp (xm (fR hp) (letI := fR hp; 1) 1) p) fw) → PW p B hlr → (0 ≤ r0 ∧ r0 ≤ sz) → Go N mX6_fillGrid (fun v h1 => v = none ∧ Fr ((f + 12) :: (f + 15) :: (f + 17) :: (f + 19) :: pl B) h h1 ∧ PW p B h1 ∧ h1.2 (f + 13) = some (aJ 1600 (gfl (bgF hp fw (rm hp (pwp hp (xm (fR hp) (letI := fR hp; 1) 1) p) fw)) gg0 sz sz 0)) ∧ h1.2 (f + 12) = some (spO B f sz) ∧ RA 84 h1 (f + 15) ∧ RA 84 h1 (f + 17) ∧ RA 84 h1 (f + 19)) 0 0 hlr 85 [(3, .int (gI (r0))), (2, .int (gI (c))), (0, .ref (f + 12)), (1, .ref (r))] [] := by
        refine Go.ind (fun kk ih_lr => ?_)
        intro r0 hlr hkk_lr fr_lr cf_lr_0 cf_lr_1 cf_lr_2 cf_lr_3 cr_lr_0 cr_lr_1 cr_lr_2 cr_lr_3 cr_lr_4 hr0
        refine g_iload_n 0 dX6_fillGrid_85 rfl ?_
        refine g_aload_n 2 dX6_fillGrid_86 rfl ?_
        refine g_getf 7 dX6_fillGrid_87 kX6 (by decide) fX6_57 cf_lr_0 rfl ?_
        refine g_icmp_ge (tgt := 142) dX6_fillGrid_90 rfl (by first | assumption | (unfold gW; omega) | (unfold gW; split <;> omega)) (by first | assumption | (unfold gW; omega) | (unfold gW; split <;> omega)) (fun c214 => ?_) (fun c214 => ?_)
        · skip
          have hrz : r0 = sz := by omega
          have fgz : hlr.2 (f + 13) = some (aJ 1600 (gfl (bgF hp fw (rm hp (pwp hp (xm (fR hp) (letI := fR hp; 1) 1) p) fw)) gg0 sz c sz)) := by
                                                                      have e7 := cf_lr_1
                                                                      rw [hrz] at e7; exact e7
          refine g_aload_n 2 dX6_fillGrid_142 rfl ?_
          refine g_getf 1 dX6_fillGrid_143 kX6 (by decide) fX6_38 cf_lr_0 rfl ?_
          refine g_aload_n 2 dX6_fillGrid_146 rfl ?_
          refine g_getf 6 dX6_fillGrid_147 kX6 (by decide) fX6_31 cf_lr_0 rfl ?_
          refine g_aload_n 2 dX6_fillGrid_150 rfl ?_
          refine g_getf 4 dX6_fillGrid_151 kX6 (by decide) fX6_24 cf_lr_0 rfl ?_
          refine g_aload_n 3 dX6_fillGrid_154 rfl ?_
          refine g_aload_n 2 dX6_fillGrid_155 rfl ?_
          refine g_getf 6 dX6_fillGrid_156 kX6 (by decide) fX6_31 cf_lr_0 rfl ?_
          have hdb := rm_lt hp (f := pwp hp (xm (fR hp) (letI := fR hp; 1) 1) p) (g := fw) (pw_po hp (xm_po (fR hp) _ 1) p) cr_lr_0.po (by omega)
          refine g_callV (nc2 := 0) (ns2 := 0) (ci := 2) (As := [.ref (f + 19), .ref (f + 15), .ref (r), .ref (f + 19)]) (st := []) rfl dX6_fillGrid_159 okX2_multiplyModulo lX6_107 itX2_multiplyModulo seX2_multiplyModulo rfl cf_lr_2 (by decide) (by decide) rfl (Nat.le_of_ble_eq_true rfl) (sP_mulMod N _ B (f + 19) (f + 15) (r) (f + 19) p hp hp2 (bcl hp fw (rm hp (pwp hp (xm (fR hp) (letI := fR hp; 1) 1) p) fw) c.toNat) (rm hp (pwp hp (xm (fR hp) (letI := fR hp; 1) 1) p) fw) (fw) cr_lr_4 cr_lr_1 cr_lr_3 cr_lr_0 (cr_lr_1).ra (by omega) (by omega) (by omega) (by omega) (by omega) (by omega)) (by omega) (by omega) (fun v215 hc215 q215 => ?_)
          obtain ⟨rfl, frc216, rn216_0, rn216_1⟩ := q215
          have fk217_0 : hc215.2 (f + 12) = some (oB 6 [.ref (B + 1), .ref (B + 7), .ref (f + 13), .ref (f + 14), .ref (f + 15), .ref (f + 17), .ref (f + 19), .int (gI (sz))]) := Fr.at0 frc216 (Ni.c ⟨(show NE (f + 12) (f + 19) by unfold NE; omega), (show NE (f + 12) (f + 20) by unfold NE; omega)⟩ (Ni_pl (by omega))) cf_lr_0
          have fk217_1 : hc215.2 (f + 13) = some (aJ 1600 (gfl (bgF hp fw (rm hp (pwp hp (xm (fR hp) (letI := fR hp; 1) 1) p) fw)) gg0 sz c sz)) := Fr.at0 frc216 (Ni.c ⟨(show NE (f + 13) (f + 19) by unfold NE; omega), (show NE (f + 13) (f + 20) by unfold NE; omega)⟩ (Ni_pl (by omega))) fgz
          have fk217_2 : hc215.2 (B + 7) = some (oB 2 [.ref (B + 1), .ref (B + 8), .ref (B + 10), .ref (B + 12), .ref (B + 14), .ref (B + 16), .ref (B + 18), .ref (B + 20), .ref (B + 22)]) := Fr.at0 frc216 (Ni.c ⟨(show NE (B + 7) (f + 19) by unfold NE; omega), (show NE (B + 7) (f + 20) by unfold NE; omega)⟩ (Ni_pl (by omega))) cf_lr_2
          have fk217_3 : hc215.2 (B + 1) = some (oB 1 [.int (gI ((p : Int)))]) := Fr.at0 frc216 (Ni.c ⟨(show NE (B + 1) (f + 19) by unfold NE; omega), (show NE (B + 1) (f + 20) by unfold NE; omega)⟩ (Ni_pl (by omega))) cf_lr_3
          have rk5217_0 : RP hp 84 hc215 (r) (fw) := (cr_lr_0).fr frc216 (Ai.c ar19 (Ai_pl (by omega)))
          have rk5217_2 : RP hp 84 hc215 (f + 17) (xm (fR hp) (letI := fR hp; 1) 1) := (cr_lr_2).fr frc216 (Ai.c (show AP (f + 17) (f + 19) by unfold AP; omega) (Ai_pl (by omega)))
          have rk5217_3 : RP hp 84 hc215 (f + 15) (rm hp (pwp hp (xm (fR hp) (letI := fR hp; 1) 1) p) fw) := (cr_lr_3).fr frc216 (Ai.c (show AP (f + 15) (f + 19) by unfold AP; omega) (Ai_pl (by omega)))
          have fr217 : Fr ((f + 12) :: (f + 15) :: (f + 17) :: (f + 19) :: pl B) h hc215 := (fr_lr).tr ((frc216).mo (sub_c (List.Mem.tail _ (List.Mem.tail _ (List.Mem.tail _ (List.Mem.head _)))) (fun _ hx => (List.Mem.tail _ (List.Mem.tail _ (List.Mem.tail _ (List.Mem.tail _ hx)))))))
          refine Go.nf (h' := hc215) (st' := []) rfl rfl (Nat.le_refl _) (Nat.le_refl _) ?_
          refine g_iinc 1 (ls2 := [(2, .int (gI (c + 1))), (3, .int (gI (r0))), (0, .ref (f + 12)), (1, .ref (r))]) dX6_fillGrid_162 rfl (by decide) rfl ?_
          refine g_goto (tgt := 75) dX6_fillGrid_165 rfl ?_
          refine Go.sub [0, 2, 3] rfl ?_
          exact ih_lc _ (by omega) (c + 1) hc215 rfl fr217 fk217_0 (by rw [← gfl_c]; exact fk217_1) fk217_2 fk217_3 rk5217_0 (by rw [show (c + 1).toNat = c.toNat + 1 by omega]; exact rn216_0) rk5217_2 rk5217_3 rn216_1 (by omega) (by
                                                                      have := rm_lt hp (f := pml hp (bcl hp fw (rm hp (pwp hp (xm (fR hp) (letI := fR hp; 1) 1) p) fw) c.toNat) (rm hp (pwp hp (xm (fR hp) (letI := fR hp; 1) 1) p) fw)) (g := fw) (mul_po (RP.po hbc) (RP.po hfb)) (RP.po hwz) (by omega)
                                                                      rw [show (c + 1).toNat = c.toNat + 1 by omega]
                                                                      show dgi hp (rm hp (pml hp (bcl hp fw (rm hp (pwp hp (xm (fR hp) (letI := fR hp; 1) 1) p) fw) c.toNat) (rm hp (pwp hp (xm (fR hp) (letI := fR hp; 1) 1) p) fw)) fw) ≤ 40
                                                                      omega)
        · skip
          have hix := ix_bd40 (sz := sz) hr0.1 (show r0 < sz by omega) hc.1 (show c < sz by omega) hsz.2
          have hcb := cf_in (bcl hp fw (rm hp (pwp hp (xm (fR hp) (letI := fR hp; 1) 1) p) fw) c.toNat) hp r0
          refine g_iload_n 0 dX6_fillGrid_93 rfl ?_
          refine g_iload_n 1 dX6_fillGrid_94 rfl ?_
          refine g_icmp_ne (tgt := 102) dX6_fillGrid_95 rfl (by first | assumption | (unfold gW; omega) | (unfold gW; split <;> omega)) (by first | assumption | (unfold gW; omega) | (unfold gW; split <;> omega)) (fun c218 => ?_) (fun c218 => ?_)
          · skip
            refine g_lconst0 dX6_fillGrid_102 ?_
            refine g_lstore (ls2 := [(4, .long (gJ (0))), (3, .int (gI (r0))), (2, .int (gI (c))), (0, .ref (f + 12)), (1, .ref (r))]) dX6_fillGrid_103 (by decide) rfl ?_
            refine g_aload_n 3 dX6_fillGrid_105 rfl ?_
            refine g_getf 2 dX6_fillGrid_106 kX6 (by decide) fX6_9 cf_lr_0 rfl ?_
            refine g_iload_n 1 dX6_fillGrid_109 rfl ?_
            refine g_aload_n 3 dX6_fillGrid_110 rfl ?_
            refine g_getf 7 dX6_fillGrid_111 kX6 (by decide) fX6_57 cf_lr_0 rfl ?_
            refine g_imul dX6_fillGrid_114 ?_
            refine g_iload_n 2 dX6_fillGrid_115 rfl ?_
            refine g_iadd dX6_fillGrid_116 ?_
            refine g_aload_n 3 dX6_fillGrid_117 rfl ?_
            refine g_getf 0 dX6_fillGrid_118 kX6 (by decide) fX6_34 cf_lr_0 rfl ?_
            refine g_aload_n 3 dX6_fillGrid_121 rfl ?_
            refine g_getf 6 dX6_fillGrid_122 kX6 (by decide) fX6_31 cf_lr_0 rfl ?_
            refine g_iload_n 1 dX6_fillGrid_125 rfl ?_
            refine g_callV (nc2 := 0) (ns2 := 0) (ci := 5) (As := [.int (gI (r0))]) (st := [.ref (B + 1), .int (gI (((r0) * (sz)) + (c))), .ref (f + 13)]) rfl dX6_fillGrid_126 okX5_number lX6_99 itX5_number seX5_number rfl (cr_lr_1).o (by decide) (by decide) rfl (Nat.le_of_ble_eq_true rfl) (sP_number N _ (f + 19) 84 p hp (bcl hp fw (rm hp (pwp hp (xm (fR hp) (letI := fR hp; 1) 1) p) fw) c.toNat) (r0) (by unfold gW; omega) cr_lr_1) (by omega) (by omega) (fun v219 hc219 q219 => ?_)
            obtain ⟨hq220, rfl⟩ := q219
            refine Go.nf (h' := hlr) (st' := [.long (gJ (cf (bcl hp fw (rm hp (pwp hp (xm (fR hp) (letI := fR hp; 1) 1) p) fw) c.toNat) (r0))), .ref (B + 1), .int (gI (((r0) * (sz)) + (c))), .ref (f + 13)]) hq220 rfl (Nat.le_refl _) (Nat.le_refl _) ?_
            refine g_lload 0 dX6_fillGrid_129 rfl ?_
            refine g_lsub dX6_fillGrid_131 ?_
            refine g_callV (nc2 := 0) (ns2 := 0) (ci := 1) (As := [.long (gJ ((cf (bcl hp fw (rm hp (pwp hp (xm (fR hp) (letI := fR hp; 1) 1) p) fw) c.toNat) (r0)) - (0)))]) (st := [.int (gI (((r0) * (sz)) + (c))), .ref (f + 13)]) rfl dX6_fillGrid_132 okX1_mod lX6_103 itX1_mod seX1_mod rfl cf_lr_3 (by decide) (by decide) rfl (Nat.le_of_ble_eq_true rfl) (sX1_mod N _ (B + 1) (p : Int) ((cf (bcl hp fw (rm hp (pwp hp (xm (fR hp) (letI := fR hp; 1) 1) p) fw) c.toNat) (r0)) - (0)) (by unfold gX; omega) (by omega) (by omega) cf_lr_3) (by omega) (by omega) (fun v221 hc221 q221 => ?_)
            obtain ⟨hq222, rfl⟩ := q221
            rw [gMod_em (show (0 : Int) < p by omega)]
            refine Go.nf (h' := hlr) (st' := [.long (gJ (((cf (bcl hp fw (rm hp (pwp hp (xm (fR hp) (letI := fR hp; 1) 1) p) fw) c.toNat) (r0)) - (0)) % (p : Int))), .int (gI (((r0) * (sz)) + (c))), .ref (f + 13)]) hq222 rfl (Nat.le_refl _) (Nat.le_refl _) ?_
            refine g_lastore dX6_fillGrid_135 cf_lr_1 (by omega) (by omega) (by omega) ?_
            obtain ⟨hh223, eh223⟩ : ∃ z : GH, z = hset hlr (f + 13) (aJ 1600 (gup (gfl (bgF hp fw (rm hp (pwp hp (xm (fR hp) (letI := fR hp; 1) 1) p) fw)) gg0 sz c r0) (((r0) * (sz)) + (c)) (((cf (bcl hp fw (rm hp (pwp hp (xm (fR hp) (letI := fR hp; 1) 1) p) fw) c.toNat) (r0)) - (0)) % (p : Int)))) := ⟨_, rfl⟩
            refine Go.hp eh223.symm ?_
            have fh223_0 : hh223.2 (f + 12) = some (oB 6 [.ref (B + 1), .ref (B + 7), .ref (f + 13), .ref (f + 14), .ref (f + 15), .ref (f + 17), .ref (f + 19), .int (gI (sz))]) := hs_n eh223 (show NE (f + 12) (f + 13) by unfold NE; omega) cf_lr_0
            have fh223_1 : hh223.2 (f + 13) = some (aJ 1600 (gup (gfl (bgF hp fw (rm hp (pwp hp (xm (fR hp) (letI := fR hp; 1) 1) p) fw)) gg0 sz c r0) (((r0) * (sz)) + (c)) (((cf (bcl hp fw (rm hp (pwp hp (xm (fR hp) (letI := fR hp; 1) 1) p) fw) c.toNat) (r0)) - (0)) % (p : Int)))) := hs_s eh223
            have fh223_2 : hh223.2 (B + 7) = some (oB 2 [.ref (B + 1), .ref (B + 8), .ref (B + 10), .ref (B + 12), .ref (B + 14), .ref (B + 16), .ref (B + 18), .ref (B + 20), .ref (B + 22)]) := hs_n eh223 (show NE (B + 7) (f + 13) by unfold NE; omega) cf_lr_2
            have fh223_3 : hh223.2 (B + 1) = some (oB 1 [.int (gI ((p : Int)))]) := hs_n eh223 (show NE (B + 1) (f + 13) by unfold NE; omega) cf_lr_3
            have fx223 : Fr [f + 12] hlr hh223 := Fr.w1 (Fr.rf _ _) (List.Mem.head _) eh223
            have rk223_4 : PW p B hh223 := (cr_lr_4).fr2 fx223 (ok_c (by omega) (fun _ h => absurd h (List.not_mem_nil)))
            have rk5223_0 : RP hp 84 hh223 (r) (fw) := (cr_lr_0).fr fx223 (Ai.c ar12 (Ai.n _))
            have rk5223_1 : RP hp 84 hh223 (f + 19) (bcl hp fw (rm hp (pwp hp (xm (fR hp) (letI := fR hp; 1) 1) p) fw) c.toNat) := (cr_lr_1).fr fx223 (Ai.c (show AP (f + 19) (f + 12) by unfold AP; omega) (Ai.n _))
            have rk5223_2 : RP hp 84 hh223 (f + 17) (xm (fR hp) (letI := fR hp; 1) 1) := (cr_lr_2).fr fx223 (Ai.c (show AP (f + 17) (f + 12) by unfold AP; omega) (Ai.n _))
            have rk5223_3 : RP hp 84 hh223 (f + 15) (rm hp (pwp hp (xm (fR hp) (letI := fR hp; 1) 1) p) fw) := (cr_lr_3).fr fx223 (Ai.c (show AP (f + 15) (f + 12) by unfold AP; omega) (Ai.n _))
            have fr223 : Fr ((f + 12) :: (f + 15) :: (f + 17) :: (f + 19) :: pl B) h hh223 := Fr.w1 fr_lr (List.Mem.head _) eh223
            refine g_iinc 1 (ls2 := [(3, .int (gI (r0 + 1))), (4, .long (gJ (0))), (2, .int (gI (c))), (0, .ref (f + 12)), (1, .ref (r))]) dX6_fillGrid_136 rfl (by decide) rfl ?_
            refine g_goto (tgt := 85) dX6_fillGrid_139 rfl ?_
            refine Go.sub [0, 2, 3, 4] rfl ?_
            exact ih_lr _ (by omega) (r0 + 1) hh223 rfl fr223 fh223_0 (by
                                                                      rw [← gfl_s (bgF hp fw (rm hp (pwp hp (xm (fR hp) (letI := fR hp; 1) 1) p) fw)) gg0 hc.1 (by omega) hr0.1 (by omega)]
                                                                      have e7 : bgF hp fw (rm hp (pwp hp (xm (fR hp) (letI := fR hp; 1) 1) p) fw) r0 c = (cf (bcl hp fw (rm hp (pwp hp (xm (fR hp) (letI := fR hp; 1) 1) p) fw) c.toNat) r0 - (0)) % p := by
                                                                        unfold bgF
                                                                        rw [if_neg (by omega)]
                                                                      rw [e7]; exact fh223_1) fh223_2 fh223_3 rk5223_0 rk5223_1 rk5223_2 rk5223_3 rk223_4 (by omega)
          · skip
            refine g_lconst1 dX6_fillGrid_98 ?_
            refine g_goto (tgt := 103) dX6_fillGrid_99 rfl ?_
            refine g_lstore (ls2 := [(4, .long (gJ (1))), (3, .int (gI (r0))), (2, .int (gI (c))), (0, .ref (f + 12)), (1, .ref (r))]) dX6_fillGrid_103 (by decide) rfl ?_
            refine g_aload_n 3 dX6_fillGrid_105 rfl ?_
            refine g_getf 2 dX6_fillGrid_106 kX6 (by decide) fX6_9 cf_lr_0 rfl ?_
            refine g_iload_n 1 dX6_fillGrid_109 rfl ?_
            refine g_aload_n 3 dX6_fillGrid_110 rfl ?_
            refine g_getf 7 dX6_fillGrid_111 kX6 (by decide) fX6_57 cf_lr_0 rfl ?_
            refine g_imul dX6_fillGrid_114 ?_
            refine g_iload_n 2 dX6_fillGrid_115 rfl ?_
            refine g_iadd dX6_fillGrid_116 ?_
            refine g_aload_n 3 dX6_fillGrid_117 rfl ?_
            refine g_getf 0 dX6_fillGrid_118 kX6 (by decide) fX6_34 cf_lr_0 rfl ?_
            refine g_aload_n 3 dX6_fillGrid_121 rfl ?_
            refine g_getf 6 dX6_fillGrid_122 kX6 (by decide) fX6_31 cf_lr_0 rfl ?_
            refine g_iload_n 1 dX6_fillGrid_125 rfl ?_
            refine g_callV (nc2 := 0) (ns2 := 0) (ci := 5) (As := [.int (gI (r0))]) (st := [.ref (B + 1), .int (gI (((r0) * (sz)) + (c))), .ref (f + 13)]) rfl dX6_fillGrid_126 okX5_number lX6_99 itX5_number seX5_number rfl (cr_lr_1).o (by decide) (by decide) rfl (Nat.le_of_ble_eq_true rfl) (sP_number N _ (f + 19) 84 p hp (bcl hp fw (rm hp (pwp hp (xm (fR hp) (letI := fR hp; 1) 1) p) fw) c.toNat) (r0) (by unfold gW; omega) cr_lr_1) (by omega) (by omega) (fun v224 hc224 q224 => ?_)
            obtain ⟨hq225, rfl⟩ := q224
            refine Go.nf (h' := hlr) (st' := [.long (gJ (cf (bcl hp fw (rm hp (pwp hp (xm (fR hp) (letI := fR hp; 1) 1) p) fw) c.toNat) (r0))), .ref (B + 1), .int (gI (((r0) * (sz)) + (c))), .ref (f + 13)]) hq225 rfl (Nat.le_refl _) (Nat.le_refl _) ?_
            refine g_lload 0 dX6_fillGrid_129 rfl ?_
            refine g_lsub dX6_fillGrid_131 ?_
            refine g_callV (nc2 := 0) (ns2 := 0) (ci := 1) (As := [.long (gJ ((cf (bcl hp fw (rm hp (pwp hp (xm (fR hp) (letI := fR hp; 1) 1) p) fw) c.toNat) (r0)) - (1)))]) (st := [.int (gI (((r0) * (sz)) + (c))), .ref (f + 13)]) rfl dX6_fillGrid_132 okX1_mod lX6_103 itX1_mod seX1_mod rfl cf_lr_3 (by decide) (by decide) rfl (Nat.le_of_ble_eq_true rfl) (sX1_mod N _ (B + 1) (p : Int) ((cf (bcl hp fw (rm hp (pwp hp (xm (fR hp) (letI := fR hp; 1) 1) p) fw) c.toNat) (r0)) - (1)) (by unfold gX; omega) (by omega) (by omega) cf_lr_3) (by omega) (by omega) (fun v226 hc226 q226 => ?_)
            obtain ⟨hq227, rfl⟩ := q226
            rw [gMod_em (show (0 : Int) < p by omega)]
            refine Go.nf (h' := hlr) (st' := [.long (gJ (((cf (bcl hp fw (rm hp (pwp hp (xm (fR hp) (letI := fR hp; 1) 1) p) fw) c.toNat) (r0)) - (1)) % (p : Int))), .int (gI (((r0) * (sz)) + (c))), .ref (f + 13)]) hq227 rfl (Nat.le_refl _) (Nat.le_refl _) ?_
            refine g_lastore dX6_fillGrid_135 cf_lr_1 (by omega) (by omega) (by omega) ?_
            obtain ⟨hh228, eh228⟩ : ∃ z : GH, z = hset hlr (f + 13) (aJ 1600 (gup (gfl (bgF hp fw (rm hp (pwp hp (xm (fR hp) (letI := fR hp; 1) 1) p) fw)) gg0 sz c r0) (((r0) * (sz)) + (c)) (((cf (bcl hp fw (rm hp (pwp hp (xm (fR hp) (letI := fR hp; 1) 1) p) fw) c.toNat) (r0)) - (1)) % (p : Int)))) := ⟨_, rfl⟩
            refine Go.hp eh228.symm ?_
            have fh228_0 : hh228.2 (f + 12) = some (oB 6 [.ref (B + 1), .ref (B + 7), .ref (f + 13), .ref (f + 14), .ref (f + 15), .ref (f + 17), .ref (f + 19), .int (gI (sz))]) := hs_n eh228 (show NE (f + 12) (f + 13) by unfold NE; omega) cf_lr_0
            have fh228_1 : hh228.2 (f + 13) = some (aJ 1600 (gup (gfl (bgF hp fw (rm hp (pwp hp (xm (fR hp) (letI := fR hp; 1) 1) p) fw)) gg0 sz c r0) (((r0) * (sz)) + (c)) (((cf (bcl hp fw (rm hp (pwp hp (xm (fR hp) (letI := fR hp; 1) 1) p) fw) c.toNat) (r0)) - (1)) % (p : Int)))) := hs_s eh228
            have fh228_2 : hh228.2 (B + 7) = some (oB 2 [.ref (B + 1), .ref (B + 8), .ref (B + 10), .ref (B + 12), .ref (B + 14), .ref (B + 16), .ref (B + 18), .ref (B + 20), .ref (B + 22)]) := hs_n eh228 (show NE (B + 7) (f + 13) by unfold NE; omega) cf_lr_2
            have fh228_3 : hh228.2 (B + 1) = some (oB 1 [.int (gI ((p : Int)))]) := hs_n eh228 (show NE (B + 1) (f + 13) by unfold NE; omega) cf_lr_3
            have fx228 : Fr [f + 12] hlr hh228 := Fr.w1 (Fr.rf _ _) (List.Mem.head _) eh228
            have rk228_4 : PW p B hh228 := (cr_lr_4).fr2 fx228 (ok_c (by omega) (fun _ h => absurd h (List.not_mem_nil)))
            have rk5228_0 : RP hp 84 hh228 (r) (fw) := (cr_lr_0).fr fx228 (Ai.c ar12 (Ai.n _))
            have rk5228_1 : RP hp 84 hh228 (f + 19) (bcl hp fw (rm hp (pwp hp (xm (fR hp) (letI := fR hp; 1) 1) p) fw) c.toNat) := (cr_lr_1).fr fx228 (Ai.c (show AP (f + 19) (f + 12) by unfold AP; omega) (Ai.n _))
            have rk5228_2 : RP hp 84 hh228 (f + 17) (xm (fR hp) (letI := fR hp; 1) 1) := (cr_lr_2).fr fx228 (Ai.c (show AP (f + 17) (f + 12) by unfold AP; omega) (Ai.n _))
            have rk5228_3 : RP hp 84 hh228 (f + 15) (rm hp (pwp hp (xm (fR hp) (letI := fR hp; 1) 1) p) fw) := (cr_lr_3).fr fx228 (Ai.c (show AP (f + 15) (f + 12) by unfold AP; omega) (Ai.n _))
            have fr228 : Fr ((f + 12) :: (f + 15) :: (f + 17) :: (f + 19) :: pl B) h hh228 := Fr.w1 fr_lr (List.Mem.head _) eh228
            refine g_iinc 1 (ls2 := [(3, .int (gI (r0 + 1))), (4, .long (gJ (1))), (2, .int (gI (c))), (0, .ref (f + 12)), (1, .ref (r))]) dX6_fillGrid_136 rfl (by decide) rfl ?_
            refine g_goto (tgt := 85) dX6_fillGrid_139 rfl ?_
            refine Go.sub [0, 2, 3, 4] rfl ?_
            exact ih_lr _ (by omega) (r0 + 1) hh228 rfl fr228 fh228_0 (by
                                                                      rw [← gfl_s (bgF hp fw (rm hp (pwp hp (xm (fR hp) (letI := fR hp; 1) 1) p) fw)) gg0 hc.1 (by omega) hr0.1 (by omega)]
                                                                      have e7 : bgF hp fw (rm hp (pwp hp (xm (fR hp) (letI := fR hp; 1) 1) p) fw) r0 c = (cf (bcl hp fw (rm hp (pwp hp (xm (fR hp) (letI := fR hp; 1) 1) p) fw) c.toNat) r0 - (1)) % p := by
                                                                        unfold bgF
                                                                        rw [if_pos (by omega)]
                                                                      rw [e7]; exact fh228_1) fh228_2 fh228_3 rk5228_0 rk5228_1 rk5228_2 rk5228_3 rk228_4 (by omega)
      exact lr _ (0) hlc rfl fr_lc cf_lc_0 cf_lc_1 cf_lc_2 cf_lc_3 cr_lc_0 cr_lc_1 cr_lc_2 cr_lc_3 cr_lc_4 (by omega)
  exact lc _ (0) hc9 rfl fr11 fk11_0 (by rw [gfl_0 _ _ (by omega)]; exact fk11_1) fk11_2 fk11_3 rk5011_1 rk5011_2 rk5011_3 rn10_0 rn10_1 (by omega) (by
                                                                      show dgi hp (cz hp (zi hp 1)) ≤ 40
                                                                      exact cz_dgi40 hp _)
