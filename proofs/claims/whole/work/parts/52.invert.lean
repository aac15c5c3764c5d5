theorem sP_settle (N : GN) (h : GH) (r n p : Nat) (hp : prm p) (hp2 : p ≤ 65536) (d t : Int) (g : Int → Int) (f : Px p) (hn1 : 1 ≤ n) (hn2 : n ≤ 1000) (ht : -1000 ≤ t) (ht2 : t < n) (hb : ∀ k, 0 ≤ k → k ≤ t → 0 ≤ g k ∧ g k < p) (hf : f = ph hp g t) (hr : h.2 r = some (oB 5 [.ref (r + 1), .int (gI d)])) (hn : h.2 (r + 1) = some (aJ n g)) : Sp N yX5_settle mX5_settle 0 0 [.ref r, .int (gI t)] h (fun v h1 => v = none ∧ Fr [r] h h1 ∧ RP hp n h1 r f) := by
  obtain ⟨g2, eg⟩ : ∃ g2 : Int → Int, g2 = fun j => (gJ (g j)).toInt := ⟨_, rfl⟩
  have hn3 : h.2 (r + 1) = some (aJ n g2) := by rw [hn, eg, ← aJ_nf]
  refine Sp.imp (sX5_settle N h r (r + 1) n d t g2 hn1 hn2 (fun j => by rw [eg]; exact gJ_in _) (by unfold gW; omega) ht hr hn3 (by omega)) (fun v h1 q => ?_)
  obtain ⟨rfl, e⟩ := q
  rw [if_pos ht2] at e
  have hg2 : ∀ k, 0 ≤ k → k ≤ t → g2 k = g k := fun k k0 k1 => by
    have := hb k k0 k1
    rw [eg]
    exact gJ_id (by unfold gX; omega)
  have key : PO hp (tdg g2 (t + 1).toNat) g2 f := by
    rcases Int.lt_or_le t (-1) with z | z
    · have e1 : ph hp g t = ph hp g2 (-1) := funext fun k => by
        letI := fR hp
        show (if (k : Int) ≤ t then zi hp (g k) else 0) = (if (k : Int) ≤ -1 then zi hp (g2 k) else 0)
        rw [if_neg (by omega), if_neg (by omega)]
      rw [hf, e1, show (t + 1).toNat = 0 by omega]
      exact PO.td (by omega) (fun k k0 k1 => by omega)
    · rw [hf, ← ph_cg hp (g := g) (g2 := g2) (fun k k0 k1 => by rw [hg2 k k0 k1])]
      exact PO.td (by omega) (fun k k0 k1 => by rw [hg2 k k0 k1]; exact hb k k0 k1)
  have ti := tdg_in g2 (t + 1).toNat
  exact ⟨rfl, Fr.w0 (Fr.rf _ _) (List.Mem.head _) e, RP.mk (hs_s e) (by rw [e, hset_n _ _ (by omega)]; exact hn3) ⟨by omega, hn1, hn2⟩ key hp2⟩
/-- the difference -/
abbrev psb {p : Nat} (h : prm p) (f g : Px p) : Px p := letI := pR h; f - g
/-- the derivative -/
def drv {p : Nat} (h : prm p) (f : Px p) : Px p := fun k => letI := fR h; zi h ((k : Int) + 1) * f (k + 1)
section
variable {p : Nat}
theorem ph_sb {h : prm p} {ga gb g : Int → Int} {d e t : Int} (hd : d ≤ t) (he : e ≤ t) (hg : ∀ k, 0 ≤ k → k ≤ t → g k = ((if 0 ≤ k ∧ k ≤ d then ga k else 0) - (if 0 ≤ k ∧ k ≤ e then gb k else 0)) % p) : psb h (ph h ga d) (ph h gb e) = ph h g t := funext fun k => by
  letI := fR h
  show (if (k : Int) ≤ d then zi h (ga k) else 0) - (if (k : Int) ≤ e then zi h (gb k) else 0) = (if (k : Int) ≤ t then zi h (g k) else 0)
  by_cases z : (k : Int) ≤ t
  · rw [if_pos z, hg k (by omega) z, zi_mod, zi_sub]
    by_cases x : (k : Int) ≤ d
    · by_cases y : (k : Int) ≤ e
      · rw [if_pos x, if_pos y, if_pos ⟨by omega, x⟩, if_pos ⟨by omega, y⟩]
      · rw [if_pos x, if_neg y, if_pos ⟨by omega, x⟩, if_neg (by omega), zi_0 h]
    · by_cases y : (k : Int) ≤ e
      · rw [if_neg x, if_pos y, if_neg (by omega), if_pos ⟨by omega, y⟩, zi_0 h]
      · rw [if_neg x, if_neg y, if_neg (by omega), if_neg (by omega), zi_0 h]
  · rw [if_neg z, if_neg (by omega), if_neg (by omega)]; grind
theorem ph_drv {h : prm p} {g g2 : Int → Int} {d : Int} (hg : ∀ k, 0 ≤ k → k ≤ d - 1 → g2 k = g (k + 1) * (k + 1) % p) : drv h (ph h g d) = ph h g2 (d - 1) := funext fun k => by
  letI := fR h
  show zi h ((k : Int) + 1) * (if ((k + 1 : Nat) : Int) ≤ d then zi h (g ((k + 1 : Nat) : Int)) else 0) = (if (k : Int) ≤ d - 1 then zi h (g2 k) else 0)
  by_cases z : (k : Int) ≤ d - 1
  · rw [if_pos z, if_pos (by omega), hg k (by omega) z, zi_mod, zi_mul, show ((k + 1 : Nat) : Int) = (k : Int) + 1 by omega]; grind
  · rw [if_neg z, if_neg (by omega)]; grind
end
set_option maxHeartbeats 4000000 in
set_option maxRecDepth 100000 in
theorem sP_lessen (N : GN) (h : GH) (B r a b p : Nat) (hp : prm p) (hp2 : p ≤ 65536) (f fa fb : Px p) (hth : h.2 (B + 7) = some (oB 2 [.ref (B + 1), .ref (B + 8), .ref (B + 10), .ref (B + 12), .ref (B + 14), .ref (B + 16), .ref (B + 18), .ref (B + 20), .ref (B + 22)])) (hfl : h.2 (B + 1) = some (oB 1 [.int (gI ((p : Int)))])) (hr : RP hp 84 h r f) (ha : RP hp 84 h a fa) (hb : RP hp 84 h b fb) (h8 : RA 84 h (B + 8)) (hd : dgi hp fa + dgi hp fb < 84) (or1 : B + 10 ≤ r) (oa : B + 10 ≤ a) (ob : B + 10 ≤ b) : Sp N yX2_lessen mX2_lessen 0 0 [.ref (B + 7), .ref (r), .ref (a), .ref (b)] h (fun v h1 => v = none ∧ Fr [r, B + 8] h h1 ∧ RP hp 84 h1 r (psb hp f (pml hp fa fb)) ∧ RA 84 h1 (B + 8)) := by
  refine Sp.of (by decide) rfl rfl (Nat.le_of_ble_eq_true rfl) ?_
  show Go N mX2_lessen _ 0 0 h 0 [(0, .ref (B + 7)), (1, .ref (r)), (2, .ref (a)), (3, .ref (b))] []
  have hp1 := hp.1
  have ne0 : NE (B + 7) (B + 1) := by unfold NE; omega
  have ne1 : NE (B + 7) (r) := by unfold NE; omega
  have ne2 : NE (B + 7) (r + 1) := by unfold NE; omega
  have ne3 : NE (B + 7) (B + 8) := by unfold NE; omega
  have ne4 : NE (B + 7) (B + 9) := by unfold NE; omega
  have ne5 : NE (B + 1) (r) := by unfold NE; omega
  have ne6 : NE (B + 1) (r + 1) := by unfold NE; omega
  have ne7 : NE (B + 1) (B + 8) := by unfold NE; omega
  have ne8 : NE (B + 1) (B + 9) := by unfold NE; omega
  have ne9 : NE (r) (r + 1) := by unfold NE; omega
  have ne10 : NE (r) (B + 8) := by unfold NE; omega
  have ne11 : NE (r) (B + 9) := by unfold NE; omega
  have ne12 : NE (r + 1) (B + 8) := by unfold NE; omega
  have ne13 : NE (r + 1) (B + 9) := by unfold NE; omega
  have ne14 : NE (B + 8) (B + 9) := by unfold NE; omega
  have hdr := hr.lt
  have hmd : dgi hp (pml hp fa fb) < 84 := by
    have : dgi hp (pml hp fa fb) = _ := mul_dgi hp ha.po hb.po
    rw [this]; split <;> omega
  have hmg : -1 ≤ dgi hp (pml hp fa fb) := dgi_ge hp (mul_po ha.po hb.po)
  refine g_aload_n 0 dX2_lessen_0 rfl ?_
  refine g_aload_n 2 dX2_lessen_1 rfl ?_
  refine g_aload_n 3 dX2_lessen_2 rfl ?_
  refine g_aload_n 0 dX2_lessen_3 rfl ?_
  refine g_getf 1 dX2_lessen_4 kX2 (by decide) fX2_14 hth rfl ?_
  refine g_callV (nc2 := 0) (ns2 := 0) (ci := 2) (As := [.ref (a), .ref (b), .ref (B + 8)]) (st := []) rfl dX2_lessen_7 okX2_pile lX2_53 itX2_pile seX2_pile rfl hth (by decide) (by decide) rfl (Nat.le_of_ble_eq_true rfl) (sP_pile N _ (B + 7) (a) (b) (B + 8) 84 84 84 p hp hp2 (fa) (fb) ha hb h8 hd (show AP (a) (B + 8) by unfold AP; omega) (show AP (b) (B + 8) by unfold AP; omega)) (by omega) (by omega) (fun v1 hc1 q1 => ?_)
  obtain ⟨rfl, frc2, rn2_0⟩ := q1
  have fk3_0 : hc1.2 (B + 7) = some (oB 2 [.ref (B + 1), .ref (B + 8), .ref (B + 10), .ref (B + 12), .ref (B + 14), .ref (B + 16), .ref (B + 18), .ref (B + 20), .ref (B + 22)]) := Fr.at0 frc2 (Ni.c ⟨ne3, ne4⟩ (Ni.n _)) hth
  have fk3_1 : hc1.2 (B + 1) = some (oB 1 [.int (gI ((p : Int)))]) := Fr.at0 frc2 (Ni.c ⟨ne7, ne8⟩ (Ni.n _)) hfl
  have rk3_0 : RP hp 84 hc1 (r) (f) := (hr).fr frc2 (Ai.c (show AP (r) (B + 8) by unfold AP; omega) (Ai.n _))
  have rk3_1 : RP hp 84 hc1 (a) (fa) := (ha).fr frc2 (Ai.c (show AP (a) (B + 8) by unfold AP; omega) (Ai.n _))
  have rk3_2 : RP hp 84 hc1 (b) (fb) := (hb).fr frc2 (Ai.c (show AP (b) (B + 8) by unfold AP; omega) (Ai.n _))
  have fr3 : Fr [r, B + 8] h hc1 := ((Fr.rf [r, B + 8] h)).tr ((frc2).mo (sub_c (List.Mem.tail _ (List.Mem.head _)) sub_n))
  refine Go.nf (h' := hc1) (st' := []) rfl rfl (Nat.le_refl _) (Nat.le_refl _) ?_
  obtain ⟨gw, ⟨w1, w2, w3, w4, w5, w6, w7⟩, wb, wp⟩ := rn2_0
  obtain ⟨g, ⟨x1, x2, x3, x4, x5, x6, x7⟩, xP⟩ := rk3_0
  refine g_aload_n 1 dX2_lessen_10 rfl ?_
  refine g_getf 1 dX2_lessen_11 kX5 (by decide) fX2_45 x1 rfl ?_
  refine g_aload_n 0 dX2_lessen_14 rfl ?_
  refine g_getf 1 dX2_lessen_15 kX2 (by decide) fX2_14 fk3_0 rfl ?_
  refine g_getf 1 dX2_lessen_18 kX5 (by decide) fX2_45 w1 rfl ?_
  refine g_max dX2_lessen_21 lX2_104 (by unfold gW; omega) (by unfold gW; omega) (by decide) (Nat.le_of_ble_eq_true rfl) ?_
  obtain ⟨t, ht⟩ : ∃ t : Int, t = if dgi hp (f) < dgi hp (pml hp (fa) (fb)) then dgi hp (pml hp (fa) (fb)) else dgi hp (f) := ⟨_, rfl⟩
  have ht2 : dgi hp f ≤ t ∧ dgi hp (pml hp fa fb) ≤ t ∧ (t = dgi hp f ∨ t = dgi hp (pml hp fa fb)) := by rw [ht]; split <;> omega
  rw [← ht]
  refine g_istore (ls2 := [(4, .int (gI (t))), (0, .ref (B + 7)), (1, .ref (r)), (2, .ref (a)), (3, .ref (b))]) dX2_lessen_24 (by decide) rfl ?_
  refine g_iconst dX2_lessen_26 ?_
  refine g_istore (ls2 := [(5, .int (gI (0))), (4, .int (gI (t))), (0, .ref (B + 7)), (1, .ref (r)), (2, .ref (a)), (3, .ref (b))]) dX2_lessen_27 (by decide) rfl ?_
  have ll : ∀ (kk : Nat) (k : Int) (hll : GH), kk = (t + 1 - k).toNat → Fr [r, B + 8] h hll → hll.2 (B + 8) = some (oB 5 [.ref (B + 9), .int (gI (dgi hp (pml hp (fa) (fb))))]) → hll.2 (B + 9) = some (aJ 84 (gw)) → hll.2 (r) = some (oB 5 [.ref (r + 1), .int (gI (dgi hp (f)))]) → hll.2 (r + 1) = some (aJ 84 (gF g (fun j => ((if 0 ≤ j ∧ j ≤ dgi hp f then g j else 0) - (if 0 ≤ j ∧ j ≤ dgi hp (pml hp fa fb) then gw j else 0)) % p) k)) → (0 ≤ k) → (k ≤ t + 1) → Go N mX2_lessen (fun v h1 => v = none ∧ Fr [r, B + 8] h h1 ∧ RP hp 84 h1 r (psb hp f (pml hp fa fb)) ∧ RA 84 h1 (B + 8)) 0 0 hll 29 [(5, .int (gI (k))), (4, .int (gI (t))), (0, .ref (B + 7)), (1, .ref (r)), (2, .ref (a)), (3, .ref (b))] [] := by
    refine Go.ind (fun kk ih_ll => ?_)
    intro k hll hkk_ll fr_ll cf_ll_0 cf_ll_1 cf_ll_2 cf_ll_3 hk0 hk1
    have cg_ll_0 : hll.2 (B + 7) = some (oB 2 [.ref (B + 1), .ref (B + 8), .ref (B + 10), .ref (B + 12), .ref (B + 14), .ref (B + 16), .ref (B + 18), .ref (B + 20), .ref (B + 22)]) := Fr.at0 fr_ll (Ni.c ⟨ne1, ne2⟩ (Ni.c ⟨ne3, ne4⟩ (Ni.n _))) hth
    have cg_ll_1 : hll.2 (B + 1) = some (oB 1 [.int (gI ((p : Int)))]) := Fr.at0 fr_ll (Ni.c ⟨ne5, ne6⟩ (Ni.c ⟨ne7, ne8⟩ (Ni.n _))) hfl
    refine g_iload 0 dX2_lessen_29 rfl ?_
    refine g_iload 1 dX2_lessen_31 rfl ?_
    refine g_icmp_gt (tgt := 72) dX2_lessen_33 rfl (by unfold gW; omega) (by unfold gW; omega) (fun c104 => ?_) (fun c104 => ?_)
    · skip
      have hkk : k = t + 1 := by omega
      refine g_aload_n 3 dX2_lessen_72 rfl ?_
      refine g_iload 1 dX2_lessen_73 rfl ?_
      refine g_callV (nc2 := 0) (ns2 := 0) (ci := 5) (As := [.int (gI (t))]) (st := []) rfl dX2_lessen_75 okX5_settle lX2_70 itX5_settle seX5_settle rfl cf_ll_2 (by decide) (by decide) rfl (Nat.le_of_ble_eq_true rfl) (sP_settle N _ (r) 84 p hp hp2 (dgi hp (f)) (t) (gF g (fun j => ((if 0 ≤ j ∧ j ≤ dgi hp f then g j else 0) - (if 0 ≤ j ∧ j ≤ dgi hp (pml hp fa fb) then gw j else 0)) % p) k) (psb hp f (pml hp fa fb)) (by omega) (by omega) (by omega) (by omega) (fun j j0 j1 => by unfold gF; rw [if_pos (by omega)]; exact ⟨Int.emod_nonneg _ (by omega), Int.emod_lt_of_pos _ (by omega)⟩) (by
        conv => lhs; rw [xP.2.2.2, wp]
        exact ph_sb ht2.1 ht2.2.1 (fun j j0 j1 => by unfold gF; rw [if_pos (by omega)])) cf_ll_2 cf_ll_3) (by omega) (by omega) (fun v105 hc105 q105 => ?_)
      obtain ⟨rfl, frc106, rn106⟩ := q105
      have fk107_0 : hc105.2 (B + 7) = some (oB 2 [.ref (B + 1), .ref (B + 8), .ref (B + 10), .ref (B + 12), .ref (B + 14), .ref (B + 16), .ref (B + 18), .ref (B + 20), .ref (B + 22)]) := Fr.at0 frc106 (Ni.c ⟨ne1, ne2⟩ (Ni.n _)) cg_ll_0
      have fk107_1 : hc105.2 (B + 1) = some (oB 1 [.int (gI ((p : Int)))]) := Fr.at0 frc106 (Ni.c ⟨ne5, ne6⟩ (Ni.n _)) cg_ll_1
      have fk107_2 : hc105.2 (B + 8) = some (oB 5 [.ref (B + 9), .int (gI (dgi hp (pml hp (fa) (fb))))]) := Fr.at0 frc106 (Ni.c ⟨(ne10).s, (ne12).s⟩ (Ni.n _)) cf_ll_0
      have fk107_3 : hc105.2 (B + 9) = some (aJ 84 (gw)) := Fr.at0 frc106 (Ni.c ⟨(ne11).s, (ne13).s⟩ (Ni.n _)) cf_ll_1
      have fr107 : Fr [r, B + 8] h hc105 := (fr_ll).tr ((frc106).mo (sub_c (List.Mem.head _) sub_n))
      refine Go.nf (h' := hc105) (st' := []) rfl rfl (Nat.le_refl _) (Nat.le_refl _) ?_
      exact g_vret dX2_lessen_78 rfl ⟨rfl, fr107, rn106, ⟨_, gw, fk107_2, fk107_3, w3, w4, w5, w6, w7⟩⟩
    · skip
      refine g_aload_n 3 dX2_lessen_36 rfl ?_
      refine g_getf 0 dX2_lessen_37 kX5 (by decide) fX2_49 cf_ll_2 rfl ?_
      refine g_iload 0 dX2_lessen_40 rfl ?_
      refine g_aload_n 2 dX2_lessen_42 rfl ?_
      refine g_getf 0 dX2_lessen_43 kX2 (by decide) fX2_41 cg_ll_0 rfl ?_
      refine g_aload_n 3 dX2_lessen_46 rfl ?_
      refine g_iload 0 dX2_lessen_47 rfl ?_
      refine g_callV (nc2 := 0) (ns2 := 0) (ci := 5) (As := [.int (gI (k))]) (st := [.ref (B + 1), .int (gI (k)), .ref (r + 1)]) rfl dX2_lessen_49 okX5_number lX2_107 itX5_number seX5_number rfl cf_ll_2 (by decide) (by decide) rfl (Nat.le_of_ble_eq_true rfl) (sX5_number N _ (r) (r + 1) 84 (dgi hp (f)) (k) (gF g (fun j => ((if 0 ≤ j ∧ j ≤ dgi hp f then g j else 0) - (if 0 ≤ j ∧ j ≤ dgi hp (pml hp fa fb) then gw j else 0)) % p) k) (by omega) (by omega) (by unfold gW; omega) (by omega) (by omega) cf_ll_2 cf_ll_3) (by omega) (by omega) (fun v108 hc108 q108 => ?_)
      obtain ⟨hq109, rfl⟩ := q108
      refine Go.nf (h' := hll) (st' := [.long (gJ (if 0 ≤ k ∧ k ≤ dgi hp (f) then (gF g (fun j => ((if 0 ≤ j ∧ j ≤ dgi hp f then g j else 0) - (if 0 ≤ j ∧ j ≤ dgi hp (pml hp fa fb) then gw j else 0)) % p) k) (k) else 0)), .ref (B + 1), .int (gI (k)), .ref (r + 1)]) hq109 rfl (Nat.le_refl _) (Nat.le_refl _) ?_
      rw [gF_at]
      refine g_aload_n 2 dX2_lessen_52 rfl ?_
      refine g_getf 1 dX2_lessen_53 kX2 (by decide) fX2_14 cg_ll_0 rfl ?_
      refine g_iload 0 dX2_lessen_56 rfl ?_
      refine g_callV (nc2 := 0) (ns2 := 0) (ci := 5) (As := [.int (gI (k))]) (st := [.long (gJ (if 0 ≤ k ∧ k ≤ dgi hp f then g k else 0)), .ref (B + 1), .int (gI (k)), .ref (r + 1)]) rfl dX2_lessen_58 okX5_number lX2_107 itX5_number seX5_number rfl cf_ll_0 (by decide) (by decide) rfl (Nat.le_of_ble_eq_true rfl) (sX5_number N _ (B + 8) (B + 9) 84 (dgi hp (pml hp (fa) (fb))) (k) (gw) (by omega) (by omega) (by unfold gW; omega) (by omega) (by omega) cf_ll_0 cf_ll_1) (by omega) (by omega) (fun v110 hc110 q110 => ?_)
      obtain ⟨hq111, rfl⟩ := q110
      refine Go.nf (h' := hll) (st' := [.long (gJ (if 0 ≤ k ∧ k ≤ dgi hp (pml hp (fa) (fb)) then (gw) (k) else 0)), .long (gJ (if 0 ≤ k ∧ k ≤ dgi hp f then g k else 0)), .ref (B + 1), .int (gI (k)), .ref (r + 1)]) hq111 rfl (Nat.le_refl _) (Nat.le_refl _) ?_
      refine g_lsub dX2_lessen_61 ?_
      have b1 : 0 ≤ (if 0 ≤ k ∧ k ≤ dgi hp f then g k else 0) ∧ (if 0 ≤ k ∧ k ≤ dgi hp f then g k else 0) < p := by
        split
        · rename_i z; exact xP.2.1 k z.1 z.2
        · omega
      have b2 : 0 ≤ (if 0 ≤ k ∧ k ≤ dgi hp (pml hp fa fb) then gw k else 0) ∧ (if 0 ≤ k ∧ k ≤ dgi hp (pml hp fa fb) then gw k else 0) ≤ 4299262263296 := by
        split
        · rename_i z; exact wb k z.1 z.2
        · omega
      have b3 : gX ((if 0 ≤ k ∧ k ≤ dgi hp f then g k else 0) - (if 0 ≤ k ∧ k ≤ dgi hp (pml hp fa fb) then gw k else 0)) := by unfold gX; generalize (if 0 ≤ k ∧ k ≤ dgi hp f then g k else 0) = z1 at *; generalize (if 0 ≤ k ∧ k ≤ dgi hp (pml hp fa fb) then gw k else 0) = z2 at *; omega
      refine g_callV (nc2 := 0) (ns2 := 0) (ci := 1) (As := [.long (gJ ((if 0 ≤ k ∧ k ≤ dgi hp f then g k else 0) - (if 0 ≤ k ∧ k ≤ dgi hp (pml hp (fa) (fb)) then (gw) (k) else 0)))]) (st := [.int (gI (k)), .ref (r + 1)]) rfl dX2_lessen_62 okX1_mod lX2_111 itX1_mod seX1_mod rfl cg_ll_1 (by decide) (by decide) rfl (Nat.le_of_ble_eq_true rfl) (sX1_mod N _ (B + 1) (p : Int) ((if 0 ≤ k ∧ k ≤ dgi hp f then g k else 0) - (if 0 ≤ k ∧ k ≤ dgi hp (pml hp (fa) (fb)) then (gw) (k) else 0)) b3 (by omega) (by omega) cg_ll_1) (by omega) (by omega) (fun v112 hc112 q112 => ?_)
      obtain ⟨hq113, rfl⟩ := q112
      rw [gMod_em (show (0 : Int) < p by omega)]
      refine Go.nf (h' := hll) (st' := [.long (gJ (((if 0 ≤ k ∧ k ≤ dgi hp f then g k else 0) - (if 0 ≤ k ∧ k ≤ dgi hp (pml hp (fa) (fb)) then (gw) (k) else 0)) % (p : Int))), .int (gI (k)), .ref (r + 1)]) hq113 rfl (Nat.le_refl _) (Nat.le_refl _) ?_
      refine g_lastore dX2_lessen_65 cf_ll_3 (by omega) (by omega) (by omega) ?_
      obtain ⟨hh114, eh114⟩ : ∃ z : GH, z = hset hll (r + 1) (aJ 84 (gup (gF g (fun j => ((if 0 ≤ j ∧ j ≤ dgi hp f then g j else 0) - (if 0 ≤ j ∧ j ≤ dgi hp (pml hp fa fb) then gw j else 0)) % p) k) (k) (((if 0 ≤ k ∧ k ≤ dgi hp f then g k else 0) - (if 0 ≤ k ∧ k ≤ dgi hp (pml hp (fa) (fb)) then (gw) (k) else 0)) % (p : Int)))) := ⟨_, rfl⟩
      refine Go.hp eh114.symm ?_
      have fh114_0 : hh114.2 (B + 7) = some (oB 2 [.ref (B + 1), .ref (B + 8), .ref (B + 10), .ref (B + 12), .ref (B + 14), .ref (B + 16), .ref (B + 18), .ref (B + 20), .ref (B + 22)]) := hs_n eh114 ne2 cg_ll_0
      have fh114_1 : hh114.2 (B + 1) = some (oB 1 [.int (gI ((p : Int)))]) := hs_n eh114 ne6 cg_ll_1
      have fh114_2 : hh114.2 (B + 8) = some (oB 5 [.ref (B + 9), .int (gI (dgi hp (pml hp (fa) (fb))))]) := hs_n eh114 (ne12).s cf_ll_0
      have fh114_3 : hh114.2 (B + 9) = some (aJ 84 (gw)) := hs_n eh114 (ne13).s cf_ll_1
      have fh114_4 : hh114.2 (r) = some (oB 5 [.ref (r + 1), .int (gI (dgi hp (f)))]) := hs_n eh114 ne9 cf_ll_2
      have fh114_5 : hh114.2 (r + 1) = some (aJ 84 (gup (gF g (fun j => ((if 0 ≤ j ∧ j ≤ dgi hp f then g j else 0) - (if 0 ≤ j ∧ j ≤ dgi hp (pml hp fa fb) then gw j else 0)) % p) k) (k) (((if 0 ≤ k ∧ k ≤ dgi hp f then g k else 0) - (if 0 ≤ k ∧ k ≤ dgi hp (pml hp (fa) (fb)) then (gw) (k) else 0)) % (p : Int)))) := hs_s eh114
      have fr114 : Fr [r, B + 8] h hh114 := Fr.w1 fr_ll (List.Mem.head _) eh114
      refine g_iinc 0 (ls2 := [(5, .int (gI (k + 1))), (4, .int (gI (t))), (0, .ref (B + 7)), (1, .ref (r)), (2, .ref (a)), (3, .ref (b))]) dX2_lessen_66 rfl (by decide) rfl ?_
      refine g_goto (tgt := 29) dX2_lessen_69 rfl ?_
      exact ih_ll _ (by omega) (k + 1) hh114 rfl fr114 fh114_2 fh114_3 fh114_4 (by rw [← gF_s g (fun j => ((if 0 ≤ j ∧ j ≤ dgi hp f then g j else 0) - (if 0 ≤ j ∧ j ≤ dgi hp (pml hp fa fb) then gw j else 0)) % p) hk0]; exact fh114_5) (by omega) (by omega)
  exact ll _ (0) hc1 rfl fr3 w1 w2 x1 (by rw [gF_0]; exact x2) (by omega) (by omega)
set_option maxHeartbeats 4000000 in
set_option maxRecDepth 100000 in
theorem sP_derive (N : GN) (h : GH) (B a o p : Nat) (hp : prm p) (hp2 : p ≤ 65536) (f : Px p) (hth : h.2 (B + 7) = some (oB 2 [.ref (B + 1), .ref (B + 8), .ref (B + 10), .ref (B + 12), .ref (B + 14), .ref (B + 16), .ref (B + 18), .ref (B + 20), .ref (B + 22)])) (hfl : h.2 (B + 1) = some (oB 1 [.int (gI ((p : Int)))])) (ha : RP hp 84 h a f) (ho : RA 84 h o) (oo : B + 8 ≤ o) (oa : B + 8 ≤ a) (aao : AP a o) : Sp N yX2_derive mX2_derive 0 0 [.ref (B + 7), .ref (a), .ref (o)] h (fun v h1 => v = none ∧ Fr [o] h h1 ∧ RP hp 84 h1 o (drv hp f)) := by
  refine Sp.of (by decide) rfl rfl (Nat.le_of_ble_eq_true rfl) ?_
  show Go N mX2_derive _ 0 0 h 0 [(0, .ref (B + 7)), (1, .ref (a)), (2, .ref (o))] []
  have hp1 := hp.1
  have ne0 : NE (B + 7) (B + 1) := by unfold NE; omega
  have ne1 : NE (B + 7) (o) := by unfold NE; omega
  have ne2 : NE (B + 7) (o + 1) := by unfold NE; omega
  have ne3 : NE (B + 7) (a) := by unfold NE; omega
  have ne4 : NE (B + 7) (a + 1) := by unfold NE; omega
  have ne5 : NE (B + 1) (o) := by unfold NE; omega
  have ne6 : NE (B + 1) (o + 1) := by unfold NE; omega
  have ne7 : NE (B + 1) (a) := by unfold NE; omega
  have ne8 : NE (B + 1) (a + 1) := by unfold NE; omega
  have ne9 : NE (o) (o + 1) := by unfold NE; omega
  have ne10 : NE (o) (a) := (aao.n00).s
  have ne11 : NE (o) (a + 1) := (aao.n10).s
  have ne12 : NE (o + 1) (a) := (aao.n01).s
  have ne13 : NE (o + 1) (a + 1) := (aao.n11).s
  have ne14 : NE (a) (a + 1) := by unfold NE; omega
  have hda := ha.lt
  obtain ⟨g, ⟨ha1, ha2, ha3, ha4, ha5, ha6, ha7⟩, hP⟩ := ha
  obtain ⟨d, go, y1, y2, y3, y4, y5, y6, y7⟩ := ho
  refine g_iconst dX2_derive_0 ?_
  refine g_istore_n (ls2 := [(3, .int (gI (1))), (0, .ref (B + 7)), (1, .ref (a)), (2, .ref (o))]) dX2_derive_1 rfl (by decide) rfl ?_
  have ld : ∀ (kk : Nat) (k : Int) (hld : GH), kk = (84 - k).toNat → Fr [o] h hld → hld.2 (o) = some (oB 5 [.ref (o + 1), .int (gI (d))]) → hld.2 (o + 1) = some (aJ 84 (gF go (fun j => g (j + 1) * (j + 1) % p) (k - 1))) → (1 ≤ k) → (k ≤ dgi hp f + 1 ∨ k = 1) → Go N mX2_derive (fun v h1 => v = none ∧ Fr [o] h h1 ∧ RP hp 84 h1 o (drv hp f)) 0 0 hld 2 [(3, .int (gI (k))), (0, .ref (B + 7)), (1, .ref (a)), (2, .ref (o))] [] := by
    refine Go.ind (fun kk ih_ld => ?_)
    intro k hld hkk_ld fr_ld cf_ld_0 cf_ld_1 hk0 hk1
    have cg_ld_0 : hld.2 (B + 7) = some (oB 2 [.ref (B + 1), .ref (B + 8), .ref (B + 10), .ref (B + 12), .ref (B + 14), .ref (B + 16), .ref (B + 18), .ref (B + 20), .ref (B + 22)]) := Fr.at0 fr_ld (Ni.c ⟨ne1, ne2⟩ (Ni.n _)) hth
    have cg_ld_1 : hld.2 (B + 1) = some (oB 1 [.int (gI ((p : Int)))]) := Fr.at0 fr_ld (Ni.c ⟨ne5, ne6⟩ (Ni.n _)) hfl
    have cg_ld_2 : hld.2 (a) = some (oB 5 [.ref (a + 1), .int (gI (dgi hp f))]) := Fr.at0 fr_ld (Ni.c ⟨(ne10).s, (ne12).s⟩ (Ni.n _)) ha1
    have cg_ld_3 : hld.2 (a + 1) = some (aJ 84 (g)) := Fr.at0 fr_ld (Ni.c ⟨(ne11).s, (ne13).s⟩ (Ni.n _)) ha2
    refine g_iload_n 0 dX2_derive_2 rfl ?_
    refine g_aload_n 2 dX2_derive_3 rfl ?_
    refine g_getf 1 dX2_derive_4 kX5 (by decide) fX2_45 cg_ld_2 rfl ?_
    refine g_icmp_gt (tgt := 42) dX2_derive_7 rfl (by unfold gW; omega) (by unfold gW; omega) (fun c101 => ?_) (fun c101 => ?_)
    · skip
      refine g_aload_n 3 dX2_derive_42 rfl ?_
      refine g_aload_n 2 dX2_derive_43 rfl ?_
      refine g_getf 1 dX2_derive_44 kX5 (by decide) fX2_45 cg_ld_2 rfl ?_
      refine g_iconst dX2_derive_47 ?_
      refine g_isub dX2_derive_48 ?_
      refine g_callV (nc2 := 0) (ns2 := 0) (ci := 5) (As := [.int (gI ((dgi hp f) - (1)))]) (st := []) rfl dX2_derive_49 okX5_settle lX2_70 itX5_settle seX5_settle rfl cf_ld_0 (by decide) (by decide) rfl (Nat.le_of_ble_eq_true rfl) (sP_settle N _ (o) 84 p hp hp2 (d) ((dgi hp f) - (1)) (gF go (fun j => g (j + 1) * (j + 1) % p) (k - 1)) (drv hp f) (by omega) (by omega) (by omega) (by omega) (fun j j0 j1 => by unfold gF; rw [if_pos (by omega)]; exact ⟨Int.emod_nonneg _ (by omega), Int.emod_lt_of_pos _ (by omega)⟩) (by
        conv => lhs; rw [hP.2.2.2]
        exact ph_drv (fun j j0 j1 => by unfold gF; rw [if_pos (by omega)])) cf_ld_0 cf_ld_1) (by omega) (by omega) (fun v102 hc102 q102 => ?_)
      obtain ⟨rfl, frc103, rn103⟩ := q102
      have fk104_0 : hc102.2 (B + 7) = some (oB 2 [.ref (B + 1), .ref (B + 8), .ref (B + 10), .ref (B + 12), .ref (B + 14), .ref (B + 16), .ref (B + 18), .ref (B + 20), .ref (B + 22)]) := Fr.at0 frc103 (Ni.c ⟨ne1, ne2⟩ (Ni.n _)) cg_ld_0
      have fk104_1 : hc102.2 (B + 1) = some (oB 1 [.int (gI ((p : Int)))]) := Fr.at0 frc103 (Ni.c ⟨ne5, ne6⟩ (Ni.n _)) cg_ld_1
      have fk104_2 : hc102.2 (a) = some (oB 5 [.ref (a + 1), .int (gI (dgi hp f))]) := Fr.at0 frc103 (Ni.c ⟨(ne10).s, (ne12).s⟩ (Ni.n _)) cg_ld_2
      have fk104_3 : hc102.2 (a + 1) = some (aJ 84 (g)) := Fr.at0 frc103 (Ni.c ⟨(ne11).s, (ne13).s⟩ (Ni.n _)) cg_ld_3
      have fr104 : Fr [o] h hc102 := (fr_ld).tr ((frc103).mo (sub_c (List.Mem.head _) sub_n))
      refine Go.nf (h' := hc102) (st' := []) rfl rfl (Nat.le_refl _) (Nat.le_refl _) ?_
      exact g_vret dX2_derive_52 rfl ⟨rfl, fr104, rn103⟩
    · skip
      refine g_aload_n 3 dX2_derive_10 rfl ?_
      refine g_getf 0 dX2_derive_11 kX5 (by decide) fX2_49 cf_ld_0 rfl ?_
      refine g_iload_n 0 dX2_derive_14 rfl ?_
      refine g_iconst dX2_derive_15 ?_
      refine g_isub dX2_derive_16 ?_
      refine g_aload_n 2 dX2_derive_17 rfl ?_
      refine g_getf 0 dX2_derive_18 kX5 (by decide) fX2_49 cg_ld_2 rfl ?_
      refine g_iload_n 0 dX2_derive_21 rfl ?_
      refine g_laload dX2_derive_22 cg_ld_3 (by omega) (by omega) (by omega) ?_
      have hgk := hP.2.1 k (by omega) (by omega)
      have hpr : 0 ≤ g k * k ∧ g k * k ≤ 65536 * 84 := ⟨Int.mul_nonneg hgk.1 (by omega), Int.mul_le_mul (by omega) (by omega) (by omega) (by omega)⟩
      refine g_iload_n 0 dX2_derive_23 rfl ?_
      refine g_i2l dX2_derive_24 (by unfold gW; omega) ?_
      refine g_lmul dX2_derive_25 ?_
      refine g_aload_n 1 dX2_derive_26 rfl ?_
      refine g_getf 0 dX2_derive_27 kX2 (by decide) fX2_41 cg_ld_0 rfl ?_
      refine g_getf 0 dX2_derive_30 kX1 (by decide) fX2_57 cg_ld_1 rfl ?_
      refine g_i2l dX2_derive_33 (by unfold gW; omega) ?_
      refine g_lrem dX2_derive_34 (by unfold gX; omega) (by unfold gX; omega) (by omega) ?_
      rw [tm_em hpr.1]
      refine g_lastore dX2_derive_35 cf_ld_1 (by omega) (by omega) (by omega) ?_
      obtain ⟨hh105, eh105⟩ : ∃ z : GH, z = hset hld (o + 1) (aJ 84 (gup (gF go (fun j => g (j + 1) * (j + 1) % p) (k - 1)) ((k) - (1)) (g k * k % p))) := ⟨_, rfl⟩
      refine Go.hp eh105.symm ?_
      have fh105_0 : hh105.2 (B + 7) = some (oB 2 [.ref (B + 1), .ref (B + 8), .ref (B + 10), .ref (B + 12), .ref (B + 14), .ref (B + 16), .ref (B + 18), .ref (B + 20), .ref (B + 22)]) := hs_n eh105 ne2 cg_ld_0
      have fh105_1 : hh105.2 (B + 1) = some (oB 1 [.int (gI ((p : Int)))]) := hs_n eh105 ne6 cg_ld_1
      have fh105_2 : hh105.2 (a) = some (oB 5 [.ref (a + 1), .int (gI (dgi hp f))]) := hs_n eh105 (ne12).s cg_ld_2
      have fh105_3 : hh105.2 (a + 1) = some (aJ 84 (g)) := hs_n eh105 (ne13).s cg_ld_3
      have fh105_4 : hh105.2 (o) = some (oB 5 [.ref (o + 1), .int (gI (d))]) := hs_n eh105 ne9 cf_ld_0
      have fh105_5 : hh105.2 (o + 1) = some (aJ 84 (gup (gF go (fun j => g (j + 1) * (j + 1) % p) (k - 1)) ((k) - (1)) (g k * k % p))) := hs_s eh105
      have fr105 : Fr [o] h hh105 := Fr.w1 fr_ld (List.Mem.head _) eh105
      refine g_iinc 0 (ls2 := [(3, .int (gI (k + 1))), (0, .ref (B + 7)), (1, .ref (a)), (2, .ref (o))]) dX2_derive_36 rfl (by decide) rfl ?_
      refine g_goto (tgt := 2) dX2_derive_39 rfl ?_
      exact ih_ld _ (by omega) (k + 1) hh105 rfl fr105 fh105_4 (by
        have e9 := fh105_5
        have e8 := gF_s go (fun j => g (j + 1) * (j + 1) % p) (show 0 ≤ k - 1 by omega)
        simp only [show (k - 1 + 1 : Int) = k by omega] at e8
        rw [show (k + 1 - 1 : Int) = k by omega, ← e8]
        exact e9) (by omega) (by omega)
  exact ld _ (1) h rfl (Fr.rf [o] h) y1 (by rw [show (1 - 1 : Int) = 0 by omega, gF_0]; exact y2) (by omega) (Or.inr rfl)
section
variable {p : Nat}
/-- the state of the search for an inverse -/
def ivI (h : prm p) (a b u v s t : Px p) : Prop := letI := pR h; po (fR h) s ∧ po (fR h) t ∧ dgi h v < dgi h u ∧ gP h u v = gP h a b ∧ dv (fR h) b (a * s - u) ∧ dv (fR h) b (a * t - v) ∧ dgi h s + dgi h u < dgi h b ∧ dgi h t + dgi h u ≤ dgi h b
theorem cz_z0 (h : prm p) : letI := pR h; cz h (zi h 0) = 0 := by rw [zi_0 h]; exact cz_0 h
theorem cz_z1 (h : prm p) : letI := pR h; cz h (zi h 1) = 1 := by rw [zi_1 h]; rfl
theorem ivI_0 (h : prm p) {a b : Px p} (ha : po (fR h) a) (hb : po (fR h) b) (hd : 0 ≤ dgi h b) : ivI h a b b (rm h a b) (cz h (zi h 0)) (cz h (zi h 1)) := by
  letI := pR h
  rw [cz_z0, cz_z1]
  refine ⟨zero_po _, one_po _, rm_lt h ha hb hd, gP_step h ha hb hd, ?_, ?_, ?_, ?_⟩
  · have e : a * 0 - b = 0 - b := by grind
    rw [e]
    exact dv_sub (dv_0 _ _) (dv_rf _ _)
  · have e : a * 1 - rm h a b = a - rm h a b := by generalize rm h a b = x; grind
    rw [e]
    exact rm_dv h ha hb hd
  · rw [dgi_0]; omega
  · rw [dgi_1]; omega
theorem ivI_s (h : prm p) {a b u v s t : Px p} (ha : po (fR h) a) (hb : po (fR h) b) (hu : po (fR h) u) (hv : po (fR h) v) (hd : 0 ≤ dgi h v) (H : ivI h a b u v s t) : dgi h (qt h u v) + dgi h t ≤ dgi h b ∧ ivI h a b v (rm h u v) t (psb h s (pml h (qt h u v) t)) := by
  letI := pR h
  obtain ⟨a1, a2, a3, a4, a5, a6, a7, a8⟩ := H
  have hq := (qr_sp h hu hv hd).1
  have he := (qr_sp h hu hv hd).2.1
  have hqd := qt_dgi h hu hv hd
  have hl := rm_lt h hu hv hd
  have gt := dgi_ge h a2
  have h1 : dgi h (qt h u v) + dgi h t ≤ dgi h b := by omega
  refine ⟨h1, a2, sub_po a1 (mul_po hq a2), hl, (gP_step h hu hv hd).trans a4, a6, ?_, by omega, ?_⟩
  · have h2 := dv_sub a5 (dv_mul (qt h u v) hq a6)
    have e : a * s - u - zmul (fR h) (qt h u v) (a * t - v) = a * psb h s (pml h (qt h u v) t) - rm h u v := by
      show a * s - u - qt h u v * (a * t - v) = a * (s - qt h u v * t) - rm h u v
      have e2 : rm h u v = u - qt h u v * v := by
        generalize qt h u v * v = x at *
        generalize rm h u v = y at *
        grind
      rw [e2]
      generalize qt h u v = q
      grind
    rw [e] at h2
    exact h2
  · have hm : dgi h (pml h (qt h u v) t) = _ := mul_dgi h hq a2
    have := sub_dgi h a1 (mul_po hq a2) (d := dgi h b - dgi h v) (by omega) (by
      show dgi h (pml h (qt h u v) t) ≤ _
      rw [hm]; split <;> omega)
    have : dgi h (psb h s (pml h (qt h u v) t)) ≤ dgi h b - dgi h v := this
    omega
theorem ivI_no (h : prm p) {a b u v s t : Px p} (ha : po (fR h) a) (hb : po (fR h) b) (hu : po (fR h) u) (hv : po (fR h) v) (hd : dgi h v < 0) (hu0 : dgi h u ≠ 0) (H : ivI h a b u v s t) : ¬ ∃ x, isI h a b x := by
  letI := pR h
  rintro ⟨x, x1, x2, x3⟩
  obtain ⟨a1, a2, a3, a4, a5, a6, a7, a8⟩ := H
  have hg := gP_sp h ha hb
  rw [← a4, gP_0 h hu hv hd] at hg
  obtain ⟨g1, g2, g3, _, _⟩ := hg
  have h1 : dv (fR h) (mon h u) 1 := by
    have h2 := dv_sub (dv_mulr x x1 g2) (dv_tr g3 x3)
    have e : zmul (fR h) a x - (a * x - 1) = 1 := by
      show a * x - (a * x - 1) = 1
      grind
    rw [e] at h2
    exact h2
  have h3 := dgi_of h (unit_deg (fld_p h) g1 h1)
  rw [mon_dgi h hu] at h3
  exact hu0 h3
theorem ivI_yes (h : prm p) {a b u v s t : Px p} {c : Int} (ha : po (fR h) a) (hb : po (fR h) b) (hu : po (fR h) u) (hu0 : dgi h u = 0) (hc : c = cf u 0) (H : ivI h a b u v s t) : pml h (cz h (zi h (ivr p c))) s = ivM h a b ∧ (letI := fR h; zi h (ivr p c) ≠ 0) ∧ dgi h s < dgi h b := by
  letI := pR h
  obtain ⟨a1, a2, a3, a4, a5, a6, a7, a8⟩ := H
  have hl := ld_in h hu (by omega)
  have hld : ld h u = c := by rw [hc]; unfold ld; rw [hu0]
  rw [hld] at hl
  have hne := iv_ne h hl.1 hl.2
  have hs := dgi_ge h a1
  refine ⟨ivM_un h ha hb (by omega) ⟨mul_po (cz_po h _) a1, ?_, ?_⟩, hne, by omega⟩
  · have : dgi h (pml h (cz h (zi h (ivr p c))) s) = _ := mul_dgi h (cz_po h (zi h (ivr p c))) a1
    rw [this, cz_dgi h hne]
    split <;> omega
  · have h1 := dv_mul (cz h (zi h (ivr p c))) (cz_po h _) a5
    have e1 : cz h (zi h (ivr p c)) * u = 1 := by
      have hdl := dgi_dl h hu
      rw [hu0] at hdl
      refine funext fun k => ?_
      letI := fR h
      show zmul (fR h) (zc (fR h) (zi h (ivr p c))) u k = if k = 0 then 1 else 0
      rw [zmul_c]
      by_cases z : k = 0
      · rw [if_pos z, z]
        have h2 := ivr_zi h hl.1 hl.2
        have h3 := cf_zi h u 0
        rw [show ((0 : Nat) : Int) = 0 from rfl, ← hc] at h3
        rw [← h3]; exact h2
      · rw [if_neg z, hdl k (by omega)]; grind
    have e : zmul (fR h) (cz h (zi h (ivr p c))) (a * s - u) = a * pml h (cz h (zi h (ivr p c))) s - 1 := by
      show cz h (zi h (ivr p c)) * (a * s - u) = a * (cz h (zi h (ivr p c)) * s) - 1
      generalize cz h (zi h (ivr p c)) = z at *
      grind
    rw [e] at h1
    exact h1
end
set_option maxHeartbeats 4000000 in
set_option maxRecDepth 100000 in
theorem sP_invert (N : GN) (h : GH) (B a b o p : Nat) (hp : prm p) (hp2 : p ≤ 65536) (fa fb : Px p) (hw : PW p B h) (ha : RP hp 84 h a fa) (hb : RP hp 84 h b fb) (ho : RA 84 h o) (hdb : 1 ≤ dgi hp fb) (oa : B + 24 ≤ a) (ob : B + 24 ≤ b) (oo : B + 24 ≤ o) : Sp N yX2_invert mX2_invert 0 0 [.ref (B + 7), .ref (a), .ref (b), .ref (o)] h (fun v h1 => Fr (o :: pl B) h h1 ∧ PW p B h1 ∧ ((v = some (.int (gI 0)) ∧ (¬ ∃ x, isI hp fa fb x) ∧ RA 84 h1 o) ∨ (v = some (.int (gI 1)) ∧ RP hp 84 h1 o (ivM hp fa fb)))) := by
  refine Sp.of (by decide) rfl rfl (Nat.le_of_ble_eq_true rfl) ?_
  show Go N mX2_invert _ 0 0 h 0 [(0, .ref (B + 7)), (1, .ref (a)), (2, .ref (b)), (3, .ref (o))] []
  have hp1 := hp.1
  have hda := ha.lt
  have hdb2 := hb.lt
  have hfa := ha.po
  have hfb := hb.po
  refine g_aload_n 0 dX2_invert_0 rfl ?_
  refine g_getf 3 dX2_invert_1 kX2 (by decide) fX2_23 hw.1 rfl ?_
  refine g_astore (ls2 := [(4, .ref (B + 12)), (0, .ref (B + 7)), (1, .ref (a)), (2, .ref (b)), (3, .ref (o))]) dX2_invert_4 (by decide) rfl ?_
  refine g_aload_n 1 dX2_invert_6 rfl ?_
  refine g_getf 4 dX2_invert_7 kX2 (by decide) fX2_26 hw.1 rfl ?_
  refine g_astore (ls2 := [(5, .ref (B + 14)), (4, .ref (B + 12)), (0, .ref (B + 7)), (1, .ref (a)), (2, .ref (b)), (3, .ref (o))]) dX2_invert_10 (by decide) rfl ?_
  refine g_aload_n 2 dX2_invert_12 rfl ?_
  refine g_getf 5 dX2_invert_13 kX2 (by decide) fX2_29 hw.1 rfl ?_
  refine g_astore (ls2 := [(6, .ref (B + 16)), (5, .ref (B + 14)), (4, .ref (B + 12)), (0, .ref (B + 7)), (1, .ref (a)), (2, .ref (b)), (3, .ref (o))]) dX2_invert_16 (by decide) rfl ?_
  refine g_aload_n 3 dX2_invert_18 rfl ?_
  refine g_getf 6 dX2_invert_19 kX2 (by decide) fX2_32 hw.1 rfl ?_
  refine g_astore (ls2 := [(7, .ref (B + 18)), (6, .ref (B + 16)), (5, .ref (B + 14)), (4, .ref (B + 12)), (0, .ref (B + 7)), (1, .ref (a)), (2, .ref (b)), (3, .ref (o))]) dX2_invert_22 (by decide) rfl ?_
  refine g_aload 3 dX2_invert_24 rfl ?_
  refine g_aload_n 6 dX2_invert_26 rfl ?_
  refine g_callV (nc2 := 0) (ns2 := 0) (ci := 5) (As := [.ref (b)]) (st := []) rfl dX2_invert_27 okX5_copy lX2_62 itX5_copy seX5_copy rfl (Classical.choose_spec (RA.o (hw.r12))) (by decide) (by decide) rfl (Nat.le_of_ble_eq_true rfl) (sP_copy N _ (B + 12) (b) 84 84 p hp hp2 (fb) (hw.r12) hb (by omega) (show AP (B + 12) (b) by unfold AP; omega)) (by omega) (by omega) (fun v1 hc1 q1 => ?_)
  obtain ⟨rfl, frc2, rn2_0⟩ := q1
  have fk3_0 : hc1.2 (B + 7) = some (oB 2 [.ref (B + 1), .ref (B + 8), .ref (B + 10), .ref (B + 12), .ref (B + 14), .ref (B + 16), .ref (B + 18), .ref (B + 20), .ref (B + 22)]) := Fr.at0 frc2 (Ni.c ⟨(show NE (B + 7) (B + 12) by unfold NE; omega), (show NE (B + 7) (B + 13) by unfold NE; omega)⟩ (Ni.n _)) hw.1
  have fk3_1 : hc1.2 (B + 1) = some (oB 1 [.int (gI ((p : Int)))]) := Fr.at0 frc2 (Ni.c ⟨(show NE (B + 1) (B + 12) by unfold NE; omega), (show NE (B + 1) (B + 13) by unfold NE; omega)⟩ (Ni.n _)) hw.2.1
  have rk3_0 : RP hp 84 hc1 (a) (fa) := (ha).fr frc2 (Ai.c (show AP (a) (B + 12) by unfold AP; omega) (Ai.n _))
  have rk3_1 : RP hp 84 hc1 (b) (fb) := (hb).fr frc2 (Ai.c (show AP (b) (B + 12) by unfold AP; omega) (Ai.n _))
  have rk3_2 : RA 84 hc1 (o) := (ho).fr frc2 (Ai.c (show AP (o) (B + 12) by unfold AP; omega) (Ai.n _))
  have rk3_3 : RA 84 hc1 (B + 8) := ((hw.r8)).fr frc2 (Ai.c (show AP (B + 8) (B + 12) by unfold AP; omega) (Ai.n _))
  have rk3_4 : RA 84 hc1 (B + 10) := ((hw.r10)).fr frc2 (Ai.c (show AP (B + 10) (B + 12) by unfold AP; omega) (Ai.n _))
  have rk3_6 : RA 84 hc1 (B + 14) := ((hw.r14)).fr frc2 (Ai.c (show AP (B + 14) (B + 12) by unfold AP; omega) (Ai.n _))
  have rk3_7 : RA 84 hc1 (B + 16) := ((hw.r16)).fr frc2 (Ai.c (show AP (B + 16) (B + 12) by unfold AP; omega) (Ai.n _))
  have rk3_8 : RA 84 hc1 (B + 18) := ((hw.r18)).fr frc2 (Ai.c (show AP (B + 18) (B + 12) by unfold AP; omega) (Ai.n _))
  have fr3 : Fr [o, B + 8, B + 10, B + 12, B + 14, B + 16, B + 18] h hc1 := ((Fr.rf [o, B + 8, B + 10, B + 12, B + 14, B + 16, B + 18] h)).tr ((frc2).mo (sub_c (List.Mem.tail _ (List.Mem.tail _ (List.Mem.tail _ (List.Mem.head _)))) sub_n))
  refine Go.nf (h' := hc1) (st' := []) rfl rfl (Nat.le_refl _) (Nat.le_refl _) ?_
  refine g_aload 2 dX2_invert_30 rfl ?_
  refine g_aload_n 5 dX2_invert_32 rfl ?_
  refine g_callV (nc2 := 0) (ns2 := 0) (ci := 5) (As := [.ref (a)]) (st := []) rfl dX2_invert_33 okX5_copy lX2_62 itX5_copy seX5_copy rfl (Classical.choose_spec (RA.o rk3_6)) (by decide) (by decide) rfl (Nat.le_of_ble_eq_true rfl) (sP_copy N _ (B + 14) (a) 84 84 p hp hp2 (fa) rk3_6 rk3_0 (by omega) (show AP (B + 14) (a) by unfold AP; omega)) (by omega) (by omega) (fun v4 hc4 q4 => ?_)
  obtain ⟨rfl, frc5, rn5_0⟩ := q4
  have fk6_0 : hc4.2 (B + 7) = some (oB 2 [.ref (B + 1), .ref (B + 8), .ref (B + 10), .ref (B + 12), .ref (B + 14), .ref (B + 16), .ref (B + 18), .ref (B + 20), .ref (B + 22)]) := Fr.at0 frc5 (Ni.c ⟨(show NE (B + 7) (B + 14) by unfold NE; omega), (show NE (B + 7) (B + 15) by unfold NE; omega)⟩ (Ni.n _)) fk3_0
  have fk6_1 : hc4.2 (B + 1) = some (oB 1 [.int (gI ((p : Int)))]) := Fr.at0 frc5 (Ni.c ⟨(show NE (B + 1) (B + 14) by unfold NE; omega), (show NE (B + 1) (B + 15) by unfold NE; omega)⟩ (Ni.n _)) fk3_1
  have rk6_0 : RP hp 84 hc4 (a) (fa) := (rk3_0).fr frc5 (Ai.c (show AP (a) (B + 14) by unfold AP; omega) (Ai.n _))
  have rk6_1 : RP hp 84 hc4 (b) (fb) := (rk3_1).fr frc5 (Ai.c (show AP (b) (B + 14) by unfold AP; omega) (Ai.n _))
  have rk6_2 : RA 84 hc4 (o) := (rk3_2).fr frc5 (Ai.c (show AP (o) (B + 14) by unfold AP; omega) (Ai.n _))
  have rk6_3 : RA 84 hc4 (B + 8) := (rk3_3).fr frc5 (Ai.c (show AP (B + 8) (B + 14) by unfold AP; omega) (Ai.n _))
  have rk6_4 : RA 84 hc4 (B + 10) := (rk3_4).fr frc5 (Ai.c (show AP (B + 10) (B + 14) by unfold AP; omega) (Ai.n _))
  have rk6_6 : RA 84 hc4 (B + 16) := (rk3_7).fr frc5 (Ai.c (show AP (B + 16) (B + 14) by unfold AP; omega) (Ai.n _))
  have rk6_7 : RA 84 hc4 (B + 18) := (rk3_8).fr frc5 (Ai.c (show AP (B + 18) (B + 14) by unfold AP; omega) (Ai.n _))
  have rk6_8 : RP hp 84 hc4 (B + 12) (fb) := (rn2_0).fr frc5 (Ai.c (show AP (B + 12) (B + 14) by unfold AP; omega) (Ai.n _))
  have fr6 : Fr [o, B + 8, B + 10, B + 12, B + 14, B + 16, B + 18] h hc4 := (fr3).tr ((frc5).mo (sub_c (List.Mem.tail _ (List.Mem.tail _ (List.Mem.tail _ (List.Mem.tail _ (List.Mem.head _))))) sub_n))
  refine Go.nf (h' := hc4) (st' := []) rfl rfl (Nat.le_refl _) (Nat.le_refl _) ?_
  refine g_aload_n 4 dX2_invert_36 rfl ?_
  refine g_aload 2 dX2_invert_37 rfl ?_
  refine g_aload_n 6 dX2_invert_39 rfl ?_
  refine g_aload_n 4 dX2_invert_40 rfl ?_
  refine g_getf 2 dX2_invert_41 kX2 (by decide) fX2_20 fk6_0 rfl ?_
  refine g_callV (nc2 := 0) (ns2 := 0) (ci := 2) (As := [.ref (B + 14), .ref (b), .ref (B + 10)]) (st := []) rfl dX2_invert_44 okX2_reduce lX2_87 itX2_reduce seX2_reduce rfl fk6_0 (by decide) (by decide) rfl (Nat.le_of_ble_eq_true rfl) (sP_reduce N _ B (B + 14) (b) (B + 10) 84 84 84 p hp hp2 (dgi hp (fa)) ((p : Int)) (fa) (fb) (by omega) fk6_0 fk6_1 (rn5_0).ru rk6_1 rk6_4 (by omega) (by omega) (show AP (B + 14) (b) by unfold AP; omega) (show AP (B + 14) (B + 10) by unfold AP; omega) (show AP (b) (B + 10) by unfold AP; omega) (by omega) (by omega) (by omega)) (by omega) (by omega) (fun v7 hc7 q7 => ?_)
  obtain ⟨rfl, frc8, rn8_0, rn8_1⟩ := q7
  have fk9_0 : hc7.2 (B + 7) = some (oB 2 [.ref (B + 1), .ref (B + 8), .ref (B + 10), .ref (B + 12), .ref (B + 14), .ref (B + 16), .ref (B + 18), .ref (B + 20), .ref (B + 22)]) := Fr.at0 frc8 (Ni.c ⟨(show NE (B + 7) (B + 14) by unfold NE; omega), (show NE (B + 7) (B + 15) by unfold NE; omega)⟩ (Ni.c ⟨(show NE (B + 7) (B + 10) by unfold NE; omega), (show NE (B + 7) (B + 11) by unfold NE; omega)⟩ (Ni.n _))) fk6_0
  have fk9_1 : hc7.2 (B + 1) = some (oB 1 [.int (gI ((p : Int)))]) := Fr.at0 frc8 (Ni.c ⟨(show NE (B + 1) (B + 14) by unfold NE; omega), (show NE (B + 1) (B + 15) by unfold NE; omega)⟩ (Ni.c ⟨(show NE (B + 1) (B + 10) by unfold NE; omega), (show NE (B + 1) (B + 11) by unfold NE; omega)⟩ (Ni.n _))) fk6_1
  have rk9_0 : RP hp 84 hc7 (a) (fa) := (rk6_0).fr frc8 (Ai.c (show AP (a) (B + 14) by unfold AP; omega) (Ai.c (show AP (a) (B + 10) by unfold AP; omega) (Ai.n _)))
  have rk9_1 : RP hp 84 hc7 (b) (fb) := (rk6_1).fr frc8 (Ai.c (show AP (b) (B + 14) by unfold AP; omega) (Ai.c (show AP (b) (B + 10) by unfold AP; omega) (Ai.n _)))
  have rk9_2 : RA 84 hc7 (o) := (rk6_2).fr frc8 (Ai.c (show AP (o) (B + 14) by unfold AP; omega) (Ai.c (show AP (o) (B + 10) by unfold AP; omega) (Ai.n _)))
  have rk9_3 : RA 84 hc7 (B + 8) := (rk6_3).fr frc8 (Ai.c (show AP (B + 8) (B + 14) by unfold AP; omega) (Ai.c (show AP (B + 8) (B + 10) by unfold AP; omega) (Ai.n _)))
  have rk9_5 : RA 84 hc7 (B + 16) := (rk6_6).fr frc8 (Ai.c (show AP (B + 16) (B + 14) by unfold AP; omega) (Ai.c (show AP (B + 16) (B + 10) by unfold AP; omega) (Ai.n _)))
  have rk9_6 : RA 84 hc7 (B + 18) := (rk6_7).fr frc8 (Ai.c (show AP (B + 18) (B + 14) by unfold AP; omega) (Ai.c (show AP (B + 18) (B + 10) by unfold AP; omega) (Ai.n _)))
  have rk9_7 : RP hp 84 hc7 (B + 12) (fb) := (rk6_8).fr frc8 (Ai.c (show AP (B + 12) (B + 14) by unfold AP; omega) (Ai.c (show AP (B + 12) (B + 10) by unfold AP; omega) (Ai.n _)))
  have fr9 : Fr [o, B + 8, B + 10, B + 12, B + 14, B + 16, B + 18] h hc7 := (fr6).tr ((frc8).mo (sub_c (List.Mem.tail _ (List.Mem.tail _ (List.Mem.tail _ (List.Mem.tail _ (List.Mem.head _))))) (sub_c (List.Mem.tail _ (List.Mem.tail _ (List.Mem.head _))) sub_n)))
  refine Go.nf (h' := hc7) (st' := []) rfl rfl (Nat.le_refl _) (Nat.le_refl _) ?_
  refine g_aload 1 dX2_invert_47 rfl ?_
  refine g_lconst0 dX2_invert_49 ?_
  refine g_callV (nc2 := 0) (ns2 := 0) (ci := 5) (As := [.long (gJ (0))]) (st := []) rfl dX2_invert_50 okX5_become lX2_93 itX5_become seX5_become rfl (Classical.choose_spec (RA.o rk9_5)) (by decide) (by decide) rfl (Nat.le_of_ble_eq_true rfl) (sP_become N _ (B + 16) 84 p hp hp2 (0) (by omega) (by omega) rk9_5) (by omega) (by omega) (fun v10 hc10 q10 => ?_)
  obtain ⟨rfl, frc11, rn11_0⟩ := q10
  have fk12_0 : hc10.2 (B + 7) = some (oB 2 [.ref (B + 1), .ref (B + 8), .ref (B + 10), .ref (B + 12), .ref (B + 14), .ref (B + 16), .ref (B + 18), .ref (B + 20), .ref (B + 22)]) := Fr.at0 frc11 (Ni.c ⟨(show NE (B + 7) (B + 16) by unfold NE; omega), (show NE (B + 7) (B + 17) by unfold NE; omega)⟩ (Ni.n _)) fk9_0
  have fk12_1 : hc10.2 (B + 1) = some (oB 1 [.int (gI ((p : Int)))]) := Fr.at0 frc11 (Ni.c ⟨(show NE (B + 1) (B + 16) by unfold NE; omega), (show NE (B + 1) (B + 17) by unfold NE; omega)⟩ (Ni.n _)) fk9_1
  have rk12_0 : RP hp 84 hc10 (a) (fa) := (rk9_0).fr frc11 (Ai.c (show AP (a) (B + 16) by unfold AP; omega) (Ai.n _))
  have rk12_1 : RP hp 84 hc10 (b) (fb) := (rk9_1).fr frc11 (Ai.c (show AP (b) (B + 16) by unfold AP; omega) (Ai.n _))
  have rk12_2 : RA 84 hc10 (o) := (rk9_2).fr frc11 (Ai.c (show AP (o) (B + 16) by unfold AP; omega) (Ai.n _))
  have rk12_3 : RA 84 hc10 (B + 8) := (rk9_3).fr frc11 (Ai.c (show AP (B + 8) (B + 16) by unfold AP; omega) (Ai.n _))
  have rk12_5 : RA 84 hc10 (B + 18) := (rk9_6).fr frc11 (Ai.c (show AP (B + 18) (B + 16) by unfold AP; omega) (Ai.n _))
  have rk12_6 : RP hp 84 hc10 (B + 12) (fb) := (rk9_7).fr frc11 (Ai.c (show AP (B + 12) (B + 16) by unfold AP; omega) (Ai.n _))
  have rk12_7 : RP hp 84 hc10 (B + 14) (rm hp (fa) (fb)) := (rn8_0).fr frc11 (Ai.c (show AP (B + 14) (B + 16) by unfold AP; omega) (Ai.n _))
  have rk12_8 : RP hp 84 hc10 (B + 10) (qt hp (fa) (fb)) := (rn8_1).fr frc11 (Ai.c (show AP (B + 10) (B + 16) by unfold AP; omega) (Ai.n _))
  have fr12 : Fr [o, B + 8, B + 10, B + 12, B + 14, B + 16, B + 18] h hc10 := (fr9).tr ((frc11).mo (sub_c (List.Mem.tail _ (List.Mem.tail _ (List.Mem.tail _ (List.Mem.tail _ (List.Mem.tail _ (List.Mem.head _)))))) sub_n))
  refine Go.nf (h' := hc10) (st' := []) rfl rfl (Nat.le_refl _) (Nat.le_refl _) ?_
  refine g_aload 0 dX2_invert_53 rfl ?_
  refine g_lconst1 dX2_invert_55 ?_
  refine g_callV (nc2 := 0) (ns2 := 0) (ci := 5) (As := [.long (gJ (1))]) (st := []) rfl dX2_invert_56 okX5_become lX2_93 itX5_become seX5_become rfl (Classical.choose_spec (RA.o rk12_5)) (by decide) (by decide) rfl (Nat.le_of_ble_eq_true rfl) (sP_become N _ (B + 18) 84 p hp hp2 (1) (by omega) (by omega) rk12_5) (by omega) (by omega) (fun v13 hc13 q13 => ?_)
  obtain ⟨rfl, frc14, rn14_0⟩ := q13
  have fk15_0 : hc13.2 (B + 7) = some (oB 2 [.ref (B + 1), .ref (B + 8), .ref (B + 10), .ref (B + 12), .ref (B + 14), .ref (B + 16), .ref (B + 18), .ref (B + 20), .ref (B + 22)]) := Fr.at0 frc14 (Ni.c ⟨(show NE (B + 7) (B + 18) by unfold NE; omega), (show NE (B + 7) (B + 19) by unfold NE; omega)⟩ (Ni.n _)) fk12_0
  have fk15_1 : hc13.2 (B + 1) = some (oB 1 [.int (gI ((p : Int)))]) := Fr.at0 frc14 (Ni.c ⟨(show NE (B + 1) (B + 18) by unfold NE; omega), (show NE (B + 1) (B + 19) by unfold NE; omega)⟩ (Ni.n _)) fk12_1
  have rk15_0 : RP hp 84 hc13 (a) (fa) := (rk12_0).fr frc14 (Ai.c (show AP (a) (B + 18) by unfold AP; omega) (Ai.n _))
  have rk15_1 : RP hp 84 hc13 (b) (fb) := (rk12_1).fr frc14 (Ai.c (show AP (b) (B + 18) by unfold AP; omega) (Ai.n _))
  have rk15_2 : RA 84 hc13 (o) := (rk12_2).fr frc14 (Ai.c (show AP (o) (B + 18) by unfold AP; omega) (Ai.n _))
  have rk15_3 : RA 84 hc13 (B + 8) := (rk12_3).fr frc14 (Ai.c (show AP (B + 8) (B + 18) by unfold AP; omega) (Ai.n _))
  have rk15_5 : RP hp 84 hc13 (B + 12) (fb) := (rk12_6).fr frc14 (Ai.c (show AP (B + 12) (B + 18) by unfold AP; omega) (Ai.n _))
  have rk15_6 : RP hp 84 hc13 (B + 14) (rm hp (fa) (fb)) := (rk12_7).fr frc14 (Ai.c (show AP (B + 14) (B + 18) by unfold AP; omega) (Ai.n _))
  have rk15_7 : RP hp 84 hc13 (B + 10) (qt hp (fa) (fb)) := (rk12_8).fr frc14 (Ai.c (show AP (B + 10) (B + 18) by unfold AP; omega) (Ai.n _))
  have rk15_8 : RP hp 84 hc13 (B + 16) (cz hp (zi hp (0))) := (rn11_0).fr frc14 (Ai.c (show AP (B + 16) (B + 18) by unfold AP; omega) (Ai.n _))
  have fr15 : Fr [o, B + 8, B + 10, B + 12, B + 14, B + 16, B + 18] h hc13 := (fr12).tr ((frc14).mo (sub_c (List.Mem.tail _ (List.Mem.tail _ (List.Mem.tail _ (List.Mem.tail _ (List.Mem.tail _ (List.Mem.tail _ (List.Mem.head _))))))) sub_n))
  refine Go.nf (h' := hc13) (st' := []) rfl rfl (Nat.le_refl _) (Nat.le_refl _) ?_
  refine g_iconst dX2_invert_59 ?_
  refine g_istore (ls2 := [(8, .int (gI (0))), (7, .ref (B + 18)), (6, .ref (B + 16)), (5, .ref (B + 14)), (4, .ref (B + 12)), (0, .ref (B + 7)), (1, .ref (a)), (2, .ref (b)), (3, .ref (o))]) dX2_invert_60 (by decide) rfl ?_
  have lg : ∀ (kk : Nat) (turn : Int) (fu : Px p) (fv : Px p) (gu : Px p) (gv : Px p) (uA : Nat) (vA : Nat) (wA : Nat) (zA : Nat) (hlg : GH), kk = (86 - turn).toNat → Fr [o, B + 8, B + 10, B + 12, B + 14, B + 16, B + 18] h hlg → RA 84 hlg (o) → RA 84 hlg (B + 8) → RA 84 hlg (B + 10) → RP hp 84 hlg (uA) (fu) → RP hp 84 hlg (vA) (fv) → RP hp 84 hlg (wA) (gu) → RP hp 84 hlg (zA) (gv) → (0 ≤ turn) → (turn + dgi hp fv ≤ 84) → (ivI hp fa fb fu fv gu gv) → ((uA = B + 12 ∧ vA = B + 14 ∧ wA = B + 16 ∧ zA = B + 18) ∨ (uA = B + 14 ∧ vA = B + 12 ∧ wA = B + 18 ∧ zA = B + 16)) → Go N mX2_invert (fun v h1 => Fr (o :: pl B) h h1 ∧ PW p B h1 ∧ ((v = some (.int (gI 0)) ∧ (¬ ∃ x, isI hp fa fb x) ∧ RA 84 h1 o) ∨ (v = some (.int (gI 1)) ∧ RP hp 84 h1 o (ivM hp fa fb)))) 0 0 hlg 62 [(8, .int (gI (turn))), (7, .ref (zA)), (6, .ref (wA)), (5, .ref (vA)), (4, .ref (uA)), (0, .ref (B + 7)), (1, .ref (a)), (2, .ref (b)), (3, .ref (o))] [] := by
    refine Go.ind (fun kk ih_lg => ?_)
    intro turn fu fv gu gv uA vA wA zA hlg hkk_lg fr_lg cr_lg_0 cr_lg_1 cr_lg_2 cr_lg_3 cr_lg_4 cr_lg_5 cr_lg_6 ht htv hI hUV
    have cg_lg_0 : hlg.2 (B + 7) = some (oB 2 [.ref (B + 1), .ref (B + 8), .ref (B + 10), .ref (B + 12), .ref (B + 14), .ref (B + 16), .ref (B + 18), .ref (B + 20), .ref (B + 22)]) := Fr.at0 fr_lg (Ni.c ⟨(show NE (B + 7) (o) by unfold NE; omega), (show NE (B + 7) (o + 1) by unfold NE; omega)⟩ (Ni.c ⟨(show NE (B + 7) (B + 8) by unfold NE; omega), (show NE (B + 7) (B + 9) by unfold NE; omega)⟩ (Ni.c ⟨(show NE (B + 7) (B + 10) by unfold NE; omega), (show NE (B + 7) (B + 11) by unfold NE; omega)⟩ (Ni.c ⟨(show NE (B + 7) (B + 12) by unfold NE; omega), (show NE (B + 7) (B + 13) by unfold NE; omega)⟩ (Ni.c ⟨(show NE (B + 7) (B + 14) by unfold NE; omega), (show NE (B + 7) (B + 15) by unfold NE; omega)⟩ (Ni.c ⟨(show NE (B + 7) (B + 16) by unfold NE; omega), (show NE (B + 7) (B + 17) by unfold NE; omega)⟩ (Ni.c ⟨(show NE (B + 7) (B + 18) by unfold NE; omega), (show NE (B + 7) (B + 19) by unfold NE; omega)⟩ (Ni.n _)))))))) hw.1
    have cg_lg_1 : hlg.2 (B + 1) = some (oB 1 [.int (gI ((p : Int)))]) := Fr.at0 fr_lg (Ni.c ⟨(show NE (B + 1) (o) by unfold NE; omega), (show NE (B + 1) (o + 1) by unfold NE; omega)⟩ (Ni.c ⟨(show NE (B + 1) (B + 8) by unfold NE; omega), (show NE (B + 1) (B + 9) by unfold NE; omega)⟩ (Ni.c ⟨(show NE (B + 1) (B + 10) by unfold NE; omega), (show NE (B + 1) (B + 11) by unfold NE; omega)⟩ (Ni.c ⟨(show NE (B + 1) (B + 12) by unfold NE; omega), (show NE (B + 1) (B + 13) by unfold NE; omega)⟩ (Ni.c ⟨(show NE (B + 1) (B + 14) by unfold NE; omega), (show NE (B + 1) (B + 15) by unfold NE; omega)⟩ (Ni.c ⟨(show NE (B + 1) (B + 16) by unfold NE; omega), (show NE (B + 1) (B + 17) by unfold NE; omega)⟩ (Ni.c ⟨(show NE (B + 1) (B + 18) by unfold NE; omega), (show NE (B + 1) (B + 19) by unfold NE; omega)⟩ (Ni.n _)))))))) hw.2.1
    rcases hUV with ⟨rfl, rfl, rfl, rfl⟩ | ⟨rfl, rfl, rfl, rfl⟩
    · skip
      have hlu := (cr_lg_3).lt
      have hlv := (cr_lg_4).lt
      have hlw := (cr_lg_5).lt
      have hlz := (cr_lg_6).lt
      have hpu := (cr_lg_3).po
      have hpv := (cr_lg_4).po
      refine g_iload 0 dX2_invert_62 rfl ?_
      refine g_bipush dX2_invert_64 (by decide) ?_
      refine g_icmp_gt (tgt := 131) dX2_invert_66 rfl (by unfold gW; omega) (by unfold gW; omega) (fun c116 => ?_) (fun c116 => ?_)
      · skip
        refine g_aload 4 dX2_invert_131 rfl ?_
        refine g_getf 1 dX2_invert_133 kX5 (by decide) fX2_45 (cr_lg_3).o rfl ?_
        refine g_if_eq (tgt := 141) dX2_invert_136 rfl (by unfold gW; omega) (fun c117 => ?_) (fun c117 => ?_)
        · skip
          obtain ⟨g, ⟨x1, x2, x3, x4, x5, x6, x7⟩, xP⟩ := cr_lg_3
          have hg0 := PO_cf xP (k := 0) (by omega) (by omega)
          have hgb := xP.2.1 0 (by omega) (by omega)
          have hyes := ivI_yes hp hfa hfb hpu (by omega) hg0 hI
          have hiv := ivr_in hp (g 0)
          refine g_aload_n 5 dX2_invert_141 rfl ?_
          refine g_aload 2 dX2_invert_142 rfl ?_
          refine g_aload_n 5 dX2_invert_144 rfl ?_
          refine g_getf 0 dX2_invert_145 kX2 (by decide) fX2_41 cg_lg_0 rfl ?_
          refine g_aload 4 dX2_invert_148 rfl ?_
          refine g_getf 0 dX2_invert_150 kX5 (by decide) fX2_49 x1 rfl ?_
          refine g_iconst dX2_invert_153 ?_
          refine g_laload dX2_invert_154 x2 (by omega) (by omega) (by omega) ?_
          refine g_callV (nc2 := 0) (ns2 := 0) (ci := 1) (As := [.long (gJ ((g) (0)))]) (st := [.ref (B + 16), .ref (B + 7)]) rfl dX2_invert_155 okX1_inverse lX2_83 itX1_inverse seX1_inverse rfl cg_lg_1 (by decide) (by decide) rfl (Nat.le_of_ble_eq_true rfl) (sP_inverse N _ (B + 1) p (by omega) hp2 ((g) (0)) (by omega) (by omega) cg_lg_1) (by omega) (by omega) (fun v118 hc118 q118 => ?_)
          obtain ⟨hq119, rfl⟩ := q118
          refine Go.nf (h' := hlg) (st' := [.long (gJ (ivr p ((g) (0)))), .ref (B + 16), .ref (B + 7)]) hq119 rfl (Nat.le_refl _) (Nat.le_refl _) ?_
          refine g_aload_n 8 dX2_invert_158 rfl ?_
          refine g_callV (nc2 := 0) (ns2 := 0) (ci := 2) (As := [.ref (B + 16), .long (gJ (ivr p ((g) (0)))), .ref (o)]) (st := []) rfl dX2_invert_159 okX2_multiplyBy lX2_100 itX2_multiplyBy seX2_multiplyBy rfl cg_lg_0 (by decide) (by decide) rfl (Nat.le_of_ble_eq_true rfl) (sP_multiplyBy N _ B (B + 16) (o) 84 84 p hp hp2 (gu) (ivr p ((g) (0))) (by omega) (by omega) hyes.2.1 cg_lg_0 cg_lg_1 cr_lg_5 cr_lg_0 (by omega) (by omega) (show AP (B + 16) (o) by unfold AP; omega)) (by omega) (by omega) (fun v120 hc120 q120 => ?_)
          obtain ⟨rfl, frc121, rn121_0⟩ := q120
          have fk122_0 : hc120.2 (B + 7) = some (oB 2 [.ref (B + 1), .ref (B + 8), .ref (B + 10), .ref (B + 12), .ref (B + 14), .ref (B + 16), .ref (B + 18), .ref (B + 20), .ref (B + 22)]) := Fr.at0 frc121 (Ni.c ⟨(show NE (B + 7) (o) by unfold NE; omega), (show NE (B + 7) (o + 1) by unfold NE; omega)⟩ (Ni.n _)) cg_lg_0
          have fk122_1 : hc120.2 (B + 1) = some (oB 1 [.int (gI ((p : Int)))]) := Fr.at0 frc121 (Ni.c ⟨(show NE (B + 1) (o) by unfold NE; omega), (show NE (B + 1) (o + 1) by unfold NE; omega)⟩ (Ni.n _)) cg_lg_1
          have fk122_2 : hc120.2 (B + 12) = some (oB 5 [.ref (B + 13), .int (gI (dgi hp (fu)))]) := Fr.at0 frc121 (Ni.c ⟨(show NE (B + 12) (o) by unfold NE; omega), (show NE (B + 12) (o + 1) by unfold NE; omega)⟩ (Ni.n _)) x1
          have fk122_3 : hc120.2 (B + 13) = some (aJ 84 (g)) := Fr.at0 frc121 (Ni.c ⟨(show NE (B + 13) (o) by unfold NE; omega), (show NE (B + 13) (o + 1) by unfold NE; omega)⟩ (Ni.n _)) x2
          have rk122_1 : RA 84 hc120 (B + 8) := (cr_lg_1).fr frc121 (Ai.c (show AP (B + 8) (o) by unfold AP; omega) (Ai.n _))
          have rk122_2 : RA 84 hc120 (B + 10) := (cr_lg_2).fr frc121 (Ai.c (show AP (B + 10) (o) by unfold AP; omega) (Ai.n _))
          have rk122_3 : RP hp 84 hc120 (B + 14) (fv) := (cr_lg_4).fr frc121 (Ai.c (show AP (B + 14) (o) by unfold AP; omega) (Ai.n _))
          have rk122_4 : RP hp 84 hc120 (B + 16) (gu) := (cr_lg_5).fr frc121 (Ai.c (show AP (B + 16) (o) by unfold AP; omega) (Ai.n _))
          have rk122_5 : RP hp 84 hc120 (B + 18) (gv) := (cr_lg_6).fr frc121 (Ai.c (show AP (B + 18) (o) by unfold AP; omega) (Ai.n _))
          have fr122 : Fr [o, B + 8, B + 10, B + 12, B + 14, B + 16, B + 18] h hc120 := (fr_lg).tr ((frc121).mo (sub_c (List.Mem.head _) sub_n))
          refine Go.nf (h' := hc120) (st' := []) rfl rfl (Nat.le_refl _) (Nat.le_refl _) ?_
          refine g_iconst dX2_invert_162 ?_
          exact g_zret dX2_invert_163 rfl (by omega) ⟨(fr122).mo (sub_c (List.Mem.head _) (sub_c (List.Mem.tail _ (List.Mem.head _)) (sub_c (List.Mem.tail _ (List.Mem.tail _ (List.Mem.head _))) (sub_c (List.Mem.tail _ (List.Mem.tail _ (List.Mem.tail _ (List.Mem.head _)))) (sub_c (List.Mem.tail _ (List.Mem.tail _ (List.Mem.tail _ (List.Mem.tail _ (List.Mem.head _))))) (sub_c (List.Mem.tail _ (List.Mem.tail _ (List.Mem.tail _ (List.Mem.tail _ (List.Mem.tail _ (List.Mem.head _)))))) (sub_c (List.Mem.tail _ (List.Mem.tail _ (List.Mem.tail _ (List.Mem.tail _ (List.Mem.tail _ (List.Mem.tail _ (List.Mem.head _))))))) sub_n))))))), (PW.upd hw fr122 (out8_c (by omega) (out8_c (by omega) (out8_c (by omega) (out8_c (by omega) (out8_c (by omega) (out8_c (by omega) (out8_c (by omega) out8_n))))))) (pl_all (Or.inr rk122_1) (Or.inr rk122_2) (Or.inr (⟨_, g, fk122_2, fk122_3, x3, x4, x5, x6, x7⟩ : RA 84 hc120 (B + 12))) (Or.inr (rk122_3).ra) (Or.inr (rk122_4).ra) (Or.inr (rk122_5).ra) (Or.inl (Ai.c (show AP (B + 20) (o) by unfold AP; omega) (Ai.c (show AP (B + 20) (B + 8) by unfold AP; omega) (Ai.c (show AP (B + 20) (B + 10) by unfold AP; omega) (Ai.c (show AP (B + 20) (B + 12) by unfold AP; omega) (Ai.c (show AP (B + 20) (B + 14) by unfold AP; omega) (Ai.c (show AP (B + 20) (B + 16) by unfold AP; omega) (Ai.c (show AP (B + 20) (B + 18) by unfold AP; omega) (Ai.n _))))))))) (Or.inl (Ai.c (show AP (B + 22) (o) by unfold AP; omega) (Ai.c (show AP (B + 22) (B + 8) by unfold AP; omega) (Ai.c (show AP (B + 22) (B + 10) by unfold AP; omega) (Ai.c (show AP (B + 22) (B + 12) by unfold AP; omega) (Ai.c (show AP (B + 22) (B + 14) by unfold AP; omega) (Ai.c (show AP (B + 22) (B + 16) by unfold AP; omega) (Ai.c (show AP (B + 22) (B + 18) by unfold AP; omega) (Ai.n _))))))))))), Or.inr ⟨rfl, by rw [← hyes.1]; exact rn121_0⟩⟩
        · skip
          refine g_iconst dX2_invert_139 ?_
          exact g_zret dX2_invert_140 rfl (by omega) ⟨(fr_lg).mo (sub_c (List.Mem.head _) (sub_c (List.Mem.tail _ (List.Mem.head _)) (sub_c (List.Mem.tail _ (List.Mem.tail _ (List.Mem.head _))) (sub_c (List.Mem.tail _ (List.Mem.tail _ (List.Mem.tail _ (List.Mem.head _)))) (sub_c (List.Mem.tail _ (List.Mem.tail _ (List.Mem.tail _ (List.Mem.tail _ (List.Mem.head _))))) (sub_c (List.Mem.tail _ (List.Mem.tail _ (List.Mem.tail _ (List.Mem.tail _ (List.Mem.tail _ (List.Mem.head _)))))) (sub_c (List.Mem.tail _ (List.Mem.tail _ (List.Mem.tail _ (List.Mem.tail _ (List.Mem.tail _ (List.Mem.tail _ (List.Mem.head _))))))) sub_n))))))), (PW.upd hw fr_lg (out8_c (by omega) (out8_c (by omega) (out8_c (by omega) (out8_c (by omega) (out8_c (by omega) (out8_c (by omega) (out8_c (by omega) out8_n))))))) (pl_all (Or.inr cr_lg_1) (Or.inr cr_lg_2) (Or.inr (cr_lg_3).ra) (Or.inr (cr_lg_4).ra) (Or.inr (cr_lg_5).ra) (Or.inr (cr_lg_6).ra) (Or.inl (Ai.c (show AP (B + 20) (o) by unfold AP; omega) (Ai.c (show AP (B + 20) (B + 8) by unfold AP; omega) (Ai.c (show AP (B + 20) (B + 10) by unfold AP; omega) (Ai.c (show AP (B + 20) (B + 12) by unfold AP; omega) (Ai.c (show AP (B + 20) (B + 14) by unfold AP; omega) (Ai.c (show AP (B + 20) (B + 16) by unfold AP; omega) (Ai.c (show AP (B + 20) (B + 18) by unfold AP; omega) (Ai.n _))))))))) (Or.inl (Ai.c (show AP (B + 22) (o) by unfold AP; omega) (Ai.c (show AP (B + 22) (B + 8) by unfold AP; omega) (Ai.c (show AP (B + 22) (B + 10) by unfold AP; omega) (Ai.c (show AP (B + 22) (B + 12) by unfold AP; omega) (Ai.c (show AP (B + 22) (B + 14) by unfold AP; omega) (Ai.c (show AP (B + 22) (B + 16) by unfold AP; omega) (Ai.c (show AP (B + 22) (B + 18) by unfold AP; omega) (Ai.n _))))))))))), Or.inl ⟨rfl, ivI_no hp hfa hfb hpu hpv (by omega) (by omega) hI, cr_lg_0⟩⟩
      · skip
        refine g_aload 3 dX2_invert_69 rfl ?_
        refine g_getf 1 dX2_invert_71 kX5 (by decide) fX2_45 (cr_lg_4).o rfl ?_
        refine g_if_lt (tgt := 131) dX2_invert_74 rfl (by unfold gW; omega) (fun c124 => ?_) (fun c124 => ?_)
        · skip
          refine g_aload 4 dX2_invert_131 rfl ?_
          refine g_getf 1 dX2_invert_133 kX5 (by decide) fX2_45 (cr_lg_3).o rfl ?_
          refine g_if_eq (tgt := 141) dX2_invert_136 rfl (by unfold gW; omega) (fun c125 => ?_) (fun c125 => ?_)
          · skip
            obtain ⟨g, ⟨x1, x2, x3, x4, x5, x6, x7⟩, xP⟩ := cr_lg_3
            have hg0 := PO_cf xP (k := 0) (by omega) (by omega)
            have hgb := xP.2.1 0 (by omega) (by omega)
            have hyes := ivI_yes hp hfa hfb hpu (by omega) hg0 hI
            have hiv := ivr_in hp (g 0)
            refine g_aload_n 5 dX2_invert_141 rfl ?_
            refine g_aload 2 dX2_invert_142 rfl ?_
            refine g_aload_n 5 dX2_invert_144 rfl ?_
            refine g_getf 0 dX2_invert_145 kX2 (by decide) fX2_41 cg_lg_0 rfl ?_
            refine g_aload 4 dX2_invert_148 rfl ?_
            refine g_getf 0 dX2_invert_150 kX5 (by decide) fX2_49 x1 rfl ?_
            refine g_iconst dX2_invert_153 ?_
            refine g_laload dX2_invert_154 x2 (by omega) (by omega) (by omega) ?_
            refine g_callV (nc2 := 0) (ns2 := 0) (ci := 1) (As := [.long (gJ ((g) (0)))]) (st := [.ref (B + 16), .ref (B + 7)]) rfl dX2_invert_155 okX1_inverse lX2_83 itX1_inverse seX1_inverse rfl cg_lg_1 (by decide) (by decide) rfl (Nat.le_of_ble_eq_true rfl) (sP_inverse N _ (B + 1) p (by omega) hp2 ((g) (0)) (by omega) (by omega) cg_lg_1) (by omega) (by omega) (fun v126 hc126 q126 => ?_)
            obtain ⟨hq127, rfl⟩ := q126
            refine Go.nf (h' := hlg) (st' := [.long (gJ (ivr p ((g) (0)))), .ref (B + 16), .ref (B + 7)]) hq127 rfl (Nat.le_refl _) (Nat.le_refl _) ?_
            refine g_aload_n 8 dX2_invert_158 rfl ?_
            refine g_callV (nc2 := 0) (ns2 := 0) (ci := 2) (As := [.ref (B + 16), .long (gJ (ivr p ((g) (0)))), .ref (o)]) (st := []) rfl dX2_invert_159 okX2_multiplyBy lX2_100 itX2_multiplyBy seX2_multiplyBy rfl cg_lg_0 (by decide) (by decide) rfl (Nat.le_of_ble_eq_true rfl) (sP_multiplyBy N _ B (B + 16) (o) 84 84 p hp hp2 (gu) (ivr p ((g) (0))) (by omega) (by omega) hyes.2.1 cg_lg_0 cg_lg_1 cr_lg_5 cr_lg_0 (by omega) (by omega) (show AP (B + 16) (o) by unfold AP; omega)) (by omega) (by omega) (fun v128 hc128 q128 => ?_)
            obtain ⟨rfl, frc129, rn129_0⟩ := q128
            have fk130_0 : hc128.2 (B + 7) = some (oB 2 [.ref (B + 1), .ref (B + 8), .ref (B + 10), .ref (B + 12), .ref (B + 14), .ref (B + 16), .ref (B + 18), .ref (B + 20), .ref (B + 22)]) := Fr.at0 frc129 (Ni.c ⟨(show NE (B + 7) (o) by unfold NE; omega), (show NE (B + 7) (o + 1) by unfold NE; omega)⟩ (Ni.n _)) cg_lg_0
            have fk130_1 : hc128.2 (B + 1) = some (oB 1 [.int (gI ((p : Int)))]) := Fr.at0 frc129 (Ni.c ⟨(show NE (B + 1) (o) by unfold NE; omega), (show NE (B + 1) (o + 1) by unfold NE; omega)⟩ (Ni.n _)) cg_lg_1
            have fk130_2 : hc128.2 (B + 12) = some (oB 5 [.ref (B + 13), .int (gI (dgi hp (fu)))]) := Fr.at0 frc129 (Ni.c ⟨(show NE (B + 12) (o) by unfold NE; omega), (show NE (B + 12) (o + 1) by unfold NE; omega)⟩ (Ni.n _)) x1
            have fk130_3 : hc128.2 (B + 13) = some (aJ 84 (g)) := Fr.at0 frc129 (Ni.c ⟨(show NE (B + 13) (o) by unfold NE; omega), (show NE (B + 13) (o + 1) by unfold NE; omega)⟩ (Ni.n _)) x2
            have rk130_1 : RA 84 hc128 (B + 8) := (cr_lg_1).fr frc129 (Ai.c (show AP (B + 8) (o) by unfold AP; omega) (Ai.n _))
            have rk130_2 : RA 84 hc128 (B + 10) := (cr_lg_2).fr frc129 (Ai.c (show AP (B + 10) (o) by unfold AP; omega) (Ai.n _))
            have rk130_3 : RP hp 84 hc128 (B + 14) (fv) := (cr_lg_4).fr frc129 (Ai.c (show AP (B + 14) (o) by unfold AP; omega) (Ai.n _))
            have rk130_4 : RP hp 84 hc128 (B + 16) (gu) := (cr_lg_5).fr frc129 (Ai.c (show AP (B + 16) (o) by unfold AP; omega) (Ai.n _))
            have rk130_5 : RP hp 84 hc128 (B + 18) (gv) := (cr_lg_6).fr frc129 (Ai.c (show AP (B + 18) (o) by unfold AP; omega) (Ai.n _))
            have fr130 : Fr [o, B + 8, B + 10, B + 12, B + 14, B + 16, B + 18] h hc128 := (fr_lg).tr ((frc129).mo (sub_c (List.Mem.head _) sub_n))
            refine Go.nf (h' := hc128) (st' := []) rfl rfl (Nat.le_refl _) (Nat.le_refl _) ?_
            refine g_iconst dX2_invert_162 ?_
            exact g_zret dX2_invert_163 rfl (by omega) ⟨(fr130).mo (sub_c (List.Mem.head _) (sub_c (List.Mem.tail _ (List.Mem.head _)) (sub_c (List.Mem.tail _ (List.Mem.tail _ (List.Mem.head _))) (sub_c (List.Mem.tail _ (List.Mem.tail _ (List.Mem.tail _ (List.Mem.head _)))) (sub_c (List.Mem.tail _ (List.Mem.tail _ (List.Mem.tail _ (List.Mem.tail _ (List.Mem.head _))))) (sub_c (List.Mem.tail _ (List.Mem.tail _ (List.Mem.tail _ (List.Mem.tail _ (List.Mem.tail _ (List.Mem.head _)))))) (sub_c (List.Mem.tail _ (List.Mem.tail _ (List.Mem.tail _ (List.Mem.tail _ (List.Mem.tail _ (List.Mem.tail _ (List.Mem.head _))))))) sub_n))))))), (PW.upd hw fr130 (out8_c (by omega) (out8_c (by omega) (out8_c (by omega) (out8_c (by omega) (out8_c (by omega) (out8_c (by omega) (out8_c (by omega) out8_n))))))) (pl_all (Or.inr rk130_1) (Or.inr rk130_2) (Or.inr (⟨_, g, fk130_2, fk130_3, x3, x4, x5, x6, x7⟩ : RA 84 hc128 (B + 12))) (Or.inr (rk130_3).ra) (Or.inr (rk130_4).ra) (Or.inr (rk130_5).ra) (Or.inl (Ai.c (show AP (B + 20) (o) by unfold AP; omega) (Ai.c (show AP (B + 20) (B + 8) by unfold AP; omega) (Ai.c (show AP (B + 20) (B + 10) by unfold AP; omega) (Ai.c (show AP (B + 20) (B + 12) by unfold AP; omega) (Ai.c (show AP (B + 20) (B + 14) by unfold AP; omega) (Ai.c (show AP (B + 20) (B + 16) by unfold AP; omega) (Ai.c (show AP (B + 20) (B + 18) by unfold AP; omega) (Ai.n _))))))))) (Or.inl (Ai.c (show AP (B + 22) (o) by unfold AP; omega) (Ai.c (show AP (B + 22) (B + 8) by unfold AP; omega) (Ai.c (show AP (B + 22) (B + 10) by unfold AP; omega) (Ai.c (show AP (B + 22) (B + 12) by unfold AP; omega) (Ai.c (show AP (B + 22) (B + 14) by unfold AP; omega) (Ai.c (show AP (B + 22) (B + 16) by unfold AP; omega) (Ai.c (show AP (B + 22) (B + 18) by unfold AP; omega) (Ai.n _))))))))))), Or.inr ⟨rfl, by rw [← hyes.1]; exact rn129_0⟩⟩
          · skip
            refine g_iconst dX2_invert_139 ?_
            exact g_zret dX2_invert_140 rfl (by omega) ⟨(fr_lg).mo (sub_c (List.Mem.head _) (sub_c (List.Mem.tail _ (List.Mem.head _)) (sub_c (List.Mem.tail _ (List.Mem.tail _ (List.Mem.head _))) (sub_c (List.Mem.tail _ (List.Mem.tail _ (List.Mem.tail _ (List.Mem.head _)))) (sub_c (List.Mem.tail _ (List.Mem.tail _ (List.Mem.tail _ (List.Mem.tail _ (List.Mem.head _))))) (sub_c (List.Mem.tail _ (List.Mem.tail _ (List.Mem.tail _ (List.Mem.tail _ (List.Mem.tail _ (List.Mem.head _)))))) (sub_c (List.Mem.tail _ (List.Mem.tail _ (List.Mem.tail _ (List.Mem.tail _ (List.Mem.tail _ (List.Mem.tail _ (List.Mem.head _))))))) sub_n))))))), (PW.upd hw fr_lg (out8_c (by omega) (out8_c (by omega) (out8_c (by omega) (out8_c (by omega) (out8_c (by omega) (out8_c (by omega) (out8_c (by omega) out8_n))))))) (pl_all (Or.inr cr_lg_1) (Or.inr cr_lg_2) (Or.inr (cr_lg_3).ra) (Or.inr (cr_lg_4).ra) (Or.inr (cr_lg_5).ra) (Or.inr (cr_lg_6).ra) (Or.inl (Ai.c (show AP (B + 20) (o) by unfold AP; omega) (Ai.c (show AP (B + 20) (B + 8) by unfold AP; omega) (Ai.c (show AP (B + 20) (B + 10) by unfold AP; omega) (Ai.c (show AP (B + 20) (B + 12) by unfold AP; omega) (Ai.c (show AP (B + 20) (B + 14) by unfold AP; omega) (Ai.c (show AP (B + 20) (B + 16) by unfold AP; omega) (Ai.c (show AP (B + 20) (B + 18) by unfold AP; omega) (Ai.n _))))))))) (Or.inl (Ai.c (show AP (B + 22) (o) by unfold AP; omega) (Ai.c (show AP (B + 22) (B + 8) by unfold AP; omega) (Ai.c (show AP (B + 22) (B + 10) by unfold AP; omega) (Ai.c (show AP (B + 22) (B + 12) by unfold AP; omega) (Ai.c (show AP (B + 22) (B + 14) by unfold AP; omega) (Ai.c (show AP (B + 22) (B + 16) by unfold AP; omega) (Ai.c (show AP (B + 22) (B + 18) by unfold AP; omega) (Ai.n _))))))))))), Or.inl ⟨rfl, ivI_no hp hfa hfb hpu hpv (by omega) (by omega) hI, cr_lg_0⟩⟩
        · skip
          refine g_aload_n 5 dX2_invert_77 rfl ?_
          refine g_aload 4 dX2_invert_78 rfl ?_
          refine g_aload 3 dX2_invert_80 rfl ?_
          refine g_aload_n 5 dX2_invert_82 rfl ?_
          refine g_getf 2 dX2_invert_83 kX2 (by decide) fX2_20 cg_lg_0 rfl ?_
          refine g_callV (nc2 := 0) (ns2 := 0) (ci := 2) (As := [.ref (B + 12), .ref (B + 14), .ref (B + 10)]) (st := []) rfl dX2_invert_86 okX2_reduce lX2_87 itX2_reduce seX2_reduce rfl cg_lg_0 (by decide) (by decide) rfl (Nat.le_of_ble_eq_true rfl) (sP_reduce N _ B (B + 12) (B + 14) (B + 10) 84 84 84 p hp hp2 (dgi hp (fu)) ((p : Int)) (fu) (fv) (by omega) cg_lg_0 cg_lg_1 (cr_lg_3).ru cr_lg_4 cr_lg_2 (by omega) (by omega) (show AP (B + 12) (B + 14) by unfold AP; omega) (show AP (B + 12) (B + 10) by unfold AP; omega) (show AP (B + 14) (B + 10) by unfold AP; omega) (by omega) (by omega) (by omega)) (by omega) (by omega) (fun v132 hc132 q132 => ?_)
          obtain ⟨rfl, frc133, rn133_0, rn133_1⟩ := q132
          have fk134_0 : hc132.2 (B + 7) = some (oB 2 [.ref (B + 1), .ref (B + 8), .ref (B + 10), .ref (B + 12), .ref (B + 14), .ref (B + 16), .ref (B + 18), .ref (B + 20), .ref (B + 22)]) := Fr.at0 frc133 (Ni.c ⟨(show NE (B + 7) (B + 12) by unfold NE; omega), (show NE (B + 7) (B + 13) by unfold NE; omega)⟩ (Ni.c ⟨(show NE (B + 7) (B + 10) by unfold NE; omega), (show NE (B + 7) (B + 11) by unfold NE; omega)⟩ (Ni.n _))) cg_lg_0
          have fk134_1 : hc132.2 (B + 1) = some (oB 1 [.int (gI ((p : Int)))]) := Fr.at0 frc133 (Ni.c ⟨(show NE (B + 1) (B + 12) by unfold NE; omega), (show NE (B + 1) (B + 13) by unfold NE; omega)⟩ (Ni.c ⟨(show NE (B + 1) (B + 10) by unfold NE; omega), (show NE (B + 1) (B + 11) by unfold NE; omega)⟩ (Ni.n _))) cg_lg_1
          have rk134_0 : RA 84 hc132 (o) := (cr_lg_0).fr frc133 (Ai.c (show AP (o) (B + 12) by unfold AP; omega) (Ai.c (show AP (o) (B + 10) by unfold AP; omega) (Ai.n _)))
          have rk134_1 : RA 84 hc132 (B + 8) := (cr_lg_1).fr frc133 (Ai.c (show AP (B + 8) (B + 12) by unfold AP; omega) (Ai.c (show AP (B + 8) (B + 10) by unfold AP; omega) (Ai.n _)))
          have rk134_4 : RP hp 84 hc132 (B + 14) (fv) := (cr_lg_4).fr frc133 (Ai.c (show AP (B + 14) (B + 12) by unfold AP; omega) (Ai.c (show AP (B + 14) (B + 10) by unfold AP; omega) (Ai.n _)))
          have rk134_5 : RP hp 84 hc132 (B + 16) (gu) := (cr_lg_5).fr frc133 (Ai.c (show AP (B + 16) (B + 12) by unfold AP; omega) (Ai.c (show AP (B + 16) (B + 10) by unfold AP; omega) (Ai.n _)))
          have rk134_6 : RP hp 84 hc132 (B + 18) (gv) := (cr_lg_6).fr frc133 (Ai.c (show AP (B + 18) (B + 12) by unfold AP; omega) (Ai.c (show AP (B + 18) (B + 10) by unfold AP; omega) (Ai.n _)))
          have fr134 : Fr [o, B + 8, B + 10, B + 12, B + 14, B + 16, B + 18] h hc132 := (fr_lg).tr ((frc133).mo (sub_c (List.Mem.tail _ (List.Mem.tail _ (List.Mem.tail _ (List.Mem.head _)))) (sub_c (List.Mem.tail _ (List.Mem.tail _ (List.Mem.head _))) sub_n)))
          refine Go.nf (h' := hc132) (st' := []) rfl rfl (Nat.le_refl _) (Nat.le_refl _) ?_
          have hstep := ivI_s hp hfa hfb hpu hpv (by omega) hI
          refine g_aload_n 5 dX2_invert_89 rfl ?_
          refine g_aload 2 dX2_invert_90 rfl ?_
          refine g_aload_n 5 dX2_invert_92 rfl ?_
          refine g_getf 2 dX2_invert_93 kX2 (by decide) fX2_20 fk134_0 rfl ?_
          refine g_aload 1 dX2_invert_96 rfl ?_
          refine g_callV (nc2 := 0) (ns2 := 0) (ci := 2) (As := [.ref (B + 16), .ref (B + 10), .ref (B + 18)]) (st := []) rfl dX2_invert_98 okX2_lessen lX2_97 itX2_lessen seX2_lessen rfl fk134_0 (by decide) (by decide) rfl (Nat.le_of_ble_eq_true rfl) (sP_lessen N _ B (B + 16) (B + 10) (B + 18) p hp hp2 (gu) (qt hp (fu) (fv)) (gv) fk134_0 fk134_1 rk134_5 rn133_1 rk134_6 rk134_1 (by omega) (by omega) (by omega) (by omega)) (by omega) (by omega) (fun v135 hc135 q135 => ?_)
          obtain ⟨rfl, frc136, rn136_0, rn136_1⟩ := q135
          have fk137_0 : hc135.2 (B + 7) = some (oB 2 [.ref (B + 1), .ref (B + 8), .ref (B + 10), .ref (B + 12), .ref (B + 14), .ref (B + 16), .ref (B + 18), .ref (B + 20), .ref (B + 22)]) := Fr.at0 frc136 (Ni.c ⟨(show NE (B + 7) (B + 16) by unfold NE; omega), (show NE (B + 7) (B + 17) by unfold NE; omega)⟩ (Ni.c ⟨(show NE (B + 7) (B + 8) by unfold NE; omega), (show NE (B + 7) (B + 9) by unfold NE; omega)⟩ (Ni.n _))) fk134_0
          have fk137_1 : hc135.2 (B + 1) = some (oB 1 [.int (gI ((p : Int)))]) := Fr.at0 frc136 (Ni.c ⟨(show NE (B + 1) (B + 16) by unfold NE; omega), (show NE (B + 1) (B + 17) by unfold NE; omega)⟩ (Ni.c ⟨(show NE (B + 1) (B + 8) by unfold NE; omega), (show NE (B + 1) (B + 9) by unfold NE; omega)⟩ (Ni.n _))) fk134_1
          have rk137_0 : RA 84 hc135 (o) := (rk134_0).fr frc136 (Ai.c (show AP (o) (B + 16) by unfold AP; omega) (Ai.c (show AP (o) (B + 8) by unfold AP; omega) (Ai.n _)))
          have rk137_2 : RP hp 84 hc135 (B + 14) (fv) := (rk134_4).fr frc136 (Ai.c (show AP (B + 14) (B + 16) by unfold AP; omega) (Ai.c (show AP (B + 14) (B + 8) by unfold AP; omega) (Ai.n _)))
          have rk137_4 : RP hp 84 hc135 (B + 18) (gv) := (rk134_6).fr frc136 (Ai.c (show AP (B + 18) (B + 16) by unfold AP; omega) (Ai.c (show AP (B + 18) (B + 8) by unfold AP; omega) (Ai.n _)))
          have rk137_5 : RP hp 84 hc135 (B + 12) (rm hp (fu) (fv)) := (rn133_0).fr frc136 (Ai.c (show AP (B + 12) (B + 16) by unfold AP; omega) (Ai.c (show AP (B + 12) (B + 8) by unfold AP; omega) (Ai.n _)))
          have rk137_6 : RP hp 84 hc135 (B + 10) (qt hp (fu) (fv)) := (rn133_1).fr frc136 (Ai.c (show AP (B + 10) (B + 16) by unfold AP; omega) (Ai.c (show AP (B + 10) (B + 8) by unfold AP; omega) (Ai.n _)))
          have fr137 : Fr [o, B + 8, B + 10, B + 12, B + 14, B + 16, B + 18] h hc135 := (fr134).tr ((frc136).mo (sub_c (List.Mem.tail _ (List.Mem.tail _ (List.Mem.tail _ (List.Mem.tail _ (List.Mem.tail _ (List.Mem.head _)))))) (sub_c (List.Mem.tail _ (List.Mem.head _)) sub_n)))
          refine Go.nf (h' := hc135) (st' := []) rfl rfl (Nat.le_refl _) (Nat.le_refl _) ?_
          refine g_aload 4 dX2_invert_101 rfl ?_
          refine g_astore (ls2 := [(9, .ref (B + 12)), (8, .int (gI (turn))), (7, .ref (B + 18)), (6, .ref (B + 16)), (5, .ref (B + 14)), (4, .ref (B + 12)), (0, .ref (B + 7)), (1, .ref (a)), (2, .ref (b)), (3, .ref (o))]) dX2_invert_103 (by decide) rfl ?_
          refine g_aload 4 dX2_invert_105 rfl ?_
          refine g_astore (ls2 := [(4, .ref (B + 14)), (9, .ref (B + 12)), (8, .int (gI (turn))), (7, .ref (B + 18)), (6, .ref (B + 16)), (5, .ref (B + 14)), (0, .ref (B + 7)), (1, .ref (a)), (2, .ref (b)), (3, .ref (o))]) dX2_invert_107 (by decide) rfl ?_
          refine g_aload 1 dX2_invert_109 rfl ?_
          refine g_astore (ls2 := [(5, .ref (B + 12)), (4, .ref (B + 14)), (9, .ref (B + 12)), (8, .int (gI (turn))), (7, .ref (B + 18)), (6, .ref (B + 16)), (0, .ref (B + 7)), (1, .ref (a)), (2, .ref (b)), (3, .ref (o))]) dX2_invert_111 (by decide) rfl ?_
          refine g_aload 5 dX2_invert_113 rfl ?_
          refine g_astore (ls2 := [(9, .ref (B + 16)), (5, .ref (B + 12)), (4, .ref (B + 14)), (8, .int (gI (turn))), (7, .ref (B + 18)), (6, .ref (B + 16)), (0, .ref (B + 7)), (1, .ref (a)), (2, .ref (b)), (3, .ref (o))]) dX2_invert_115 (by decide) rfl ?_
          refine g_aload 4 dX2_invert_117 rfl ?_
          refine g_astore (ls2 := [(6, .ref (B + 18)), (9, .ref (B + 16)), (5, .ref (B + 12)), (4, .ref (B + 14)), (8, .int (gI (turn))), (7, .ref (B + 18)), (0, .ref (B + 7)), (1, .ref (a)), (2, .ref (b)), (3, .ref (o))]) dX2_invert_119 (by decide) rfl ?_
          refine g_aload 1 dX2_invert_121 rfl ?_
          refine g_astore (ls2 := [(7, .ref (B + 16)), (6, .ref (B + 18)), (9, .ref (B + 16)), (5, .ref (B + 12)), (4, .ref (B + 14)), (8, .int (gI (turn))), (0, .ref (B + 7)), (1, .ref (a)), (2, .ref (b)), (3, .ref (o))]) dX2_invert_123 (by decide) rfl ?_
          refine g_iinc 5 (ls2 := [(8, .int (gI (turn + 1))), (7, .ref (B + 16)), (6, .ref (B + 18)), (9, .ref (B + 16)), (5, .ref (B + 12)), (4, .ref (B + 14)), (0, .ref (B + 7)), (1, .ref (a)), (2, .ref (b)), (3, .ref (o))]) dX2_invert_125 rfl (by decide) rfl ?_
          refine g_goto (tgt := 62) dX2_invert_128 rfl ?_
          refine Go.sub [0, 1, 2, 4, 5, 6, 7, 8, 9] rfl ?_
          exact ih_lg _ (by omega) (turn + 1) (fv) (rm hp fu fv) (gv) (psb hp gu (pml hp (qt hp fu fv) gv)) (B + 14) (B + 12) (B + 18) (B + 16) hc135 rfl fr137 rk137_0 rn136_1 (rk137_6).ra rk137_2 rk137_5 rk137_4 rn136_0 (by omega) (by have := rm_lt hp hpu hpv (by omega); omega) hstep.2 (Or.inr ⟨rfl, rfl, rfl, rfl⟩)
    · skip
      have hlu := (cr_lg_3).lt
      have hlv := (cr_lg_4).lt
      have hlw := (cr_lg_5).lt
      have hlz := (cr_lg_6).lt
      have hpu := (cr_lg_3).po
      have hpv := (cr_lg_4).po
      refine g_iload 0 dX2_invert_62 rfl ?_
      refine g_bipush dX2_invert_64 (by decide) ?_
      refine g_icmp_gt (tgt := 131) dX2_invert_66 rfl (by unfold gW; omega) (by unfold gW; omega) (fun c338 => ?_) (fun c338 => ?_)
      · skip
        refine g_aload 4 dX2_invert_131 rfl ?_
        refine g_getf 1 dX2_invert_133 kX5 (by decide) fX2_45 (cr_lg_3).o rfl ?_
        refine g_if_eq (tgt := 141) dX2_invert_136 rfl (by unfold gW; omega) (fun c339 => ?_) (fun c339 => ?_)
        · skip
          obtain ⟨g, ⟨x1, x2, x3, x4, x5, x6, x7⟩, xP⟩ := cr_lg_3
          have hg0 := PO_cf xP (k := 0) (by omega) (by omega)
          have hgb := xP.2.1 0 (by omega) (by omega)
          have hyes := ivI_yes hp hfa hfb hpu (by omega) hg0 hI
          have hiv := ivr_in hp (g 0)
          refine g_aload_n 5 dX2_invert_141 rfl ?_
          refine g_aload 2 dX2_invert_142 rfl ?_
          refine g_aload_n 5 dX2_invert_144 rfl ?_
          refine g_getf 0 dX2_invert_145 kX2 (by decide) fX2_41 cg_lg_0 rfl ?_
          refine g_aload 4 dX2_invert_148 rfl ?_
          refine g_getf 0 dX2_invert_150 kX5 (by decide) fX2_49 x1 rfl ?_
          refine g_iconst dX2_invert_153 ?_
          refine g_laload dX2_invert_154 x2 (by omega) (by omega) (by omega) ?_
          refine g_callV (nc2 := 0) (ns2 := 0) (ci := 1) (As := [.long (gJ ((g) (0)))]) (st := [.ref (B + 18), .ref (B + 7)]) rfl dX2_invert_155 okX1_inverse lX2_83 itX1_inverse seX1_inverse rfl cg_lg_1 (by decide) (by decide) rfl (Nat.le_of_ble_eq_true rfl) (sP_inverse N _ (B + 1) p (by omega) hp2 ((g) (0)) (by omega) (by omega) cg_lg_1) (by omega) (by omega) (fun v340 hc340 q340 => ?_)
          obtain ⟨hq341, rfl⟩ := q340
          refine Go.nf (h' := hlg) (st' := [.long (gJ (ivr p ((g) (0)))), .ref (B + 18), .ref (B + 7)]) hq341 rfl (Nat.le_refl _) (Nat.le_refl _) ?_
          refine g_aload_n 8 dX2_invert_158 rfl ?_
          refine g_callV (nc2 := 0) (ns2 := 0) (ci := 2) (As := [.ref (B + 18), .long (gJ (ivr p ((g) (0)))), .ref (o)]) (st := []) rfl dX2_invert_159 okX2_multiplyBy lX2_100 itX2_multiplyBy seX2_multiplyBy rfl cg_lg_0 (by decide) (by decide) rfl (Nat.le_of_ble_eq_true rfl) (sP_multiplyBy N _ B (B + 18) (o) 84 84 p hp hp2 (gu) (ivr p ((g) (0))) (by omega) (by omega) hyes.2.1 cg_lg_0 cg_lg_1 cr_lg_5 cr_lg_0 (by omega) (by omega) (show AP (B + 18) (o) by unfold AP; omega)) (by omega) (by omega) (fun v342 hc342 q342 => ?_)
          obtain ⟨rfl, frc343, rn343_0⟩ := q342
          have fk344_0 : hc342.2 (B + 7) = some (oB 2 [.ref (B + 1), .ref (B + 8), .ref (B + 10), .ref (B + 12), .ref (B + 14), .ref (B + 16), .ref (B + 18), .ref (B + 20), .ref (B + 22)]) := Fr.at0 frc343 (Ni.c ⟨(show NE (B + 7) (o) by unfold NE; omega), (show NE (B + 7) (o + 1) by unfold NE; omega)⟩ (Ni.n _)) cg_lg_0
          have fk344_1 : hc342.2 (B + 1) = some (oB 1 [.int (gI ((p : Int)))]) := Fr.at0 frc343 (Ni.c ⟨(show NE (B + 1) (o) by unfold NE; omega), (show NE (B + 1) (o + 1) by unfold NE; omega)⟩ (Ni.n _)) cg_lg_1
          have fk344_2 : hc342.2 (B + 14) = some (oB 5 [.ref (B + 15), .int (gI (dgi hp (fu)))]) := Fr.at0 frc343 (Ni.c ⟨(show NE (B + 14) (o) by unfold NE; omega), (show NE (B + 14) (o + 1) by unfold NE; omega)⟩ (Ni.n _)) x1
          have fk344_3 : hc342.2 (B + 15) = some (aJ 84 (g)) := Fr.at0 frc343 (Ni.c ⟨(show NE (B + 15) (o) by unfold NE; omega), (show NE (B + 15) (o + 1) by unfold NE; omega)⟩ (Ni.n _)) x2
          have rk344_1 : RA 84 hc342 (B + 8) := (cr_lg_1).fr frc343 (Ai.c (show AP (B + 8) (o) by unfold AP; omega) (Ai.n _))
          have rk344_2 : RA 84 hc342 (B + 10) := (cr_lg_2).fr frc343 (Ai.c (show AP (B + 10) (o) by unfold AP; omega) (Ai.n _))
          have rk344_3 : RP hp 84 hc342 (B + 12) (fv) := (cr_lg_4).fr frc343 (Ai.c (show AP (B + 12) (o) by unfold AP; omega) (Ai.n _))
          have rk344_4 : RP hp 84 hc342 (B + 18) (gu) := (cr_lg_5).fr frc343 (Ai.c (show AP (B + 18) (o) by unfold AP; omega) (Ai.n _))
          have rk344_5 : RP hp 84 hc342 (B + 16) (gv) := (cr_lg_6).fr frc343 (Ai.c (show AP (B + 16) (o) by unfold AP; omega) (Ai.n _))
          have fr344 : Fr [o, B + 8, B + 10, B + 12, B + 14, B + 16, B + 18] h hc342 := (fr_lg).tr ((frc343).mo (sub_c (List.Mem.head _) sub_n))
          refine Go.nf (h' := hc342) (st' := []) rfl rfl (Nat.le_refl _) (Nat.le_refl _) ?_
          refine g_iconst dX2_invert_162 ?_
          exact g_zret dX2_invert_163 rfl (by omega) ⟨(fr344).mo (sub_c (List.Mem.head _) (sub_c (List.Mem.tail _ (List.Mem.head _)) (sub_c (List.Mem.tail _ (List.Mem.tail _ (List.Mem.head _))) (sub_c (List.Mem.tail _ (List.Mem.tail _ (List.Mem.tail _ (List.Mem.head _)))) (sub_c (List.Mem.tail _ (List.Mem.tail _ (List.Mem.tail _ (List.Mem.tail _ (List.Mem.head _))))) (sub_c (List.Mem.tail _ (List.Mem.tail _ (List.Mem.tail _ (List.Mem.tail _ (List.Mem.tail _ (List.Mem.head _)))))) (sub_c (List.Mem.tail _ (List.Mem.tail _ (List.Mem.tail _ (List.Mem.tail _ (List.Mem.tail _ (List.Mem.tail _ (List.Mem.head _))))))) sub_n))))))), (PW.upd hw fr344 (out8_c (by omega) (out8_c (by omega) (out8_c (by omega) (out8_c (by omega) (out8_c (by omega) (out8_c (by omega) (out8_c (by omega) out8_n))))))) (pl_all (Or.inr rk344_1) (Or.inr rk344_2) (Or.inr (rk344_3).ra) (Or.inr (⟨_, g, fk344_2, fk344_3, x3, x4, x5, x6, x7⟩ : RA 84 hc342 (B + 14))) (Or.inr (rk344_5).ra) (Or.inr (rk344_4).ra) (Or.inl (Ai.c (show AP (B + 20) (o) by unfold AP; omega) (Ai.c (show AP (B + 20) (B + 8) by unfold AP; omega) (Ai.c (show AP (B + 20) (B + 10) by unfold AP; omega) (Ai.c (show AP (B + 20) (B + 12) by unfold AP; omega) (Ai.c (show AP (B + 20) (B + 14) by unfold AP; omega) (Ai.c (show AP (B + 20) (B + 16) by unfold AP; omega) (Ai.c (show AP (B + 20) (B + 18) by unfold AP; omega) (Ai.n _))))))))) (Or.inl (Ai.c (show AP (B + 22) (o) by unfold AP; omega) (Ai.c (show AP (B + 22) (B + 8) by unfold AP; omega) (Ai.c (show AP (B + 22) (B + 10) by unfold AP; omega) (Ai.c (show AP (B + 22) (B + 12) by unfold AP; omega) (Ai.c (show AP (B + 22) (B + 14) by unfold AP; omega) (Ai.c (show AP (B + 22) (B + 16) by unfold AP; omega) (Ai.c (show AP (B + 22) (B + 18) by unfold AP; omega) (Ai.n _))))))))))), Or.inr ⟨rfl, by rw [← hyes.1]; exact rn343_0⟩⟩
        · skip
          refine g_iconst dX2_invert_139 ?_
          exact g_zret dX2_invert_140 rfl (by omega) ⟨(fr_lg).mo (sub_c (List.Mem.head _) (sub_c (List.Mem.tail _ (List.Mem.head _)) (sub_c (List.Mem.tail _ (List.Mem.tail _ (List.Mem.head _))) (sub_c (List.Mem.tail _ (List.Mem.tail _ (List.Mem.tail _ (List.Mem.head _)))) (sub_c (List.Mem.tail _ (List.Mem.tail _ (List.Mem.tail _ (List.Mem.tail _ (List.Mem.head _))))) (sub_c (List.Mem.tail _ (List.Mem.tail _ (List.Mem.tail _ (List.Mem.tail _ (List.Mem.tail _ (List.Mem.head _)))))) (sub_c (List.Mem.tail _ (List.Mem.tail _ (List.Mem.tail _ (List.Mem.tail _ (List.Mem.tail _ (List.Mem.tail _ (List.Mem.head _))))))) sub_n))))))), (PW.upd hw fr_lg (out8_c (by omega) (out8_c (by omega) (out8_c (by omega) (out8_c (by omega) (out8_c (by omega) (out8_c (by omega) (out8_c (by omega) out8_n))))))) (pl_all (Or.inr cr_lg_1) (Or.inr cr_lg_2) (Or.inr (cr_lg_4).ra) (Or.inr (cr_lg_3).ra) (Or.inr (cr_lg_6).ra) (Or.inr (cr_lg_5).ra) (Or.inl (Ai.c (show AP (B + 20) (o) by unfold AP; omega) (Ai.c (show AP (B + 20) (B + 8) by unfold AP; omega) (Ai.c (show AP (B + 20) (B + 10) by unfold AP; omega) (Ai.c (show AP (B + 20) (B + 12) by unfold AP; omega) (Ai.c (show AP (B + 20) (B + 14) by unfold AP; omega) (Ai.c (show AP (B + 20) (B + 16) by unfold AP; omega) (Ai.c (show AP (B + 20) (B + 18) by unfold AP; omega) (Ai.n _))))))))) (Or.inl (Ai.c (show AP (B + 22) (o) by unfold AP; omega) (Ai.c (show AP (B + 22) (B + 8) by unfold AP; omega) (Ai.c (show AP (B + 22) (B + 10) by unfold AP; omega) (Ai.c (show AP (B + 22) (B + 12) by unfold AP; omega) (Ai.c (show AP (B + 22) (B + 14) by unfold AP; omega) (Ai.c (show AP (B + 22) (B + 16) by unfold AP; omega) (Ai.c (show AP (B + 22) (B + 18) by unfold AP; omega) (Ai.n _))))))))))), Or.inl ⟨rfl, ivI_no hp hfa hfb hpu hpv (by omega) (by omega) hI, cr_lg_0⟩⟩
      · skip
        refine g_aload 3 dX2_invert_69 rfl ?_
        refine g_getf 1 dX2_invert_71 kX5 (by decide) fX2_45 (cr_lg_4).o rfl ?_
        refine g_if_lt (tgt := 131) dX2_invert_74 rfl (by unfold gW; omega) (fun c346 => ?_) (fun c346 => ?_)
        · skip
          refine g_aload 4 dX2_invert_131 rfl ?_
          refine g_getf 1 dX2_invert_133 kX5 (by decide) fX2_45 (cr_lg_3).o rfl ?_
          refine g_if_eq (tgt := 141) dX2_invert_136 rfl (by unfold gW; omega) (fun c347 => ?_) (fun c347 => ?_)
          · skip
            obtain ⟨g, ⟨x1, x2, x3, x4, x5, x6, x7⟩, xP⟩ := cr_lg_3
            have hg0 := PO_cf xP (k := 0) (by omega) (by omega)
            have hgb := xP.2.1 0 (by omega) (by omega)
            have hyes := ivI_yes hp hfa hfb hpu (by omega) hg0 hI
            have hiv := ivr_in hp (g 0)
            refine g_aload_n 5 dX2_invert_141 rfl ?_
            refine g_aload 2 dX2_invert_142 rfl ?_
            refine g_aload_n 5 dX2_invert_144 rfl ?_
            refine g_getf 0 dX2_invert_145 kX2 (by decide) fX2_41 cg_lg_0 rfl ?_
            refine g_aload 4 dX2_invert_148 rfl ?_
            refine g_getf 0 dX2_invert_150 kX5 (by decide) fX2_49 x1 rfl ?_
            refine g_iconst dX2_invert_153 ?_
            refine g_laload dX2_invert_154 x2 (by omega) (by omega) (by omega) ?_
            refine g_callV (nc2 := 0) (ns2 := 0) (ci := 1) (As := [.long (gJ ((g) (0)))]) (st := [.ref (B + 18), .ref (B + 7)]) rfl dX2_invert_155 okX1_inverse lX2_83 itX1_inverse seX1_inverse rfl cg_lg_1 (by decide) (by decide) rfl (Nat.le_of_ble_eq_true rfl) (sP_inverse N _ (B + 1) p (by omega) hp2 ((g) (0)) (by omega) (by omega) cg_lg_1) (by omega) (by omega) (fun v348 hc348 q348 => ?_)
            obtain ⟨hq349, rfl⟩ := q348
            refine Go.nf (h' := hlg) (st' := [.long (gJ (ivr p ((g) (0)))), .ref (B + 18), .ref (B + 7)]) hq349 rfl (Nat.le_refl _) (Nat.le_refl _) ?_
            refine g_aload_n 8 dX2_invert_158 rfl ?_
            refine g_callV (nc2 := 0) (ns2 := 0) (ci := 2) (As := [.ref (B + 18), .long (gJ (ivr p ((g) (0)))), .ref (o)]) (st := []) rfl dX2_invert_159 okX2_multiplyBy lX2_100 itX2_multiplyBy seX2_multiplyBy rfl cg_lg_0 (by decide) (by decide) rfl (Nat.le_of_ble_eq_true rfl) (sP_multiplyBy N _ B (B + 18) (o) 84 84 p hp hp2 (gu) (ivr p ((g) (0))) (by omega) (by omega) hyes.2.1 cg_lg_0 cg_lg_1 cr_lg_5 cr_lg_0 (by omega) (by omega) (show AP (B + 18) (o) by unfold AP; omega)) (by omega) (by omega) (fun v350 hc350 q350 => ?_)
            obtain ⟨rfl, frc351, rn351_0⟩ := q350
            have fk352_0 : hc350.2 (B + 7) = some (oB 2 [.ref (B + 1), .ref (B + 8), .ref (B + 10), .ref (B + 12), .ref (B + 14), .ref (B + 16), .ref (B + 18), .ref (B + 20), .ref (B + 22)]) := Fr.at0 frc351 (Ni.c ⟨(show NE (B + 7) (o) by unfold NE; omega), (show NE (B + 7) (o + 1) by unfold NE; omega)⟩ (Ni.n _)) cg_lg_0
            have fk352_1 : hc350.2 (B + 1) = some (oB 1 [.int (gI ((p : Int)))]) := Fr.at0 frc351 (Ni.c ⟨(show NE (B + 1) (o) by unfold NE; omega), (show NE (B + 1) (o + 1) by unfold NE; omega)⟩ (Ni.n _)) cg_lg_1
            have fk352_2 : hc350.2 (B + 14) = some (oB 5 [.ref (B + 15), .int (gI (dgi hp (fu)))]) := Fr.at0 frc351 (Ni.c ⟨(show NE (B + 14) (o) by unfold NE; omega), (show NE (B + 14) (o + 1) by unfold NE; omega)⟩ (Ni.n _)) x1
            have fk352_3 : hc350.2 (B + 15) = some (aJ 84 (g)) := Fr.at0 frc351 (Ni.c ⟨(show NE (B + 15) (o) by unfold NE; omega), (show NE (B + 15) (o + 1) by unfold NE; omega)⟩ (Ni.n _)) x2
            have rk352_1 : RA 84 hc350 (B + 8) := (cr_lg_1).fr frc351 (Ai.c (show AP (B + 8) (o) by unfold AP; omega) (Ai.n _))
            have rk352_2 : RA 84 hc350 (B + 10) := (cr_lg_2).fr frc351 (Ai.c (show AP (B + 10) (o) by unfold AP; omega) (Ai.n _))
            have rk352_3 : RP hp 84 hc350 (B + 12) (fv) := (cr_lg_4).fr frc351 (Ai.c (show AP (B + 12) (o) by unfold AP; omega) (Ai.n _))
            have rk352_4 : RP hp 84 hc350 (B + 18) (gu) := (cr_lg_5).fr frc351 (Ai.c (show AP (B + 18) (o) by unfold AP; omega) (Ai.n _))
            have rk352_5 : RP hp 84 hc350 (B + 16) (gv) := (cr_lg_6).fr frc351 (Ai.c (show AP (B + 16) (o) by unfold AP; omega) (Ai.n _))
            have fr352 : Fr [o, B + 8, B + 10, B + 12, B + 14, B + 16, B + 18] h hc350 := (fr_lg).tr ((frc351).mo (sub_c (List.Mem.head _) sub_n))
            refine Go.nf (h' := hc350) (st' := []) rfl rfl (Nat.le_refl _) (Nat.le_refl _) ?_
            refine g_iconst dX2_invert_162 ?_
            exact g_zret dX2_invert_163 rfl (by omega) ⟨(fr352).mo (sub_c (List.Mem.head _) (sub_c (List.Mem.tail _ (List.Mem.head _)) (sub_c (List.Mem.tail _ (List.Mem.tail _ (List.Mem.head _))) (sub_c (List.Mem.tail _ (List.Mem.tail _ (List.Mem.tail _ (List.Mem.head _)))) (sub_c (List.Mem.tail _ (List.Mem.tail _ (List.Mem.tail _ (List.Mem.tail _ (List.Mem.head _))))) (sub_c (List.Mem.tail _ (List.Mem.tail _ (List.Mem.tail _ (List.Mem.tail _ (List.Mem.tail _ (List.Mem.head _)))))) (sub_c (List.Mem.tail _ (List.Mem.tail _ (List.Mem.tail _ (List.Mem.tail _ (List.Mem.tail _ (List.Mem.tail _ (List.Mem.head _))))))) sub_n))))))), (PW.upd hw fr352 (out8_c (by omega) (out8_c (by omega) (out8_c (by omega) (out8_c (by omega) (out8_c (by omega) (out8_c (by omega) (out8_c (by omega) out8_n))))))) (pl_all (Or.inr rk352_1) (Or.inr rk352_2) (Or.inr (rk352_3).ra) (Or.inr (⟨_, g, fk352_2, fk352_3, x3, x4, x5, x6, x7⟩ : RA 84 hc350 (B + 14))) (Or.inr (rk352_5).ra) (Or.inr (rk352_4).ra) (Or.inl (Ai.c (show AP (B + 20) (o) by unfold AP; omega) (Ai.c (show AP (B + 20) (B + 8) by unfold AP; omega) (Ai.c (show AP (B + 20) (B + 10) by unfold AP; omega) (Ai.c (show AP (B + 20) (B + 12) by unfold AP; omega) (Ai.c (show AP (B + 20) (B + 14) by unfold AP; omega) (Ai.c (show AP (B + 20) (B + 16) by unfold AP; omega) (Ai.c (show AP (B + 20) (B + 18) by unfold AP; omega) (Ai.n _))))))))) (Or.inl (Ai.c (show AP (B + 22) (o) by unfold AP; omega) (Ai.c (show AP (B + 22) (B + 8) by unfold AP; omega) (Ai.c (show AP (B + 22) (B + 10) by unfold AP; omega) (Ai.c (show AP (B + 22) (B + 12) by unfold AP; omega) (Ai.c (show AP (B + 22) (B + 14) by unfold AP; omega) (Ai.c (show AP (B + 22) (B + 16) by unfold AP; omega) (Ai.c (show AP (B + 22) (B + 18) by unfold AP; omega) (Ai.n _))))))))))), Or.inr ⟨rfl, by rw [← hyes.1]; exact rn351_0⟩⟩
          · skip
            refine g_iconst dX2_invert_139 ?_
            exact g_zret dX2_invert_140 rfl (by omega) ⟨(fr_lg).mo (sub_c (List.Mem.head _) (sub_c (List.Mem.tail _ (List.Mem.head _)) (sub_c (List.Mem.tail _ (List.Mem.tail _ (List.Mem.head _))) (sub_c (List.Mem.tail _ (List.Mem.tail _ (List.Mem.tail _ (List.Mem.head _)))) (sub_c (List.Mem.tail _ (List.Mem.tail _ (List.Mem.tail _ (List.Mem.tail _ (List.Mem.head _))))) (sub_c (List.Mem.tail _ (List.Mem.tail _ (List.Mem.tail _ (List.Mem.tail _ (List.Mem.tail _ (List.Mem.head _)))))) (sub_c (List.Mem.tail _ (List.Mem.tail _ (List.Mem.tail _ (List.Mem.tail _ (List.Mem.tail _ (List.Mem.tail _ (List.Mem.head _))))))) sub_n))))))), (PW.upd hw fr_lg (out8_c (by omega) (out8_c (by omega) (out8_c (by omega) (out8_c (by omega) (out8_c (by omega) (out8_c (by omega) (out8_c (by omega) out8_n))))))) (pl_all (Or.inr cr_lg_1) (Or.inr cr_lg_2) (Or.inr (cr_lg_4).ra) (Or.inr (cr_lg_3).ra) (Or.inr (cr_lg_6).ra) (Or.inr (cr_lg_5).ra) (Or.inl (Ai.c (show AP (B + 20) (o) by unfold AP; omega) (Ai.c (show AP (B + 20) (B + 8) by unfold AP; omega) (Ai.c (show AP (B + 20) (B + 10) by unfold AP; omega) (Ai.c (show AP (B + 20) (B + 12) by unfold AP; omega) (Ai.c (show AP (B + 20) (B + 14) by unfold AP; omega) (Ai.c (show AP (B + 20) (B + 16) by unfold AP; omega) (Ai.c (show AP (B + 20) (B + 18) by unfold AP; omega) (Ai.n _))))))))) (Or.inl (Ai.c (show AP (B + 22) (o) by unfold AP; omega) (Ai.c (show AP (B + 22) (B + 8) by unfold AP; omega) (Ai.c (show AP (B + 22) (B + 10) by unfold AP; omega) (Ai.c (show AP (B + 22) (B + 12) by unfold AP; omega) (Ai.c (show AP (B + 22) (B + 14) by unfold AP; omega) (Ai.c (show AP (B + 22) (B + 16) by unfold AP; omega) (Ai.c (show AP (B + 22) (B + 18) by unfold AP; omega) (Ai.n _))))))))))), Or.inl ⟨rfl, ivI_no hp hfa hfb hpu hpv (by omega) (by omega) hI, cr_lg_0⟩⟩
        · skip
          refine g_aload_n 5 dX2_invert_77 rfl ?_
          refine g_aload 4 dX2_invert_78 rfl ?_
          refine g_aload 3 dX2_invert_80 rfl ?_
          refine g_aload_n 5 dX2_invert_82 rfl ?_
          refine g_getf 2 dX2_invert_83 kX2 (by decide) fX2_20 cg_lg_0 rfl ?_
          refine g_callV (nc2 := 0) (ns2 := 0) (ci := 2) (As := [.ref (B + 14), .ref (B + 12), .ref (B + 10)]) (st := []) rfl dX2_invert_86 okX2_reduce lX2_87 itX2_reduce seX2_reduce rfl cg_lg_0 (by decide) (by decide) rfl (Nat.le_of_ble_eq_true rfl) (sP_reduce N _ B (B + 14) (B + 12) (B + 10) 84 84 84 p hp hp2 (dgi hp (fu)) ((p : Int)) (fu) (fv) (by omega) cg_lg_0 cg_lg_1 (cr_lg_3).ru cr_lg_4 cr_lg_2 (by omega) (by omega) (show AP (B + 14) (B + 12) by unfold AP; omega) (show AP (B + 14) (B + 10) by unfold AP; omega) (show AP (B + 12) (B + 10) by unfold AP; omega) (by omega) (by omega) (by omega)) (by omega) (by omega) (fun v354 hc354 q354 => ?_)
          obtain ⟨rfl, frc355, rn355_0, rn355_1⟩ := q354
          have fk356_0 : hc354.2 (B + 7) = some (oB 2 [.ref (B + 1), .ref (B + 8), .ref (B + 10), .ref (B + 12), .ref (B + 14), .ref (B + 16), .ref (B + 18), .ref (B + 20), .ref (B + 22)]) := Fr.at0 frc355 (Ni.c ⟨(show NE (B + 7) (B + 14) by unfold NE; omega), (show NE (B + 7) (B + 15) by unfold NE; omega)⟩ (Ni.c ⟨(show NE (B + 7) (B + 10) by unfold NE; omega), (show NE (B + 7) (B + 11) by unfold NE; omega)⟩ (Ni.n _))) cg_lg_0
          have fk356_1 : hc354.2 (B + 1) = some (oB 1 [.int (gI ((p : Int)))]) := Fr.at0 frc355 (Ni.c ⟨(show NE (B + 1) (B + 14) by unfold NE; omega), (show NE (B + 1) (B + 15) by unfold NE; omega)⟩ (Ni.c ⟨(show NE (B + 1) (B + 10) by unfold NE; omega), (show NE (B + 1) (B + 11) by unfold NE; omega)⟩ (Ni.n _))) cg_lg_1
          have rk356_0 : RA 84 hc354 (o) := (cr_lg_0).fr frc355 (Ai.c (show AP (o) (B + 14) by unfold AP; omega) (Ai.c (show AP (o) (B + 10) by unfold AP; omega) (Ai.n _)))
          have rk356_1 : RA 84 hc354 (B + 8) := (cr_lg_1).fr frc355 (Ai.c (show AP (B + 8) (B + 14) by unfold AP; omega) (Ai.c (show AP (B + 8) (B + 10) by unfold AP; omega) (Ai.n _)))
          have rk356_4 : RP hp 84 hc354 (B + 12) (fv) := (cr_lg_4).fr frc355 (Ai.c (show AP (B + 12) (B + 14) by unfold AP; omega) (Ai.c (show AP (B + 12) (B + 10) by unfold AP; omega) (Ai.n _)))
          have rk356_5 : RP hp 84 hc354 (B + 18) (gu) := (cr_lg_5).fr frc355 (Ai.c (show AP (B + 18) (B + 14) by unfold AP; omega) (Ai.c (show AP (B + 18) (B + 10) by unfold AP; omega) (Ai.n _)))
          have rk356_6 : RP hp 84 hc354 (B + 16) (gv) := (cr_lg_6).fr frc355 (Ai.c (show AP (B + 16) (B + 14) by unfold AP; omega) (Ai.c (show AP (B + 16) (B + 10) by unfold AP; omega) (Ai.n _)))
          have fr356 : Fr [o, B + 8, B + 10, B + 12, B + 14, B + 16, B + 18] h hc354 := (fr_lg).tr ((frc355).mo (sub_c (List.Mem.tail _ (List.Mem.tail _ (List.Mem.tail _ (List.Mem.tail _ (List.Mem.head _))))) (sub_c (List.Mem.tail _ (List.Mem.tail _ (List.Mem.head _))) sub_n)))
          refine Go.nf (h' := hc354) (st' := []) rfl rfl (Nat.le_refl _) (Nat.le_refl _) ?_
          have hstep := ivI_s hp hfa hfb hpu hpv (by omega) hI
          refine g_aload_n 5 dX2_invert_89 rfl ?_
          refine g_aload 2 dX2_invert_90 rfl ?_
          refine g_aload_n 5 dX2_invert_92 rfl ?_
          refine g_getf 2 dX2_invert_93 kX2 (by decide) fX2_20 fk356_0 rfl ?_
          refine g_aload 1 dX2_invert_96 rfl ?_
          refine g_callV (nc2 := 0) (ns2 := 0) (ci := 2) (As := [.ref (B + 18), .ref (B + 10), .ref (B + 16)]) (st := []) rfl dX2_invert_98 okX2_lessen lX2_97 itX2_lessen seX2_lessen rfl fk356_0 (by decide) (by decide) rfl (Nat.le_of_ble_eq_true rfl) (sP_lessen N _ B (B + 18) (B + 10) (B + 16) p hp hp2 (gu) (qt hp (fu) (fv)) (gv) fk356_0 fk356_1 rk356_5 rn355_1 rk356_6 rk356_1 (by omega) (by omega) (by omega) (by omega)) (by omega) (by omega) (fun v357 hc357 q357 => ?_)
          obtain ⟨rfl, frc358, rn358_0, rn358_1⟩ := q357
          have fk359_0 : hc357.2 (B + 7) = some (oB 2 [.ref (B + 1), .ref (B + 8), .ref (B + 10), .ref (B + 12), .ref (B + 14), .ref (B + 16), .ref (B + 18), .ref (B + 20), .ref (B + 22)]) := Fr.at0 frc358 (Ni.c ⟨(show NE (B + 7) (B + 18) by unfold NE; omega), (show NE (B + 7) (B + 19) by unfold NE; omega)⟩ (Ni.c ⟨(show NE (B + 7) (B + 8) by unfold NE; omega), (show NE (B + 7) (B + 9) by unfold NE; omega)⟩ (Ni.n _))) fk356_0
          have fk359_1 : hc357.2 (B + 1) = some (oB 1 [.int (gI ((p : Int)))]) := Fr.at0 frc358 (Ni.c ⟨(show NE (B + 1) (B + 18) by unfold NE; omega), (show NE (B + 1) (B + 19) by unfold NE; omega)⟩ (Ni.c ⟨(show NE (B + 1) (B + 8) by unfold NE; omega), (show NE (B + 1) (B + 9) by unfold NE; omega)⟩ (Ni.n _))) fk356_1
          have rk359_0 : RA 84 hc357 (o) := (rk356_0).fr frc358 (Ai.c (show AP (o) (B + 18) by unfold AP; omega) (Ai.c (show AP (o) (B + 8) by unfold AP; omega) (Ai.n _)))
          have rk359_2 : RP hp 84 hc357 (B + 12) (fv) := (rk356_4).fr frc358 (Ai.c (show AP (B + 12) (B + 18) by unfold AP; omega) (Ai.c (show AP (B + 12) (B + 8) by unfold AP; omega) (Ai.n _)))
          have rk359_4 : RP hp 84 hc357 (B + 16) (gv) := (rk356_6).fr frc358 (Ai.c (show AP (B + 16) (B + 18) by unfold AP; omega) (Ai.c (show AP (B + 16) (B + 8) by unfold AP; omega) (Ai.n _)))
          have rk359_5 : RP hp 84 hc357 (B + 14) (rm hp (fu) (fv)) := (rn355_0).fr frc358 (Ai.c (show AP (B + 14) (B + 18) by unfold AP; omega) (Ai.c (show AP (B + 14) (B + 8) by unfold AP; omega) (Ai.n _)))
          have rk359_6 : RP hp 84 hc357 (B + 10) (qt hp (fu) (fv)) := (rn355_1).fr frc358 (Ai.c (show AP (B + 10) (B + 18) by unfold AP; omega) (Ai.c (show AP (B + 10) (B + 8) by unfold AP; omega) (Ai.n _)))
          have fr359 : Fr [o, B + 8, B + 10, B + 12, B + 14, B + 16, B + 18] h hc357 := (fr356).tr ((frc358).mo (sub_c (List.Mem.tail _ (List.Mem.tail _ (List.Mem.tail _ (List.Mem.tail _ (List.Mem.tail _ (List.Mem.tail _ (List.Mem.head _))))))) (sub_c (List.Mem.tail _ (List.Mem.head _)) sub_n)))
          refine Go.nf (h' := hc357) (st' := []) rfl rfl (Nat.le_refl _) (Nat.le_refl _) ?_
          refine g_aload 4 dX2_invert_101 rfl ?_
          refine g_astore (ls2 := [(9, .ref (B + 14)), (8, .int (gI (turn))), (7, .ref (B + 16)), (6, .ref (B + 18)), (5, .ref (B + 12)), (4, .ref (B + 14)), (0, .ref (B + 7)), (1, .ref (a)), (2, .ref (b)), (3, .ref (o))]) dX2_invert_103 (by decide) rfl ?_
          refine g_aload 4 dX2_invert_105 rfl ?_
          refine g_astore (ls2 := [(4, .ref (B + 12)), (9, .ref (B + 14)), (8, .int (gI (turn))), (7, .ref (B + 16)), (6, .ref (B + 18)), (5, .ref (B + 12)), (0, .ref (B + 7)), (1, .ref (a)), (2, .ref (b)), (3, .ref (o))]) dX2_invert_107 (by decide) rfl ?_
          refine g_aload 1 dX2_invert_109 rfl ?_
          refine g_astore (ls2 := [(5, .ref (B + 14)), (4, .ref (B + 12)), (9, .ref (B + 14)), (8, .int (gI (turn))), (7, .ref (B + 16)), (6, .ref (B + 18)), (0, .ref (B + 7)), (1, .ref (a)), (2, .ref (b)), (3, .ref (o))]) dX2_invert_111 (by decide) rfl ?_
          refine g_aload 5 dX2_invert_113 rfl ?_
          refine g_astore (ls2 := [(9, .ref (B + 18)), (5, .ref (B + 14)), (4, .ref (B + 12)), (8, .int (gI (turn))), (7, .ref (B + 16)), (6, .ref (B + 18)), (0, .ref (B + 7)), (1, .ref (a)), (2, .ref (b)), (3, .ref (o))]) dX2_invert_115 (by decide) rfl ?_
          refine g_aload 4 dX2_invert_117 rfl ?_
          refine g_astore (ls2 := [(6, .ref (B + 16)), (9, .ref (B + 18)), (5, .ref (B + 14)), (4, .ref (B + 12)), (8, .int (gI (turn))), (7, .ref (B + 16)), (0, .ref (B + 7)), (1, .ref (a)), (2, .ref (b)), (3, .ref (o))]) dX2_invert_119 (by decide) rfl ?_
          refine g_aload 1 dX2_invert_121 rfl ?_
          refine g_astore (ls2 := [(7, .ref (B + 18)), (6, .ref (B + 16)), (9, .ref (B + 18)), (5, .ref (B + 14)), (4, .ref (B + 12)), (8, .int (gI (turn))), (0, .ref (B + 7)), (1, .ref (a)), (2, .ref (b)), (3, .ref (o))]) dX2_invert_123 (by decide) rfl ?_
          refine g_iinc 5 (ls2 := [(8, .int (gI (turn + 1))), (7, .ref (B + 18)), (6, .ref (B + 16)), (9, .ref (B + 18)), (5, .ref (B + 14)), (4, .ref (B + 12)), (0, .ref (B + 7)), (1, .ref (a)), (2, .ref (b)), (3, .ref (o))]) dX2_invert_125 rfl (by decide) rfl ?_
          refine g_goto (tgt := 62) dX2_invert_128 rfl ?_
          refine Go.sub [0, 1, 2, 4, 5, 6, 7, 8, 9] rfl ?_
          exact ih_lg _ (by omega) (turn + 1) (fv) (rm hp fu fv) (gv) (psb hp gu (pml hp (qt hp fu fv) gv)) (B + 12) (B + 14) (B + 16) (B + 18) hc357 rfl fr359 rk359_0 rn358_1 (rk359_6).ra rk359_2 rk359_5 rk359_4 rn358_0 (by omega) (by have := rm_lt hp hpu hpv (by omega); omega) hstep.2 (Or.inl ⟨rfl, rfl, rfl, rfl⟩)
  exact lg _ (0) (fb) (rm hp fa fb) (cz hp (zi hp 0)) (cz hp (zi hp 1)) (B + 12) (B + 14) (B + 16) (B + 18) hc13 rfl fr15 rk15_2 rk15_3 (rk15_7).ra rk15_5 rk15_6 rk15_8 rn14_0 (by omega) (by have := rm_lt hp hfa hfb (by omega); omega) (ivI_0 hp hfa hfb (by omega)) (Or.inl ⟨rfl, rfl, rfl, rfl⟩)
