section
variable {p : Nat}
theorem lt_dg (h : prm p) {Q : Int → Px p} {n : Int} (hs : ∀ i : Int, 0 ≤ i → i + 1 < n → ltP h (Q i) (Q (i + 1))) {i : Int} (i0 : 0 ≤ i) : ∀ d : Nat, i + d + 1 < n → ltP h (Q i) (Q (i + d + 1))
  | 0, hd => by
    rw [show i + ((0 : Nat) : Int) + 1 = i + 1 by omega]; exact hs i i0 (by omega)
  | d + 1, hd => by
    have a := lt_dg h hs i0 d (by omega)
    have b := hs (i + d + 1) (by omega) (by omega)
    rw [show i + ((d + 1 : Nat) : Int) + 1 = i + d + 1 + 1 by omega]
    exact ltP_tr h _ _ _ a b
theorem lt_ij (h : prm p) {Q : Int → Px p} {n i j : Int} (hs : ∀ i : Int, 0 ≤ i → i + 1 < n → ltP h (Q i) (Q (i + 1))) (i0 : 0 ≤ i) (ij : i < j) (jn : j < n) : ltP h (Q i) (Q j) := by
  have := lt_dg h hs i0 (j - i - 1).toNat (by omega)
  rw [show i + ((j - i - 1).toNat : Int) + 1 = j by omega] at this
  exact this
/-- lines x + c are sorted by c -/
theorem lt_lin (h : prm p) {f g : Px p} (hf : dgi h f = 1) (hg : dgi h g = 1) (mf : mnc h f) (mg : mnc h g) (hfp : po (fR h) f) (hgp : po (fR h) g) (w : ltP h f g) : cf f 0 < cf g 0 := by
  rcases w with z | ⟨_, k, k0, k1, k2⟩
  · omega
  · rcases Int.lt_or_le k 1 with z | z
    · rw [show k = 0 by omega] at k1; exact k1
    · exfalso
      rcases Int.lt_or_le 1 k with y | y
      · rw [cf_hi h hfp (by omega), cf_hi h hgp (by omega)] at k1; omega
      · rw [show k = 1 by omega] at k1
        rcases mf with a | a
        · omega
        · rcases mg with b | b
          · omega
          · rw [hf] at a
            rw [hg] at b
            have e1 : cf f 1 = cf g 1 := by
              unfold cf
              rw [if_pos (by omega), if_pos (by omega), a, b]
            omega
def rtI (p : Nat) (Q : Int → Px p) (L fi rn : Int) (gR : Int → Int) : Prop := (∀ i : Int, fi ≤ i → i < rn → gR i = p - cf (Q (L - 1 - (i - fi))) 0) ∧ (fi = 1 → gR 0 = 0)
theorem rtI_e (h : prm p) {f : Px p} {n L fi : Int} {Q : Int → Px p} {t gR : Int → Int} (hw : fcl h f n Q t) (hs : ∀ i : Int, 0 ≤ i → i + 1 < n → ltP h (Q i) (Q (i + 1))) (hn : (fN h f : Int) = n) (e : ∀ i : Int, 0 ≤ i → i < n → fP h f i = Q i) (hL : 0 ≤ L ∧ L ≤ n) (hl : ∀ i : Int, 0 ≤ i → i < L → dgi h (Q i) = 1) (hx : n ≤ L ∨ dgi h (Q L) ≠ 1) (hfi : (fi = 0 ∧ (L ≤ 0 ∨ cf (Q 0) 0 ≠ 0)) ∨ (fi = 1 ∧ 0 < L ∧ cf (Q 0) 0 = 0)) (w : rtI p Q L fi L gR) : (rN h f : Int) = L ∧ ∀ i : Int, 0 ≤ i → i < L → rR h f i = gR i := by
  have hp := h.1
  obtain ⟨w1, w2⟩ := w
  have pq : ∀ i : Int, 0 ≤ i → i < n → po (fR h) (Q i) ∧ mnc h (Q i) ∧ 1 ≤ dgi h (Q i) := fun i i0 i1 => by
    obtain ⟨⟨a, b, c⟩, _⟩ := hw.1 i i0 i1
    obtain ⟨m, m1, m2⟩ := a.2.1
    exact ⟨a.1, b, by rw [dgi_of h m2]; omega⟩
  have inc : ∀ i j : Int, 0 ≤ i → i < j → j < L → cf (Q i) 0 < cf (Q j) 0 := fun i j i0 ij jL => lt_lin h (hl i i0 (by omega)) (hl j (by omega) jL) (pq i i0 (by omega)).2.1 (pq j (by omega) (by omega)).2.1 (pq i i0 (by omega)).1 (pq j (by omega) (by omega)).1 (lt_ij h hs i0 ij (by omega))
  have pos : ∀ j : Int, fi ≤ j → j < L → 0 < cf (Q j) 0 := fun j j0 j1 => by
    have c0 := cf_in (Q 0) h 0
    have cj := cf_in (Q j) h 0
    rcases hfi with ⟨a, b⟩ | ⟨a, b, c⟩
    · rcases Int.lt_or_le 0 j with z | z
      · have := inc 0 j (by omega) z j1
        omega
      · have : j = 0 := by omega
        subst this
        omega
    · have := inc 0 j (by omega) (by omega) j1
      omega
  have val : ∀ i : Int, 0 ≤ i → i < L → ∃ j : Int, 0 ≤ j ∧ j < L ∧ gR i = (p - cf (Q j) 0) % p ∧ (i < fi → j = 0) ∧ (fi ≤ i → j = L - 1 - (i - fi)) := fun i i0 i1 => by
    rcases Int.lt_or_le i fi with z | z
    · have e1 : fi = 1 := by omega
      have e2 : i = 0 := by omega
      have e3 : cf (Q 0) 0 = 0 := by omega
      refine ⟨0, by omega, by omega, ?_, fun _ => rfl, fun y => by omega⟩
      rw [e2, w2 e1, e3, Int.sub_zero, Int.emod_self]
    · refine ⟨L - 1 - (i - fi), by omega, by omega, ?_, fun y => by omega, fun _ => rfl⟩
      have c1 := pos (L - 1 - (i - fi)) (by omega) (by omega)
      have c2 := cf_in (Q (L - 1 - (i - fi))) h 0
      rw [w1 i z i1, Int.emod_eq_of_lt (by omega) (by omega)]
  have dge : ∀ j : Int, L ≤ j → j < n → dgi h (Q j) ≠ 1 := fun j j0 j1 => by
    rcases Int.lt_or_le L j with z | z
    · have a := lt_ij h hs hL.1 z j1
      have b := pq L (by omega) (by omega)
      rcases a with y | ⟨y, _⟩
      · omega
      · omega
    · rw [show j = L by omega]; omega
  have so : isSo (fun a b : Int => a < b) (isRf h f) L.toNat (fun i => gR i) := by
    refine ⟨fun i hi => ?_, fun x hx => ?_, fun i hi => ?_⟩
    · obtain ⟨j, j0, j1, ej, _⟩ := val i (by omega) (by omega)
      refine ⟨j.toNat, by omega, ?_, ?_⟩
      · rw [show ((j.toNat : Nat) : Int) = j by omega, e j j0 (by omega)]; exact hl j j0 j1
      · rw [show ((j.toNat : Nat) : Int) = j by omega, e j j0 (by omega)]; exact ej
    · obtain ⟨j, j1, dj, ej⟩ := hx
      rw [e j (by omega) (by omega)] at dj ej
      have jL : (j : Int) < L := by
        rcases Int.lt_or_le (j : Int) L with z | z
        · exact z
        · exact absurd dj (dge j z (by omega))
      rcases Int.lt_or_le (j : Int) fi with z | z
      · refine ⟨0, by omega, ?_⟩
        dsimp only
        have e1 : fi = 1 := by omega
        have e2 : (j : Int) = 0 := by omega
        have e3 : cf (Q 0) 0 = 0 := by omega
        rw [e2, e3, Int.sub_zero, Int.emod_self] at ej
        exact (w2 e1).trans ej.symm
      · refine ⟨(L - 1 - (j - fi)).toNat, by omega, ?_⟩
        dsimp only
        rw [show (((L - 1 - (j - fi)).toNat : Nat) : Int) = L - 1 - (j - fi) by omega]
        obtain ⟨i, i0, i1, ei, _, ei2⟩ := val (L - 1 - (j - fi)) (by omega) (by omega)
        rw [ei2 (by omega), show L - 1 - (L - 1 - ((j : Int) - fi) - fi) = j by omega] at ei
        exact ei.trans ej.symm
    · dsimp only
      rw [show ((i + 1 : Nat) : Int) = (i : Int) + 1 by omega]
      rcases Int.lt_or_le (i : Int) fi with z | z
      · have e2 : (i : Int) = 0 := by omega
        have e1 : fi = 1 := by omega
        have c2 := cf_in (Q (L - 1 - ((i : Int) + 1 - fi))) h 0
        rw [w1 (i + 1) (by omega) (by omega), e2, w2 e1]
        rw [e2] at c2
        omega
      · rw [w1 i z (by omega), w1 (i + 1) (by omega) (by omega)]
        have := inc (L - 1 - ((i : Int) + 1 - fi)) (L - 1 - ((i : Int) - fi)) (by omega) (by omega) (by omega)
        omega
  have u := soX_un (x := (0 : Int)) (fun a => Int.lt_irrefl a) (fun a b c => Int.lt_trans) so
  have e1 : rN h f = L.toNat := u.1.symm
  refine ⟨by rw [e1]; omega, fun i i0 i1 => ?_⟩
  have := u.2 i.toNat (by omega)
  rw [show ((i.toNat : Nat) : Int) = i by omega] at this
  exact this.symm
end
set_option maxHeartbeats 4000000 in
set_option maxRecDepth 100000 in
theorem sF_gatherRoots (N : GN) (h : GH) (B f p : Nat) (hp : prm p) (hp2 : p ≤ 65536) (hBf : B + 58 ≤ f) (h0 : GH) (gr0 gp0 gr gp : Int → Option Nat) (gt gq gR : Int → Int) (n pn tg le sz c : Int) (Q P : Int → Px p) (F : Px p) (hn : 0 ≤ n ∧ n ≤ 40) (hFp : po (fR hp) F) (hFd : 0 ≤ dgi hp F ∧ dgi hp F ≤ 40) (hf : fcl hp F n Q gt) (hs : ∀ i : Int, 0 ≤ i → i + 1 < n → ltP hp (Q i) (Q (i + 1))) (hfN : (fN hp F : Int) = n) (hfP : ∀ i : Int, 0 ≤ i → i < n → fP hp F i = Q i) (hF : FW hp B f h0 gr0 gp0 h gr gp gt gq gR n pn 0 tg le sz n Q) (hw : PW p B h) (hG : GPc hp h gp c P) : Sp N yX0_gatherRoots mX0_gatherRoots 0 0 [.ref (f)] h (fun v h1 => v = none ∧ ∃ L gR1, PW p B h1 ∧ GPc hp h1 gp c P ∧ FW hp B f h0 gr0 gp0 h1 gr gp gt gq gR1 n pn L tg le sz n Q ∧ L ≤ n ∧ (rN hp F : Int) = L ∧ ∀ i : Int, 0 ≤ i → i < L → rR hp F i = gR1 i) := by
  refine Sp.of (by decide) rfl rfl (Nat.le_of_ble_eq_true rfl) ?_
  show Go N mX0_gatherRoots _ 0 0 h 0 [(0, .ref (f))] []
  have hp1 := hp.1
  refine g_iconst dX0_gatherRoots_0 ?_
  refine g_istore_n (ls2 := [(1, .int (gI (0))), (0, .ref (f))]) dX0_gatherRoots_1 rfl (by decide) rfl ?_
  have ll : ∀ (kk : Nat) (L : Int) (hll : GH), kk = (50 - L).toNat → True → FW hp B f h0 gr0 gp0 hll gr gp gt gq gR n pn 0 tg le sz n (Q) → PW p B hll → GPc hp hll gp (c) (P) → (0 ≤ L ∧ L ≤ n) → (∀ i : Int, 0 ≤ i → i < L → dgi hp (Q i) = 1) → Go N mX0_gatherRoots (fun v h1 => v = none ∧ ∃ L gR1, PW p B h1 ∧ GPc hp h1 gp c P ∧ FW hp B f h0 gr0 gp0 h1 gr gp gt gq gR1 n pn L tg le sz n Q ∧ L ≤ n ∧ (rN hp F : Int) = L ∧ ∀ i : Int, 0 ≤ i → i < L → rR hp F i = gR1 i) 0 0 hll 2 [(1, .int (gI (L))), (0, .ref (f))] [] := by
    refine Go.ind (fun kk ih_ll => ?_)
    intro L hll hkk_ll fr_ll cr_ll_0 cr_ll_1 cr_ll_2 hL hl
    refine g_iload_n 0 dX0_gatherRoots_2 rfl ?_
    refine g_aload_n 1 dX0_gatherRoots_3 rfl ?_
    refine g_getf 11 dX0_gatherRoots_4 kX0 (by decide) fX0_61 (FW.ob cr_ll_0) rfl ?_
    refine g_icmp_ge (tgt := 31) dX0_gatherRoots_7 rfl (by first | assumption | (unfold gW; omega) | (unfold gW; split <;> omega)) (by first | assumption | (unfold gW; omega) | (unfold gW; split <;> omega)) (fun c101 => ?_) (fun c101 => ?_)
    · skip
      have hx : n ≤ L ∨ dgi hp (Q L) ≠ 1 := by omega
      refine g_iconst dX0_gatherRoots_31 ?_
      refine g_istore_n (ls2 := [(2, .int (gI (0))), (1, .int (gI (L))), (0, .ref (f))]) dX0_gatherRoots_32 rfl (by decide) rfl ?_
      refine g_iload_n 1 dX0_gatherRoots_33 rfl ?_
      refine g_if_le (tgt := 73) dX0_gatherRoots_34 rfl (by first | assumption | (unfold gW; omega) | (unfold gW; split <;> omega)) (fun c102 => ?_) (fun c102 => ?_)
      · skip
        have hfi : ((0 : Int) = 0 ∧ (L ≤ 0 ∨ cf (Q 0) 0 ≠ 0)) ∨ ((0 : Int) = 1 ∧ 0 < L ∧ cf (Q 0) 0 = 0) := Or.inl ⟨rfl, by omega⟩
        refine g_iload_n 1 dX0_gatherRoots_73 rfl ?_
        refine g_iconst dX0_gatherRoots_74 ?_
        refine g_isub dX0_gatherRoots_75 ?_
        refine g_istore_n (ls2 := [(3, .int (gI ((L) - (1)))), (2, .int (gI (0))), (1, .int (gI (L))), (0, .ref (f))]) dX0_gatherRoots_76 rfl (by decide) rfl ?_
        have lk : ∀ (kk : Nat) (k : Int) (rn1 : Int) (gR1 : Int → Int) (hlk : GH), kk = (k + 1).toNat → True → FW hp B f h0 gr0 gp0 hlk gr gp gt gq gR1 n pn rn1 tg le sz n (Q) → PW p B hlk → GPc hp hlk gp (c) (P) → (0 - 1 ≤ k ∧ k ≤ L - 1) → (rn1 = 0 + (L - 1 - k)) → (rtI p Q L 0 rn1 gR1) → Go N mX0_gatherRoots (fun v h1 => v = none ∧ ∃ L gR1, PW p B h1 ∧ GPc hp h1 gp c P ∧ FW hp B f h0 gr0 gp0 h1 gr gp gt gq gR1 n pn L tg le sz n Q ∧ L ≤ n ∧ (rN hp F : Int) = L ∧ ∀ i : Int, 0 ≤ i → i < L → rR hp F i = gR1 i) 0 0 hlk 77 [(3, .int (gI (k))), (2, .int (gI (0))), (1, .int (gI (L))), (0, .ref (f))] [] := by
          refine Go.ind (fun kk ih_lk => ?_)
          intro k rn1 gR1 hlk hkk_lk fr_lk cr_lk_0 cr_lk_1 cr_lk_2 hk hrn hr
          refine g_iload_n 0 dX0_gatherRoots_77 rfl ?_
          refine g_iload_n 1 dX0_gatherRoots_78 rfl ?_
          refine g_icmp_lt (tgt := 125) dX0_gatherRoots_79 rfl (by first | assumption | (unfold gW; omega) | (unfold gW; split <;> omega)) (by first | assumption | (unfold gW; omega) | (unfold gW; split <;> omega)) (fun c203 => ?_) (fun c203 => ?_)
          · skip
            exact g_vret dX0_gatherRoots_125 rfl ⟨rfl, L, gR1, cr_lk_1, cr_lk_2, (by
                                                                      have e9 : rn1 = L := by omega
                                                                      have e8 := cr_lk_0
                                                                      rw [e9] at e8; exact e8), hL.2, rtI_e hp hf hs hfN hfP hL hl hx hfi (by
                                                                      have e9 : rn1 = L := by omega
                                                                      rw [e9] at hr; exact hr)⟩
          · skip
            refine g_aload_n 3 dX0_gatherRoots_82 rfl ?_
            refine g_getf 7 dX0_gatherRoots_83 kX0 (by decide) fX0_27 (FW.ob cr_lk_0) rfl ?_
            refine g_aload_n 3 dX0_gatherRoots_86 rfl ?_
            refine g_dup dX0_gatherRoots_87 rfl ?_
            refine g_getf 13 dX0_gatherRoots_88 kX0 (by decide) fX0_68 (FW.ob cr_lk_0) rfl ?_
            refine g_dup_x1 dX0_gatherRoots_91 rfl rfl ?_
            refine g_iconst dX0_gatherRoots_92 ?_
            refine g_iadd dX0_gatherRoots_93 ?_
            refine g_putf 13 dX0_gatherRoots_94 kX0 (by decide) fX0_68 rfl (FW.ob cr_lk_0) (Nat.le_of_ble_eq_true rfl) rfl rfl ?_
            obtain ⟨hh204, eh204⟩ : ∃ z : GH, z = hset hlk (f) (oB 0 [.ref (B + 1), .ref (B + 7), .ref (f + 12), .ref (f + 1), .ref (f + 2), .ref (f + 3), .ref (f + 4), .ref (f + 5), .ref (f + 6), .ref (f + 8), .ref (f + 10), .int (gI (n)), .int (gI (pn)), .int (gI ((rn1) + (1))), .int (gI (tg)), .long (gJ (le))]) := ⟨_, rfl⟩
            refine Go.hp eh204.symm ?_
            have rh204_0 : FW hp B f h0 gr0 gp0 hh204 gr gp gt gq gR1 n pn ((rn1) + (1)) tg le sz n (Q) := FW.cell cr_lk_0 (by rw [eh204]; rfl) (fun x x1 x2 x3 x4 => by rw [eh204, hset_n _ _ x1]) (hs_s eh204) (hs_n eh204 (show NE (f + 2) (f) by unfold NE; omega) (FW.t2 cr_lk_0)) (hs_n eh204 (show NE (f + 4) (f) by unfold NE; omega) (FW.t4 cr_lk_0)) (hs_n eh204 (show NE (f + 5) (f) by unfold NE; omega) (FW.t5 cr_lk_0))
            have rh204_1 : PW p B hh204 := PW.hs cr_lk_1 (by omega) eh204
            have rh204_2 : GPc hp hh204 gp (c) (P) := FW.gp cr_lk_0 cr_lk_2 (fun x e hx he => by rw [eh204, hset_n _ _ (by omega)]; exact he)
            refine g_aload_n 3 dX0_gatherRoots_97 rfl ?_
            refine g_getf 0 dX0_gatherRoots_98 kX0 (by decide) fX0_44 (FW.ob rh204_0) rfl ?_
            refine g_getf 0 dX0_gatherRoots_101 kX1 (by decide) fX0_103 (rh204_1).2.1 rfl ?_
            refine g_i2l dX0_gatherRoots_104 (by first | assumption | (unfold gW; omega) | (unfold gW; split <;> omega)) ?_
            refine g_aload_n 3 dX0_gatherRoots_105 rfl ?_
            refine g_getf 3 dX0_gatherRoots_106 kX0 (by decide) fX0_11 (FW.ob rh204_0) rfl ?_
            refine g_iload_n 0 dX0_gatherRoots_109 rfl ?_
            obtain ⟨r206, ga206, gh206⟩ := (rh204_0).2.2.1 (k) (by omega) (by omega)
            have gb206 := FW.lr rh204_0 ga206
            refine g_callS (nc2 := 0) (ns2 := 0) (As := [.ref (f + 1), .int (gI (k))]) (st := [.long (gJ ((p : Int))), .int (gI (rn1)), .ref (f + 5)]) rfl dX0_gatherRoots_110 okX5_in lX0_122 stX5_in (by decide) (by decide) rfl (Nat.le_of_ble_eq_true rfl) (sL_in0 N _ (f + 1) 40 r206 (gr) (k) ⟨by omega, by omega⟩ (by omega) (FW.ls rh204_0) ga206) (by omega) (by omega) (fun v205 hc205 q205 => ?_)
            obtain ⟨hq206, rfl⟩ := q205
            refine Go.nf (h' := hh204) (st' := [.ref (r206), .long (gJ ((p : Int))), .int (gI (rn1)), .ref (f + 5)]) hq206 rfl (Nat.le_refl _) (Nat.le_refl _) ?_
            refine g_iconst dX0_gatherRoots_113 ?_
            have hcf208 := cf_in ((Q) (k)) hp 0
            refine g_callV (nc2 := 0) (ns2 := 0) (ci := 5) (As := [.int (gI (0))]) (st := [.long (gJ ((p : Int))), .int (gI (rn1)), .ref (f + 5)]) rfl dX0_gatherRoots_114 okX5_number lX0_156 itX5_number seX5_number rfl (gh206).o (by decide) (by decide) rfl (Nat.le_of_ble_eq_true rfl) (sP_number N _ (r206) 84 p hp ((Q) (k)) (0) (by unfold gW; omega) gh206) (by omega) (by omega) (fun v207 hc207 q207 => ?_)
            obtain ⟨hq209, rfl⟩ := q207
            refine Go.nf (h' := hh204) (st' := [.long (gJ (cf ((Q) (k)) (0))), .long (gJ ((p : Int))), .int (gI (rn1)), .ref (f + 5)]) hq209 rfl (Nat.le_refl _) (Nat.le_refl _) ?_
            refine g_lsub dX0_gatherRoots_117 ?_
            refine g_lastore dX0_gatherRoots_118 (FW.t5 rh204_0) (by omega) (by omega) (by omega) ?_
            obtain ⟨hh210, eh210⟩ : ∃ z : GH, z = hset hh204 (f + 5) (aJ 40 (gup (gR1) (rn1) (((p : Int)) - (cf ((Q) (k)) (0))))) := ⟨_, rfl⟩
            refine Go.hp eh210.symm ?_
            have rh210_0 : FW hp B f h0 gr0 gp0 hh210 gr gp gt gq (gup (gR1) (rn1) (((p : Int)) - (cf ((Q) (k)) (0)))) n pn ((rn1) + (1)) tg le sz n (Q) := FW.cell rh204_0 (by rw [eh210]; rfl) (fun x x1 x2 x3 x4 => by rw [eh210, hset_n _ _ x4]) (hs_n eh210 (show NE (f) (f + 5) by unfold NE; omega) (FW.ob rh204_0)) (hs_n eh210 (show NE (f + 2) (f + 5) by unfold NE; omega) (FW.t2 rh204_0)) (hs_n eh210 (show NE (f + 4) (f + 5) by unfold NE; omega) (FW.t4 rh204_0)) (hs_s eh210)
            have rh210_1 : PW p B hh210 := PW.hs rh204_1 (by omega) eh210
            have rh210_2 : GPc hp hh210 gp (c) (P) := FW.gp rh204_0 rh204_2 (fun x e hx he => by rw [eh210, hset_n _ _ (by omega)]; exact he)
            have rh210_3 : RP hp 84 hh210 (r206) ((Q) (k)) := (gh206).of (fun x hx => by rw [eh210, hset_n _ _ (by omega)])
            refine g_iinc 0 (ls2 := [(3, .int (gI (k + (-1)))), (2, .int (gI (0))), (1, .int (gI (L))), (0, .ref (f))]) dX0_gatherRoots_119 rfl (by decide) rfl ?_
            refine g_goto (tgt := 77) dX0_gatherRoots_122 rfl ?_
            exact ih_lk _ (by omega) (k + (-1)) ((rn1) + (1)) (gup (gR1) (rn1) (((p : Int)) - (cf ((Q) (k)) (0)))) hh210 rfl fr_lk rh210_0 rh210_1 rh210_2 (by omega) (by omega) (⟨fun i i0 i1 => by
                                                                      unfold gup
                                                                      by_cases z : i = rn1
                                                                      · rw [if_pos z, show L - 1 - (i - 0) = k by omega]
                                                                      · rw [if_neg z]; exact hr.1 i i0 (by omega), fun e9 => by
                                                                      unfold gup
                                                                      rw [if_neg (by omega)]; exact hr.2 e9⟩)
        exact lk _ (L - 1) (0) (gR) hll rfl fr_ll cr_ll_0 cr_ll_1 cr_ll_2 (by omega) (by omega) (⟨fun i i0 i1 => by omega, fun e9 => by omega⟩)
      · skip
        refine g_aload_n 2 dX0_gatherRoots_37 rfl ?_
        refine g_getf 3 dX0_gatherRoots_38 kX0 (by decide) fX0_11 (FW.ob cr_ll_0) rfl ?_
        refine g_iconst dX0_gatherRoots_41 ?_
        obtain ⟨r312, ga312, gh312⟩ := (cr_ll_0).2.2.1 (0) (by omega) (by omega)
        have gb312 := FW.lr cr_ll_0 ga312
        refine g_callS (nc2 := 0) (ns2 := 0) (As := [.ref (f + 1), .int (gI (0))]) (st := []) rfl dX0_gatherRoots_42 okX5_in lX0_122 stX5_in (by decide) (by decide) rfl (Nat.le_of_ble_eq_true rfl) (sL_in0 N _ (f + 1) 40 r312 (gr) (0) ⟨by omega, by omega⟩ (by omega) (FW.ls cr_ll_0) ga312) (by omega) (by omega) (fun v311 hc311 q311 => ?_)
        obtain ⟨hq312, rfl⟩ := q311
        refine Go.nf (h' := hll) (st' := [.ref (r312)]) hq312 rfl (Nat.le_refl _) (Nat.le_refl _) ?_
        refine g_iconst dX0_gatherRoots_45 ?_
        have hcf314 := cf_in ((Q) (0)) hp 0
        refine g_callV (nc2 := 0) (ns2 := 0) (ci := 5) (As := [.int (gI (0))]) (st := []) rfl dX0_gatherRoots_46 okX5_number lX0_156 itX5_number seX5_number rfl (gh312).o (by decide) (by decide) rfl (Nat.le_of_ble_eq_true rfl) (sP_number N _ (r312) 84 p hp ((Q) (0)) (0) (by unfold gW; omega) gh312) (by omega) (by omega) (fun v313 hc313 q313 => ?_)
        obtain ⟨hq315, rfl⟩ := q313
        refine Go.nf (h' := hll) (st' := [.long (gJ (cf ((Q) (0)) (0)))]) hq315 rfl (Nat.le_refl _) (Nat.le_refl _) ?_
        refine g_lconst0 dX0_gatherRoots_49 ?_
        refine g_lcmp dX0_gatherRoots_50 (by first | assumption | (unfold gX; omega)) (by unfold gX; omega) ?_
        refine g_if_ne (tgt := 73) dX0_gatherRoots_51 rfl (gW_cmp _ _) (fun c316 => ?_) (fun c316 => ?_)
        · skip
          have hz : ¬ _ = _ := fun z => c316 (gcmp_eq.mpr z)
          have hfi : ((0 : Int) = 0 ∧ (L ≤ 0 ∨ cf (Q 0) 0 ≠ 0)) ∨ ((0 : Int) = 1 ∧ 0 < L ∧ cf (Q 0) 0 = 0) := Or.inl ⟨rfl, by omega⟩
          refine g_iload_n 1 dX0_gatherRoots_73 rfl ?_
          refine g_iconst dX0_gatherRoots_74 ?_
          refine g_isub dX0_gatherRoots_75 ?_
          refine g_istore_n (ls2 := [(3, .int (gI ((L) - (1)))), (2, .int (gI (0))), (1, .int (gI (L))), (0, .ref (f))]) dX0_gatherRoots_76 rfl (by decide) rfl ?_
          have lk : ∀ (kk : Nat) (k : Int) (rn1 : Int) (gR1 : Int → Int) (hlk : GH), kk = (k + 1).toNat → True → FW hp B f h0 gr0 gp0 hlk gr gp gt gq gR1 n pn rn1 tg le sz n (Q) → PW p B hlk → GPc hp hlk gp (c) (P) → (0 - 1 ≤ k ∧ k ≤ L - 1) → (rn1 = 0 + (L - 1 - k)) → (rtI p Q L 0 rn1 gR1) → Go N mX0_gatherRoots (fun v h1 => v = none ∧ ∃ L gR1, PW p B h1 ∧ GPc hp h1 gp c P ∧ FW hp B f h0 gr0 gp0 h1 gr gp gt gq gR1 n pn L tg le sz n Q ∧ L ≤ n ∧ (rN hp F : Int) = L ∧ ∀ i : Int, 0 ≤ i → i < L → rR hp F i = gR1 i) 0 0 hlk 77 [(3, .int (gI (k))), (2, .int (gI (0))), (1, .int (gI (L))), (0, .ref (f))] [] := by
            refine Go.ind (fun kk ih_lk => ?_)
            intro k rn1 gR1 hlk hkk_lk fr_lk cr_lk_0 cr_lk_1 cr_lk_2 hk hrn hr
            refine g_iload_n 0 dX0_gatherRoots_77 rfl ?_
            refine g_iload_n 1 dX0_gatherRoots_78 rfl ?_
            refine g_icmp_lt (tgt := 125) dX0_gatherRoots_79 rfl (by first | assumption | (unfold gW; omega) | (unfold gW; split <;> omega)) (by first | assumption | (unfold gW; omega) | (unfold gW; split <;> omega)) (fun c417 => ?_) (fun c417 => ?_)
            · skip
              exact g_vret dX0_gatherRoots_125 rfl ⟨rfl, L, gR1, cr_lk_1, cr_lk_2, (by
                                                                      have e9 : rn1 = L := by omega
                                                                      have e8 := cr_lk_0
                                                                      rw [e9] at e8; exact e8), hL.2, rtI_e hp hf hs hfN hfP hL hl hx hfi (by
                                                                      have e9 : rn1 = L := by omega
                                                                      rw [e9] at hr; exact hr)⟩
            · skip
              refine g_aload_n 3 dX0_gatherRoots_82 rfl ?_
              refine g_getf 7 dX0_gatherRoots_83 kX0 (by decide) fX0_27 (FW.ob cr_lk_0) rfl ?_
              refine g_aload_n 3 dX0_gatherRoots_86 rfl ?_
              refine g_dup dX0_gatherRoots_87 rfl ?_
              refine g_getf 13 dX0_gatherRoots_88 kX0 (by decide) fX0_68 (FW.ob cr_lk_0) rfl ?_
              refine g_dup_x1 dX0_gatherRoots_91 rfl rfl ?_
              refine g_iconst dX0_gatherRoots_92 ?_
              refine g_iadd dX0_gatherRoots_93 ?_
              refine g_putf 13 dX0_gatherRoots_94 kX0 (by decide) fX0_68 rfl (FW.ob cr_lk_0) (Nat.le_of_ble_eq_true rfl) rfl rfl ?_
              obtain ⟨hh418, eh418⟩ : ∃ z : GH, z = hset hlk (f) (oB 0 [.ref (B + 1), .ref (B + 7), .ref (f + 12), .ref (f + 1), .ref (f + 2), .ref (f + 3), .ref (f + 4), .ref (f + 5), .ref (f + 6), .ref (f + 8), .ref (f + 10), .int (gI (n)), .int (gI (pn)), .int (gI ((rn1) + (1))), .int (gI (tg)), .long (gJ (le))]) := ⟨_, rfl⟩
              refine Go.hp eh418.symm ?_
              have rh418_0 : FW hp B f h0 gr0 gp0 hh418 gr gp gt gq gR1 n pn ((rn1) + (1)) tg le sz n (Q) := FW.cell cr_lk_0 (by rw [eh418]; rfl) (fun x x1 x2 x3 x4 => by rw [eh418, hset_n _ _ x1]) (hs_s eh418) (hs_n eh418 (show NE (f + 2) (f) by unfold NE; omega) (FW.t2 cr_lk_0)) (hs_n eh418 (show NE (f + 4) (f) by unfold NE; omega) (FW.t4 cr_lk_0)) (hs_n eh418 (show NE (f + 5) (f) by unfold NE; omega) (FW.t5 cr_lk_0))
              have rh418_1 : PW p B hh418 := PW.hs cr_lk_1 (by omega) eh418
              have rh418_2 : GPc hp hh418 gp (c) (P) := FW.gp cr_lk_0 cr_lk_2 (fun x e hx he => by rw [eh418, hset_n _ _ (by omega)]; exact he)
              refine g_aload_n 3 dX0_gatherRoots_97 rfl ?_
              refine g_getf 0 dX0_gatherRoots_98 kX0 (by decide) fX0_44 (FW.ob rh418_0) rfl ?_
              refine g_getf 0 dX0_gatherRoots_101 kX1 (by decide) fX0_103 (rh418_1).2.1 rfl ?_
              refine g_i2l dX0_gatherRoots_104 (by first | assumption | (unfold gW; omega) | (unfold gW; split <;> omega)) ?_
              refine g_aload_n 3 dX0_gatherRoots_105 rfl ?_
              refine g_getf 3 dX0_gatherRoots_106 kX0 (by decide) fX0_11 (FW.ob rh418_0) rfl ?_
              refine g_iload_n 0 dX0_gatherRoots_109 rfl ?_
              obtain ⟨r420, ga420, gh420⟩ := (rh418_0).2.2.1 (k) (by omega) (by omega)
              have gb420 := FW.lr rh418_0 ga420
              refine g_callS (nc2 := 0) (ns2 := 0) (As := [.ref (f + 1), .int (gI (k))]) (st := [.long (gJ ((p : Int))), .int (gI (rn1)), .ref (f + 5)]) rfl dX0_gatherRoots_110 okX5_in lX0_122 stX5_in (by decide) (by decide) rfl (Nat.le_of_ble_eq_true rfl) (sL_in0 N _ (f + 1) 40 r420 (gr) (k) ⟨by omega, by omega⟩ (by omega) (FW.ls rh418_0) ga420) (by omega) (by omega) (fun v419 hc419 q419 => ?_)
              obtain ⟨hq420, rfl⟩ := q419
              refine Go.nf (h' := hh418) (st' := [.ref (r420), .long (gJ ((p : Int))), .int (gI (rn1)), .ref (f + 5)]) hq420 rfl (Nat.le_refl _) (Nat.le_refl _) ?_
              refine g_iconst dX0_gatherRoots_113 ?_
              have hcf422 := cf_in ((Q) (k)) hp 0
              refine g_callV (nc2 := 0) (ns2 := 0) (ci := 5) (As := [.int (gI (0))]) (st := [.long (gJ ((p : Int))), .int (gI (rn1)), .ref (f + 5)]) rfl dX0_gatherRoots_114 okX5_number lX0_156 itX5_number seX5_number rfl (gh420).o (by decide) (by decide) rfl (Nat.le_of_ble_eq_true rfl) (sP_number N _ (r420) 84 p hp ((Q) (k)) (0) (by unfold gW; omega) gh420) (by omega) (by omega) (fun v421 hc421 q421 => ?_)
              obtain ⟨hq423, rfl⟩ := q421
              refine Go.nf (h' := hh418) (st' := [.long (gJ (cf ((Q) (k)) (0))), .long (gJ ((p : Int))), .int (gI (rn1)), .ref (f + 5)]) hq423 rfl (Nat.le_refl _) (Nat.le_refl _) ?_
              refine g_lsub dX0_gatherRoots_117 ?_
              refine g_lastore dX0_gatherRoots_118 (FW.t5 rh418_0) (by omega) (by omega) (by omega) ?_
              obtain ⟨hh424, eh424⟩ : ∃ z : GH, z = hset hh418 (f + 5) (aJ 40 (gup (gR1) (rn1) (((p : Int)) - (cf ((Q) (k)) (0))))) := ⟨_, rfl⟩
              refine Go.hp eh424.symm ?_
              have rh424_0 : FW hp B f h0 gr0 gp0 hh424 gr gp gt gq (gup (gR1) (rn1) (((p : Int)) - (cf ((Q) (k)) (0)))) n pn ((rn1) + (1)) tg le sz n (Q) := FW.cell rh418_0 (by rw [eh424]; rfl) (fun x x1 x2 x3 x4 => by rw [eh424, hset_n _ _ x4]) (hs_n eh424 (show NE (f) (f + 5) by unfold NE; omega) (FW.ob rh418_0)) (hs_n eh424 (show NE (f + 2) (f + 5) by unfold NE; omega) (FW.t2 rh418_0)) (hs_n eh424 (show NE (f + 4) (f + 5) by unfold NE; omega) (FW.t4 rh418_0)) (hs_s eh424)
              have rh424_1 : PW p B hh424 := PW.hs rh418_1 (by omega) eh424
              have rh424_2 : GPc hp hh424 gp (c) (P) := FW.gp rh418_0 rh418_2 (fun x e hx he => by rw [eh424, hset_n _ _ (by omega)]; exact he)
              have rh424_3 : RP hp 84 hh424 (r420) ((Q) (k)) := (gh420).of (fun x hx => by rw [eh424, hset_n _ _ (by omega)])
              refine g_iinc 0 (ls2 := [(3, .int (gI (k + (-1)))), (2, .int (gI (0))), (1, .int (gI (L))), (0, .ref (f))]) dX0_gatherRoots_119 rfl (by decide) rfl ?_
              refine g_goto (tgt := 77) dX0_gatherRoots_122 rfl ?_
              exact ih_lk _ (by omega) (k + (-1)) ((rn1) + (1)) (gup (gR1) (rn1) (((p : Int)) - (cf ((Q) (k)) (0)))) hh424 rfl fr_lk rh424_0 rh424_1 rh424_2 (by omega) (by omega) (⟨fun i i0 i1 => by
                                                                      unfold gup
                                                                      by_cases z : i = rn1
                                                                      · rw [if_pos z, show L - 1 - (i - 0) = k by omega]
                                                                      · rw [if_neg z]; exact hr.1 i i0 (by omega), fun e9 => by
                                                                      unfold gup
                                                                      rw [if_neg (by omega)]; exact hr.2 e9⟩)
          exact lk _ (L - 1) (0) (gR) hll rfl fr_ll cr_ll_0 cr_ll_1 cr_ll_2 (by omega) (by omega) (⟨fun i i0 i1 => by omega, fun e9 => by omega⟩)
        · skip
          have hz := gcmp_eq.mp c316
          refine g_aload_n 2 dX0_gatherRoots_54 rfl ?_
          refine g_getf 7 dX0_gatherRoots_55 kX0 (by decide) fX0_27 (FW.ob cr_ll_0) rfl ?_
          refine g_aload_n 2 dX0_gatherRoots_58 rfl ?_
          refine g_dup dX0_gatherRoots_59 rfl ?_
          refine g_getf 13 dX0_gatherRoots_60 kX0 (by decide) fX0_68 (FW.ob cr_ll_0) rfl ?_
          refine g_dup_x1 dX0_gatherRoots_63 rfl rfl ?_
          refine g_iconst dX0_gatherRoots_64 ?_
          refine g_iadd dX0_gatherRoots_65 ?_
          refine g_putf 13 dX0_gatherRoots_66 kX0 (by decide) fX0_68 rfl (FW.ob cr_ll_0) (Nat.le_of_ble_eq_true rfl) rfl rfl ?_
          obtain ⟨hh525, eh525⟩ : ∃ z : GH, z = hset hll (f) (oB 0 [.ref (B + 1), .ref (B + 7), .ref (f + 12), .ref (f + 1), .ref (f + 2), .ref (f + 3), .ref (f + 4), .ref (f + 5), .ref (f + 6), .ref (f + 8), .ref (f + 10), .int (gI (n)), .int (gI (pn)), .int (gI ((0) + (1))), .int (gI (tg)), .long (gJ (le))]) := ⟨_, rfl⟩
          refine Go.hp eh525.symm ?_
          have rh525_0 : FW hp B f h0 gr0 gp0 hh525 gr gp gt gq gR n pn ((0) + (1)) tg le sz n (Q) := FW.cell cr_ll_0 (by rw [eh525]; rfl) (fun x x1 x2 x3 x4 => by rw [eh525, hset_n _ _ x1]) (hs_s eh525) (hs_n eh525 (show NE (f + 2) (f) by unfold NE; omega) (FW.t2 cr_ll_0)) (hs_n eh525 (show NE (f + 4) (f) by unfold NE; omega) (FW.t4 cr_ll_0)) (hs_n eh525 (show NE (f + 5) (f) by unfold NE; omega) (FW.t5 cr_ll_0))
          have rh525_1 : PW p B hh525 := PW.hs cr_ll_1 (by omega) eh525
          have rh525_2 : GPc hp hh525 gp (c) (P) := FW.gp cr_ll_0 cr_ll_2 (fun x e hx he => by rw [eh525, hset_n _ _ (by omega)]; exact he)
          have rh525_3 : RP hp 84 hh525 (r312) ((Q) (0)) := (gh312).of (fun x hx => by rw [eh525, hset_n _ _ (by omega)])
          refine g_lconst0 dX0_gatherRoots_69 ?_
          refine g_lastore dX0_gatherRoots_70 (FW.t5 rh525_0) (by omega) (by omega) (by omega) ?_
          obtain ⟨hh526, eh526⟩ : ∃ z : GH, z = hset hh525 (f + 5) (aJ 40 (gup (gR) (0) (0))) := ⟨_, rfl⟩
          refine Go.hp eh526.symm ?_
          have rh526_0 : FW hp B f h0 gr0 gp0 hh526 gr gp gt gq (gup (gR) (0) (0)) n pn ((0) + (1)) tg le sz n (Q) := FW.cell rh525_0 (by rw [eh526]; rfl) (fun x x1 x2 x3 x4 => by rw [eh526, hset_n _ _ x4]) (hs_n eh526 (show NE (f) (f + 5) by unfold NE; omega) (FW.ob rh525_0)) (hs_n eh526 (show NE (f + 2) (f + 5) by unfold NE; omega) (FW.t2 rh525_0)) (hs_n eh526 (show NE (f + 4) (f + 5) by unfold NE; omega) (FW.t4 rh525_0)) (hs_s eh526)
          have rh526_1 : PW p B hh526 := PW.hs rh525_1 (by omega) eh526
          have rh526_2 : GPc hp hh526 gp (c) (P) := FW.gp rh525_0 rh525_2 (fun x e hx he => by rw [eh526, hset_n _ _ (by omega)]; exact he)
          have rh526_3 : RP hp 84 hh526 (r312) ((Q) (0)) := (rh525_3).of (fun x hx => by rw [eh526, hset_n _ _ (by omega)])
          refine g_iconst dX0_gatherRoots_71 ?_
          refine g_istore_n (ls2 := [(2, .int (gI (1))), (1, .int (gI (L))), (0, .ref (f))]) dX0_gatherRoots_72 rfl (by decide) rfl ?_
          have hfi : ((1 : Int) = 0 ∧ (L ≤ 0 ∨ cf (Q 0) 0 ≠ 0)) ∨ ((1 : Int) = 1 ∧ 0 < L ∧ cf (Q 0) 0 = 0) := Or.inr ⟨rfl, by omega, by omega⟩
          refine g_iload_n 1 dX0_gatherRoots_73 rfl ?_
          refine g_iconst dX0_gatherRoots_74 ?_
          refine g_isub dX0_gatherRoots_75 ?_
          refine g_istore_n (ls2 := [(3, .int (gI ((L) - (1)))), (2, .int (gI (1))), (1, .int (gI (L))), (0, .ref (f))]) dX0_gatherRoots_76 rfl (by decide) rfl ?_
          have lk : ∀ (kk : Nat) (k : Int) (rn1 : Int) (gR1 : Int → Int) (hlk : GH), kk = (k + 1).toNat → True → FW hp B f h0 gr0 gp0 hlk gr gp gt gq gR1 n pn rn1 tg le sz n (Q) → PW p B hlk → GPc hp hlk gp (c) (P) → (1 - 1 ≤ k ∧ k ≤ L - 1) → (rn1 = 1 + (L - 1 - k)) → (rtI p Q L 1 rn1 gR1) → Go N mX0_gatherRoots (fun v h1 => v = none ∧ ∃ L gR1, PW p B h1 ∧ GPc hp h1 gp c P ∧ FW hp B f h0 gr0 gp0 h1 gr gp gt gq gR1 n pn L tg le sz n Q ∧ L ≤ n ∧ (rN hp F : Int) = L ∧ ∀ i : Int, 0 ≤ i → i < L → rR hp F i = gR1 i) 0 0 hlk 77 [(3, .int (gI (k))), (2, .int (gI (1))), (1, .int (gI (L))), (0, .ref (f))] [] := by
            refine Go.ind (fun kk ih_lk => ?_)
            intro k rn1 gR1 hlk hkk_lk fr_lk cr_lk_0 cr_lk_1 cr_lk_2 hk hrn hr
            refine g_iload_n 0 dX0_gatherRoots_77 rfl ?_
            refine g_iload_n 1 dX0_gatherRoots_78 rfl ?_
            refine g_icmp_lt (tgt := 125) dX0_gatherRoots_79 rfl (by first | assumption | (unfold gW; omega) | (unfold gW; split <;> omega)) (by first | assumption | (unfold gW; omega) | (unfold gW; split <;> omega)) (fun c627 => ?_) (fun c627 => ?_)
            · skip
              exact g_vret dX0_gatherRoots_125 rfl ⟨rfl, L, gR1, cr_lk_1, cr_lk_2, (by
                                                                      have e9 : rn1 = L := by omega
                                                                      have e8 := cr_lk_0
                                                                      rw [e9] at e8; exact e8), hL.2, rtI_e hp hf hs hfN hfP hL hl hx hfi (by
                                                                      have e9 : rn1 = L := by omega
                                                                      rw [e9] at hr; exact hr)⟩
            · skip
              refine g_aload_n 3 dX0_gatherRoots_82 rfl ?_
              refine g_getf 7 dX0_gatherRoots_83 kX0 (by decide) fX0_27 (FW.ob cr_lk_0) rfl ?_
              refine g_aload_n 3 dX0_gatherRoots_86 rfl ?_
              refine g_dup dX0_gatherRoots_87 rfl ?_
              refine g_getf 13 dX0_gatherRoots_88 kX0 (by decide) fX0_68 (FW.ob cr_lk_0) rfl ?_
              refine g_dup_x1 dX0_gatherRoots_91 rfl rfl ?_
              refine g_iconst dX0_gatherRoots_92 ?_
              refine g_iadd dX0_gatherRoots_93 ?_
              refine g_putf 13 dX0_gatherRoots_94 kX0 (by decide) fX0_68 rfl (FW.ob cr_lk_0) (Nat.le_of_ble_eq_true rfl) rfl rfl ?_
              obtain ⟨hh628, eh628⟩ : ∃ z : GH, z = hset hlk (f) (oB 0 [.ref (B + 1), .ref (B + 7), .ref (f + 12), .ref (f + 1), .ref (f + 2), .ref (f + 3), .ref (f + 4), .ref (f + 5), .ref (f + 6), .ref (f + 8), .ref (f + 10), .int (gI (n)), .int (gI (pn)), .int (gI ((rn1) + (1))), .int (gI (tg)), .long (gJ (le))]) := ⟨_, rfl⟩
              refine Go.hp eh628.symm ?_
              have rh628_0 : FW hp B f h0 gr0 gp0 hh628 gr gp gt gq gR1 n pn ((rn1) + (1)) tg le sz n (Q) := FW.cell cr_lk_0 (by rw [eh628]; rfl) (fun x x1 x2 x3 x4 => by rw [eh628, hset_n _ _ x1]) (hs_s eh628) (hs_n eh628 (show NE (f + 2) (f) by unfold NE; omega) (FW.t2 cr_lk_0)) (hs_n eh628 (show NE (f + 4) (f) by unfold NE; omega) (FW.t4 cr_lk_0)) (hs_n eh628 (show NE (f + 5) (f) by unfold NE; omega) (FW.t5 cr_lk_0))
              have rh628_1 : PW p B hh628 := PW.hs cr_lk_1 (by omega) eh628
              have rh628_2 : GPc hp hh628 gp (c) (P) := FW.gp cr_lk_0 cr_lk_2 (fun x e hx he => by rw [eh628, hset_n _ _ (by omega)]; exact he)
              refine g_aload_n 3 dX0_gatherRoots_97 rfl ?_
              refine g_getf 0 dX0_gatherRoots_98 kX0 (by decide) fX0_44 (FW.ob rh628_0) rfl ?_
              refine g_getf 0 dX0_gatherRoots_101 kX1 (by decide) fX0_103 (rh628_1).2.1 rfl ?_
              refine g_i2l dX0_gatherRoots_104 (by first | assumption | (unfold gW; omega) | (unfold gW; split <;> omega)) ?_
              refine g_aload_n 3 dX0_gatherRoots_105 rfl ?_
              refine g_getf 3 dX0_gatherRoots_106 kX0 (by decide) fX0_11 (FW.ob rh628_0) rfl ?_
              refine g_iload_n 0 dX0_gatherRoots_109 rfl ?_
              obtain ⟨r630, ga630, gh630⟩ := (rh628_0).2.2.1 (k) (by omega) (by omega)
              have gb630 := FW.lr rh628_0 ga630
              refine g_callS (nc2 := 0) (ns2 := 0) (As := [.ref (f + 1), .int (gI (k))]) (st := [.long (gJ ((p : Int))), .int (gI (rn1)), .ref (f + 5)]) rfl dX0_gatherRoots_110 okX5_in lX0_122 stX5_in (by decide) (by decide) rfl (Nat.le_of_ble_eq_true rfl) (sL_in0 N _ (f + 1) 40 r630 (gr) (k) ⟨by omega, by omega⟩ (by omega) (FW.ls rh628_0) ga630) (by omega) (by omega) (fun v629 hc629 q629 => ?_)
              obtain ⟨hq630, rfl⟩ := q629
              refine Go.nf (h' := hh628) (st' := [.ref (r630), .long (gJ ((p : Int))), .int (gI (rn1)), .ref (f + 5)]) hq630 rfl (Nat.le_refl _) (Nat.le_refl _) ?_
              refine g_iconst dX0_gatherRoots_113 ?_
              have hcf632 := cf_in ((Q) (k)) hp 0
              refine g_callV (nc2 := 0) (ns2 := 0) (ci := 5) (As := [.int (gI (0))]) (st := [.long (gJ ((p : Int))), .int (gI (rn1)), .ref (f + 5)]) rfl dX0_gatherRoots_114 okX5_number lX0_156 itX5_number seX5_number rfl (gh630).o (by decide) (by decide) rfl (Nat.le_of_ble_eq_true rfl) (sP_number N _ (r630) 84 p hp ((Q) (k)) (0) (by unfold gW; omega) gh630) (by omega) (by omega) (fun v631 hc631 q631 => ?_)
              obtain ⟨hq633, rfl⟩ := q631
              refine Go.nf (h' := hh628) (st' := [.long (gJ (cf ((Q) (k)) (0))), .long (gJ ((p : Int))), .int (gI (rn1)), .ref (f + 5)]) hq633 rfl (Nat.le_refl _) (Nat.le_refl _) ?_
              refine g_lsub dX0_gatherRoots_117 ?_
              refine g_lastore dX0_gatherRoots_118 (FW.t5 rh628_0) (by omega) (by omega) (by omega) ?_
              obtain ⟨hh634, eh634⟩ : ∃ z : GH, z = hset hh628 (f + 5) (aJ 40 (gup (gR1) (rn1) (((p : Int)) - (cf ((Q) (k)) (0))))) := ⟨_, rfl⟩
              refine Go.hp eh634.symm ?_
              have rh634_0 : FW hp B f h0 gr0 gp0 hh634 gr gp gt gq (gup (gR1) (rn1) (((p : Int)) - (cf ((Q) (k)) (0)))) n pn ((rn1) + (1)) tg le sz n (Q) := FW.cell rh628_0 (by rw [eh634]; rfl) (fun x x1 x2 x3 x4 => by rw [eh634, hset_n _ _ x4]) (hs_n eh634 (show NE (f) (f + 5) by unfold NE; omega) (FW.ob rh628_0)) (hs_n eh634 (show NE (f + 2) (f + 5) by unfold NE; omega) (FW.t2 rh628_0)) (hs_n eh634 (show NE (f + 4) (f + 5) by unfold NE; omega) (FW.t4 rh628_0)) (hs_s eh634)
              have rh634_1 : PW p B hh634 := PW.hs rh628_1 (by omega) eh634
              have rh634_2 : GPc hp hh634 gp (c) (P) := FW.gp rh628_0 rh628_2 (fun x e hx he => by rw [eh634, hset_n _ _ (by omega)]; exact he)
              have rh634_3 : RP hp 84 hh634 (r630) ((Q) (k)) := (gh630).of (fun x hx => by rw [eh634, hset_n _ _ (by omega)])
              refine g_iinc 0 (ls2 := [(3, .int (gI (k + (-1)))), (2, .int (gI (1))), (1, .int (gI (L))), (0, .ref (f))]) dX0_gatherRoots_119 rfl (by decide) rfl ?_
              refine g_goto (tgt := 77) dX0_gatherRoots_122 rfl ?_
              exact ih_lk _ (by omega) (k + (-1)) ((rn1) + (1)) (gup (gR1) (rn1) (((p : Int)) - (cf ((Q) (k)) (0)))) hh634 rfl fr_lk rh634_0 rh634_1 rh634_2 (by omega) (by omega) (⟨fun i i0 i1 => by
                                                                      unfold gup
                                                                      by_cases z : i = rn1
                                                                      · rw [if_pos z, show L - 1 - (i - 1) = k by omega]
                                                                      · rw [if_neg z]; exact hr.1 i i0 (by omega), fun e9 => by
                                                                      unfold gup
                                                                      rw [if_neg (by omega)]; exact hr.2 e9⟩)
          exact lk _ (L - 1) ((0) + (1)) (gup (gR) (0) (0)) hh526 rfl fr_ll rh526_0 rh526_1 rh526_2 (by omega) (by omega) (⟨fun i i0 i1 => by omega, fun e9 => by unfold gup; rw [if_pos (by omega)]⟩)
    · skip
      have hbk := fcl_le hp hFp (by omega) hf (show 0 ≤ L by omega) (show L < n by omega)
      refine g_aload_n 1 dX0_gatherRoots_10 rfl ?_
      refine g_getf 3 dX0_gatherRoots_11 kX0 (by decide) fX0_11 (FW.ob cr_ll_0) rfl ?_
      refine g_iload_n 0 dX0_gatherRoots_14 rfl ?_
      obtain ⟨r736, ga736, gh736⟩ := (cr_ll_0).2.2.1 (L) (by omega) (by omega)
      have gb736 := FW.lr cr_ll_0 ga736
      refine g_callS (nc2 := 0) (ns2 := 0) (As := [.ref (f + 1), .int (gI (L))]) (st := []) rfl dX0_gatherRoots_15 okX5_in lX0_122 stX5_in (by decide) (by decide) rfl (Nat.le_of_ble_eq_true rfl) (sL_in0 N _ (f + 1) 40 r736 (gr) (L) ⟨by omega, by omega⟩ (by omega) (FW.ls cr_ll_0) ga736) (by omega) (by omega) (fun v735 hc735 q735 => ?_)
      obtain ⟨hq736, rfl⟩ := q735
      refine Go.nf (h' := hll) (st' := [.ref (r736)]) hq736 rfl (Nat.le_refl _) (Nat.le_refl _) ?_
      refine g_getf 1 dX0_gatherRoots_18 kX5 (by decide) fX0_93 (gh736).o rfl ?_
      refine g_iconst dX0_gatherRoots_21 ?_
      refine g_icmp_ne (tgt := 31) dX0_gatherRoots_22 rfl (by first | assumption | (unfold gW; omega) | (unfold gW; split <;> omega)) (by first | assumption | (unfold gW; omega) | (unfold gW; split <;> omega)) (fun c737 => ?_) (fun c737 => ?_)
      · skip
        have hx : n ≤ L ∨ dgi hp (Q L) ≠ 1 := by omega
        refine g_iconst dX0_gatherRoots_31 ?_
        refine g_istore_n (ls2 := [(2, .int (gI (0))), (1, .int (gI (L))), (0, .ref (f))]) dX0_gatherRoots_32 rfl (by decide) rfl ?_
        refine g_iload_n 1 dX0_gatherRoots_33 rfl ?_
        refine g_if_le (tgt := 73) dX0_gatherRoots_34 rfl (by first | assumption | (unfold gW; omega) | (unfold gW; split <;> omega)) (fun c738 => ?_) (fun c738 => ?_)
        · skip
          have hfi : ((0 : Int) = 0 ∧ (L ≤ 0 ∨ cf (Q 0) 0 ≠ 0)) ∨ ((0 : Int) = 1 ∧ 0 < L ∧ cf (Q 0) 0 = 0) := Or.inl ⟨rfl, by omega⟩
          refine g_iload_n 1 dX0_gatherRoots_73 rfl ?_
          refine g_iconst dX0_gatherRoots_74 ?_
          refine g_isub dX0_gatherRoots_75 ?_
          refine g_istore_n (ls2 := [(3, .int (gI ((L) - (1)))), (2, .int (gI (0))), (1, .int (gI (L))), (0, .ref (f))]) dX0_gatherRoots_76 rfl (by decide) rfl ?_
          have lk : ∀ (kk : Nat) (k : Int) (rn1 : Int) (gR1 : Int → Int) (hlk : GH), kk = (k + 1).toNat → True → FW hp B f h0 gr0 gp0 hlk gr gp gt gq gR1 n pn rn1 tg le sz n (Q) → PW p B hlk → GPc hp hlk gp (c) (P) → (0 - 1 ≤ k ∧ k ≤ L - 1) → (rn1 = 0 + (L - 1 - k)) → (rtI p Q L 0 rn1 gR1) → Go N mX0_gatherRoots (fun v h1 => v = none ∧ ∃ L gR1, PW p B h1 ∧ GPc hp h1 gp c P ∧ FW hp B f h0 gr0 gp0 h1 gr gp gt gq gR1 n pn L tg le sz n Q ∧ L ≤ n ∧ (rN hp F : Int) = L ∧ ∀ i : Int, 0 ≤ i → i < L → rR hp F i = gR1 i) 0 0 hlk 77 [(3, .int (gI (k))), (2, .int (gI (0))), (1, .int (gI (L))), (0, .ref (f))] [] := by
            refine Go.ind (fun kk ih_lk => ?_)
            intro k rn1 gR1 hlk hkk_lk fr_lk cr_lk_0 cr_lk_1 cr_lk_2 hk hrn hr
            refine g_iload_n 0 dX0_gatherRoots_77 rfl ?_
            refine g_iload_n 1 dX0_gatherRoots_78 rfl ?_
            refine g_icmp_lt (tgt := 125) dX0_gatherRoots_79 rfl (by first | assumption | (unfold gW; omega) | (unfold gW; split <;> omega)) (by first | assumption | (unfold gW; omega) | (unfold gW; split <;> omega)) (fun c839 => ?_) (fun c839 => ?_)
            · skip
              exact g_vret dX0_gatherRoots_125 rfl ⟨rfl, L, gR1, cr_lk_1, cr_lk_2, (by
                                                                      have e9 : rn1 = L := by omega
                                                                      have e8 := cr_lk_0
                                                                      rw [e9] at e8; exact e8), hL.2, rtI_e hp hf hs hfN hfP hL hl hx hfi (by
                                                                      have e9 : rn1 = L := by omega
                                                                      rw [e9] at hr; exact hr)⟩
            · skip
              refine g_aload_n 3 dX0_gatherRoots_82 rfl ?_
              refine g_getf 7 dX0_gatherRoots_83 kX0 (by decide) fX0_27 (FW.ob cr_lk_0) rfl ?_
              refine g_aload_n 3 dX0_gatherRoots_86 rfl ?_
              refine g_dup dX0_gatherRoots_87 rfl ?_
              refine g_getf 13 dX0_gatherRoots_88 kX0 (by decide) fX0_68 (FW.ob cr_lk_0) rfl ?_
              refine g_dup_x1 dX0_gatherRoots_91 rfl rfl ?_
              refine g_iconst dX0_gatherRoots_92 ?_
              refine g_iadd dX0_gatherRoots_93 ?_
              refine g_putf 13 dX0_gatherRoots_94 kX0 (by decide) fX0_68 rfl (FW.ob cr_lk_0) (Nat.le_of_ble_eq_true rfl) rfl rfl ?_
              obtain ⟨hh840, eh840⟩ : ∃ z : GH, z = hset hlk (f) (oB 0 [.ref (B + 1), .ref (B + 7), .ref (f + 12), .ref (f + 1), .ref (f + 2), .ref (f + 3), .ref (f + 4), .ref (f + 5), .ref (f + 6), .ref (f + 8), .ref (f + 10), .int (gI (n)), .int (gI (pn)), .int (gI ((rn1) + (1))), .int (gI (tg)), .long (gJ (le))]) := ⟨_, rfl⟩
              refine Go.hp eh840.symm ?_
              have rh840_0 : FW hp B f h0 gr0 gp0 hh840 gr gp gt gq gR1 n pn ((rn1) + (1)) tg le sz n (Q) := FW.cell cr_lk_0 (by rw [eh840]; rfl) (fun x x1 x2 x3 x4 => by rw [eh840, hset_n _ _ x1]) (hs_s eh840) (hs_n eh840 (show NE (f + 2) (f) by unfold NE; omega) (FW.t2 cr_lk_0)) (hs_n eh840 (show NE (f + 4) (f) by unfold NE; omega) (FW.t4 cr_lk_0)) (hs_n eh840 (show NE (f + 5) (f) by unfold NE; omega) (FW.t5 cr_lk_0))
              have rh840_1 : PW p B hh840 := PW.hs cr_lk_1 (by omega) eh840
              have rh840_2 : GPc hp hh840 gp (c) (P) := FW.gp cr_lk_0 cr_lk_2 (fun x e hx he => by rw [eh840, hset_n _ _ (by omega)]; exact he)
              refine g_aload_n 3 dX0_gatherRoots_97 rfl ?_
              refine g_getf 0 dX0_gatherRoots_98 kX0 (by decide) fX0_44 (FW.ob rh840_0) rfl ?_
              refine g_getf 0 dX0_gatherRoots_101 kX1 (by decide) fX0_103 (rh840_1).2.1 rfl ?_
              refine g_i2l dX0_gatherRoots_104 (by first | assumption | (unfold gW; omega) | (unfold gW; split <;> omega)) ?_
              refine g_aload_n 3 dX0_gatherRoots_105 rfl ?_
              refine g_getf 3 dX0_gatherRoots_106 kX0 (by decide) fX0_11 (FW.ob rh840_0) rfl ?_
              refine g_iload_n 0 dX0_gatherRoots_109 rfl ?_
              obtain ⟨r842, ga842, gh842⟩ := (rh840_0).2.2.1 (k) (by omega) (by omega)
              have gb842 := FW.lr rh840_0 ga842
              refine g_callS (nc2 := 0) (ns2 := 0) (As := [.ref (f + 1), .int (gI (k))]) (st := [.long (gJ ((p : Int))), .int (gI (rn1)), .ref (f + 5)]) rfl dX0_gatherRoots_110 okX5_in lX0_122 stX5_in (by decide) (by decide) rfl (Nat.le_of_ble_eq_true rfl) (sL_in0 N _ (f + 1) 40 r842 (gr) (k) ⟨by omega, by omega⟩ (by omega) (FW.ls rh840_0) ga842) (by omega) (by omega) (fun v841 hc841 q841 => ?_)
              obtain ⟨hq842, rfl⟩ := q841
              refine Go.nf (h' := hh840) (st' := [.ref (r842), .long (gJ ((p : Int))), .int (gI (rn1)), .ref (f + 5)]) hq842 rfl (Nat.le_refl _) (Nat.le_refl _) ?_
              refine g_iconst dX0_gatherRoots_113 ?_
              have hcf844 := cf_in ((Q) (k)) hp 0
              refine g_callV (nc2 := 0) (ns2 := 0) (ci := 5) (As := [.int (gI (0))]) (st := [.long (gJ ((p : Int))), .int (gI (rn1)), .ref (f + 5)]) rfl dX0_gatherRoots_114 okX5_number lX0_156 itX5_number seX5_number rfl (gh842).o (by decide) (by decide) rfl (Nat.le_of_ble_eq_true rfl) (sP_number N _ (r842) 84 p hp ((Q) (k)) (0) (by unfold gW; omega) gh842) (by omega) (by omega) (fun v843 hc843 q843 => ?_)
              obtain ⟨hq845, rfl⟩ := q843
              refine Go.nf (h' := hh840) (st' := [.long (gJ (cf ((Q) (k)) (0))), .long (gJ ((p : Int))), .int (gI (rn1)), .ref (f + 5)]) hq845 rfl (Nat.le_refl _) (Nat.le_refl _) ?_
              refine g_lsub dX0_gatherRoots_117 ?_
              refine g_lastore dX0_gatherRoots_118 (FW.t5 rh840_0) (by omega) (by omega) (by omega) ?_
              obtain ⟨hh846, eh846⟩ : ∃ z : GH, z = hset hh840 (f + 5) (aJ 40 (gup (gR1) (rn1) (((p : Int)) - (cf ((Q) (k)) (0))))) := ⟨_, rfl⟩
              refine Go.hp eh846.symm ?_
              have rh846_0 : FW hp B f h0 gr0 gp0 hh846 gr gp gt gq (gup (gR1) (rn1) (((p : Int)) - (cf ((Q) (k)) (0)))) n pn ((rn1) + (1)) tg le sz n (Q) := FW.cell rh840_0 (by rw [eh846]; rfl) (fun x x1 x2 x3 x4 => by rw [eh846, hset_n _ _ x4]) (hs_n eh846 (show NE (f) (f + 5) by unfold NE; omega) (FW.ob rh840_0)) (hs_n eh846 (show NE (f + 2) (f + 5) by unfold NE; omega) (FW.t2 rh840_0)) (hs_n eh846 (show NE (f + 4) (f + 5) by unfold NE; omega) (FW.t4 rh840_0)) (hs_s eh846)
              have rh846_1 : PW p B hh846 := PW.hs rh840_1 (by omega) eh846
              have rh846_2 : GPc hp hh846 gp (c) (P) := FW.gp rh840_0 rh840_2 (fun x e hx he => by rw [eh846, hset_n _ _ (by omega)]; exact he)
              have rh846_3 : RP hp 84 hh846 (r842) ((Q) (k)) := (gh842).of (fun x hx => by rw [eh846, hset_n _ _ (by omega)])
              refine g_iinc 0 (ls2 := [(3, .int (gI (k + (-1)))), (2, .int (gI (0))), (1, .int (gI (L))), (0, .ref (f))]) dX0_gatherRoots_119 rfl (by decide) rfl ?_
              refine g_goto (tgt := 77) dX0_gatherRoots_122 rfl ?_
              exact ih_lk _ (by omega) (k + (-1)) ((rn1) + (1)) (gup (gR1) (rn1) (((p : Int)) - (cf ((Q) (k)) (0)))) hh846 rfl fr_lk rh846_0 rh846_1 rh846_2 (by omega) (by omega) (⟨fun i i0 i1 => by
                                                                      unfold gup
                                                                      by_cases z : i = rn1
                                                                      · rw [if_pos z, show L - 1 - (i - 0) = k by omega]
                                                                      · rw [if_neg z]; exact hr.1 i i0 (by omega), fun e9 => by
                                                                      unfold gup
                                                                      rw [if_neg (by omega)]; exact hr.2 e9⟩)
          exact lk _ (L - 1) (0) (gR) hll rfl fr_ll cr_ll_0 cr_ll_1 cr_ll_2 (by omega) (by omega) (⟨fun i i0 i1 => by omega, fun e9 => by omega⟩)
        · skip
          refine g_aload_n 2 dX0_gatherRoots_37 rfl ?_
          refine g_getf 3 dX0_gatherRoots_38 kX0 (by decide) fX0_11 (FW.ob cr_ll_0) rfl ?_
          refine g_iconst dX0_gatherRoots_41 ?_
          obtain ⟨r948, ga948, gh948⟩ := (cr_ll_0).2.2.1 (0) (by omega) (by omega)
          have gb948 := FW.lr cr_ll_0 ga948
          refine g_callS (nc2 := 0) (ns2 := 0) (As := [.ref (f + 1), .int (gI (0))]) (st := []) rfl dX0_gatherRoots_42 okX5_in lX0_122 stX5_in (by decide) (by decide) rfl (Nat.le_of_ble_eq_true rfl) (sL_in0 N _ (f + 1) 40 r948 (gr) (0) ⟨by omega, by omega⟩ (by omega) (FW.ls cr_ll_0) ga948) (by omega) (by omega) (fun v947 hc947 q947 => ?_)
          obtain ⟨hq948, rfl⟩ := q947
          refine Go.nf (h' := hll) (st' := [.ref (r948)]) hq948 rfl (Nat.le_refl _) (Nat.le_refl _) ?_
          refine g_iconst dX0_gatherRoots_45 ?_
          have hcf950 := cf_in ((Q) (0)) hp 0
          refine g_callV (nc2 := 0) (ns2 := 0) (ci := 5) (As := [.int (gI (0))]) (st := []) rfl dX0_gatherRoots_46 okX5_number lX0_156 itX5_number seX5_number rfl (gh948).o (by decide) (by decide) rfl (Nat.le_of_ble_eq_true rfl) (sP_number N _ (r948) 84 p hp ((Q) (0)) (0) (by unfold gW; omega) gh948) (by omega) (by omega) (fun v949 hc949 q949 => ?_)
          obtain ⟨hq951, rfl⟩ := q949
          refine Go.nf (h' := hll) (st' := [.long (gJ (cf ((Q) (0)) (0)))]) hq951 rfl (Nat.le_refl _) (Nat.le_refl _) ?_
          refine g_lconst0 dX0_gatherRoots_49 ?_
          refine g_lcmp dX0_gatherRoots_50 (by first | assumption | (unfold gX; omega)) (by unfold gX; omega) ?_
          refine g_if_ne (tgt := 73) dX0_gatherRoots_51 rfl (gW_cmp _ _) (fun c952 => ?_) (fun c952 => ?_)
          · skip
            have hz : ¬ _ = _ := fun z => c952 (gcmp_eq.mpr z)
            have hfi : ((0 : Int) = 0 ∧ (L ≤ 0 ∨ cf (Q 0) 0 ≠ 0)) ∨ ((0 : Int) = 1 ∧ 0 < L ∧ cf (Q 0) 0 = 0) := Or.inl ⟨rfl, by omega⟩
            refine g_iload_n 1 dX0_gatherRoots_73 rfl ?_
            refine g_iconst dX0_gatherRoots_74 ?_
            refine g_isub dX0_gatherRoots_75 ?_
            refine g_istore_n (ls2 := [(3, .int (gI ((L) - (1)))), (2, .int (gI (0))), (1, .int (gI (L))), (0, .ref (f))]) dX0_gatherRoots_76 rfl (by decide) rfl ?_
            have lk : ∀ (kk : Nat) (k : Int) (rn1 : Int) (gR1 : Int → Int) (hlk : GH), kk = (k + 1).toNat → True → FW hp B f h0 gr0 gp0 hlk gr gp gt gq gR1 n pn rn1 tg le sz n (Q) → PW p B hlk → GPc hp hlk gp (c) (P) → (0 - 1 ≤ k ∧ k ≤ L - 1) → (rn1 = 0 + (L - 1 - k)) → (rtI p Q L 0 rn1 gR1) → Go N mX0_gatherRoots (fun v h1 => v = none ∧ ∃ L gR1, PW p B h1 ∧ GPc hp h1 gp c P ∧ FW hp B f h0 gr0 gp0 h1 gr gp gt gq gR1 n pn L tg le sz n Q ∧ L ≤ n ∧ (rN hp F : Int) = L ∧ ∀ i : Int, 0 ≤ i → i < L → rR hp F i = gR1 i) 0 0 hlk 77 [(3, .int (gI (k))), (2, .int (gI (0))), (1, .int (gI (L))), (0, .ref (f))] [] := by
              refine Go.ind (fun kk ih_lk => ?_)
              intro k rn1 gR1 hlk hkk_lk fr_lk cr_lk_0 cr_lk_1 cr_lk_2 hk hrn hr
              refine g_iload_n 0 dX0_gatherRoots_77 rfl ?_
              refine g_iload_n 1 dX0_gatherRoots_78 rfl ?_
              refine g_icmp_lt (tgt := 125) dX0_gatherRoots_79 rfl (by first | assumption | (unfold gW; omega) | (unfold gW; split <;> omega)) (by first | assumption | (unfold gW; omega) | (unfold gW; split <;> omega)) (fun c1053 => ?_) (fun c1053 => ?_)
              · skip
                exact g_vret dX0_gatherRoots_125 rfl ⟨rfl, L, gR1, cr_lk_1, cr_lk_2, (by
                                                                      have e9 : rn1 = L := by omega
                                                                      have e8 := cr_lk_0
                                                                      rw [e9] at e8; exact e8), hL.2, rtI_e hp hf hs hfN hfP hL hl hx hfi (by
                                                                      have e9 : rn1 = L := by omega
                                                                      rw [e9] at hr; exact hr)⟩
              · skip
                refine g_aload_n 3 dX0_gatherRoots_82 rfl ?_
                refine g_getf 7 dX0_gatherRoots_83 kX0 (by decide) fX0_27 (FW.ob cr_lk_0) rfl ?_
                refine g_aload_n 3 dX0_gatherRoots_86 rfl ?_
                refine g_dup dX0_gatherRoots_87 rfl ?_
                refine g_getf 13 dX0_gatherRoots_88 kX0 (by decide) fX0_68 (FW.ob cr_lk_0) rfl ?_
                refine g_dup_x1 dX0_gatherRoots_91 rfl rfl ?_
                refine g_iconst dX0_gatherRoots_92 ?_
                refine g_iadd dX0_gatherRoots_93 ?_
                refine g_putf 13 dX0_gatherRoots_94 kX0 (by decide) fX0_68 rfl (FW.ob cr_lk_0) (Nat.le_of_ble_eq_true rfl) rfl rfl ?_
                obtain ⟨hh1054, eh1054⟩ : ∃ z : GH, z = hset hlk (f) (oB 0 [.ref (B + 1), .ref (B + 7), .ref (f + 12), .ref (f + 1), .ref (f + 2), .ref (f + 3), .ref (f + 4), .ref (f + 5), .ref (f + 6), .ref (f + 8), .ref (f + 10), .int (gI (n)), .int (gI (pn)), .int (gI ((rn1) + (1))), .int (gI (tg)), .long (gJ (le))]) := ⟨_, rfl⟩
                refine Go.hp eh1054.symm ?_
                have rh1054_0 : FW hp B f h0 gr0 gp0 hh1054 gr gp gt gq gR1 n pn ((rn1) + (1)) tg le sz n (Q) := FW.cell cr_lk_0 (by rw [eh1054]; rfl) (fun x x1 x2 x3 x4 => by rw [eh1054, hset_n _ _ x1]) (hs_s eh1054) (hs_n eh1054 (show NE (f + 2) (f) by unfold NE; omega) (FW.t2 cr_lk_0)) (hs_n eh1054 (show NE (f + 4) (f) by unfold NE; omega) (FW.t4 cr_lk_0)) (hs_n eh1054 (show NE (f + 5) (f) by unfold NE; omega) (FW.t5 cr_lk_0))
                have rh1054_1 : PW p B hh1054 := PW.hs cr_lk_1 (by omega) eh1054
                have rh1054_2 : GPc hp hh1054 gp (c) (P) := FW.gp cr_lk_0 cr_lk_2 (fun x e hx he => by rw [eh1054, hset_n _ _ (by omega)]; exact he)
                refine g_aload_n 3 dX0_gatherRoots_97 rfl ?_
                refine g_getf 0 dX0_gatherRoots_98 kX0 (by decide) fX0_44 (FW.ob rh1054_0) rfl ?_
                refine g_getf 0 dX0_gatherRoots_101 kX1 (by decide) fX0_103 (rh1054_1).2.1 rfl ?_
                refine g_i2l dX0_gatherRoots_104 (by first | assumption | (unfold gW; omega) | (unfold gW; split <;> omega)) ?_
                refine g_aload_n 3 dX0_gatherRoots_105 rfl ?_
                refine g_getf 3 dX0_gatherRoots_106 kX0 (by decide) fX0_11 (FW.ob rh1054_0) rfl ?_
                refine g_iload_n 0 dX0_gatherRoots_109 rfl ?_
                obtain ⟨r1056, ga1056, gh1056⟩ := (rh1054_0).2.2.1 (k) (by omega) (by omega)
                have gb1056 := FW.lr rh1054_0 ga1056
                refine g_callS (nc2 := 0) (ns2 := 0) (As := [.ref (f + 1), .int (gI (k))]) (st := [.long (gJ ((p : Int))), .int (gI (rn1)), .ref (f + 5)]) rfl dX0_gatherRoots_110 okX5_in lX0_122 stX5_in (by decide) (by decide) rfl (Nat.le_of_ble_eq_true rfl) (sL_in0 N _ (f + 1) 40 r1056 (gr) (k) ⟨by omega, by omega⟩ (by omega) (FW.ls rh1054_0) ga1056) (by omega) (by omega) (fun v1055 hc1055 q1055 => ?_)
                obtain ⟨hq1056, rfl⟩ := q1055
                refine Go.nf (h' := hh1054) (st' := [.ref (r1056), .long (gJ ((p : Int))), .int (gI (rn1)), .ref (f + 5)]) hq1056 rfl (Nat.le_refl _) (Nat.le_refl _) ?_
                refine g_iconst dX0_gatherRoots_113 ?_
                have hcf1058 := cf_in ((Q) (k)) hp 0
                refine g_callV (nc2 := 0) (ns2 := 0) (ci := 5) (As := [.int (gI (0))]) (st := [.long (gJ ((p : Int))), .int (gI (rn1)), .ref (f + 5)]) rfl dX0_gatherRoots_114 okX5_number lX0_156 itX5_number seX5_number rfl (gh1056).o (by decide) (by decide) rfl (Nat.le_of_ble_eq_true rfl) (sP_number N _ (r1056) 84 p hp ((Q) (k)) (0) (by unfold gW; omega) gh1056) (by omega) (by omega) (fun v1057 hc1057 q1057 => ?_)
                obtain ⟨hq1059, rfl⟩ := q1057
                refine Go.nf (h' := hh1054) (st' := [.long (gJ (cf ((Q) (k)) (0))), .long (gJ ((p : Int))), .int (gI (rn1)), .ref (f + 5)]) hq1059 rfl (Nat.le_refl _) (Nat.le_refl _) ?_
                refine g_lsub dX0_gatherRoots_117 ?_
                refine g_lastore dX0_gatherRoots_118 (FW.t5 rh1054_0) (by omega) (by omega) (by omega) ?_
                obtain ⟨hh1060, eh1060⟩ : ∃ z : GH, z = hset hh1054 (f + 5) (aJ 40 (gup (gR1) (rn1) (((p : Int)) - (cf ((Q) (k)) (0))))) := ⟨_, rfl⟩
                refine Go.hp eh1060.symm ?_
                have rh1060_0 : FW hp B f h0 gr0 gp0 hh1060 gr gp gt gq (gup (gR1) (rn1) (((p : Int)) - (cf ((Q) (k)) (0)))) n pn ((rn1) + (1)) tg le sz n (Q) := FW.cell rh1054_0 (by rw [eh1060]; rfl) (fun x x1 x2 x3 x4 => by rw [eh1060, hset_n _ _ x4]) (hs_n eh1060 (show NE (f) (f + 5) by unfold NE; omega) (FW.ob rh1054_0)) (hs_n eh1060 (show NE (f + 2) (f + 5) by unfold NE; omega) (FW.t2 rh1054_0)) (hs_n eh1060 (show NE (f + 4) (f + 5) by unfold NE; omega) (FW.t4 rh1054_0)) (hs_s eh1060)
                have rh1060_1 : PW p B hh1060 := PW.hs rh1054_1 (by omega) eh1060
                have rh1060_2 : GPc hp hh1060 gp (c) (P) := FW.gp rh1054_0 rh1054_2 (fun x e hx he => by rw [eh1060, hset_n _ _ (by omega)]; exact he)
                have rh1060_3 : RP hp 84 hh1060 (r1056) ((Q) (k)) := (gh1056).of (fun x hx => by rw [eh1060, hset_n _ _ (by omega)])
                refine g_iinc 0 (ls2 := [(3, .int (gI (k + (-1)))), (2, .int (gI (0))), (1, .int (gI (L))), (0, .ref (f))]) dX0_gatherRoots_119 rfl (by decide) rfl ?_
                refine g_goto (tgt := 77) dX0_gatherRoots_122 rfl ?_
                exact ih_lk _ (by omega) (k + (-1)) ((rn1) + (1)) (gup (gR1) (rn1) (((p : Int)) - (cf ((Q) (k)) (0)))) hh1060 rfl fr_lk rh1060_0 rh1060_1 rh1060_2 (by omega) (by omega) (⟨fun i i0 i1 => by
                                                                      unfold gup
                                                                      by_cases z : i = rn1
                                                                      · rw [if_pos z, show L - 1 - (i - 0) = k by omega]
                                                                      · rw [if_neg z]; exact hr.1 i i0 (by omega), fun e9 => by
                                                                      unfold gup
                                                                      rw [if_neg (by omega)]; exact hr.2 e9⟩)
            exact lk _ (L - 1) (0) (gR) hll rfl fr_ll cr_ll_0 cr_ll_1 cr_ll_2 (by omega) (by omega) (⟨fun i i0 i1 => by omega, fun e9 => by omega⟩)
          · skip
            have hz := gcmp_eq.mp c952
            refine g_aload_n 2 dX0_gatherRoots_54 rfl ?_
            refine g_getf 7 dX0_gatherRoots_55 kX0 (by decide) fX0_27 (FW.ob cr_ll_0) rfl ?_
            refine g_aload_n 2 dX0_gatherRoots_58 rfl ?_
            refine g_dup dX0_gatherRoots_59 rfl ?_
            refine g_getf 13 dX0_gatherRoots_60 kX0 (by decide) fX0_68 (FW.ob cr_ll_0) rfl ?_
            refine g_dup_x1 dX0_gatherRoots_63 rfl rfl ?_
            refine g_iconst dX0_gatherRoots_64 ?_
            refine g_iadd dX0_gatherRoots_65 ?_
            refine g_putf 13 dX0_gatherRoots_66 kX0 (by decide) fX0_68 rfl (FW.ob cr_ll_0) (Nat.le_of_ble_eq_true rfl) rfl rfl ?_
            obtain ⟨hh1161, eh1161⟩ : ∃ z : GH, z = hset hll (f) (oB 0 [.ref (B + 1), .ref (B + 7), .ref (f + 12), .ref (f + 1), .ref (f + 2), .ref (f + 3), .ref (f + 4), .ref (f + 5), .ref (f + 6), .ref (f + 8), .ref (f + 10), .int (gI (n)), .int (gI (pn)), .int (gI ((0) + (1))), .int (gI (tg)), .long (gJ (le))]) := ⟨_, rfl⟩
            refine Go.hp eh1161.symm ?_
            have rh1161_0 : FW hp B f h0 gr0 gp0 hh1161 gr gp gt gq gR n pn ((0) + (1)) tg le sz n (Q) := FW.cell cr_ll_0 (by rw [eh1161]; rfl) (fun x x1 x2 x3 x4 => by rw [eh1161, hset_n _ _ x1]) (hs_s eh1161) (hs_n eh1161 (show NE (f + 2) (f) by unfold NE; omega) (FW.t2 cr_ll_0)) (hs_n eh1161 (show NE (f + 4) (f) by unfold NE; omega) (FW.t4 cr_ll_0)) (hs_n eh1161 (show NE (f + 5) (f) by unfold NE; omega) (FW.t5 cr_ll_0))
            have rh1161_1 : PW p B hh1161 := PW.hs cr_ll_1 (by omega) eh1161
            have rh1161_2 : GPc hp hh1161 gp (c) (P) := FW.gp cr_ll_0 cr_ll_2 (fun x e hx he => by rw [eh1161, hset_n _ _ (by omega)]; exact he)
            have rh1161_3 : RP hp 84 hh1161 (r948) ((Q) (0)) := (gh948).of (fun x hx => by rw [eh1161, hset_n _ _ (by omega)])
            refine g_lconst0 dX0_gatherRoots_69 ?_
            refine g_lastore dX0_gatherRoots_70 (FW.t5 rh1161_0) (by omega) (by omega) (by omega) ?_
            obtain ⟨hh1162, eh1162⟩ : ∃ z : GH, z = hset hh1161 (f + 5) (aJ 40 (gup (gR) (0) (0))) := ⟨_, rfl⟩
            refine Go.hp eh1162.symm ?_
            have rh1162_0 : FW hp B f h0 gr0 gp0 hh1162 gr gp gt gq (gup (gR) (0) (0)) n pn ((0) + (1)) tg le sz n (Q) := FW.cell rh1161_0 (by rw [eh1162]; rfl) (fun x x1 x2 x3 x4 => by rw [eh1162, hset_n _ _ x4]) (hs_n eh1162 (show NE (f) (f + 5) by unfold NE; omega) (FW.ob rh1161_0)) (hs_n eh1162 (show NE (f + 2) (f + 5) by unfold NE; omega) (FW.t2 rh1161_0)) (hs_n eh1162 (show NE (f + 4) (f + 5) by unfold NE; omega) (FW.t4 rh1161_0)) (hs_s eh1162)
            have rh1162_1 : PW p B hh1162 := PW.hs rh1161_1 (by omega) eh1162
            have rh1162_2 : GPc hp hh1162 gp (c) (P) := FW.gp rh1161_0 rh1161_2 (fun x e hx he => by rw [eh1162, hset_n _ _ (by omega)]; exact he)
            have rh1162_3 : RP hp 84 hh1162 (r948) ((Q) (0)) := (rh1161_3).of (fun x hx => by rw [eh1162, hset_n _ _ (by omega)])
            refine g_iconst dX0_gatherRoots_71 ?_
            refine g_istore_n (ls2 := [(2, .int (gI (1))), (1, .int (gI (L))), (0, .ref (f))]) dX0_gatherRoots_72 rfl (by decide) rfl ?_
            have hfi : ((1 : Int) = 0 ∧ (L ≤ 0 ∨ cf (Q 0) 0 ≠ 0)) ∨ ((1 : Int) = 1 ∧ 0 < L ∧ cf (Q 0) 0 = 0) := Or.inr ⟨rfl, by omega, by omega⟩
            refine g_iload_n 1 dX0_gatherRoots_73 rfl ?_
            refine g_iconst dX0_gatherRoots_74 ?_
            refine g_isub dX0_gatherRoots_75 ?_
            refine g_istore_n (ls2 := [(3, .int (gI ((L) - (1)))), (2, .int (gI (1))), (1, .int (gI (L))), (0, .ref (f))]) dX0_gatherRoots_76 rfl (by decide) rfl ?_
            have lk : ∀ (kk : Nat) (k : Int) (rn1 : Int) (gR1 : Int → Int) (hlk : GH), kk = (k + 1).toNat → True → FW hp B f h0 gr0 gp0 hlk gr gp gt gq gR1 n pn rn1 tg le sz n (Q) → PW p B hlk → GPc hp hlk gp (c) (P) → (1 - 1 ≤ k ∧ k ≤ L - 1) → (rn1 = 1 + (L - 1 - k)) → (rtI p Q L 1 rn1 gR1) → Go N mX0_gatherRoots (fun v h1 => v = none ∧ ∃ L gR1, PW p B h1 ∧ GPc hp h1 gp c P ∧ FW hp B f h0 gr0 gp0 h1 gr gp gt gq gR1 n pn L tg le sz n Q ∧ L ≤ n ∧ (rN hp F : Int) = L ∧ ∀ i : Int, 0 ≤ i → i < L → rR hp F i = gR1 i) 0 0 hlk 77 [(3, .int (gI (k))), (2, .int (gI (1))), (1, .int (gI (L))), (0, .ref (f))] [] := by
              refine Go.ind (fun kk ih_lk => ?_)
              intro k rn1 gR1 hlk hkk_lk fr_lk cr_lk_0 cr_lk_1 cr_lk_2 hk hrn hr
              refine g_iload_n 0 dX0_gatherRoots_77 rfl ?_
              refine g_iload_n 1 dX0_gatherRoots_78 rfl ?_
              refine g_icmp_lt (tgt := 125) dX0_gatherRoots_79 rfl (by first | assumption | (unfold gW; omega) | (unfold gW; split <;> omega)) (by first | assumption | (unfold gW; omega) | (unfold gW; split <;> omega)) (fun c1263 => ?_) (fun c1263 => ?_)
              · skip
                exact g_vret dX0_gatherRoots_125 rfl ⟨rfl, L, gR1, cr_lk_1, cr_lk_2, (by
                                                                      have e9 : rn1 = L := by omega
                                                                      have e8 := cr_lk_0
                                                                      rw [e9] at e8; exact e8), hL.2, rtI_e hp hf hs hfN hfP hL hl hx hfi (by
                                                                      have e9 : rn1 = L := by omega
                                                                      rw [e9] at hr; exact hr)⟩
              · skip
                refine g_aload_n 3 dX0_gatherRoots_82 rfl ?_
                refine g_getf 7 dX0_gatherRoots_83 kX0 (by decide) fX0_27 (FW.ob cr_lk_0) rfl ?_
                refine g_aload_n 3 dX0_gatherRoots_86 rfl ?_
                refine g_dup dX0_gatherRoots_87 rfl ?_
                refine g_getf 13 dX0_gatherRoots_88 kX0 (by decide) fX0_68 (FW.ob cr_lk_0) rfl ?_
                refine g_dup_x1 dX0_gatherRoots_91 rfl rfl ?_
                refine g_iconst dX0_gatherRoots_92 ?_
                refine g_iadd dX0_gatherRoots_93 ?_
                refine g_putf 13 dX0_gatherRoots_94 kX0 (by decide) fX0_68 rfl (FW.ob cr_lk_0) (Nat.le_of_ble_eq_true rfl) rfl rfl ?_
                obtain ⟨hh1264, eh1264⟩ : ∃ z : GH, z = hset hlk (f) (oB 0 [.ref (B + 1), .ref (B + 7), .ref (f + 12), .ref (f + 1), .ref (f + 2), .ref (f + 3), .ref (f + 4), .ref (f + 5), .ref (f + 6), .ref (f + 8), .ref (f + 10), .int (gI (n)), .int (gI (pn)), .int (gI ((rn1) + (1))), .int (gI (tg)), .long (gJ (le))]) := ⟨_, rfl⟩
                refine Go.hp eh1264.symm ?_
                have rh1264_0 : FW hp B f h0 gr0 gp0 hh1264 gr gp gt gq gR1 n pn ((rn1) + (1)) tg le sz n (Q) := FW.cell cr_lk_0 (by rw [eh1264]; rfl) (fun x x1 x2 x3 x4 => by rw [eh1264, hset_n _ _ x1]) (hs_s eh1264) (hs_n eh1264 (show NE (f + 2) (f) by unfold NE; omega) (FW.t2 cr_lk_0)) (hs_n eh1264 (show NE (f + 4) (f) by unfold NE; omega) (FW.t4 cr_lk_0)) (hs_n eh1264 (show NE (f + 5) (f) by unfold NE; omega) (FW.t5 cr_lk_0))
                have rh1264_1 : PW p B hh1264 := PW.hs cr_lk_1 (by omega) eh1264
                have rh1264_2 : GPc hp hh1264 gp (c) (P) := FW.gp cr_lk_0 cr_lk_2 (fun x e hx he => by rw [eh1264, hset_n _ _ (by omega)]; exact he)
                refine g_aload_n 3 dX0_gatherRoots_97 rfl ?_
                refine g_getf 0 dX0_gatherRoots_98 kX0 (by decide) fX0_44 (FW.ob rh1264_0) rfl ?_
                refine g_getf 0 dX0_gatherRoots_101 kX1 (by decide) fX0_103 (rh1264_1).2.1 rfl ?_
                refine g_i2l dX0_gatherRoots_104 (by first | assumption | (unfold gW; omega) | (unfold gW; split <;> omega)) ?_
                refine g_aload_n 3 dX0_gatherRoots_105 rfl ?_
                refine g_getf 3 dX0_gatherRoots_106 kX0 (by decide) fX0_11 (FW.ob rh1264_0) rfl ?_
                refine g_iload_n 0 dX0_gatherRoots_109 rfl ?_
                obtain ⟨r1266, ga1266, gh1266⟩ := (rh1264_0).2.2.1 (k) (by omega) (by omega)
                have gb1266 := FW.lr rh1264_0 ga1266
                refine g_callS (nc2 := 0) (ns2 := 0) (As := [.ref (f + 1), .int (gI (k))]) (st := [.long (gJ ((p : Int))), .int (gI (rn1)), .ref (f + 5)]) rfl dX0_gatherRoots_110 okX5_in lX0_122 stX5_in (by decide) (by decide) rfl (Nat.le_of_ble_eq_true rfl) (sL_in0 N _ (f + 1) 40 r1266 (gr) (k) ⟨by omega, by omega⟩ (by omega) (FW.ls rh1264_0) ga1266) (by omega) (by omega) (fun v1265 hc1265 q1265 => ?_)
                obtain ⟨hq1266, rfl⟩ := q1265
                refine Go.nf (h' := hh1264) (st' := [.ref (r1266), .long (gJ ((p : Int))), .int (gI (rn1)), .ref (f + 5)]) hq1266 rfl (Nat.le_refl _) (Nat.le_refl _) ?_
                refine g_iconst dX0_gatherRoots_113 ?_
                have hcf1268 := cf_in ((Q) (k)) hp 0
                refine g_callV (nc2 := 0) (ns2 := 0) (ci := 5) (As := [.int (gI (0))]) (st := [.long (gJ ((p : Int))), .int (gI (rn1)), .ref (f + 5)]) rfl dX0_gatherRoots_114 okX5_number lX0_156 itX5_number seX5_number rfl (gh1266).o (by decide) (by decide) rfl (Nat.le_of_ble_eq_true rfl) (sP_number N _ (r1266) 84 p hp ((Q) (k)) (0) (by unfold gW; omega) gh1266) (by omega) (by omega) (fun v1267 hc1267 q1267 => ?_)
                obtain ⟨hq1269, rfl⟩ := q1267
                refine Go.nf (h' := hh1264) (st' := [.long (gJ (cf ((Q) (k)) (0))), .long (gJ ((p : Int))), .int (gI (rn1)), .ref (f + 5)]) hq1269 rfl (Nat.le_refl _) (Nat.le_refl _) ?_
                refine g_lsub dX0_gatherRoots_117 ?_
                refine g_lastore dX0_gatherRoots_118 (FW.t5 rh1264_0) (by omega) (by omega) (by omega) ?_
                obtain ⟨hh1270, eh1270⟩ : ∃ z : GH, z = hset hh1264 (f + 5) (aJ 40 (gup (gR1) (rn1) (((p : Int)) - (cf ((Q) (k)) (0))))) := ⟨_, rfl⟩
                refine Go.hp eh1270.symm ?_
                have rh1270_0 : FW hp B f h0 gr0 gp0 hh1270 gr gp gt gq (gup (gR1) (rn1) (((p : Int)) - (cf ((Q) (k)) (0)))) n pn ((rn1) + (1)) tg le sz n (Q) := FW.cell rh1264_0 (by rw [eh1270]; rfl) (fun x x1 x2 x3 x4 => by rw [eh1270, hset_n _ _ x4]) (hs_n eh1270 (show NE (f) (f + 5) by unfold NE; omega) (FW.ob rh1264_0)) (hs_n eh1270 (show NE (f + 2) (f + 5) by unfold NE; omega) (FW.t2 rh1264_0)) (hs_n eh1270 (show NE (f + 4) (f + 5) by unfold NE; omega) (FW.t4 rh1264_0)) (hs_s eh1270)
                have rh1270_1 : PW p B hh1270 := PW.hs rh1264_1 (by omega) eh1270
                have rh1270_2 : GPc hp hh1270 gp (c) (P) := FW.gp rh1264_0 rh1264_2 (fun x e hx he => by rw [eh1270, hset_n _ _ (by omega)]; exact he)
                have rh1270_3 : RP hp 84 hh1270 (r1266) ((Q) (k)) := (gh1266).of (fun x hx => by rw [eh1270, hset_n _ _ (by omega)])
                refine g_iinc 0 (ls2 := [(3, .int (gI (k + (-1)))), (2, .int (gI (1))), (1, .int (gI (L))), (0, .ref (f))]) dX0_gatherRoots_119 rfl (by decide) rfl ?_
                refine g_goto (tgt := 77) dX0_gatherRoots_122 rfl ?_
                exact ih_lk _ (by omega) (k + (-1)) ((rn1) + (1)) (gup (gR1) (rn1) (((p : Int)) - (cf ((Q) (k)) (0)))) hh1270 rfl fr_lk rh1270_0 rh1270_1 rh1270_2 (by omega) (by omega) (⟨fun i i0 i1 => by
                                                                      unfold gup
                                                                      by_cases z : i = rn1
                                                                      · rw [if_pos z, show L - 1 - (i - 1) = k by omega]
                                                                      · rw [if_neg z]; exact hr.1 i i0 (by omega), fun e9 => by
                                                                      unfold gup
                                                                      rw [if_neg (by omega)]; exact hr.2 e9⟩)
            exact lk _ (L - 1) ((0) + (1)) (gup (gR) (0) (0)) hh1162 rfl fr_ll rh1162_0 rh1162_1 rh1162_2 (by omega) (by omega) (⟨fun i i0 i1 => by omega, fun e9 => by unfold gup; rw [if_pos (by omega)]⟩)
      · skip
        refine g_iinc 0 (ls2 := [(1, .int (gI (L + 1))), (0, .ref (f))]) dX0_gatherRoots_25 rfl (by decide) rfl ?_
        refine g_goto (tgt := 2) dX0_gatherRoots_28 rfl ?_
        exact ih_ll _ (by omega) (L + 1) hll rfl fr_ll cr_ll_0 cr_ll_1 cr_ll_2 (by omega) (fun i i0 i1 => by
                                                                      rcases Int.lt_or_le i L with z | z
                                                                      · exact hl i i0 z
                                                                      · rw [show i = L by omega]; omega)
  exact ll _ (0) h rfl trivial hF hw hG (by omega) (fun i i0 i1 => by omega)
