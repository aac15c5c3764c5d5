theorem sub_n {L : List Nat} : ∀ x, x ∈ ([] : List Nat) → x ∈ L := fun _ h => absurd h (List.not_mem_nil)
theorem sub_c {a : Nat} {L L2 : List Nat} (h : a ∈ L) (t : ∀ x, x ∈ L2 → x ∈ L) : ∀ x, x ∈ a :: L2 → x ∈ L := fun x hx => by
  rcases List.mem_cons.mp hx with z | z
  · subst z; exact h
  · exact t x z
theorem mn_le (x : Int) (n : Nat) : (((if x < n then x + 1 else (n : Int)).toNat : Nat) : Int) ≤ n := by split <;> omega
theorem gF_at (g c : Int → Int) (k : Int) : gF g c k k = g k := by unfold gF; rw [if_neg (by omega)]
section
variable {p : Nat}
/-- the division is done -/
theorem rdI_end (h : prm p) {gr gb L Q : Int → Int} {d e U i : Int} {fb : Px p} (hp : p ≤ 65536) (he : 0 ≤ e) (hd : -1 ≤ d) (hfb : PO h e gb fb) (H : rdI h gr gb d e U i L Q) (hi : i < e) (n l : Nat) (hl : d - e < l) (hl1 : 1 ≤ l) (hn : d < n) (hn1 : 1 ≤ n) :
    PO h (tdg Q (if d - e < l then d - e + 1 else l).toNat) Q (qt h (ph h gr d) fb) ∧ PO h (tdg (gF L (fun j => L j % p) (if e ≤ d + 1 then e else d + 1)) (if (if d < e - 1 then d else e - 1) < n then (if d < e - 1 then d else e - 1) + 1 else n).toNat) (gF L (fun j => L j % p) (if e ≤ d + 1 then e else d + 1)) (rm h (ph h gr d) fb) := by
  obtain ⟨a1, a2, a3, a4, a5, a6, a7⟩ := H
  have hp1 := h.1
  have hde : dgi h fb = e := hfb.dgi
  have e1 : letI := pR h; ph h gr d = phq h Q (i - e) (d - e) * fb + ph h L i := by rw [hfb.2.2.2]; exact a7
  have e2 : phq h Q (i - e) (d - e) = ph h Q (d - e) := funext fun k => by
    letI := fR h
    show (if i - e < (k : Int) ∧ (k : Int) ≤ d - e then zi h (Q k) else 0) = (if (k : Int) ≤ d - e then zi h (Q k) else 0)
    by_cases z : (k : Int) ≤ d - e
    · rw [if_pos ⟨by omega, z⟩, if_pos z]
    · rw [if_neg (by omega), if_neg z]
  rw [e2] at e1
  obtain ⟨t, ht⟩ : ∃ t : Int, t = (if d < e - 1 then d else e - 1) := ⟨_, rfl⟩
  have ht2 : (t = d ∧ d < e - 1 ∧ i = d) ∨ (t = e - 1 ∧ e - 1 ≤ d ∧ i = e - 1) := by rw [ht]; split <;> omega
  have hk : (if e ≤ d + 1 then e else d + 1) = t + 1 := by split <;> omega
  have hm : (if t < (n : Int) then t + 1 else (n : Int)).toNat = (t + 1).toNat := by rw [if_pos (by omega)]
  rw [← ht, hk, hm]
  have e3 : ph h (gF L (fun j => L j % p) (t + 1)) t = ph h L i := funext fun k => by
    letI := fR h
    show (if (k : Int) ≤ t then zi h (gF L (fun j => L j % p) (t + 1) k) else 0) = (if (k : Int) ≤ i then zi h (L k) else 0)
    by_cases z : (k : Int) ≤ t
    · rw [if_pos z, if_pos (by omega)]
      unfold gF
      rw [if_pos (by omega)]
      exact zi_mod h _
    · rw [if_neg z, if_neg (by omega)]
  have hrl : dl (fR h) (ph h L i) (dgi h fb).toNat := fun k hk => by
    letI := fR h
    rw [hde] at hk
    show (if (k : Int) ≤ i then zi h (L k) else 0) = 0
    rw [if_neg (by omega)]
  obtain ⟨u1, u2⟩ := qr_un h (ph_po h gr d) hfb.po (by omega) (ph_po h Q (d - e)) e1 hrl
  refine ⟨?_, ?_⟩
  · rw [← u1, if_pos hl]
    rcases Int.lt_or_le (d - e) 0 with z | z
    · have e4 : ph h Q (d - e) = ph h Q (-1) := funext fun k => by
        letI := fR h
        show (if (k : Int) ≤ d - e then zi h (Q k) else 0) = (if (k : Int) ≤ -1 then zi h (Q k) else 0)
        rw [if_neg (by omega), if_neg (by omega)]
      rw [e4, show (d - e + 1).toNat = 0 by omega]
      exact PO.td (m := 0) (t := -1) (by omega) (fun k k0 k1 => by omega)
    · exact PO.td (m := (d - e + 1).toNat) (t := d - e) (by omega) (fun k k0 k1 => a5 k (by omega) k1)
  · rw [← u2, ← e3]
    refine PO.td (m := (t + 1).toNat) (t := t) (by omega) (fun k k0 k1 => ?_)
    unfold gF
    rw [if_pos (by omega)]
    exact ⟨Int.emod_nonneg _ (by omega), Int.emod_lt_of_pos _ (by omega)⟩
end
set_option maxHeartbeats 4000000 in
set_option maxRecDepth 100000 in
theorem sP_reduce (N : GN) (h : GH) (B r b q n m l p : Nat) (hp : prm p) (hp2 : p ≤ 65536) (d U : Int) (f fb : Px p) (hU : 0 ≤ U ∧ U ≤ 17592186044416) (hth : h.2 (B + 7) = some (oB 2 [.ref (B + 1), .ref (B + 8), .ref (B + 10), .ref (B + 12), .ref (B + 14), .ref (B + 16), .ref (B + 18), .ref (B + 20), .ref (B + 22)])) (hfl : h.2 (B + 1) = some (oB 1 [.int (gI ((p : Int)))])) (hr : RU hp n h r d U f) (hb : RP hp m h b fb) (hq : RA l h q) (hdl : d - dgi hp fb < l) (he0 : 0 ≤ dgi hp fb) (arb : AP r b) (arq : AP r q) (abq : AP b q) (or1 : B + 8 ≤ r) (ob1 : B + 8 ≤ b) (oq1 : B + 8 ≤ q) : Sp N yX2_reduce mX2_reduce 0 0 [.ref (B + 7), .ref (r), .ref (b), .ref (q)] h (fun v h1 => v = none ∧ Fr [r, q] h h1 ∧ RP hp n h1 r (rm hp f fb) ∧ RP hp l h1 q (qt hp f fb)) := by
  refine Sp.of (by decide) rfl rfl (Nat.le_of_ble_eq_true rfl) ?_
  show Go N mX2_reduce _ 0 0 h 0 [(0, .ref (B + 7)), (1, .ref (r)), (2, .ref (b)), (3, .ref (q))] []
  obtain ⟨gr, ⟨hr1, hr2, hr3, hr4, hr5, hr6, hr7⟩, hgr, hfr⟩ := hr
  obtain ⟨gb, ⟨hb1, hb2, hb3, hb4, hb5, hb6, hb7⟩, hPb⟩ := hb
  obtain ⟨dq, gq, hq1, hq2, hq3, hq4, hq5, hq6, hq7⟩ := hq
  have hp1 := hp.1
  obtain ⟨e, hee⟩ : ∃ e, e = dgi hp fb := ⟨_, rfl⟩
  rw [← hee] at hb1 hb4 hb5 hPb hdl he0
  have hiv := ivr_in hp (gb e)
  have hgb := hPb.2.1
  have hge := hPb.2.2.1 he0
  have hge2 := hgb e he0 (Int.le_refl _)
  have ne0 : NE (B + 7) (B + 1) := by unfold NE; omega
  have ne1 : NE (B + 7) (r) := by unfold NE; omega
  have ne2 : NE (B + 7) (r + 1) := by unfold NE; omega
  have ne3 : NE (B + 7) (b) := by unfold NE; omega
  have ne4 : NE (B + 7) (b + 1) := by unfold NE; omega
  have ne5 : NE (B + 7) (q) := by unfold NE; omega
  have ne6 : NE (B + 7) (q + 1) := by unfold NE; omega
  have ne7 : NE (B + 1) (r) := by unfold NE; omega
  have ne8 : NE (B + 1) (r + 1) := by unfold NE; omega
  have ne9 : NE (B + 1) (b) := by unfold NE; omega
  have ne10 : NE (B + 1) (b + 1) := by unfold NE; omega
  have ne11 : NE (B + 1) (q) := by unfold NE; omega
  have ne12 : NE (B + 1) (q + 1) := by unfold NE; omega
  have ne13 : NE (r) (r + 1) := by unfold NE; omega
  have ne14 : NE (r) (b) := arb.n00
  have ne15 : NE (r) (b + 1) := arb.n01
  have ne16 : NE (r) (q) := arq.n00
  have ne17 : NE (r) (q + 1) := arq.n01
  have ne18 : NE (r + 1) (b) := arb.n10
  have ne19 : NE (r + 1) (b + 1) := arb.n11
  have ne20 : NE (r + 1) (q) := arq.n10
  have ne21 : NE (r + 1) (q + 1) := arq.n11
  have ne22 : NE (b) (b + 1) := by unfold NE; omega
  have ne23 : NE (b) (q) := abq.n00
  have ne24 : NE (b) (q + 1) := abq.n01
  have ne25 : NE (b + 1) (q) := abq.n10
  have ne26 : NE (b + 1) (q + 1) := abq.n11
  have ne27 : NE (q) (q + 1) := by unfold NE; omega
  have rest : ∀ hz : GH, Fr [r, q] h hz → hz.2 (r) = some (oB 5 [.ref (r + 1), .int (gI (d))]) → hz.2 (r + 1) = some (aJ n (gr)) → hz.2 (q) = some (oB 5 [.ref (q + 1), .int (gI (-1))]) → hz.2 (q + 1) = some (aJ l (gq)) → Go N mX2_reduce (fun v h1 => v = none ∧ Fr [r, q] h h1 ∧ RP hp n h1 r (rm hp f fb) ∧ RP hp l h1 q (qt hp f fb)) 0 0 hz 80 [(9, .ref (r + 1)), (8, .ref (b + 1)), (6, .long (gJ ((p : Int)))), (5, .int (gI (d))), (4, .int (gI (e))), (0, .ref (B + 7)), (1, .ref (r)), (2, .ref (b)), (3, .ref (q))] [.long (gJ (ivr p (gb e)))] := by
    intro hz frz z0 z1 z2 z3
    have y0 : hz.2 (B + 7) = some (oB 2 [.ref (B + 1), .ref (B + 8), .ref (B + 10), .ref (B + 12), .ref (B + 14), .ref (B + 16), .ref (B + 18), .ref (B + 20), .ref (B + 22)]) := Fr.at0 frz (Ni.c ⟨ne1, ne2⟩ (Ni.c ⟨ne5, ne6⟩ (Ni.n _))) hth
    have y1 : hz.2 (B + 1) = some (oB 1 [.int (gI ((p : Int)))]) := Fr.at0 frz (Ni.c ⟨ne7, ne8⟩ (Ni.c ⟨ne11, ne12⟩ (Ni.n _))) hfl
    have y2 : hz.2 (b) = some (oB 5 [.ref (b + 1), .int (gI (e))]) := Fr.at0 frz (Ni.c ⟨(ne14).s, (ne18).s⟩ (Ni.c ⟨ne23, ne24⟩ (Ni.n _))) hb1
    have y3 : hz.2 (b + 1) = some (aJ m (gb)) := Fr.at0 frz (Ni.c ⟨(ne15).s, (ne19).s⟩ (Ni.c ⟨ne25, ne26⟩ (Ni.n _))) hb2
    refine g_lstore (ls2 := [(10, .long (gJ (ivr p (gb e)))), (9, .ref (r + 1)), (8, .ref (b + 1)), (6, .long (gJ ((p : Int)))), (5, .int (gI (d))), (4, .int (gI (e))), (0, .ref (B + 7)), (1, .ref (r)), (2, .ref (b)), (3, .ref (q))]) dX2_reduce_80 (by decide) rfl ?_
    refine g_iload 4 dX2_reduce_82 rfl ?_
    refine g_istore (ls2 := [(12, .int (gI (d))), (10, .long (gJ (ivr p (gb e)))), (9, .ref (r + 1)), (8, .ref (b + 1)), (6, .long (gJ ((p : Int)))), (5, .int (gI (d))), (4, .int (gI (e))), (0, .ref (B + 7)), (1, .ref (r)), (2, .ref (b)), (3, .ref (q))]) dX2_reduce_84 (by decide) rfl ?_
    have lp : ∀ (kk : Nat) (i : Int) (L : Int → Int) (Q : Int → Int) (hlp : GH), kk = (i + 1).toNat → Fr [r, q] h hlp → hlp.2 (r) = some (oB 5 [.ref (r + 1), .int (gI (d))]) → hlp.2 (r + 1) = some (aJ n (L)) → hlp.2 (q) = some (oB 5 [.ref (q + 1), .int (gI (-1))]) → hlp.2 (q + 1) = some (aJ l (Q)) → (rdI hp gr gb d e U i L Q) → Go N mX2_reduce (fun v h1 => v = none ∧ Fr [r, q] h h1 ∧ RP hp n h1 r (rm hp f fb) ∧ RP hp l h1 q (qt hp f fb)) 0 0 hlp 86 [(12, .int (gI (i))), (10, .long (gJ (ivr p (gb e)))), (9, .ref (r + 1)), (8, .ref (b + 1)), (6, .long (gJ ((p : Int)))), (5, .int (gI (d))), (4, .int (gI (e))), (0, .ref (B + 7)), (1, .ref (r)), (2, .ref (b)), (3, .ref (q))] [] := by
      refine Go.ind (fun kk ih_lp => ?_)
      intro i L Q hlp hkk_lp fr_lp cf_lp_0 cf_lp_1 cf_lp_2 cf_lp_3 H
      have cg_lp_0 : hlp.2 (B + 7) = some (oB 2 [.ref (B + 1), .ref (B + 8), .ref (B + 10), .ref (B + 12), .ref (B + 14), .ref (B + 16), .ref (B + 18), .ref (B + 20), .ref (B + 22)]) := Fr.at0 fr_lp (Ni.c ⟨ne1, ne2⟩ (Ni.c ⟨ne5, ne6⟩ (Ni.n _))) hth
      have cg_lp_1 : hlp.2 (B + 1) = some (oB 1 [.int (gI ((p : Int)))]) := Fr.at0 fr_lp (Ni.c ⟨ne7, ne8⟩ (Ni.c ⟨ne11, ne12⟩ (Ni.n _))) hfl
      have cg_lp_4 : hlp.2 (b) = some (oB 5 [.ref (b + 1), .int (gI (e))]) := Fr.at0 fr_lp (Ni.c ⟨(ne14).s, (ne18).s⟩ (Ni.c ⟨ne23, ne24⟩ (Ni.n _))) hb1
      have cg_lp_5 : hlp.2 (b + 1) = some (aJ m (gb)) := Fr.at0 fr_lp (Ni.c ⟨(ne15).s, (ne19).s⟩ (Ni.c ⟨ne25, ne26⟩ (Ni.n _))) hb2
      have hHd := H.1
      have hHe := H.2.1
      refine g_iload 0 dX2_reduce_86 rfl ?_
      refine g_iload 6 dX2_reduce_88 rfl ?_
      refine g_icmp_lt (tgt := 180) dX2_reduce_90 rfl (by unfold gW; omega) (by unfold gW; omega) (fun c1101 => ?_) (fun c1101 => ?_)
      · skip
        refine g_aload_n 10 dX2_reduce_180 rfl ?_
        refine g_iload 5 dX2_reduce_181 rfl ?_
        refine g_iload 6 dX2_reduce_183 rfl ?_
        refine g_isub dX2_reduce_185 ?_
        refine g_callV (nc2 := 0) (ns2 := 0) (ci := 5) (As := [.int (gI ((d) - (e)))]) (st := []) rfl dX2_reduce_186 okX5_settle lX2_70 itX5_settle seX5_settle rfl cf_lp_2 (by decide) (by decide) rfl (Nat.le_of_ble_eq_true rfl) (sX5_settle N _ (q) (q + 1) _ _ (((d) - (e))) _ (by omega) (by omega) H.2.2.2.2.2.1 (by unfold gW; omega) (by omega) cf_lp_2 cf_lp_3 ne27) (by omega) (by omega) (fun v1102 hc1102 q1102 => ?_)
        obtain ⟨rfl, hqs1103⟩ := q1102
        have fs1103_0 : hc1102.2 (B + 7) = some (oB 2 [.ref (B + 1), .ref (B + 8), .ref (B + 10), .ref (B + 12), .ref (B + 14), .ref (B + 16), .ref (B + 18), .ref (B + 20), .ref (B + 22)]) := hs_n hqs1103 ne5 cg_lp_0
        have fs1103_1 : hc1102.2 (B + 1) = some (oB 1 [.int (gI ((p : Int)))]) := hs_n hqs1103 ne11 cg_lp_1
        have fs1103_2 : hc1102.2 (b) = some (oB 5 [.ref (b + 1), .int (gI (e))]) := hs_n hqs1103 ne23 cg_lp_4
        have fs1103_3 : hc1102.2 (b + 1) = some (aJ m (gb)) := hs_n hqs1103 ne25 cg_lp_5
        have fs1103_4 : hc1102.2 (r) = some (oB 5 [.ref (r + 1), .int (gI (d))]) := hs_n hqs1103 ne16 cf_lp_0
        have fs1103_5 : hc1102.2 (r + 1) = some (aJ n (L)) := hs_n hqs1103 ne20 cf_lp_1
        have fs1103_6 : hc1102.2 (q) = some (oB 5 [.ref (q + 1), .int (gI (tdg (Q) (if ((d) - (e)) < l then ((d) - (e)) + 1 else l).toNat))]) := hs_s hqs1103
        have fs1103_7 : hc1102.2 (q + 1) = some (aJ l (Q)) := hs_n hqs1103 (ne27).s cf_lp_3
        have fr1103 : Fr [r, q] h hc1102 := Fr.w0 fr_lp (List.Mem.tail _ (List.Mem.head _)) hqs1103
        refine Go.nf (h' := hc1102) (st' := []) rfl rfl (Nat.le_refl _) (Nat.le_refl _) ?_
        refine g_iconst dX2_reduce_189 ?_
        refine g_istore (ls2 := [(12, .int (gI (0))), (10, .long (gJ (ivr p (gb e)))), (9, .ref (r + 1)), (8, .ref (b + 1)), (6, .long (gJ ((p : Int)))), (5, .int (gI (d))), (4, .int (gI (e))), (0, .ref (B + 7)), (1, .ref (r)), (2, .ref (b)), (3, .ref (q))]) dX2_reduce_190 (by decide) rfl ?_
        have lz : ∀ (kk : Nat) (k : Int) (hlz : GH), kk = (e + 1 - k).toNat → Fr [r, q] h hlz → hlz.2 (r) = some (oB 5 [.ref (r + 1), .int (gI (d))]) → hlz.2 (r + 1) = some (aJ n (gF L (fun j => L j % p) k)) → hlz.2 (q) = some (oB 5 [.ref (q + 1), .int (gI (tdg (Q) (if ((d) - (e)) < l then ((d) - (e)) + 1 else l).toNat))]) → hlz.2 (q + 1) = some (aJ l (Q)) → (0 ≤ k) → (k ≤ e ∧ k ≤ d + 1) → Go N mX2_reduce (fun v h1 => v = none ∧ Fr [r, q] h h1 ∧ RP hp n h1 r (rm hp f fb) ∧ RP hp l h1 q (qt hp f fb)) 0 0 hlz 192 [(12, .int (gI (k))), (10, .long (gJ (ivr p (gb e)))), (9, .ref (r + 1)), (8, .ref (b + 1)), (6, .long (gJ ((p : Int)))), (5, .int (gI (d))), (4, .int (gI (e))), (0, .ref (B + 7)), (1, .ref (r)), (2, .ref (b)), (3, .ref (q))] [] := by
          refine Go.ind (fun kk ih_lz => ?_)
          intro k hlz hkk_lz fr_lz cf_lz_0 cf_lz_1 cf_lz_2 cf_lz_3 hk0 hk1
          have cg_lz_0 : hlz.2 (B + 7) = some (oB 2 [.ref (B + 1), .ref (B + 8), .ref (B + 10), .ref (B + 12), .ref (B + 14), .ref (B + 16), .ref (B + 18), .ref (B + 20), .ref (B + 22)]) := Fr.at0 fr_lz (Ni.c ⟨ne1, ne2⟩ (Ni.c ⟨ne5, ne6⟩ (Ni.n _))) hth
          have cg_lz_1 : hlz.2 (B + 1) = some (oB 1 [.int (gI ((p : Int)))]) := Fr.at0 fr_lz (Ni.c ⟨ne7, ne8⟩ (Ni.c ⟨ne11, ne12⟩ (Ni.n _))) hfl
          have cg_lz_4 : hlz.2 (b) = some (oB 5 [.ref (b + 1), .int (gI (e))]) := Fr.at0 fr_lz (Ni.c ⟨(ne14).s, (ne18).s⟩ (Ni.c ⟨ne23, ne24⟩ (Ni.n _))) hb1
          have cg_lz_5 : hlz.2 (b + 1) = some (aJ m (gb)) := Fr.at0 fr_lz (Ni.c ⟨(ne15).s, (ne19).s⟩ (Ni.c ⟨ne25, ne26⟩ (Ni.n _))) hb2
          refine g_iload 0 dX2_reduce_192 rfl ?_
          refine g_iload 6 dX2_reduce_194 rfl ?_
          refine g_icmp_ge (tgt := 222) dX2_reduce_196 rfl (by unfold gW; omega) (by unfold gW; omega) (fun c1204 => ?_) (fun c1204 => ?_)
          · skip
            have hkk : k = (if e ≤ d + 1 then e else d + 1) := by split <;> omega
            have hgx3 : ∀ j, gX (gF L (fun j => L j % p) k j) := fun j => gX_ite (by have := Int.emod_nonneg (L j) (show (p : Int) ≠ 0 by omega); have := Int.emod_lt_of_pos (L j) (show (0 : Int) < p by omega); show gX (L j % p); unfold gX; omega) (H.2.2.2.1 j)
            refine g_aload_n 8 dX2_reduce_222 rfl ?_
            refine g_iload 6 dX2_reduce_223 rfl ?_
            refine g_iconst dX2_reduce_225 ?_
            refine g_isub dX2_reduce_226 ?_
            refine g_iload 5 dX2_reduce_227 rfl ?_
            refine g_min dX2_reduce_229 lX2_73 (by unfold gW; omega) (by unfold gW; omega) (by decide) (Nat.le_of_ble_eq_true rfl) ?_
            refine g_callV (nc2 := 0) (ns2 := 0) (ci := 5) (As := [.int (gI (if d < (e) - (1) then d else (e) - (1)))]) (st := []) rfl dX2_reduce_232 okX5_settle lX2_70 itX5_settle seX5_settle rfl cf_lz_0 (by decide) (by decide) rfl (Nat.le_of_ble_eq_true rfl) (sX5_settle N _ (r) (r + 1) _ _ ((if d < (e) - (1) then d else (e) - (1))) _ (by omega) (by omega) hgx3 (by unfold gW; split <;> omega) (by split <;> omega) cf_lz_0 cf_lz_1 ne13) (by omega) (by omega) (fun v1205 hc1205 q1205 => ?_)
            obtain ⟨rfl, hqs1206⟩ := q1205
            have fs1206_0 : hc1205.2 (B + 7) = some (oB 2 [.ref (B + 1), .ref (B + 8), .ref (B + 10), .ref (B + 12), .ref (B + 14), .ref (B + 16), .ref (B + 18), .ref (B + 20), .ref (B + 22)]) := hs_n hqs1206 ne1 cg_lz_0
            have fs1206_1 : hc1205.2 (B + 1) = some (oB 1 [.int (gI ((p : Int)))]) := hs_n hqs1206 ne7 cg_lz_1
            have fs1206_2 : hc1205.2 (b) = some (oB 5 [.ref (b + 1), .int (gI (e))]) := hs_n hqs1206 (ne14).s cg_lz_4
            have fs1206_3 : hc1205.2 (b + 1) = some (aJ m (gb)) := hs_n hqs1206 (ne15).s cg_lz_5
            have fs1206_4 : hc1205.2 (r) = some (oB 5 [.ref (r + 1), .int (gI (tdg (gF L (fun j => L j % p) k) (if (if d < (e) - (1) then d else (e) - (1)) < n then (if d < (e) - (1) then d else (e) - (1)) + 1 else n).toNat))]) := hs_s hqs1206
            have fs1206_5 : hc1205.2 (r + 1) = some (aJ n (gF L (fun j => L j % p) k)) := hs_n hqs1206 (ne13).s cf_lz_1
            have fs1206_6 : hc1205.2 (q) = some (oB 5 [.ref (q + 1), .int (gI (tdg (Q) (if ((d) - (e)) < l then ((d) - (e)) + 1 else l).toNat))]) := hs_n hqs1206 (ne16).s cf_lz_2
            have fs1206_7 : hc1205.2 (q + 1) = some (aJ l (Q)) := hs_n hqs1206 (ne17).s cf_lz_3
            have fr1206 : Fr [r, q] h hc1205 := Fr.w0 fr_lz (List.Mem.head _) hqs1206
            refine Go.nf (h' := hc1205) (st' := []) rfl rfl (Nat.le_refl _) (Nat.le_refl _) ?_
            exact g_vret dX2_reduce_235 rfl ⟨rfl, fr1206, by
      have hE := rdI_end hp hp2 he0 hr4 hPb H (by omega) n l hdl hq6 hr5 hr6
      rw [← hkk] at hE
      rw [hfr]
      have ti := Int.lt_of_lt_of_le (tdg_in (gF L (fun j => L j % p) k) (if (if d < e - 1 then d else e - 1) < n then (if d < e - 1 then d else e - 1) + 1 else n).toNat).2 (mn_le _ n)
      exact RP.mk fs1206_4 fs1206_5 ⟨ti, hr6, hr7⟩ hE.2 hp2, by
      have hE := rdI_end hp hp2 he0 hr4 hPb H (by omega) n l hdl hq6 hr5 hr6
      rw [hfr]
      have ti := Int.lt_of_lt_of_le (tdg_in Q (if d - e < l then d - e + 1 else l).toNat).2 (mn_le _ l)
      exact RP.mk fs1206_6 fs1206_7 ⟨ti, hq6, hq7⟩ hE.1 hp2⟩
          · skip
            refine g_iload 0 dX2_reduce_199 rfl ?_
            refine g_iload 5 dX2_reduce_201 rfl ?_
            refine g_icmp_gt (tgt := 222) dX2_reduce_203 rfl (by unfold gW; omega) (by unfold gW; omega) (fun c1207 => ?_) (fun c1207 => ?_)
            · skip
              have hkk : k = (if e ≤ d + 1 then e else d + 1) := by split <;> omega
              have hgx3 : ∀ j, gX (gF L (fun j => L j % p) k j) := fun j => gX_ite (by have := Int.emod_nonneg (L j) (show (p : Int) ≠ 0 by omega); have := Int.emod_lt_of_pos (L j) (show (0 : Int) < p by omega); show gX (L j % p); unfold gX; omega) (H.2.2.2.1 j)
              refine g_aload_n 8 dX2_reduce_222 rfl ?_
              refine g_iload 6 dX2_reduce_223 rfl ?_
              refine g_iconst dX2_reduce_225 ?_
              refine g_isub dX2_reduce_226 ?_
              refine g_iload 5 dX2_reduce_227 rfl ?_
              refine g_min dX2_reduce_229 lX2_73 (by unfold gW; omega) (by unfold gW; omega) (by decide) (Nat.le_of_ble_eq_true rfl) ?_
              refine g_callV (nc2 := 0) (ns2 := 0) (ci := 5) (As := [.int (gI (if d < (e) - (1) then d else (e) - (1)))]) (st := []) rfl dX2_reduce_232 okX5_settle lX2_70 itX5_settle seX5_settle rfl cf_lz_0 (by decide) (by decide) rfl (Nat.le_of_ble_eq_true rfl) (sX5_settle N _ (r) (r + 1) _ _ ((if d < (e) - (1) then d else (e) - (1))) _ (by omega) (by omega) hgx3 (by unfold gW; split <;> omega) (by split <;> omega) cf_lz_0 cf_lz_1 ne13) (by omega) (by omega) (fun v1208 hc1208 q1208 => ?_)
              obtain ⟨rfl, hqs1209⟩ := q1208
              have fs1209_0 : hc1208.2 (B + 7) = some (oB 2 [.ref (B + 1), .ref (B + 8), .ref (B + 10), .ref (B + 12), .ref (B + 14), .ref (B + 16), .ref (B + 18), .ref (B + 20), .ref (B + 22)]) := hs_n hqs1209 ne1 cg_lz_0
              have fs1209_1 : hc1208.2 (B + 1) = some (oB 1 [.int (gI ((p : Int)))]) := hs_n hqs1209 ne7 cg_lz_1
              have fs1209_2 : hc1208.2 (b) = some (oB 5 [.ref (b + 1), .int (gI (e))]) := hs_n hqs1209 (ne14).s cg_lz_4
              have fs1209_3 : hc1208.2 (b + 1) = some (aJ m (gb)) := hs_n hqs1209 (ne15).s cg_lz_5
              have fs1209_4 : hc1208.2 (r) = some (oB 5 [.ref (r + 1), .int (gI (tdg (gF L (fun j => L j % p) k) (if (if d < (e) - (1) then d else (e) - (1)) < n then (if d < (e) - (1) then d else (e) - (1)) + 1 else n).toNat))]) := hs_s hqs1209
              have fs1209_5 : hc1208.2 (r + 1) = some (aJ n (gF L (fun j => L j % p) k)) := hs_n hqs1209 (ne13).s cf_lz_1
              have fs1209_6 : hc1208.2 (q) = some (oB 5 [.ref (q + 1), .int (gI (tdg (Q) (if ((d) - (e)) < l then ((d) - (e)) + 1 else l).toNat))]) := hs_n hqs1209 (ne16).s cf_lz_2
              have fs1209_7 : hc1208.2 (q + 1) = some (aJ l (Q)) := hs_n hqs1209 (ne17).s cf_lz_3
              have fr1209 : Fr [r, q] h hc1208 := Fr.w0 fr_lz (List.Mem.head _) hqs1209
              refine Go.nf (h' := hc1208) (st' := []) rfl rfl (Nat.le_refl _) (Nat.le_refl _) ?_
              exact g_vret dX2_reduce_235 rfl ⟨rfl, fr1209, by
      have hE := rdI_end hp hp2 he0 hr4 hPb H (by omega) n l hdl hq6 hr5 hr6
      rw [← hkk] at hE
      rw [hfr]
      have ti := Int.lt_of_lt_of_le (tdg_in (gF L (fun j => L j % p) k) (if (if d < e - 1 then d else e - 1) < n then (if d < e - 1 then d else e - 1) + 1 else n).toNat).2 (mn_le _ n)
      exact RP.mk fs1209_4 fs1209_5 ⟨ti, hr6, hr7⟩ hE.2 hp2, by
      have hE := rdI_end hp hp2 he0 hr4 hPb H (by omega) n l hdl hq6 hr5 hr6
      rw [hfr]
      have ti := Int.lt_of_lt_of_le (tdg_in Q (if d - e < l then d - e + 1 else l).toNat).2 (mn_le _ l)
      exact RP.mk fs1209_6 fs1209_7 ⟨ti, hq6, hq7⟩ hE.1 hp2⟩
            · skip
              refine g_aload 2 dX2_reduce_206 rfl ?_
              refine g_iload 0 dX2_reduce_208 rfl ?_
              refine g_dup2 dX2_reduce_210 rfl rfl ?_
              refine g_laload dX2_reduce_211 cf_lz_1 (by omega) (by omega) (by omega) ?_
              have hLk := H.2.2.1 k hk0 (by omega)
              rw [gF_at]
              refine g_lload 4 dX2_reduce_212 rfl ?_
              refine g_lrem dX2_reduce_214 (by unfold gX; omega) (by unfold gX; omega) (by omega) ?_
              rw [tm_em (H.2.2.1 k (by omega) (by omega)).1]
              refine g_lastore dX2_reduce_215 cf_lz_1 (by omega) (by omega) (by omega) ?_
              obtain ⟨hh1210, eh1210⟩ : ∃ z : GH, z = hset hlz (r + 1) (aJ n (gup (gF L (fun j => L j % p) k) (k) (L k % (p : Int)))) := ⟨_, rfl⟩
              refine Go.hp eh1210.symm ?_
              have fh1210_0 : hh1210.2 (B + 7) = some (oB 2 [.ref (B + 1), .ref (B + 8), .ref (B + 10), .ref (B + 12), .ref (B + 14), .ref (B + 16), .ref (B + 18), .ref (B + 20), .ref (B + 22)]) := hs_n eh1210 ne2 cg_lz_0
              have fh1210_1 : hh1210.2 (B + 1) = some (oB 1 [.int (gI ((p : Int)))]) := hs_n eh1210 ne8 cg_lz_1
              have fh1210_2 : hh1210.2 (b) = some (oB 5 [.ref (b + 1), .int (gI (e))]) := hs_n eh1210 (ne18).s cg_lz_4
              have fh1210_3 : hh1210.2 (b + 1) = some (aJ m (gb)) := hs_n eh1210 (ne19).s cg_lz_5
              have fh1210_4 : hh1210.2 (r) = some (oB 5 [.ref (r + 1), .int (gI (d))]) := hs_n eh1210 ne13 cf_lz_0
              have fh1210_5 : hh1210.2 (r + 1) = some (aJ n (gup (gF L (fun j => L j % p) k) (k) (L k % (p : Int)))) := hs_s eh1210
              have fh1210_6 : hh1210.2 (q) = some (oB 5 [.ref (q + 1), .int (gI (tdg (Q) (if ((d) - (e)) < l then ((d) - (e)) + 1 else l).toNat))]) := hs_n eh1210 (ne20).s cf_lz_2
              have fh1210_7 : hh1210.2 (q + 1) = some (aJ l (Q)) := hs_n eh1210 (ne21).s cf_lz_3
              have fr1210 : Fr [r, q] h hh1210 := Fr.w1 fr_lz (List.Mem.head _) eh1210
              refine g_iinc 0 (ls2 := [(12, .int (gI (k + 1))), (10, .long (gJ (ivr p (gb e)))), (9, .ref (r + 1)), (8, .ref (b + 1)), (6, .long (gJ ((p : Int)))), (5, .int (gI (d))), (4, .int (gI (e))), (0, .ref (B + 7)), (1, .ref (r)), (2, .ref (b)), (3, .ref (q))]) dX2_reduce_216 rfl (by decide) rfl ?_
              refine g_goto (tgt := 192) dX2_reduce_219 rfl ?_
              exact ih_lz _ (by omega) (k + 1) hh1210 rfl fr1210 fh1210_4 (by rw [← gF_s L (fun j => L j % p) hk0]; exact fh1210_5) fh1210_6 fh1210_7 (by omega) (by omega)
        exact lz _ (0) hc1102 rfl fr1103 fs1103_4 (by rw [gF_0]; exact fs1103_5) fs1103_6 fs1103_7 (by omega) (by omega)
      · skip
        refine g_aload 2 dX2_reduce_93 rfl ?_
        refine g_iload 0 dX2_reduce_95 rfl ?_
        refine g_laload dX2_reduce_97 cf_lp_1 (by omega) (by omega) (by omega) ?_
        refine g_lload 4 dX2_reduce_98 rfl ?_
        have hLi := H.2.2.1 i (by omega) H.1
        have hHi := H.1
        refine g_lrem dX2_reduce_100 (by unfold gX; omega) (by unfold gX; omega) (by omega) ?_
        rw [tm_em hLi.1]
        have hb1_ : 0 ≤ L i % (p : Int) ∧ L i % (p : Int) < p := ⟨Int.emod_nonneg _ (by omega), Int.emod_lt_of_pos _ (by omega)⟩
        have hpr := g_prod hb1_.1 hb1_.2 hiv.1 hiv.2 (show (p : Int) ≤ 65536 by omega)
        refine g_lload 1 dX2_reduce_101 rfl ?_
        refine g_lmul dX2_reduce_103 ?_
        refine g_lload 4 dX2_reduce_104 rfl ?_
        refine g_lrem dX2_reduce_106 (by unfold gX; omega) (by unfold gX; omega) (by omega) ?_
        rw [tm_em hpr.1]
        obtain ⟨tm, htm⟩ : ∃ z : Int, z = L i % p * ivr p (gb e) % p := ⟨_, rfl⟩
        have htb : 0 ≤ tm ∧ tm < p := by rw [htm]; exact ⟨Int.emod_nonneg _ (by omega), Int.emod_lt_of_pos _ (by omega)⟩
        rw [← htm]
        refine g_lstore (ls2 := [(13, .long (gJ (tm))), (12, .int (gI (i))), (10, .long (gJ (ivr p (gb e)))), (9, .ref (r + 1)), (8, .ref (b + 1)), (6, .long (gJ ((p : Int)))), (5, .int (gI (d))), (4, .int (gI (e))), (0, .ref (B + 7)), (1, .ref (r)), (2, .ref (b)), (3, .ref (q))]) dX2_reduce_107 (by decide) rfl ?_
        refine g_iload 1 dX2_reduce_109 rfl ?_
        refine g_iload 7 dX2_reduce_111 rfl ?_
        refine g_isub dX2_reduce_113 ?_
        refine g_istore (ls2 := [(15, .int (gI ((i) - (e)))), (13, .long (gJ (tm))), (12, .int (gI (i))), (10, .long (gJ (ivr p (gb e)))), (9, .ref (r + 1)), (8, .ref (b + 1)), (6, .long (gJ ((p : Int)))), (5, .int (gI (d))), (4, .int (gI (e))), (0, .ref (B + 7)), (1, .ref (r)), (2, .ref (b)), (3, .ref (q))]) dX2_reduce_114 (by decide) rfl ?_
        refine g_aload_n 12 dX2_reduce_116 rfl ?_
        refine g_getf 0 dX2_reduce_117 kX5 (by decide) fX2_49 cf_lp_2 rfl ?_
        refine g_iload 0 dX2_reduce_120 rfl ?_
        refine g_lload 1 dX2_reduce_122 rfl ?_
        refine g_lastore dX2_reduce_124 cf_lp_3 (by omega) (by omega) (by omega) ?_
        obtain ⟨hh1311, eh1311⟩ : ∃ z : GH, z = hset hlp (q + 1) (aJ l (gup (Q) ((i) - (e)) (tm))) := ⟨_, rfl⟩
        refine Go.hp eh1311.symm ?_
        have fh1311_0 : hh1311.2 (B + 7) = some (oB 2 [.ref (B + 1), .ref (B + 8), .ref (B + 10), .ref (B + 12), .ref (B + 14), .ref (B + 16), .ref (B + 18), .ref (B + 20), .ref (B + 22)]) := hs_n eh1311 ne6 cg_lp_0
        have fh1311_1 : hh1311.2 (B + 1) = some (oB 1 [.int (gI ((p : Int)))]) := hs_n eh1311 ne12 cg_lp_1
        have fh1311_2 : hh1311.2 (b) = some (oB 5 [.ref (b + 1), .int (gI (e))]) := hs_n eh1311 ne24 cg_lp_4
        have fh1311_3 : hh1311.2 (b + 1) = some (aJ m (gb)) := hs_n eh1311 ne26 cg_lp_5
        have fh1311_4 : hh1311.2 (r) = some (oB 5 [.ref (r + 1), .int (gI (d))]) := hs_n eh1311 ne17 cf_lp_0
        have fh1311_5 : hh1311.2 (r + 1) = some (aJ n (L)) := hs_n eh1311 ne21 cf_lp_1
        have fh1311_6 : hh1311.2 (q) = some (oB 5 [.ref (q + 1), .int (gI (-1))]) := hs_n eh1311 ne27 cf_lp_2
        have fh1311_7 : hh1311.2 (q + 1) = some (aJ l (gup (Q) ((i) - (e)) (tm))) := hs_s eh1311
        have fr1311 : Fr [r, q] h hh1311 := Fr.w1 fr_lp (List.Mem.tail _ (List.Mem.head _)) eh1311
        refine g_lload 1 dX2_reduce_125 rfl ?_
        refine g_lconst0 dX2_reduce_127 ?_
        refine g_lcmp dX2_reduce_128 (by unfold gX; omega) (by unfold gX; omega) ?_
        refine g_if_eq (tgt := 174) dX2_reduce_129 rfl (gW_cmp _ _) (fun c1312 => ?_) (fun c1312 => ?_)
        · skip
          have hz := gcmp_eq.mp c1312
          refine g_iinc 2 (ls2 := [(12, .int (gI (i + (-1)))), (15, .int (gI ((i) - (e)))), (13, .long (gJ (tm))), (10, .long (gJ (ivr p (gb e)))), (9, .ref (r + 1)), (8, .ref (b + 1)), (6, .long (gJ ((p : Int)))), (5, .int (gI (d))), (4, .int (gI (e))), (0, .ref (B + 7)), (1, .ref (r)), (2, .ref (b)), (3, .ref (q))]) dX2_reduce_174 rfl (by decide) rfl ?_
          refine g_goto (tgt := 86) dX2_reduce_177 rfl ?_
          refine Go.sub [0, 3, 4, 5, 6, 7, 8, 9, 10, 11, 12] rfl ?_
          exact ih_lp _ (by omega) (i + (-1)) (L) (gup Q (i - e) tm) hh1311 rfl fr1311 fh1311_4 fh1311_5 fh1311_6 fh1311_7 (by
        have h9 := rdI_z hp hp2 hU (by omega) he0 (by omega) hgb hge H (htm ▸ hz)
        rw [← htm, Int.sub_eq_add_neg] at h9
        exact h9)
        · skip
          refine g_lload 6 dX2_reduce_132 rfl ?_
          refine g_lload 1 dX2_reduce_134 rfl ?_
          refine g_lsub dX2_reduce_136 ?_
          refine g_lstore (ls2 := [(16, .long (gJ (((p : Int)) - (tm)))), (15, .int (gI ((i) - (e)))), (13, .long (gJ (tm))), (12, .int (gI (i))), (10, .long (gJ (ivr p (gb e)))), (9, .ref (r + 1)), (8, .ref (b + 1)), (6, .long (gJ ((p : Int)))), (5, .int (gI (d))), (4, .int (gI (e))), (0, .ref (B + 7)), (1, .ref (r)), (2, .ref (b)), (3, .ref (q))]) dX2_reduce_137 (by decide) rfl ?_
          refine g_iconst dX2_reduce_139 ?_
          refine g_istore (ls2 := [(18, .int (gI (0))), (16, .long (gJ (((p : Int)) - (tm)))), (15, .int (gI ((i) - (e)))), (13, .long (gJ (tm))), (12, .int (gI (i))), (10, .long (gJ (ivr p (gb e)))), (9, .ref (r + 1)), (8, .ref (b + 1)), (6, .long (gJ ((p : Int)))), (5, .int (gI (d))), (4, .int (gI (e))), (0, .ref (B + 7)), (1, .ref (r)), (2, .ref (b)), (3, .ref (q))]) dX2_reduce_140 (by decide) rfl ?_
          have lq : ∀ (kk : Nat) (j : Int) (hlq : GH), kk = (e + 1 - j).toNat → Fr [r, q] h hlq → hlq.2 (r) = some (oB 5 [.ref (r + 1), .int (gI (d))]) → hlq.2 (r + 1) = some (aJ n (rdL L gb (i - e) (p - tm) j)) → hlq.2 (q) = some (oB 5 [.ref (q + 1), .int (gI (-1))]) → hlq.2 (q + 1) = some (aJ l (gup Q (i - e) tm)) → (0 ≤ j) → (j ≤ e) → Go N mX2_reduce (fun v h1 => v = none ∧ Fr [r, q] h h1 ∧ RP hp n h1 r (rm hp f fb) ∧ RP hp l h1 q (qt hp f fb)) 0 0 hlq 142 [(18, .int (gI (j))), (16, .long (gJ (((p : Int)) - (tm)))), (15, .int (gI ((i) - (e)))), (13, .long (gJ (tm))), (12, .int (gI (i))), (10, .long (gJ (ivr p (gb e)))), (9, .ref (r + 1)), (8, .ref (b + 1)), (6, .long (gJ ((p : Int)))), (5, .int (gI (d))), (4, .int (gI (e))), (0, .ref (B + 7)), (1, .ref (r)), (2, .ref (b)), (3, .ref (q))] [] := by
            refine Go.ind (fun kk ih_lq => ?_)
            intro j hlq hkk_lq fr_lq cf_lq_0 cf_lq_1 cf_lq_2 cf_lq_3 hj0 hj1
            have cg_lq_0 : hlq.2 (B + 7) = some (oB 2 [.ref (B + 1), .ref (B + 8), .ref (B + 10), .ref (B + 12), .ref (B + 14), .ref (B + 16), .ref (B + 18), .ref (B + 20), .ref (B + 22)]) := Fr.at0 fr_lq (Ni.c ⟨ne1, ne2⟩ (Ni.c ⟨ne5, ne6⟩ (Ni.n _))) hth
            have cg_lq_1 : hlq.2 (B + 1) = some (oB 1 [.int (gI ((p : Int)))]) := Fr.at0 fr_lq (Ni.c ⟨ne7, ne8⟩ (Ni.c ⟨ne11, ne12⟩ (Ni.n _))) hfl
            have cg_lq_4 : hlq.2 (b) = some (oB 5 [.ref (b + 1), .int (gI (e))]) := Fr.at0 fr_lq (Ni.c ⟨(ne14).s, (ne18).s⟩ (Ni.c ⟨ne23, ne24⟩ (Ni.n _))) hb1
            have cg_lq_5 : hlq.2 (b + 1) = some (aJ m (gb)) := Fr.at0 fr_lq (Ni.c ⟨(ne15).s, (ne19).s⟩ (Ni.c ⟨ne25, ne26⟩ (Ni.n _))) hb2
            refine g_iload 0 dX2_reduce_142 rfl ?_
            refine g_iload 10 dX2_reduce_144 rfl ?_
            refine g_icmp_ge (tgt := 174) dX2_reduce_146 rfl (by unfold gW; omega) (by unfold gW; omega) (fun c1413 => ?_) (fun c1413 => ?_)
            · skip
              refine g_iinc 4 (ls2 := [(12, .int (gI (i + (-1)))), (18, .int (gI (j))), (16, .long (gJ (((p : Int)) - (tm)))), (15, .int (gI ((i) - (e)))), (13, .long (gJ (tm))), (10, .long (gJ (ivr p (gb e)))), (9, .ref (r + 1)), (8, .ref (b + 1)), (6, .long (gJ ((p : Int)))), (5, .int (gI (d))), (4, .int (gI (e))), (0, .ref (B + 7)), (1, .ref (r)), (2, .ref (b)), (3, .ref (q))]) dX2_reduce_174 rfl (by decide) rfl ?_
              refine g_goto (tgt := 86) dX2_reduce_177 rfl ?_
              refine Go.sub [0, 5, 6, 7, 8, 9, 10, 11, 12, 13, 14] rfl ?_
              exact ih_lp _ (by omega) (i + (-1)) (rdL L gb (i - e) (p - tm) e) (gup Q (i - e) tm) hlq rfl fr_lq cf_lq_0 (by
        have hje : j = e := by omega
        have h8 := cf_lq_1
        rw [hje] at h8
        exact h8) cf_lq_2 cf_lq_3 (by
        have h9 := rdI_s hp hp2 hU (by omega) he0 (by omega) hgb hge H
        rw [← htm, Int.sub_eq_add_neg] at h9
        exact h9)
            · skip
              refine g_aload 6 dX2_reduce_149 rfl ?_
              refine g_iload 2 dX2_reduce_151 rfl ?_
              refine g_iload 0 dX2_reduce_153 rfl ?_
              refine g_iadd dX2_reduce_155 ?_
              refine g_dup2 dX2_reduce_156 rfl rfl ?_
              refine g_laload dX2_reduce_157 cf_lq_1 (by omega) (by omega) (by omega) ?_
              refine g_lload 1 dX2_reduce_158 rfl ?_
              refine g_aload 7 dX2_reduce_160 rfl ?_
              refine g_iload 0 dX2_reduce_162 rfl ?_
              refine g_laload dX2_reduce_164 cg_lq_5 (by omega) (by omega) (by omega) ?_
              refine g_lmul dX2_reduce_165 ?_
              refine g_ladd dX2_reduce_166 ?_
              refine g_lastore dX2_reduce_167 cf_lq_1 (by omega) (by omega) (by omega) ?_
              obtain ⟨hh1414, eh1414⟩ : ∃ z : GH, z = hset hlq (r + 1) (aJ n (gup (rdL L gb (i - e) (p - tm) j) (((i) - (e)) + (j)) (((rdL L gb (i - e) (p - tm) j) (((i) - (e)) + (j))) + ((((p : Int)) - (tm)) * ((gb) (j)))))) := ⟨_, rfl⟩
              refine Go.hp eh1414.symm ?_
              have fh1414_0 : hh1414.2 (B + 7) = some (oB 2 [.ref (B + 1), .ref (B + 8), .ref (B + 10), .ref (B + 12), .ref (B + 14), .ref (B + 16), .ref (B + 18), .ref (B + 20), .ref (B + 22)]) := hs_n eh1414 ne2 cg_lq_0
              have fh1414_1 : hh1414.2 (B + 1) = some (oB 1 [.int (gI ((p : Int)))]) := hs_n eh1414 ne8 cg_lq_1
              have fh1414_2 : hh1414.2 (b) = some (oB 5 [.ref (b + 1), .int (gI (e))]) := hs_n eh1414 (ne18).s cg_lq_4
              have fh1414_3 : hh1414.2 (b + 1) = some (aJ m (gb)) := hs_n eh1414 (ne19).s cg_lq_5
              have fh1414_4 : hh1414.2 (r) = some (oB 5 [.ref (r + 1), .int (gI (d))]) := hs_n eh1414 ne13 cf_lq_0
              have fh1414_5 : hh1414.2 (r + 1) = some (aJ n (gup (rdL L gb (i - e) (p - tm) j) (((i) - (e)) + (j)) (((rdL L gb (i - e) (p - tm) j) (((i) - (e)) + (j))) + ((((p : Int)) - (tm)) * ((gb) (j)))))) := hs_s eh1414
              have fh1414_6 : hh1414.2 (q) = some (oB 5 [.ref (q + 1), .int (gI (-1))]) := hs_n eh1414 (ne20).s cf_lq_2
              have fh1414_7 : hh1414.2 (q + 1) = some (aJ l (gup Q (i - e) tm)) := hs_n eh1414 (ne21).s cf_lq_3
              have fr1414 : Fr [r, q] h hh1414 := Fr.w1 fr_lq (List.Mem.head _) eh1414
              refine g_iinc 0 (ls2 := [(18, .int (gI (j + 1))), (16, .long (gJ (((p : Int)) - (tm)))), (15, .int (gI ((i) - (e)))), (13, .long (gJ (tm))), (12, .int (gI (i))), (10, .long (gJ (ivr p (gb e)))), (9, .ref (r + 1)), (8, .ref (b + 1)), (6, .long (gJ ((p : Int)))), (5, .int (gI (d))), (4, .int (gI (e))), (0, .ref (B + 7)), (1, .ref (r)), (2, .ref (b)), (3, .ref (q))]) dX2_reduce_168 rfl (by decide) rfl ?_
              refine g_goto (tgt := 142) dX2_reduce_171 rfl ?_
              exact ih_lq _ (by omega) (j + 1) hh1414 rfl fr1414 fh1414_4 (by rw [← rdL_s L gb hj0]; exact fh1414_5) fh1414_6 fh1414_7 (by omega) (by omega)
          exact lq _ (0) hh1311 rfl fr1311 fh1311_4 (by rw [rdL_0]; exact fh1311_5) fh1311_6 fh1311_7 (by omega) (by omega)
    exact lp _ (d) (gr) (gq) hz rfl frz z0 z1 z2 z3 (rdI_0 hp hgr hr3 hq3)
  refine g_aload_n 2 dX2_reduce_0 rfl ?_
  refine g_getf 1 dX2_reduce_1 kX5 (by decide) fX2_45 hb1 rfl ?_
  refine g_istore (ls2 := [(4, .int (gI (e))), (0, .ref (B + 7)), (1, .ref (r)), (2, .ref (b)), (3, .ref (q))]) dX2_reduce_4 (by decide) rfl ?_
  refine g_aload_n 2 dX2_reduce_6 rfl ?_
  refine g_getf 1 dX2_reduce_7 kX5 (by decide) fX2_45 hr1 rfl ?_
  refine g_istore (ls2 := [(5, .int (gI (d))), (4, .int (gI (e))), (0, .ref (B + 7)), (1, .ref (r)), (2, .ref (b)), (3, .ref (q))]) dX2_reduce_10 (by decide) rfl ?_
  refine g_aload_n 5 dX2_reduce_12 rfl ?_
  refine g_iconst dX2_reduce_13 ?_
  refine g_putf 1 dX2_reduce_14 kX5 (by decide) fX2_45 rfl hq1 (Nat.le_of_ble_eq_true rfl) rfl rfl ?_
  obtain ⟨hh1, eh1⟩ : ∃ z : GH, z = hset h (q) (oB 5 [.ref (q + 1), .int (gI (-1))]) := ⟨_, rfl⟩
  refine Go.hp eh1.symm ?_
  have fh1_0 : hh1.2 (B + 7) = some (oB 2 [.ref (B + 1), .ref (B + 8), .ref (B + 10), .ref (B + 12), .ref (B + 14), .ref (B + 16), .ref (B + 18), .ref (B + 20), .ref (B + 22)]) := hs_n eh1 ne5 hth
  have fh1_1 : hh1.2 (B + 1) = some (oB 1 [.int (gI ((p : Int)))]) := hs_n eh1 ne11 hfl
  have fh1_2 : hh1.2 (r) = some (oB 5 [.ref (r + 1), .int (gI (d))]) := hs_n eh1 ne16 hr1
  have fh1_3 : hh1.2 (r + 1) = some (aJ n (gr)) := hs_n eh1 ne20 hr2
  have fh1_4 : hh1.2 (b) = some (oB 5 [.ref (b + 1), .int (gI (e))]) := hs_n eh1 ne23 hb1
  have fh1_5 : hh1.2 (b + 1) = some (aJ m (gb)) := hs_n eh1 ne25 hb2
  have fh1_6 : hh1.2 (q) = some (oB 5 [.ref (q + 1), .int (gI (-1))]) := hs_s eh1
  have fh1_7 : hh1.2 (q + 1) = some (aJ l (gq)) := hs_n eh1 (ne27).s hq2
  have fr1 : Fr [r, q] h hh1 := Fr.w0 (Fr.rf [r, q] h) (List.Mem.tail _ (List.Mem.head _)) eh1
  refine g_iload 1 dX2_reduce_17 rfl ?_
  refine g_if_ge (tgt := 23) dX2_reduce_19 rfl (by unfold gW; omega) (fun c2 => ?_) (fun c2 => absurd c2 (by omega))
  refine g_aload_n 2 dX2_reduce_23 rfl ?_
  refine g_getf 0 dX2_reduce_24 kX2 (by decide) fX2_41 fh1_0 rfl ?_
  refine g_getf 0 dX2_reduce_27 kX1 (by decide) fX2_57 fh1_1 rfl ?_
  refine g_i2l dX2_reduce_30 (by unfold gW; omega) ?_
  refine g_lstore (ls2 := [(6, .long (gJ ((p : Int)))), (5, .int (gI (d))), (4, .int (gI (e))), (0, .ref (B + 7)), (1, .ref (r)), (2, .ref (b)), (3, .ref (q))]) dX2_reduce_31 (by decide) rfl ?_
  refine g_aload_n 5 dX2_reduce_33 rfl ?_
  refine g_getf 0 dX2_reduce_34 kX5 (by decide) fX2_49 fh1_4 rfl ?_
  refine g_astore (ls2 := [(8, .ref (b + 1)), (6, .long (gJ ((p : Int)))), (5, .int (gI (d))), (4, .int (gI (e))), (0, .ref (B + 7)), (1, .ref (r)), (2, .ref (b)), (3, .ref (q))]) dX2_reduce_37 (by decide) rfl ?_
  refine g_aload_n 5 dX2_reduce_39 rfl ?_
  refine g_getf 0 dX2_reduce_40 kX5 (by decide) fX2_49 fh1_2 rfl ?_
  refine g_astore (ls2 := [(9, .ref (r + 1)), (8, .ref (b + 1)), (6, .long (gJ ((p : Int)))), (5, .int (gI (d))), (4, .int (gI (e))), (0, .ref (B + 7)), (1, .ref (r)), (2, .ref (b)), (3, .ref (q))]) dX2_reduce_43 (by decide) rfl ?_
  refine g_aload 1 dX2_reduce_45 rfl ?_
  refine g_iload 4 dX2_reduce_47 rfl ?_
  refine g_laload dX2_reduce_49 fh1_5 (by omega) (by omega) (by omega) ?_
  refine g_lconst1 dX2_reduce_50 ?_
  refine g_lcmp dX2_reduce_51 (by first | exact hb3 _ | (unfold gX; omega)) (by unfold gX; omega) ?_
  refine g_if_ne (tgt := 59) dX2_reduce_52 rfl (gW_cmp _ _) (fun c3 => ?_) (fun c3 => ?_)
  · skip
    have hz := fun z => c3 (gcmp_eq.mpr z)
    refine g_aload_n 5 dX2_reduce_59 rfl ?_
    refine g_getf 0 dX2_reduce_60 kX2 (by decide) fX2_41 fh1_0 rfl ?_
    refine g_aload 1 dX2_reduce_63 rfl ?_
    refine g_iload 4 dX2_reduce_65 rfl ?_
    refine g_laload dX2_reduce_67 fh1_5 (by omega) (by omega) (by omega) ?_
    refine g_aload_n 5 dX2_reduce_68 rfl ?_
    refine g_getf 0 dX2_reduce_69 kX2 (by decide) fX2_41 fh1_0 rfl ?_
    refine g_getf 0 dX2_reduce_72 kX1 (by decide) fX2_57 fh1_1 rfl ?_
    refine g_iconst dX2_reduce_75 ?_
    refine g_isub dX2_reduce_76 ?_
    refine g_callV (nc2 := 0) (ns2 := 0) (ci := 1) (As := [.long (gJ ((gb) (e))), .int (gI (((p : Int)) - (2)))]) (st := []) rfl dX2_reduce_77 okX1_raise lX2_66 itX1_raise seX1_raise rfl fh1_1 (by decide) (by decide) rfl (Nat.le_of_ble_eq_true rfl) (sX1_raise N _ (B + 1) (p : Int) (gb e) ((p : Int) - 2) (by omega) (by omega) (by omega) (by omega) (by omega) (by unfold gW; omega) fh1_1) (by omega) (by omega) (fun v4 hc4 q4 => ?_)
    obtain ⟨hq5, rfl⟩ := q4
    refine Go.nf (h' := hh1) (st' := [.long (gJ (gb e ^ ((p : Int) - 2).toNat % (p : Int)))]) hq5 rfl (Nat.le_refl _) (Nat.le_refl _) ?_
    have hivE : ivr p (gb e) = gb e ^ ((p : Int) - 2).toNat % p := by unfold ivr; rw [if_neg hz]
    rw [← hivE]
    exact rest _ fr1 fh1_2 fh1_3 fh1_6 fh1_7
  · skip
    have hz := gcmp_eq.mp c3
    refine g_lconst1 dX2_reduce_55 ?_
    refine g_goto (tgt := 80) dX2_reduce_56 rfl ?_
    have hivE : ivr p (gb e) = 1 := by unfold ivr; rw [if_pos hz]
    rw [← hivE]
    exact rest _ fr1 fh1_2 fh1_3 fh1_6 fh1_7
