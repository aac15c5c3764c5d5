set_option maxHeartbeats 4000000 in
set_option maxRecDepth 100000 in
theorem sC_takeN (N : GN) (h : GH) (B p : Nat) (hp : prm p) (hp2 : p ≤ 65536) (sy : Value)   (c : Int) (X V : Int → Int) (T : PT p) (i : Int) (gW_i : gW i) (hcs : CSt p B h c X V .null sy) (hT : CP hp B h T)  : Sp N yX9_take mX9_take 2 290 [.ref (B), .int (gI (i))] h (fun v h1 => FK (pK B) h h1 ∧ ∃ w T2, Ou T (rTk hp (none) i) w T2 ∧ v = some (.int (gI w)) ∧ CSt p B h1 c X V .null sy ∧ CP hp B h1 T2) := by
  refine Sp.of (by decide) rfl rfl (Nat.le_of_ble_eq_true rfl) ?_
  show Go N mX9_take _ 2 290 h 0 [(0, .ref (B)), (1, .int (gI (i)))] []
  have hp1 := hp.1
  have hcs0 := hcs
  obtain ⟨hob, hw, hw4, h5, h27, h29, h31, h33, hpt, hlo⟩ := hcs0
  refine g_aload_n 0 dX9_take_0 rfl ?_
  refine g_iload_n 1 dX9_take_1 rfl ?_
  refine g_callV (nc2 := 0) (ns2 := 0) (ci := 9) (As := [.int (gI (i))]) (st := []) rfl dX9_take_2 okX9_toldFactor lX9_167 itX9_toldFactor seX9_toldFactor rfl hob (by decide) (by decide) rfl (Nat.le_of_ble_eq_true rfl) (sF_toldN N _ B sy (i) gW_i hob) (by omega) (by omega) (fun v1 hc1 q1 => ?_)
  obtain ⟨hq2, rfl⟩ := q1
  refine Go.nf (h' := h) (st' := [.null]) hq2 rfl (Nat.le_refl _) (Nat.le_refl _) ?_
  refine g_astore_nN (ls2 := [(2, .null), (0, .ref (B)), (1, .int (gI (i)))]) dX9_take_5 rfl (by decide) rfl ?_
  refine g_aload_nN 0 dX9_take_6 rfl ?_
  refine g_ifnnN (x := 0) (tgt := 12) dX9_take_7 rfl ?_
  refine g_iconst dX9_take_10 ?_
  exact g_iret dX9_take_11 rfl ⟨(FK.fr (Fr.rf [B + 27] h) (fun x e hx hk => Ni_hi hk.1 (hi_c (by omega) (fun _ h => absurd h (List.not_mem_nil))))), (-1), T, (by unfold rTk; exact ⟨rfl, rfl⟩), rfl, ⟨hob, hw, hw4, h5, h27, h29, h31, h33, hpt, (by rw [((Fr.rf [B + 27] h)).1]; exact hlo)⟩, hT⟩
set_option maxHeartbeats 4000000 in
set_option maxRecDepth 100000 in
theorem sC_takeZ (N : GN) (h : GH) (B p : Nat) (hp : prm p) (hp2 : p ≤ 65536) (sy : Value)  (f : Nat) (gr gp : Int → Option Nat) (gt gq gR : Int → Int) (n pn rn tg le sz : Int) (c : Int) (X V : Int → Int) (T : PT p) (i : Int) (gW_i : gW i) (hcs : CSt p B h c X V (.ref f) sy) (hT : CP hp B h T) (hfs : FAs B h f gr gp gt gq gR n pn rn tg le sz) (hfc : FAc hp h (none) gr gp gt gq gR n pn rn tg le) : Sp N yX9_take mX9_take 2 290 [.ref (B), .int (gI (i))] h (fun v h1 => FK (pK B) h h1 ∧ ∃ w T2, Ou T (rTk hp (none) i) w T2 ∧ v = some (.int (gI w)) ∧ CSt p B h1 c X V (.ref f) sy ∧ CP hp B h1 T2) := by
  refine Sp.of (by decide) rfl rfl (Nat.le_of_ble_eq_true rfl) ?_
  show Go N mX9_take _ 2 290 h 0 [(0, .ref (B)), (1, .int (gI (i)))] []
  have hp1 := hp.1
  have hcs0 := hcs
  obtain ⟨hob, hw, hw4, h5, h27, h29, h31, h33, hpt, hlo⟩ := hcs0
  obtain ⟨hf1, hf2, ho, hlr, h2, hlp, h4, h5_, hra, hsp, _, _, hap⟩ := hfs
  obtain ⟨c1, c2, c3⟩ := hfc
  refine g_aload_n 0 dX9_take_0 rfl ?_
  refine g_iload_n 1 dX9_take_1 rfl ?_
  refine g_callV (nc2 := 0) (ns2 := 0) (ci := 9) (As := [.int (gI (i))]) (st := []) rfl dX9_take_2 okX9_toldFactor lX9_167 itX9_toldFactor seX9_toldFactor rfl hob (by decide) (by decide) rfl (Nat.le_of_ble_eq_true rfl) (sF_toldS N _ B sy (i) gW_i f gr n pn rn tg le (by omega) hob ho hlr.1 (fun i i0 i1 => by omega)) (by omega) (by omega) (fun v1 hc1 q1 => ?_)
  obtain ⟨hq2, ⟨rfl, _⟩ | ⟨r, _, _, _, _⟩⟩ := q1
  · skip
    refine Go.nf (h' := h) (st' := [.null]) hq2 rfl (Nat.le_refl _) (Nat.le_refl _) ?_
    refine g_astore_nN (ls2 := [(2, .null), (0, .ref (B)), (1, .int (gI (i)))]) dX9_take_5 rfl (by decide) rfl ?_
    refine g_aload_nN 0 dX9_take_6 rfl ?_
    refine g_ifnnN (x := 0) (tgt := 12) dX9_take_7 rfl ?_
    refine g_iconst dX9_take_10 ?_
    exact g_iret dX9_take_11 rfl ⟨(FK.fr (Fr.rf [B + 27] h) (fun x e hx hk => Ni_hi hk.1 (hi_c (by omega) (fun _ h => absurd h (List.not_mem_nil))))), (-1), T, (by unfold rTk; exact ⟨rfl, rfl⟩), rfl, ⟨hob, hw, hw4, h5, h27, h29, h31, h33, hpt, (by rw [((Fr.rf [B + 27] h)).1]; exact hlo)⟩, hT⟩
  · exfalso; omega
set_option maxHeartbeats 4000000 in
set_option maxRecDepth 100000 in
theorem sC_takeS (N : GN) (h : GH) (B p : Nat) (hp : prm p) (hp2 : p ≤ 65536) (sy : Value) (q : Px p) (f : Nat) (gr gp : Int → Option Nat) (gt gq gR : Int → Int) (n pn rn tg le sz : Int) (c : Int) (X V : Int → Int) (T : PT p) (i : Int) (gW_i : gW i) (hcs : CSt p B h c X V (.ref f) sy) (hT : CP hp B h T) (hfs : FAs B h f gr gp gt gq gR n pn rn tg le sz) (hfc : FAc hp h (some q) gr gp gt gq gR n pn rn tg le) : Sp N yX9_take mX9_take 2 290 [.ref (B), .int (gI (i))] h (fun v h1 => FK (pK B) h h1 ∧ ∃ w T2, Ou T (rTk hp (some q) i) w T2 ∧ v = some (.int (gI w)) ∧ CSt p B h1 c X V (.ref f) sy ∧ CP hp B h1 T2) := by
  refine Sp.of (by decide) rfl rfl (Nat.le_of_ble_eq_true rfl) ?_
  show Go N mX9_take _ 2 290 h 0 [(0, .ref (B)), (1, .int (gI (i)))] []
  have hp1 := hp.1
  have hcs0 := hcs
  obtain ⟨hob, hw, hw4, h5, h27, h29, h31, h33, hpt, hlo⟩ := hcs0
  obtain ⟨hf1, hf2, ho, hlr, h2, hlp, h4, h5_, hra, hsp, _, _, hap⟩ := hfs
  obtain ⟨c1, c2, c3, c4, c5, c6, c7, c8, c9⟩ := hfc
  refine g_aload_n 0 dX9_take_0 rfl ?_
  refine g_iload_n 1 dX9_take_1 rfl ?_
  refine g_callV (nc2 := 0) (ns2 := 0) (ci := 9) (As := [.int (gI (i))]) (st := []) rfl dX9_take_2 okX9_toldFactor lX9_167 itX9_toldFactor seX9_toldFactor rfl hob (by decide) (by decide) rfl (Nat.le_of_ble_eq_true rfl) (sF_toldS N _ B sy (i) gW_i f gr n pn rn tg le (by omega) hob ho hlr.1 (fun i i0 i1 => by obtain ⟨_, _, r, y, _⟩ := c7 i i0 (by omega); exact ⟨r, y⟩)) (by omega) (by omega) (fun v1 hc1 q1 => ?_)
  obtain ⟨hq2, ⟨rfl, hno⟩ | ⟨r, rfl, hi0, hi1, hgr⟩⟩ := q1
  · skip
    refine Go.nf (h' := h) (st' := [.null]) hq2 rfl (Nat.le_refl _) (Nat.le_refl _) ?_
    refine g_astore_nN (ls2 := [(2, .null), (0, .ref (B)), (1, .int (gI (i)))]) dX9_take_5 rfl (by decide) rfl ?_
    refine g_aload_nN 0 dX9_take_6 rfl ?_
    refine g_ifnnN (x := 0) (tgt := 12) dX9_take_7 rfl ?_
    refine g_iconst dX9_take_10 ?_
    exact g_iret dX9_take_11 rfl ⟨(FK.fr (Fr.rf [B + 27] h) (fun x e hx hk => Ni_hi hk.1 (hi_c (by omega) (fun _ h => absurd h (List.not_mem_nil))))), (-1), T, (by unfold rTk; dsimp only; rw [if_neg (by omega)]; exact ⟨rfl, rfl⟩), rfl, ⟨hob, hw, hw4, h5, h27, h29, h31, h33, hpt, (by rw [((Fr.rf [B + 27] h)).1]; exact hlo)⟩, hT⟩
  · skip
    obtain ⟨d40, egt, r2, hg2, hrp⟩ := c7 i hi0 (by omega)
    rw [hgr] at hg2
    have er := Option.some.inj hg2
    subst er
    refine Go.nf (h' := h) (st' := [.ref (r)]) hq2 rfl (Nat.le_refl _) (Nat.le_refl _) ?_
    refine g_astore_n (ls2 := [(2, .ref (r)), (0, .ref (B)), (1, .int (gI (i)))]) dX9_take_5 rfl (by decide) rfl ?_
    refine g_aload_n 0 dX9_take_6 rfl ?_
    refine g_ifnn (tgt := 12) dX9_take_7 rfl ?_
    have lr9 := (hlr.2.1 i r hgr).1
    refine g_aload_n 1 dX9_take_12 rfl ?_
    refine g_getf 6 dX9_take_13 kX9 (by decide) fX9_50 hob rfl ?_
    refine g_aload_n 0 dX9_take_16 rfl ?_
    refine g_callV (nc2 := 0) (ns2 := 0) (ci := 4) (As := [.ref (r)]) (st := []) rfl dX9_take_17 okX4_fromRow lX9_146 itX4_fromRow seX4_fromRow rfl (Classical.choose_spec (PA.o h27)) (by decide) (by decide) rfl (Nat.le_of_ble_eq_true rfl) (sQ_fromRow N _ (B + 27) (r) 84 p hp hp2 (fP hp q i) h27 hrp d40 (show AP (B + 27) (r) by unfold AP; omega)) (by omega) (by omega) (fun v3 hc3 q3 => ?_)
    obtain ⟨rfl, frc4, rn4_0⟩ := q3
    have fk5_0 : hc3.2 (B) = some (cO B (.ref (f)) (sy)) := Fr.at0 frc4 (Ni.c ⟨(show NE (B) (B + 27) by unfold NE; omega), (show NE (B) (B + 28) by unfold NE; omega)⟩ (Ni.n _)) hob
    have fk5_1 : hc3.2 (B + 4) = some (oB 8 [.ref (B + 1), .ref (B + 5)]) := Fr.at0 frc4 (Ni.c ⟨(show NE (B + 4) (B + 27) by unfold NE; omega), (show NE (B + 4) (B + 28) by unfold NE; omega)⟩ (Ni.n _)) hw4
    have fk5_2 : hc3.2 (B + 7) = some (oB 2 [.ref (B + 1), .ref (B + 8), .ref (B + 10), .ref (B + 12), .ref (B + 14), .ref (B + 16), .ref (B + 18), .ref (B + 20), .ref (B + 22)]) := Fr.at0 frc4 (Ni.c ⟨(show NE (B + 7) (B + 27) by unfold NE; omega), (show NE (B + 7) (B + 28) by unfold NE; omega)⟩ (Ni.n _)) hw.1
    have fk5_3 : hc3.2 (B + 1) = some (oB 1 [.int (gI ((p : Int)))]) := Fr.at0 frc4 (Ni.c ⟨(show NE (B + 1) (B + 27) by unfold NE; omega), (show NE (B + 1) (B + 28) by unfold NE; omega)⟩ (Ni.n _)) hw.2.1
    have rk5_0 : PW p B hc3 := (hw).fr2 frc4 (ok_c (by omega) (fun _ h => absurd h (List.not_mem_nil)))
    have rk5_6 : CPt p B hc3 (c) X V := (hpt).fr frc4 (Ni.c ⟨(show NE (B + 24) (B + 27) by unfold NE; omega), (show NE (B + 24) (B + 28) by unfold NE; omega)⟩ (Ni.n _)) (Ni.c ⟨(show NE (B + 25) (B + 27) by unfold NE; omega), (show NE (B + 25) (B + 28) by unfold NE; omega)⟩ (Ni.n _)) (Ni.c ⟨(show NE (B + 26) (B + 27) by unfold NE; omega), (show NE (B + 26) (B + 28) by unfold NE; omega)⟩ (Ni.n _))
    have rk5_7 : CP hp B hc3 (T) := (hT).fr frc4 (Ni.c ⟨(show NE (B + 2) (B + 27) by unfold NE; omega), (show NE (B + 2) (B + 28) by unfold NE; omega)⟩ (Ni.n _)) (Ni.c ⟨(show NE (B + 3) (B + 27) by unfold NE; omega), (show NE (B + 3) (B + 28) by unfold NE; omega)⟩ (Ni.n _)) (lo_c (by omega) (fun _ h => absurd h (List.not_mem_nil)))
    have rk5005_0 : PA hc3 (B + 5) := (h5).fr frc4 (Ai.c (show AP (B + 5) (B + 27) by unfold AP; omega) (Ai.n _))
    have rk5005_2 : RA 84 hc3 (B + 29) := (h29).fr frc4 (Ai.c (show AP (B + 29) (B + 27) by unfold AP; omega) (Ai.n _))
    have rk5005_3 : RA 84 hc3 (B + 31) := (h31).fr frc4 (Ai.c (show AP (B + 31) (B + 27) by unfold AP; omega) (Ai.n _))
    have rk5005_4 : RA 84 hc3 (B + 33) := (h33).fr frc4 (Ai.c (show AP (B + 33) (B + 27) by unfold AP; omega) (Ai.n _))
    have rk5005_5 : RP hp 84 hc3 (r) (fP hp q i) := (hrp).fr frc4 (Ai.c (show AP (r) (B + 27) by unfold AP; omega) (Ai.n _))
    have fr5 : Fr [B + 27] h hc3 := ((Fr.rf [B + 27] h)).tr ((frc4).mo (sub_c (List.Mem.head _) sub_n))
    refine Go.nf (h' := hc3) (st' := []) rfl rfl (Nat.le_refl _) (Nat.le_refl _) ?_
    refine g_aload_n 1 dX9_take_20 rfl ?_
    refine g_aload_n 1 dX9_take_21 rfl ?_
    refine g_getf 6 dX9_take_22 kX9 (by decide) fX9_50 fk5_0 rfl ?_
    refine g_callV (nc2 := 2) (ns2 := 290) (ci := 9) (As := [.ref (B + 27)]) (st := []) rfl dX9_take_25 okX9_keep lX9_103 itX9_keep seX9_keep rfl fk5_0 (by decide) (by decide) rfl (Nat.le_of_ble_eq_true rfl) (sC_keep N _ B p hp hp2 c X V (.ref f) sy T (pF hp (fP hp q i)) (⟨fk5_0, rk5_0, fk5_1, rk5005_0, (rn4_0).ra, rk5005_2, rk5005_3, rk5005_4, rk5_6, (by rw [(fr5).1]; exact hlo)⟩) rk5_7 rn4_0) (by omega) (by omega) (fun v6 hc6 q6 => ?_)
    obtain ⟨w7, hK7, rfl, cp7, fk7⟩ := q6
    have cs7 := CSt.fk ⟨fk5_0, rk5_0, fk5_1, rk5005_0, (rn4_0).ra, rk5005_2, rk5005_3, rk5005_4, rk5_6, (by rw [(fr5).1]; exact hlo)⟩ fk7
    have fz7 : FK (pK B) h hc6 := FK.tr (FK.fr fr5 (fun x e hx hk => Ni_hi hk.1 (hi_c (by omega) (fun _ h => absurd h (List.not_mem_nil))))) (fk7.mo (fun x e _ hk => kpK_pK hk))
    refine Go.nf (h' := hc6) (st' := [.int (gI (w7))]) rfl rfl (Nat.le_refl _) (Nat.le_refl _) ?_
    exact g_iret dX9_take_28 rfl ⟨fz7, w7, _, (by unfold rTk; dsimp only; rw [if_pos (by omega), kR_i hp d40]; exact ⟨hK7, rfl⟩), rfl, cs7, cp7⟩
theorem sC_take (N : GN) (h : GH) (B p : Nat) (hp : prm p) (hp2 : p ≤ 65536) (c : Int) (X V : Int → Int) (fa sy : Value) (T : PT p) (fo : Option (Px p)) (U : Nat → Prop) (i : Int) (gW_i : gW i) (hcs : CSt p B h c X V fa sy) (hT : CP hp B h T) (hX : FA hp B h fa fo U) : Sp N yX9_take mX9_take 2 290 [.ref (B), .int (gI (i))] h (fun v h1 => FK (pK B) h h1 ∧ ∃ w T2, Ou T (rTk hp fo i) w T2 ∧ v = some (.int (gI w)) ∧ CSt p B h1 c X V fa sy ∧ CP hp B h1 T2) := by
  rcases hX with ⟨z1, z2⟩ | ⟨f, gr, gp, gt, gq, gR, n, pn, rn, tg, le, sz, z1, hfs, hfc, _⟩
  · subst z1; subst z2; exact sC_takeN N h B p hp hp2 sy c X V T i gW_i hcs hT
  · subst z1
    cases fo with
    | none => exact sC_takeZ N h B p hp hp2 sy f gr gp gt gq gR n pn rn tg le sz c X V T i gW_i hcs hT hfs hfc
    | some q => exact sC_takeS N h B p hp hp2 sy q f gr gp gt gq gR n pn rn tg le sz c X V T i gW_i hcs hT hfs hfc
set_option maxHeartbeats 4000000 in
set_option maxRecDepth 100000 in
theorem sF_forget (N : GN) (h : GH) (B f : Nat) (n pn rn tg le : Int) (ho : h.2 f = some (fO B f n pn rn tg le)) : Sp N yX0_forget mX0_forget 0 0 [.ref f] h (fun v h1 => v = none ∧ h1 = hset h f (fO B f 0 0 0 0 0)) := by
  refine Sp.of (by decide) rfl rfl (Nat.le_of_ble_eq_true rfl) ?_
  show Go N mX0_forget _ 0 0 h 0 [(0, .ref (f))] []
  refine g_aload_n 0 dX0_forget_0 rfl ?_
  refine g_iconst dX0_forget_1 ?_
  refine g_putf 11 dX0_forget_2 kX0 (by decide) fX0_61 rfl ho (Nat.le_of_ble_eq_true rfl) rfl rfl ?_
  obtain ⟨hh1, eh1⟩ : ∃ z : GH, z = hset h (f) (oB 0 [.ref (B + 1), .ref (B + 7), .ref (f + 12), .ref (f + 1), .ref (f + 2), .ref (f + 3), .ref (f + 4), .ref (f + 5), .ref (f + 6), .ref (f + 8), .ref (f + 10), .int (gI (0)), .int (gI (pn)), .int (gI (rn)), .int (gI (tg)), .long (gJ (le))]) := ⟨_, rfl⟩
  refine Go.hp eh1.symm ?_
  have fh1_0 : hh1.2 (f) = some (oB 0 [.ref (B + 1), .ref (B + 7), .ref (f + 12), .ref (f + 1), .ref (f + 2), .ref (f + 3), .ref (f + 4), .ref (f + 5), .ref (f + 6), .ref (f + 8), .ref (f + 10), .int (gI (0)), .int (gI (pn)), .int (gI (rn)), .int (gI (tg)), .long (gJ (le))]) := by rw [eh1]; exact hset_s _ _ _
  refine g_aload_n 0 dX0_forget_5 rfl ?_
  refine g_iconst dX0_forget_6 ?_
  refine g_putf 12 dX0_forget_7 kX0 (by decide) fX0_65 rfl fh1_0 (Nat.le_of_ble_eq_true rfl) rfl rfl ?_
  obtain ⟨hh2, eh2⟩ : ∃ z : GH, z = hset hh1 (f) (oB 0 [.ref (B + 1), .ref (B + 7), .ref (f + 12), .ref (f + 1), .ref (f + 2), .ref (f + 3), .ref (f + 4), .ref (f + 5), .ref (f + 6), .ref (f + 8), .ref (f + 10), .int (gI (0)), .int (gI (0)), .int (gI (rn)), .int (gI (tg)), .long (gJ (le))]) := ⟨_, rfl⟩
  refine Go.hp eh2.symm ?_
  have fh2_0 : hh2.2 (f) = some (oB 0 [.ref (B + 1), .ref (B + 7), .ref (f + 12), .ref (f + 1), .ref (f + 2), .ref (f + 3), .ref (f + 4), .ref (f + 5), .ref (f + 6), .ref (f + 8), .ref (f + 10), .int (gI (0)), .int (gI (0)), .int (gI (rn)), .int (gI (tg)), .long (gJ (le))]) := by rw [eh2]; exact hset_s _ _ _
  refine g_aload_n 0 dX0_forget_10 rfl ?_
  refine g_iconst dX0_forget_11 ?_
  refine g_putf 13 dX0_forget_12 kX0 (by decide) fX0_68 rfl fh2_0 (Nat.le_of_ble_eq_true rfl) rfl rfl ?_
  obtain ⟨hh3, eh3⟩ : ∃ z : GH, z = hset hh2 (f) (oB 0 [.ref (B + 1), .ref (B + 7), .ref (f + 12), .ref (f + 1), .ref (f + 2), .ref (f + 3), .ref (f + 4), .ref (f + 5), .ref (f + 6), .ref (f + 8), .ref (f + 10), .int (gI (0)), .int (gI (0)), .int (gI (0)), .int (gI (tg)), .long (gJ (le))]) := ⟨_, rfl⟩
  refine Go.hp eh3.symm ?_
  have fh3_0 : hh3.2 (f) = some (oB 0 [.ref (B + 1), .ref (B + 7), .ref (f + 12), .ref (f + 1), .ref (f + 2), .ref (f + 3), .ref (f + 4), .ref (f + 5), .ref (f + 6), .ref (f + 8), .ref (f + 10), .int (gI (0)), .int (gI (0)), .int (gI (0)), .int (gI (tg)), .long (gJ (le))]) := by rw [eh3]; exact hset_s _ _ _
  refine g_aload_n 0 dX0_forget_15 rfl ?_
  refine g_iconst dX0_forget_16 ?_
  refine g_putf 14 dX0_forget_17 kX0 (by decide) fX0_71 rfl fh3_0 (Nat.le_of_ble_eq_true rfl) rfl rfl ?_
  obtain ⟨hh4, eh4⟩ : ∃ z : GH, z = hset hh3 (f) (oB 0 [.ref (B + 1), .ref (B + 7), .ref (f + 12), .ref (f + 1), .ref (f + 2), .ref (f + 3), .ref (f + 4), .ref (f + 5), .ref (f + 6), .ref (f + 8), .ref (f + 10), .int (gI (0)), .int (gI (0)), .int (gI (0)), .int (gI (0)), .long (gJ (le))]) := ⟨_, rfl⟩
  refine Go.hp eh4.symm ?_
  have fh4_0 : hh4.2 (f) = some (oB 0 [.ref (B + 1), .ref (B + 7), .ref (f + 12), .ref (f + 1), .ref (f + 2), .ref (f + 3), .ref (f + 4), .ref (f + 5), .ref (f + 6), .ref (f + 8), .ref (f + 10), .int (gI (0)), .int (gI (0)), .int (gI (0)), .int (gI (0)), .long (gJ (le))]) := by rw [eh4]; exact hset_s _ _ _
  refine g_aload_n 0 dX0_forget_20 rfl ?_
  refine g_lconst0 dX0_forget_21 ?_
  refine g_putf 15 dX0_forget_22 kX0 (by decide) fX0_74 rfl fh4_0 (Nat.le_of_ble_eq_true rfl) rfl rfl ?_
  obtain ⟨hh5, eh5⟩ : ∃ z : GH, z = hset hh4 (f) (oB 0 [.ref (B + 1), .ref (B + 7), .ref (f + 12), .ref (f + 1), .ref (f + 2), .ref (f + 3), .ref (f + 4), .ref (f + 5), .ref (f + 6), .ref (f + 8), .ref (f + 10), .int (gI (0)), .int (gI (0)), .int (gI (0)), .int (gI (0)), .long (gJ (0))]) := ⟨_, rfl⟩
  refine Go.hp eh5.symm ?_
  have fh5_0 : hh5.2 (f) = some (oB 0 [.ref (B + 1), .ref (B + 7), .ref (f + 12), .ref (f + 1), .ref (f + 2), .ref (f + 3), .ref (f + 4), .ref (f + 5), .ref (f + 6), .ref (f + 8), .ref (f + 10), .int (gI (0)), .int (gI (0)), .int (gI (0)), .int (gI (0)), .long (gJ (0))]) := by rw [eh5]; exact hset_s _ _ _
  exact g_vret dX0_forget_25 rfl ⟨rfl, by rw [eh5, eh4, eh3, eh2, eh1, hset_hset, hset_hset, hset_hset, hset_hset]⟩
theorem FAs.put {B : Nat} {h h1 : GH} {f : Nat} {gr gp : Int → Option Nat} {gt gq gR : Int → Int} {n pn rn tg le sz n2 pn2 rn2 tg2 le2 : Int} (w : FAs B h f gr gp gt gq gR n pn rn tg le sz) (E : h1 = hset h f (fO B f n2 pn2 rn2 tg2 le2)) : FAs B h1 f gr gp gt gq gR n2 pn2 rn2 tg2 le2 sz := by
  have un : ∀ (x : Nat) (e : GE), x ≠ f → h.2 x = some e → h1.2 x = some e := fun x e hx he => by rw [E, hset_n _ _ hx]; exact he
  obtain ⟨w1, w2, w3, w4, w5, w6, w7, w8, w9, w10, ⟨gg, w11⟩, ⟨gv, w12⟩, w13⟩ := w
  have n1 : h1.1 = h.1 := by rw [E]; rfl
  exact ⟨w1, by rw [n1]; exact w2, hs_s E, w4.of1 (fun e he => un _ e (by omega) he) (fun t r x e hr hx he => un x e (by have := (w4.2.1 t r hr).1; omega) he), un _ _ (by omega) w5, w6.of1 (fun e he => un _ e (by omega) he) (fun t r x e hr hx he => un x e (by have := (w6.2.1 t r hr).1; omega) he), un _ _ (by omega) w7, un _ _ (by omega) w8, fun m hm => (w9 m hm).of1 (fun x e hx he => un x e (by omega) he), un _ _ (by omega) w10, ⟨gg, un _ _ (by omega) w11⟩, ⟨gv, un _ _ (by omega) w12⟩, w13⟩
theorem FAs.fk2 {B : Nat} {h h1 : GH} {f : Nat} {gr gp : Int → Option Nat} {gt gq gR : Int → Int} {n pn rn tg le sz : Int} (w : FAs B h f gr gp gt gq gR n pn rn tg le sz) (hn : h.1 ≤ h1.1) (un : ∀ x, B + 58 ≤ x → h1.2 x = h.2 x) : FAs B h1 f gr gp gt gq gR n pn rn tg le sz := by
  obtain ⟨w1, w2, w3, w4, w5, w6, w7, w8, w9, w10, ⟨gg, w11⟩, ⟨gv, w12⟩, w13⟩ := w
  have u2 : ∀ (x : Nat) (e : GE), B + 58 ≤ x → h.2 x = some e → h1.2 x = some e := fun x e hx he => (un x hx).trans he
  exact ⟨w1, Nat.le_trans w2 hn, u2 _ _ (by omega) w3, w4.of1 (fun e he => u2 _ e (by omega) he) (fun t r x e hr hx he => u2 x e (by have := (w4.2.1 t r hr).1; omega) he), u2 _ _ (by omega) w5, w6.of1 (fun e he => u2 _ e (by omega) he) (fun t r x e hr hx he => u2 x e (by have := (w6.2.1 t r hr).1; omega) he), u2 _ _ (by omega) w7, u2 _ _ (by omega) w8, fun m hm => (w9 m hm).of1 (fun x e hx he => u2 x e (by omega) he), u2 _ _ (by omega) w10, ⟨gg, u2 _ _ (by omega) w11⟩, ⟨gv, u2 _ _ (by omega) w12⟩, w13⟩
theorem gpr_ge {q : Int} (h : gPrime q) : 2 ≤ q ∧ q ≤ 65536 ∧ ((q.toNat : Nat) : Int) = q ∧ (if 2 < q then q else 2) = q := by
  have h2 := (prm_of h).1
  have hb := h.2.1
  refine ⟨by omega, by omega, by omega, ?_⟩
  split <;> omega
set_option maxHeartbeats 4000000 in
set_option maxRecDepth 100000 in
theorem sC_primeN (N : GN) (h : GH) (B p : Nat) (hp : prm p) (hp2 : p ≤ 65536) (c : Int) (X V : Int → Int) (sy : Value) (T : PT p) (U : Nat → Prop) (q : Int) (gW_q : gW q)  (hcs : CSt p B h c X V .null sy) (hT : CP hp B h T) : Sp N yX9_prime mX9_prime 0 0 [.ref (B), .int (gI (q))] h (fun v h1 => (¬ gPrime q ∧ v = some (.int (gI 0)) ∧ h1 = h) ∨ (gPrime q ∧ v = some (.int (gI 1)) ∧ FK (fun x e => pK B x e ∧ ¬ U x) h h1 ∧ ∀ hq : prm q.toNat, CSt q.toNat B h1 0 X V .null sy ∧ CP hq B h1 (fun _ => none) ∧ FA hq B h1 .null none U)) := by
  refine Sp.of (by decide) rfl rfl (Nat.le_of_ble_eq_true rfl) ?_
  show Go N mX9_prime _ 0 0 h 0 [(0, .ref (B)), (1, .int (gI (q)))] []
  have hp1 := hp.1
  obtain ⟨gp, gt, hx1c, hx2c, hx3c, hx4c, hx5c⟩ := hT
  have hcs0 := hcs
  obtain ⟨hob, _, hw4, h5, h27, h29, h31, h33, ⟨gx, gv, w9, w10, w11, w12⟩, hlow⟩ := hcs0
  refine g_iload_n 1 dX9_prime_0 rfl ?_
  refine g_callS (nc2 := 0) (ns2 := 0) (As := [.int (gI (q))]) (st := []) rfl dX9_prime_1 okX1_isPrime lX9_69 stX1_isPrime (by decide) (by decide) rfl (Nat.le_of_ble_eq_true rfl) (sX1_isPrime N _ q gW_q) (by omega) (by omega) (fun v1 hc1 q1 => ?_)
  obtain ⟨hq2, ⟨hpr, rfl⟩ | ⟨hnp, rfl⟩⟩ := q1
  · skip
    refine Go.nf (h' := h) (st' := [.int (gI (1))]) hq2 rfl (Nat.le_refl _) (Nat.le_refl _) ?_
    refine g_if_ne (tgt := 9) dX9_prime_4 rfl (by first | assumption | (unfold gW; omega)) (fun c3 => ?_) (fun c3 => absurd c3 (by omega))
    refine g_aload_n 0 dX9_prime_9 rfl ?_
    refine g_getf 0 dX9_prime_10 kX9 (by decide) fX9_10 hob rfl ?_
    refine g_iload_n 1 dX9_prime_13 rfl ?_
    refine g_callV (nc2 := 0) (ns2 := 0) (ci := 1) (As := [.int (gI (q))]) (st := []) rfl dX9_prime_14 okX1_become lX9_73 itX1_become seX1_become rfl hcs.2.1.2.1 (by decide) (by decide) rfl (Nat.le_of_ble_eq_true rfl) (sX1_become N _ (B + 1) _ q gW_q hcs.2.1.2.1) (by omega) (by omega) (fun v4 hc4 q4 => ?_)
    obtain ⟨rfl, hE5⟩ := q4
    rw [(gpr_ge hpr).2.2.2] at hE5
    have fg5_0 : hc4.2 (B) = some (cO B (.null) (sy)) := hs_n hE5 (show NE (B) (B + 1) by unfold NE; omega) hob
    have fg5_1 : hc4.2 (B + 1) = some (oB 1 [.int (gI (q))]) := hs_s hE5
    have fg5_2 : hc4.2 (B + 2) = some (aR "PolyWork$Poly" 100 (gp)) := hs_n hE5 (show NE (B + 2) (B + 1) by unfold NE; omega) hx1c
    have fg5_3 : hc4.2 (B + 3) = some (aZ 100 (gt)) := hs_n hE5 (show NE (B + 3) (B + 1) by unfold NE; omega) hx2c
    have fg5_4 : hc4.2 (B + 4) = some (oB 8 [.ref (B + 1), .ref (B + 5)]) := hs_n hE5 (show NE (B + 4) (B + 1) by unfold NE; omega) hw4
    have fg5_5 : hc4.2 (B + 24) = some (oB 3 [.ref (B + 1), .ref (B + 25), .ref (B + 26), .int (gI (c))]) := hs_n hE5 (show NE (B + 24) (B + 1) by unfold NE; omega) w9
    have fg5_6 : hc4.2 (B + 25) = some (aJ 41 (gx)) := hs_n hE5 (show NE (B + 25) (B + 1) by unfold NE; omega) w10
    have frb : Fr [B + 1, B + 3, B + 24] h hc4 := Fr.w0 (Fr.rf [B + 1, B + 3, B + 24] h) (List.Mem.head _) hE5
    refine Go.nf (h' := hc4) (st' := []) rfl rfl (Nat.le_refl _) (Nat.le_refl _) ?_
    refine g_iconst dX9_prime_17 ?_
    refine g_istore_n (ls2 := [(2, .int (gI (0))), (0, .ref (B)), (1, .int (gI (q)))]) dX9_prime_18 rfl (by decide) rfl ?_
    have lo : ∀ (kk : Nat) (k : Int) (gz : Int → Int) (hlo : GH), kk = (100 - k).toNat → Fr [B + 1, B + 3, B + 24] h hlo → hlo.2 (B) = some (cO B (.null) (sy)) → hlo.2 (B + 1) = some (oB 1 [.int (gI (q))]) → hlo.2 (B + 2) = some (aR "PolyWork$Poly" 100 (gp)) → hlo.2 (B + 3) = some (aZ 100 (gz)) → hlo.2 (B + 4) = some (oB 8 [.ref (B + 1), .ref (B + 5)]) → hlo.2 (B + 24) = some (oB 3 [.ref (B + 1), .ref (B + 25), .ref (B + 26), .int (gI (c))]) → hlo.2 (B + 25) = some (aJ 41 (gx)) → (0 ≤ k ∧ k ≤ 100) → (∀ t, 0 ≤ t → t < k → gz t = 0) → Go N mX9_prime (fun v h1 => (¬ gPrime q ∧ v = some (.int (gI 0)) ∧ h1 = h) ∨ (gPrime q ∧ v = some (.int (gI 1)) ∧ FK (fun x e => pK B x e ∧ ¬ U x) h h1 ∧ ∀ hq : prm q.toNat, CSt q.toNat B h1 0 X V .null sy ∧ CP hq B h1 (fun _ => none) ∧ FA hq B h1 .null none U)) 0 0 hlo 19 [(2, .int (gI (k))), (0, .ref (B)), (1, .int (gI (q)))] [] := by
      refine Go.ind (fun kk ih_lo => ?_)
      intro k gz hlo hkk_lo fr_lo cf_lo_0 cf_lo_1 cf_lo_2 cf_lo_3 cf_lo_4 cf_lo_5 cf_lo_6 hk hz
      refine g_iload_n 0 dX9_prime_19 rfl ?_
      refine g_bipush dX9_prime_20 (by decide) ?_
      refine g_icmp_ge (tgt := 38) dX9_prime_22 rfl (by first | assumption | (unfold gW; omega)) (by first | assumption | (unfold gW; omega)) (fun c106 => ?_) (fun c106 => ?_)
      · skip
        refine g_aload_n 1 dX9_prime_38 rfl ?_
        refine g_getf 5 dX9_prime_39 kX9 (by decide) fX9_45 cf_lo_0 rfl ?_
        refine g_iconst dX9_prime_42 ?_
        refine g_putf 3 dX9_prime_43 kX3 (by decide) fX9_76 rfl cf_lo_5 (Nat.le_of_ble_eq_true rfl) rfl rfl ?_
        obtain ⟨hh107, eh107⟩ : ∃ z : GH, z = hset hlo (B + 24) (oB 3 [.ref (B + 1), .ref (B + 25), .ref (B + 26), .int (gI (0))]) := ⟨_, rfl⟩
        refine Go.hp eh107.symm ?_
        have fh107_0 : hh107.2 (B) = some (cO B (.null) (sy)) := hs_n eh107 (show NE (B) (B + 24) by unfold NE; omega) cf_lo_0
        have fh107_1 : hh107.2 (B + 1) = some (oB 1 [.int (gI (q))]) := hs_n eh107 (show NE (B + 1) (B + 24) by unfold NE; omega) cf_lo_1
        have fh107_2 : hh107.2 (B + 2) = some (aR "PolyWork$Poly" 100 (gp)) := hs_n eh107 (show NE (B + 2) (B + 24) by unfold NE; omega) cf_lo_2
        have fh107_3 : hh107.2 (B + 3) = some (aZ 100 (gz)) := hs_n eh107 (show NE (B + 3) (B + 24) by unfold NE; omega) cf_lo_3
        have fh107_4 : hh107.2 (B + 4) = some (oB 8 [.ref (B + 1), .ref (B + 5)]) := hs_n eh107 (show NE (B + 4) (B + 24) by unfold NE; omega) cf_lo_4
        have fh107_5 : hh107.2 (B + 24) = some (oB 3 [.ref (B + 1), .ref (B + 25), .ref (B + 26), .int (gI (0))]) := hs_s eh107
        have fh107_6 : hh107.2 (B + 25) = some (aJ 41 (gx)) := hs_n eh107 (show NE (B + 25) (B + 24) by unfold NE; omega) cf_lo_6
        have fr107 : Fr [B + 1, B + 3, B + 24] h hh107 := Fr.w0 fr_lo (List.Mem.tail _ (List.Mem.tail _ (List.Mem.head _))) eh107
        have un : ∀ x, x ≠ B + 1 → x ≠ B + 2 → x ≠ B + 3 → x ≠ B + 4 → x ≠ B + 24 → x ≠ B + 25 → hh107.2 x = h.2 x := fun x y1 y2 y3 y4 y5 y6 => fr107.2 x (Ni.c ⟨y1, y2⟩ (Ni.c ⟨y3, y4⟩ (Ni.c ⟨y5, y6⟩ (Ni.n _))))
        have hqn := (gpr_ge hpr).2.2.1
        have csH : CSt q.toNat B hh107 0 X V .null sy := ⟨fh107_0, ⟨(un _ (by omega) (by omega) (by omega) (by omega) (by omega) (by omega)).trans hcs.2.1.1, by rw [hqn]; exact fh107_1, fun x hx => (hcs.2.1.2.2 x hx).of1 (fun y e hy he => by have := pl_in hx; exact (un y (by omega) (by omega) (by omega) (by omega) (by omega) (by omega)).trans he)⟩, fh107_4, h5.of1 (fun y e hy he => (un y (by omega) (by omega) (by omega) (by omega) (by omega) (by omega)).trans he), h27.of1 (fun y e hy he => (un y (by omega) (by omega) (by omega) (by omega) (by omega) (by omega)).trans he), h29.of1 (fun y e hy he => (un y (by omega) (by omega) (by omega) (by omega) (by omega) (by omega)).trans he), h31.of1 (fun y e hy he => (un y (by omega) (by omega) (by omega) (by omega) (by omega) (by omega)).trans he), h33.of1 (fun y e hy he => (un y (by omega) (by omega) (by omega) (by omega) (by omega) (by omega)).trans he), ⟨gx, gv, fh107_5, fh107_6, (un _ (by omega) (by omega) (by omega) (by omega) (by omega) (by omega)).trans w11, by omega, fun k k0 k1 => by omega⟩, by rw [(fr107).1]; exact hlow⟩
        have cpH : ∀ hq : prm q.toNat, CP hq B hh107 (fun _ => none) := fun hq => ⟨gp, gz, fh107_2, fh107_3, fun t t0 t1 => Or.inl ⟨rfl, hz t t0 (by omega)⟩, fun t z hz9 => ⟨(hx4c t z hz9).1, (hx4c t z hz9).2.of1 (fun y e hy he => by have := (hx4c t z hz9).1; exact (un y (by omega) (by omega) (by omega) (by omega) (by omega) (by omega)).trans he)⟩, hx5c⟩
        have fkH : FK (fun x e => pK B x e ∧ ¬ U x) h hh107 := ⟨by rw [(fr107).1]; exact Nat.le_refl _, fun x e hx hk => by have := hk.1.1; exact (un x (by omega) (by omega) (by omega) (by omega) (by omega) (by omega)).trans hx⟩
        refine g_aload_n 1 dX9_prime_46 rfl ?_
        refine g_getf 10 dX9_prime_47 kX9 (by decide) fX9_80 fh107_0 rfl ?_
        refine g_ifnullN (x := 0) (tgt := 60) dX9_prime_50 rfl ?_
        refine g_iconst dX9_prime_60 ?_
        exact g_zret dX9_prime_61 rfl (by omega) (Or.inr ⟨hpr, rfl, fkH, fun hq => ⟨csH, cpH hq, Or.inl ⟨rfl, rfl⟩⟩⟩)
      · skip
        refine g_aload_n 1 dX9_prime_25 rfl ?_
        refine g_getf 2 dX9_prime_26 kX9 (by decide) fX9_22 cf_lo_0 rfl ?_
        refine g_iload_n 0 dX9_prime_29 rfl ?_
        refine g_iconst dX9_prime_30 ?_
        refine g_bastore dX9_prime_31 cf_lo_3 (by omega) (by omega) (by omega) (by omega) ?_
        obtain ⟨hh108, eh108⟩ : ∃ z : GH, z = hset hlo (B + 3) (aZ 100 (gup (gz) (k) (0))) := ⟨_, rfl⟩
        refine Go.hp eh108.symm ?_
        have fh108_0 : hh108.2 (B) = some (cO B (.null) (sy)) := hs_n eh108 (show NE (B) (B + 3) by unfold NE; omega) cf_lo_0
        have fh108_1 : hh108.2 (B + 1) = some (oB 1 [.int (gI (q))]) := hs_n eh108 (show NE (B + 1) (B + 3) by unfold NE; omega) cf_lo_1
        have fh108_2 : hh108.2 (B + 2) = some (aR "PolyWork$Poly" 100 (gp)) := hs_n eh108 (show NE (B + 2) (B + 3) by unfold NE; omega) cf_lo_2
        have fh108_3 : hh108.2 (B + 3) = some (aZ 100 (gup (gz) (k) (0))) := hs_s eh108
        have fh108_4 : hh108.2 (B + 4) = some (oB 8 [.ref (B + 1), .ref (B + 5)]) := hs_n eh108 (show NE (B + 4) (B + 3) by unfold NE; omega) cf_lo_4
        have fh108_5 : hh108.2 (B + 24) = some (oB 3 [.ref (B + 1), .ref (B + 25), .ref (B + 26), .int (gI (c))]) := hs_n eh108 (show NE (B + 24) (B + 3) by unfold NE; omega) cf_lo_5
        have fh108_6 : hh108.2 (B + 25) = some (aJ 41 (gx)) := hs_n eh108 (show NE (B + 25) (B + 3) by unfold NE; omega) cf_lo_6
        have fr108 : Fr [B + 1, B + 3, B + 24] h hh108 := Fr.w0 fr_lo (List.Mem.tail _ (List.Mem.head _)) eh108
        refine g_iinc 0 (ls2 := [(2, .int (gI (k + 1))), (0, .ref (B)), (1, .int (gI (q)))]) dX9_prime_32 rfl (by decide) rfl ?_
        refine g_goto (tgt := 19) dX9_prime_35 rfl ?_
        exact ih_lo _ (by omega) (k + 1) (gup gz k 0) hh108 rfl fr108 fh108_0 fh108_1 fh108_2 fh108_3 fh108_4 fh108_5 fh108_6 (by omega) (fun t t0 t1 => by
                                                                      unfold gup
                                                                      split
                                                                      · rfl
                                                                      · exact hz t t0 (by omega))
    exact lo _ (0) (gt) hc4 rfl frb fg5_0 fg5_1 fg5_2 fg5_3 fg5_4 fg5_5 fg5_6 (by omega) (fun t t0 t1 => by omega)
  · skip
    refine Go.nf (h' := h) (st' := [.int (gI (0))]) hq2 rfl (Nat.le_refl _) (Nat.le_refl _) ?_
    refine g_if_ne (tgt := 9) dX9_prime_4 rfl (by first | assumption | (unfold gW; omega)) (fun c209 => absurd c209 (by omega)) (fun c209 => ?_)
    refine g_iconst dX9_prime_7 ?_
    exact g_zret dX9_prime_8 rfl (by omega) (Or.inl ⟨hnp, rfl, rfl⟩)
set_option maxHeartbeats 4000000 in
set_option maxRecDepth 100000 in
theorem sC_primeS (N : GN) (h : GH) (B p : Nat) (hp : prm p) (hp2 : p ≤ 65536) (c : Int) (X V : Int → Int) (sy : Value) (T : PT p) (U : Nat → Prop) (q : Int) (gW_q : gW q) (f : Nat) (gr gp2 : Int → Option Nat) (gt2 gq gR : Int → Int) (n pn rn tg le sz : Int) (hfs : FAs B h f gr gp2 gt2 gq gR n pn rn tg le sz) (hU : ∀ x, FF f gr gp2 x → U x) (hcs : CSt p B h c X V (.ref f) sy) (hT : CP hp B h T) : Sp N yX9_prime mX9_prime 0 0 [.ref (B), .int (gI (q))] h (fun v h1 => (¬ gPrime q ∧ v = some (.int (gI 0)) ∧ h1 = h) ∨ (gPrime q ∧ v = some (.int (gI 1)) ∧ FK (fun x e => pK B x e ∧ ¬ U x) h h1 ∧ ∀ hq : prm q.toNat, CSt q.toNat B h1 0 X V (.ref f) sy ∧ CP hq B h1 (fun _ => none) ∧ FA hq B h1 (.ref f) none U)) := by
  refine Sp.of (by decide) rfl rfl (Nat.le_of_ble_eq_true rfl) ?_
  show Go N mX9_prime _ 0 0 h 0 [(0, .ref (B)), (1, .int (gI (q)))] []
  have hp1 := hp.1
  obtain ⟨gp, gt, hx1c, hx2c, hx3c, hx4c, hx5c⟩ := hT
  have hcs0 := hcs
  obtain ⟨hob, _, hw4, h5, h27, h29, h31, h33, ⟨gx, gv, w9, w10, w11, w12⟩, hlow⟩ := hcs0
  refine g_iload_n 1 dX9_prime_0 rfl ?_
  refine g_callS (nc2 := 0) (ns2 := 0) (As := [.int (gI (q))]) (st := []) rfl dX9_prime_1 okX1_isPrime lX9_69 stX1_isPrime (by decide) (by decide) rfl (Nat.le_of_ble_eq_true rfl) (sX1_isPrime N _ q gW_q) (by omega) (by omega) (fun v1 hc1 q1 => ?_)
  obtain ⟨hq2, ⟨hpr, rfl⟩ | ⟨hnp, rfl⟩⟩ := q1
  · skip
    refine Go.nf (h' := h) (st' := [.int (gI (1))]) hq2 rfl (Nat.le_refl _) (Nat.le_refl _) ?_
    refine g_if_ne (tgt := 9) dX9_prime_4 rfl (by first | assumption | (unfold gW; omega)) (fun c3 => ?_) (fun c3 => absurd c3 (by omega))
    refine g_aload_n 0 dX9_prime_9 rfl ?_
    refine g_getf 0 dX9_prime_10 kX9 (by decide) fX9_10 hob rfl ?_
    refine g_iload_n 1 dX9_prime_13 rfl ?_
    refine g_callV (nc2 := 0) (ns2 := 0) (ci := 1) (As := [.int (gI (q))]) (st := []) rfl dX9_prime_14 okX1_become lX9_73 itX1_become seX1_become rfl hcs.2.1.2.1 (by decide) (by decide) rfl (Nat.le_of_ble_eq_true rfl) (sX1_become N _ (B + 1) _ q gW_q hcs.2.1.2.1) (by omega) (by omega) (fun v4 hc4 q4 => ?_)
    obtain ⟨rfl, hE5⟩ := q4
    rw [(gpr_ge hpr).2.2.2] at hE5
    have fg5_0 : hc4.2 (B) = some (cO B (.ref (f)) (sy)) := hs_n hE5 (show NE (B) (B + 1) by unfold NE; omega) hob
    have fg5_1 : hc4.2 (B + 1) = some (oB 1 [.int (gI (q))]) := hs_s hE5
    have fg5_2 : hc4.2 (B + 2) = some (aR "PolyWork$Poly" 100 (gp)) := hs_n hE5 (show NE (B + 2) (B + 1) by unfold NE; omega) hx1c
    have fg5_3 : hc4.2 (B + 3) = some (aZ 100 (gt)) := hs_n hE5 (show NE (B + 3) (B + 1) by unfold NE; omega) hx2c
    have fg5_4 : hc4.2 (B + 4) = some (oB 8 [.ref (B + 1), .ref (B + 5)]) := hs_n hE5 (show NE (B + 4) (B + 1) by unfold NE; omega) hw4
    have fg5_5 : hc4.2 (B + 24) = some (oB 3 [.ref (B + 1), .ref (B + 25), .ref (B + 26), .int (gI (c))]) := hs_n hE5 (show NE (B + 24) (B + 1) by unfold NE; omega) w9
    have fg5_6 : hc4.2 (B + 25) = some (aJ 41 (gx)) := hs_n hE5 (show NE (B + 25) (B + 1) by unfold NE; omega) w10
    have frb : Fr [B + 1, B + 3, B + 24] h hc4 := Fr.w0 (Fr.rf [B + 1, B + 3, B + 24] h) (List.Mem.head _) hE5
    refine Go.nf (h' := hc4) (st' := []) rfl rfl (Nat.le_refl _) (Nat.le_refl _) ?_
    refine g_iconst dX9_prime_17 ?_
    refine g_istore_n (ls2 := [(2, .int (gI (0))), (0, .ref (B)), (1, .int (gI (q)))]) dX9_prime_18 rfl (by decide) rfl ?_
    have lo : ∀ (kk : Nat) (k : Int) (gz : Int → Int) (hlo : GH), kk = (100 - k).toNat → Fr [B + 1, B + 3, B + 24] h hlo → hlo.2 (B) = some (cO B (.ref (f)) (sy)) → hlo.2 (B + 1) = some (oB 1 [.int (gI (q))]) → hlo.2 (B + 2) = some (aR "PolyWork$Poly" 100 (gp)) → hlo.2 (B + 3) = some (aZ 100 (gz)) → hlo.2 (B + 4) = some (oB 8 [.ref (B + 1), .ref (B + 5)]) → hlo.2 (B + 24) = some (oB 3 [.ref (B + 1), .ref (B + 25), .ref (B + 26), .int (gI (c))]) → hlo.2 (B + 25) = some (aJ 41 (gx)) → (0 ≤ k ∧ k ≤ 100) → (∀ t, 0 ≤ t → t < k → gz t = 0) → Go N mX9_prime (fun v h1 => (¬ gPrime q ∧ v = some (.int (gI 0)) ∧ h1 = h) ∨ (gPrime q ∧ v = some (.int (gI 1)) ∧ FK (fun x e => pK B x e ∧ ¬ U x) h h1 ∧ ∀ hq : prm q.toNat, CSt q.toNat B h1 0 X V (.ref f) sy ∧ CP hq B h1 (fun _ => none) ∧ FA hq B h1 (.ref f) none U)) 0 0 hlo 19 [(2, .int (gI (k))), (0, .ref (B)), (1, .int (gI (q)))] [] := by
      refine Go.ind (fun kk ih_lo => ?_)
      intro k gz hlo hkk_lo fr_lo cf_lo_0 cf_lo_1 cf_lo_2 cf_lo_3 cf_lo_4 cf_lo_5 cf_lo_6 hk hz
      refine g_iload_n 0 dX9_prime_19 rfl ?_
      refine g_bipush dX9_prime_20 (by decide) ?_
      refine g_icmp_ge (tgt := 38) dX9_prime_22 rfl (by first | assumption | (unfold gW; omega)) (by first | assumption | (unfold gW; omega)) (fun c106 => ?_) (fun c106 => ?_)
      · skip
        refine g_aload_n 1 dX9_prime_38 rfl ?_
        refine g_getf 5 dX9_prime_39 kX9 (by decide) fX9_45 cf_lo_0 rfl ?_
        refine g_iconst dX9_prime_42 ?_
        refine g_putf 3 dX9_prime_43 kX3 (by decide) fX9_76 rfl cf_lo_5 (Nat.le_of_ble_eq_true rfl) rfl rfl ?_
        obtain ⟨hh107, eh107⟩ : ∃ z : GH, z = hset hlo (B + 24) (oB 3 [.ref (B + 1), .ref (B + 25), .ref (B + 26), .int (gI (0))]) := ⟨_, rfl⟩
        refine Go.hp eh107.symm ?_
        have fh107_0 : hh107.2 (B) = some (cO B (.ref (f)) (sy)) := hs_n eh107 (show NE (B) (B + 24) by unfold NE; omega) cf_lo_0
        have fh107_1 : hh107.2 (B + 1) = some (oB 1 [.int (gI (q))]) := hs_n eh107 (show NE (B + 1) (B + 24) by unfold NE; omega) cf_lo_1
        have fh107_2 : hh107.2 (B + 2) = some (aR "PolyWork$Poly" 100 (gp)) := hs_n eh107 (show NE (B + 2) (B + 24) by unfold NE; omega) cf_lo_2
        have fh107_3 : hh107.2 (B + 3) = some (aZ 100 (gz)) := hs_n eh107 (show NE (B + 3) (B + 24) by unfold NE; omega) cf_lo_3
        have fh107_4 : hh107.2 (B + 4) = some (oB 8 [.ref (B + 1), .ref (B + 5)]) := hs_n eh107 (show NE (B + 4) (B + 24) by unfold NE; omega) cf_lo_4
        have fh107_5 : hh107.2 (B + 24) = some (oB 3 [.ref (B + 1), .ref (B + 25), .ref (B + 26), .int (gI (0))]) := hs_s eh107
        have fh107_6 : hh107.2 (B + 25) = some (aJ 41 (gx)) := hs_n eh107 (show NE (B + 25) (B + 24) by unfold NE; omega) cf_lo_6
        have fr107 : Fr [B + 1, B + 3, B + 24] h hh107 := Fr.w0 fr_lo (List.Mem.tail _ (List.Mem.tail _ (List.Mem.head _))) eh107
        have un : ∀ x, x ≠ B + 1 → x ≠ B + 2 → x ≠ B + 3 → x ≠ B + 4 → x ≠ B + 24 → x ≠ B + 25 → hh107.2 x = h.2 x := fun x y1 y2 y3 y4 y5 y6 => fr107.2 x (Ni.c ⟨y1, y2⟩ (Ni.c ⟨y3, y4⟩ (Ni.c ⟨y5, y6⟩ (Ni.n _))))
        have hqn := (gpr_ge hpr).2.2.1
        have csH : CSt q.toNat B hh107 0 X V (.ref f) sy := ⟨fh107_0, ⟨(un _ (by omega) (by omega) (by omega) (by omega) (by omega) (by omega)).trans hcs.2.1.1, by rw [hqn]; exact fh107_1, fun x hx => (hcs.2.1.2.2 x hx).of1 (fun y e hy he => by have := pl_in hx; exact (un y (by omega) (by omega) (by omega) (by omega) (by omega) (by omega)).trans he)⟩, fh107_4, h5.of1 (fun y e hy he => (un y (by omega) (by omega) (by omega) (by omega) (by omega) (by omega)).trans he), h27.of1 (fun y e hy he => (un y (by omega) (by omega) (by omega) (by omega) (by omega) (by omega)).trans he), h29.of1 (fun y e hy he => (un y (by omega) (by omega) (by omega) (by omega) (by omega) (by omega)).trans he), h31.of1 (fun y e hy he => (un y (by omega) (by omega) (by omega) (by omega) (by omega) (by omega)).trans he), h33.of1 (fun y e hy he => (un y (by omega) (by omega) (by omega) (by omega) (by omega) (by omega)).trans he), ⟨gx, gv, fh107_5, fh107_6, (un _ (by omega) (by omega) (by omega) (by omega) (by omega) (by omega)).trans w11, by omega, fun k k0 k1 => by omega⟩, by rw [(fr107).1]; exact hlow⟩
        have cpH : ∀ hq : prm q.toNat, CP hq B hh107 (fun _ => none) := fun hq => ⟨gp, gz, fh107_2, fh107_3, fun t t0 t1 => Or.inl ⟨rfl, hz t t0 (by omega)⟩, fun t z hz9 => ⟨(hx4c t z hz9).1, (hx4c t z hz9).2.of1 (fun y e hy he => by have := (hx4c t z hz9).1; exact (un y (by omega) (by omega) (by omega) (by omega) (by omega) (by omega)).trans he)⟩, hx5c⟩
        have fkH : FK (fun x e => pK B x e ∧ ¬ U x) h hh107 := ⟨by rw [(fr107).1]; exact Nat.le_refl _, fun x e hx hk => by have := hk.1.1; exact (un x (by omega) (by omega) (by omega) (by omega) (by omega) (by omega)).trans hx⟩
        have fsH := hfs.fk2 (h1 := hh107) (by rw [(fr107).1]; exact Nat.le_refl _) (fun x hx => un x (by omega) (by omega) (by omega) (by omega) (by omega) (by omega))
        refine g_aload_n 1 dX9_prime_46 rfl ?_
        refine g_getf 10 dX9_prime_47 kX9 (by decide) fX9_80 fh107_0 rfl ?_
        refine g_ifnull (tgt := 60) dX9_prime_50 rfl ?_
        refine g_aload_n 1 dX9_prime_53 rfl ?_
        refine g_getf 10 dX9_prime_54 kX9 (by decide) fX9_80 fh107_0 rfl ?_
        refine g_callV (nc2 := 0) (ns2 := 0) (ci := 0) (As := []) (st := []) rfl dX9_prime_57 okX0_forget lX9_84 itX0_forget seX0_forget rfl fsH.2.2.1 (by decide) (by decide) rfl (Nat.le_of_ble_eq_true rfl) (sF_forget N _ B f n pn rn tg le fsH.2.2.1) (by omega) (by omega) (fun v108 hc108 q108 => ?_)
        obtain ⟨rfl, hE⟩ := q108
        have fs2 := fsH.put hE
        have un2 : ∀ (x : Nat) (e : GE), x ≠ f → hh107.2 x = some e → hc108.2 x = some e := fun x e hx he => by rw [hE, hset_n _ _ hx]; exact he
        have n2_ : hc108.1 = hh107.1 := by rw [hE]; rfl
        have h58 := hfs.1
        have cs2 : CSt q.toNat B hc108 0 X V (.ref f) sy := CSt.of1 csH (by omega) (un2 _ _ (by omega) csH.1) (csH.2.2.2.2.1.of1 (fun x e hx he => un2 x e (by omega) he)) (csH.2.2.2.2.2.2.2.1.of1 (fun x e hx he => un2 x e (by omega) he)) (fun x e hx _ _ => un2 x e (by omega) hx)
        have cp2 : ∀ hq : prm q.toNat, CP hq B hc108 (fun _ => none) := fun hq => CP.of1 (cpH hq) (fun x e hx hk => un2 x e (fun z => by
                                                                      rcases hk with y | y | y
                                                                      · omega
                                                                      · omega
                                                                      · rw [z, fsH.2.2.1] at hx; exact y.2 (by rw [← Option.some.inj hx]; exact npc_o (by omega))) hx)
        have fk2 : FK (fun x e => pK B x e ∧ ¬ U x) h hc108 := FK.tr fkH ⟨by omega, fun x e hx hk => un2 x e (fun z => hk.2 (hU x (Or.inl (by omega)))) hx⟩
        refine Go.nf (h' := hc108) (st' := []) rfl rfl (Nat.le_refl _) (Nat.le_refl _) ?_
        refine g_iconst dX9_prime_60 ?_
        exact g_zret dX9_prime_61 rfl (by omega) (Or.inr ⟨hpr, rfl, fk2, fun hq => ⟨cs2, cp2 hq, Or.inr ⟨f, gr, gp2, gt2, gq, gR, 0, 0, 0, 0, 0, sz, rfl, fs2, ⟨rfl, rfl, rfl⟩, hU⟩⟩⟩)
      · skip
        refine g_aload_n 1 dX9_prime_25 rfl ?_
        refine g_getf 2 dX9_prime_26 kX9 (by decide) fX9_22 cf_lo_0 rfl ?_
        refine g_iload_n 0 dX9_prime_29 rfl ?_
        refine g_iconst dX9_prime_30 ?_
        refine g_bastore dX9_prime_31 cf_lo_3 (by omega) (by omega) (by omega) (by omega) ?_
        obtain ⟨hh109, eh109⟩ : ∃ z : GH, z = hset hlo (B + 3) (aZ 100 (gup (gz) (k) (0))) := ⟨_, rfl⟩
        refine Go.hp eh109.symm ?_
        have fh109_0 : hh109.2 (B) = some (cO B (.ref (f)) (sy)) := hs_n eh109 (show NE (B) (B + 3) by unfold NE; omega) cf_lo_0
        have fh109_1 : hh109.2 (B + 1) = some (oB 1 [.int (gI (q))]) := hs_n eh109 (show NE (B + 1) (B + 3) by unfold NE; omega) cf_lo_1
        have fh109_2 : hh109.2 (B + 2) = some (aR "PolyWork$Poly" 100 (gp)) := hs_n eh109 (show NE (B + 2) (B + 3) by unfold NE; omega) cf_lo_2
        have fh109_3 : hh109.2 (B + 3) = some (aZ 100 (gup (gz) (k) (0))) := hs_s eh109
        have fh109_4 : hh109.2 (B + 4) = some (oB 8 [.ref (B + 1), .ref (B + 5)]) := hs_n eh109 (show NE (B + 4) (B + 3) by unfold NE; omega) cf_lo_4
        have fh109_5 : hh109.2 (B + 24) = some (oB 3 [.ref (B + 1), .ref (B + 25), .ref (B + 26), .int (gI (c))]) := hs_n eh109 (show NE (B + 24) (B + 3) by unfold NE; omega) cf_lo_5
        have fh109_6 : hh109.2 (B + 25) = some (aJ 41 (gx)) := hs_n eh109 (show NE (B + 25) (B + 3) by unfold NE; omega) cf_lo_6
        have fr109 : Fr [B + 1, B + 3, B + 24] h hh109 := Fr.w0 fr_lo (List.Mem.tail _ (List.Mem.head _)) eh109
        refine g_iinc 0 (ls2 := [(2, .int (gI (k + 1))), (0, .ref (B)), (1, .int (gI (q)))]) dX9_prime_32 rfl (by decide) rfl ?_
        refine g_goto (tgt := 19) dX9_prime_35 rfl ?_
        exact ih_lo _ (by omega) (k + 1) (gup gz k 0) hh109 rfl fr109 fh109_0 fh109_1 fh109_2 fh109_3 fh109_4 fh109_5 fh109_6 (by omega) (fun t t0 t1 => by
                                                                      unfold gup
                                                                      split
                                                                      · rfl
                                                                      · exact hz t t0 (by omega))
    exact lo _ (0) (gt) hc4 rfl frb fg5_0 fg5_1 fg5_2 fg5_3 fg5_4 fg5_5 fg5_6 (by omega) (fun t t0 t1 => by omega)
  · skip
    refine Go.nf (h' := h) (st' := [.int (gI (0))]) hq2 rfl (Nat.le_refl _) (Nat.le_refl _) ?_
    refine g_if_ne (tgt := 9) dX9_prime_4 rfl (by first | assumption | (unfold gW; omega)) (fun c210 => absurd c210 (by omega)) (fun c210 => ?_)
    refine g_iconst dX9_prime_7 ?_
    exact g_zret dX9_prime_8 rfl (by omega) (Or.inl ⟨hnp, rfl, rfl⟩)
theorem sC_prime (N : GN) (h : GH) (B p : Nat) (hp : prm p) (hp2 : p ≤ 65536) (c : Int) (X V : Int → Int) (fa sy : Value) (T : PT p) (fo : Option (Px p)) (U : Nat → Prop) (q : Int) (gW_q : gW q) (hcs : CSt p B h c X V fa sy) (hT : CP hp B h T) (hX : FA hp B h fa fo U) : Sp N yX9_prime mX9_prime 0 0 [.ref (B), .int (gI (q))] h (fun v h1 => (¬ gPrime q ∧ v = some (.int (gI 0)) ∧ h1 = h) ∨ (gPrime q ∧ v = some (.int (gI 1)) ∧ FK (fun x e => pK B x e ∧ ¬ U x) h h1 ∧ ∀ hq : prm q.toNat, CSt q.toNat B h1 0 X V fa sy ∧ CP hq B h1 (fun _ => none) ∧ FA hq B h1 fa none U)) := by
  rcases hX with ⟨z1, z2⟩ | ⟨f, gr, gp, gt, gq, gR, n, pn, rn, tg, le, sz, z1, hfs, hfc, hU⟩
  · subst z1; exact sC_primeN N h B p hp hp2 c X V sy T U q gW_q hcs hT
  · subst z1; exact sC_primeS N h B p hp hp2 c X V sy T U q gW_q f gr gp gt gq gR n pn rn tg le sz hfs hU hcs hT
