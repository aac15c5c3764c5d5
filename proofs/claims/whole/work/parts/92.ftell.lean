section
variable {p : Nat}
abbrev fO (B f : Nat) (n pn rn tg le : Int) : GE := oB 0 [.ref (B + 1), .ref (B + 7), .ref (f + 12), .ref (f + 1), .ref (f + 2), .ref (f + 3), .ref (f + 4), .ref (f + 5), .ref (f + 6), .ref (f + 8), .ref (f + 10), .int (gI n), .int (gI pn), .int (gI rn), .int (gI tg), .long (gJ le)]
abbrev spO (B f : Nat) (sz : Int) : GE := oB 6 [.ref (B + 1), .ref (B + 7), .ref (f + 13), .ref (f + 14), .ref (f + 15), .ref (f + 17), .ref (f + 19), .int (gI sz)]
/-- Factors at f, whatever it holds -/
def FAs (B : Nat) (h : GH) (f : Nat) (gr gp : Int → Option Nat) (gt gq gR : Int → Int) (n pn rn tg le sz : Int) : Prop := B + 58 ≤ f ∧ f + 21 ≤ h.1 ∧ h.2 f = some (fO B f n pn rn tg le) ∧ RLi 40 (f + 21) h (f + 1) gr ∧ h.2 (f + 2) = some (aI 40 gt) ∧ RLi 8 (f + 21) h (f + 3) gp ∧ h.2 (f + 4) = some (aI 8 gq) ∧ h.2 (f + 5) = some (aJ 40 gR) ∧ (∀ k : Nat, k = 6 ∨ k = 8 ∨ k = 10 ∨ k = 15 ∨ k = 17 ∨ k = 19 → RA 84 h (f + k)) ∧ h.2 (f + 12) = some (spO B f sz) ∧ (∃ gg, h.2 (f + 13) = some (aJ 1600 gg)) ∧ (∃ gv, h.2 (f + 14) = some (aI 40 gv)) ∧ ∀ (i j : Int) (r t : Nat), gr i = some r → gp j = some t → AP r t
/-- it holds what the latest factor() has found -/
def FAc (hp : prm p) (h : GH) (fo : Option (Px p)) (gr gp : Int → Option Nat) (gt gq gR : Int → Int) (n pn rn tg le : Int) : Prop := match fo with
  | none => n = 0 ∧ pn = 0 ∧ rn = 0
  | some q => n = fN hp q ∧ pn = kN hp q ∧ rn = rN hp q ∧ tg = fS hp q (fN hp q) ∧ le = ld hp q ∧ (1 ≤ fN hp q ∧ fN hp q ≤ 40 ∧ kN hp q ≤ 8 ∧ rN hp q ≤ 40) ∧ (∀ i : Int, 0 ≤ i → i < fN hp q → dgi hp (fP hp q i) ≤ 40 ∧ gt i = fE hp q i ∧ ∃ r, gr i = some r ∧ RP hp 84 h r (fP hp q i)) ∧ (∀ i : Int, 0 ≤ i → i < kN hp q → gq i = kK hp q i ∧ ∃ r, gp i = some r ∧ RP hp 84 h r (kQ hp q i)) ∧ ∀ i : Int, 0 ≤ i → i < rN hp q → gR i = rR hp q i
def FF (f : Nat) (gr gp : Int → Option Nat) (x : Nat) : Prop := (f ≤ x ∧ x < f + 21) ∨ ∃ (t : Int) (r : Nat), (gr t = some r ∨ gp t = some r) ∧ (x = r ∨ x = r + 1)
def FA (hp : prm p) (B : Nat) (h : GH) (fa : Value) (fo : Option (Px p)) (U : Nat → Prop) : Prop := (fa = .null ∧ fo = none) ∨ ∃ f gr gp gt gq gR n pn rn tg le sz, fa = .ref f ∧ FAs B h f gr gp gt gq gR n pn rn tg le sz ∧ FAc hp h fo gr gp gt gq gR n pn rn tg le ∧ ∀ x, FF f gr gp x → U x
theorem npc_i {n : Nat} {g : Int → Int} : npc (aI n g) := by
  refine ⟨fun _ e => ?_, fun _ e => ?_⟩
  · cases e
  · exact absurd (congrArg Prod.fst (Sum.inl.inj e)) (fun z => by cases z)
theorem RLi.of1 {n lo : Nat} {h h1 : GH} {a : Nat} {g : Int → Option Nat} (w : RLi n lo h a g) (fa : ∀ e, h.2 a = some e → h1.2 a = some e) (f : ∀ (t : Int) (r x : Nat) (e : GE), g t = some r → x = r ∨ x = r + 1 → h.2 x = some e → h1.2 x = some e) : RLi n lo h1 a g := ⟨fa _ w.1, fun i r hr => ⟨(w.2.1 i r hr).1, (w.2.1 i r hr).2.of1 (fun x e hx he => f i r x e hr hx he)⟩, w.2.2⟩
theorem FA.fk {hp : prm p} {B : Nat} {h h1 : GH} {fa : Value} {fo : Option (Px p)} {U : Nat → Prop} {P : Nat → GE → Prop} (w : FA hp B h fa fo U) (f : FK P h h1) (k : ∀ x e, B + 58 ≤ x → npc e → U x → P x e) : FA hp B h1 fa fo U := by
  rcases w with z | ⟨a, gr, gp, gt, gq, gR, n, pn, rn, tg, lz, sz, rfl, ⟨w1, w2, w3, w4, w5, w6, w7, w8, w9, w10, ⟨gg, w11⟩, ⟨gv, w12⟩, w13⟩, hc, hU⟩
  · exact Or.inl z
  · have k0 : ∀ (m : Nat) (e : GE), m < 21 → npc e → h.2 (a + m) = some e → h1.2 (a + m) = some e := fun m e x1 hn he => f.2 _ e he (k _ e (Nat.le_trans w1 (Nat.le_add_right _ _)) hn (hU _ (Or.inl ⟨Nat.le_add_right _ _, Nat.add_lt_add_left x1 _⟩)))
    have k1 : ∀ (x : Nat) (e : GE), (∃ m, m < 21 ∧ x = a + m) → npc e → h.2 x = some e → h1.2 x = some e := fun x e ⟨m, x0, x1⟩ hn he => by
      subst x1; exact k0 m e x0 hn he
    have kr : ∀ (t : Int) (r x : Nat) (e : GE), gr t = some r → x = r ∨ x = r + 1 → h.2 x = some e → h1.2 x = some e := fun t r x e hr hx he => f.2 x e he (k x e (by have := (w4.2.1 t r hr).1; omega) ((w4.2.1 t r hr).2.npc (by omega) hx he) (hU x (Or.inr ⟨t, r, Or.inl hr, hx⟩)))
    have kp : ∀ (t : Int) (r x : Nat) (e : GE), gp t = some r → x = r ∨ x = r + 1 → h.2 x = some e → h1.2 x = some e := fun t r x e hr hx he => f.2 x e he (k x e (by have := (w6.2.1 t r hr).1; omega) ((w6.2.1 t r hr).2.npc (by omega) hx he) (hU x (Or.inr ⟨t, r, Or.inr hr, hx⟩)))
    refine Or.inr ⟨a, gr, gp, gt, gq, gR, n, pn, rn, tg, lz, sz, rfl, ⟨w1, Nat.le_trans w2 f.1, k1 _ _ ⟨0, by omega, rfl⟩ (npc_o (by omega)) w3, w4.of1 (fun e he => k1 _ _ ⟨1, by omega, rfl⟩ (by rw [w4.1] at he; rw [← Option.some.inj he]; exact npc_r) he) kr, k1 _ _ ⟨2, by omega, rfl⟩ npc_i w5, w6.of1 (fun e he => k1 _ _ ⟨3, by omega, rfl⟩ (by rw [w6.1] at he; rw [← Option.some.inj he]; exact npc_r) he) kp, k1 _ _ ⟨4, by omega, rfl⟩ npc_i w7, k1 _ _ ⟨5, by omega, rfl⟩ (npc_j (by omega)) w8, fun m hm => (w9 m hm).of1 (fun x e hx he => k1 x e (by rcases hx with hx | hx; exact ⟨m, by omega, hx⟩; exact ⟨m + 1, by omega, hx⟩) ((w9 m hm).npc (by omega) hx he) he), k1 _ _ ⟨12, by omega, rfl⟩ (npc_o (by omega)) w10, ⟨gg, k1 _ _ ⟨13, by omega, rfl⟩ (npc_j (by omega)) w11⟩, ⟨gv, k1 _ _ ⟨14, by omega, rfl⟩ npc_i w12⟩, w13⟩, ?_, hU⟩
    cases fo with
    | none => exact hc
    | some q =>
      obtain ⟨c1, c2, c3, c4, c5, c6, c7, c8, c9⟩ := hc
      refine ⟨c1, c2, c3, c4, c5, c6, fun i i0 i1 => ?_, fun i i0 i1 => ?_, c9⟩
      · obtain ⟨x1, x2, r, x3, x4⟩ := c7 i i0 i1
        exact ⟨x1, x2, r, x3, x4.of1 (fun x e hx he => kr i r x e x3 hx he)⟩
      · obtain ⟨x2, r, x3, x4⟩ := c8 i i0 i1
        exact ⟨x2, r, x3, x4.of1 (fun x e hx he => kp i r x e x3 hx he)⟩
end
set_option maxHeartbeats 4000000 in
set_option maxRecDepth 100000 in
theorem sF_toldN (N : GN) (h : GH) (B : Nat) (sy : Value) (i : Int) (gW_i : gW i) (hob : h.2 B = some (cO B .null sy)) : Sp N yX9_toldFactor mX9_toldFactor 0 0 [.ref (B), .int (gI (i))] h (fun v h1 => h1 = h ∧ v = some .null) := by
  refine Sp.of (by decide) rfl rfl (Nat.le_of_ble_eq_true rfl) ?_
  show Go N mX9_toldFactor _ 0 0 h 0 [(0, .ref (B)), (1, .int (gI (i)))] []
  refine g_aload_n 0 dX9_toldFactor_0 rfl ?_
  refine g_getf 10 dX9_toldFactor_1 kX9 (by decide) fX9_80 hob rfl ?_
  refine g_ifnullN (x := 0) (tgt := 36) dX9_toldFactor_4 rfl ?_
  refine g_null dX9_toldFactor_36 ?_
  exact g_aret (a := none) dX9_toldFactor_37 rfl ⟨rfl, rfl⟩
set_option maxHeartbeats 4000000 in
set_option maxRecDepth 100000 in
theorem sF_toldS (N : GN) (h : GH) (B : Nat) (sy : Value) (i : Int) (gW_i : gW i) (f : Nat) (gr : Int → Option Nat) (n pn rn tg le : Int) (hn : 0 ≤ n ∧ n ≤ 40) (hob : h.2 B = some (cO B (.ref f) sy)) (ho : h.2 f = some (fO B f n pn rn tg le)) (hl : h.2 (f + 1) = some (aR "PolyWork$Row" 40 gr)) (hr : ∀ i : Int, 0 ≤ i → i < n → ∃ r, gr i = some r) : Sp N yX9_toldFactor mX9_toldFactor 0 0 [.ref (B), .int (gI (i))] h (fun v h1 => h1 = h ∧ ((v = some .null ∧ (i < 0 ∨ n ≤ i)) ∨ ∃ r, v = some (.ref r) ∧ 0 ≤ i ∧ i < n ∧ gr i = some r)) := by
  refine Sp.of (by decide) rfl rfl (Nat.le_of_ble_eq_true rfl) ?_
  show Go N mX9_toldFactor _ 0 0 h 0 [(0, .ref (B)), (1, .int (gI (i)))] []
  refine g_aload_n 0 dX9_toldFactor_0 rfl ?_
  refine g_getf 10 dX9_toldFactor_1 kX9 (by decide) fX9_80 hob rfl ?_
  refine g_ifnull (tgt := 36) dX9_toldFactor_4 rfl ?_
  refine g_iload_n 1 dX9_toldFactor_7 rfl ?_
  refine g_if_lt (tgt := 36) dX9_toldFactor_8 rfl (by first | assumption | (unfold gW; omega)) (fun c1 => ?_) (fun c1 => ?_)
  · skip
    refine g_null dX9_toldFactor_36 ?_
    exact g_aret (a := none) dX9_toldFactor_37 rfl ⟨rfl, Or.inl ⟨rfl, by omega⟩⟩
  · skip
    refine g_iload_n 1 dX9_toldFactor_11 rfl ?_
    refine g_aload_n 0 dX9_toldFactor_12 rfl ?_
    refine g_getf 10 dX9_toldFactor_13 kX9 (by decide) fX9_80 hob rfl ?_
    refine g_getf 11 dX9_toldFactor_16 kX0 (by decide) fX9_166 ho rfl ?_
    refine g_icmp_ge (tgt := 36) dX9_toldFactor_19 rfl (by first | assumption | (unfold gW; omega)) (by first | assumption | (unfold gW; omega)) (fun c2 => ?_) (fun c2 => ?_)
    · skip
      refine g_null dX9_toldFactor_36 ?_
      exact g_aret (a := none) dX9_toldFactor_37 rfl ⟨rfl, Or.inl ⟨rfl, by omega⟩⟩
    · skip
      refine g_aload_n 0 dX9_toldFactor_22 rfl ?_
      refine g_getf 10 dX9_toldFactor_23 kX9 (by decide) fX9_80 hob rfl ?_
      refine g_getf 3 dX9_toldFactor_26 kX0 (by decide) fX9_217 ho rfl ?_
      refine g_iload_n 1 dX9_toldFactor_29 rfl ?_
      obtain ⟨r, hgr⟩ := hr i (by omega) (by omega)
      refine g_callS (nc2 := 0) (ns2 := 0) (As := [.ref (f + 1), .int (gI (i))]) (st := []) rfl dX9_toldFactor_30 okX5_in lX9_202 stX5_in (by decide) (by decide) rfl (Nat.le_of_ble_eq_true rfl) (sL_in0 N _ (f + 1) 40 r gr i (by omega) (by omega) hl hgr) (by omega) (by omega) (fun v3 hc3 q3 => ?_)
      obtain ⟨hq4, rfl⟩ := q3
      refine Go.nf (h' := h) (st' := [.ref (r)]) hq4 rfl (Nat.le_refl _) (Nat.le_refl _) ?_
      refine g_goto (tgt := 37) dX9_toldFactor_33 rfl ?_
      exact g_aret (a := some (r)) dX9_toldFactor_37 rfl ⟨rfl, Or.inr ⟨r, rfl, by omega, by omega, hgr⟩⟩
set_option maxHeartbeats 4000000 in
set_option maxRecDepth 100000 in
theorem sC_factorOfN (N : GN) (h : GH) (B p : Nat) (hp : prm p) (hp2 : p ≤ 65536) (sy : Value)   (i w : Int) (gW_i : gW i) (gW_w : gW w) (hob : h.2 B = some (cO B .null sy)) : Sp N yX9_factorOf mX9_factorOf 0 0 [.ref (B), .int (gI (i)), .int (gI (w))] h (fun v h1 => h1 = h ∧ v = some (.int (gI (aFo hp (none) i w)))) := by
  refine Sp.of (by decide) rfl rfl (Nat.le_of_ble_eq_true rfl) ?_
  show Go N mX9_factorOf _ 0 0 h 0 [(0, .ref (B)), (1, .int (gI (i))), (2, .int (gI (w)))] []
  have hp1 := hp.1
  refine g_aload_n 0 dX9_factorOf_0 rfl ?_
  refine g_iload_n 1 dX9_factorOf_1 rfl ?_
  refine g_callV (nc2 := 0) (ns2 := 0) (ci := 9) (As := [.int (gI (i))]) (st := []) rfl dX9_factorOf_2 okX9_toldFactor lX9_167 itX9_toldFactor seX9_toldFactor rfl hob (by decide) (by decide) rfl (Nat.le_of_ble_eq_true rfl) (sF_toldN N _ B sy (i) gW_i hob) (by omega) (by omega) (fun v1 hc1 q1 => ?_)
  obtain ⟨hq2, rfl⟩ := q1
  refine Go.nf (h' := h) (st' := [.null]) hq2 rfl (Nat.le_refl _) (Nat.le_refl _) ?_
  refine g_astore_nN (ls2 := [(3, .null), (0, .ref (B)), (1, .int (gI (i))), (2, .int (gI (w)))]) dX9_factorOf_5 rfl (by decide) rfl ?_
  refine g_aload_nN 0 dX9_factorOf_6 rfl ?_
  refine g_ifnullN (x := 0) (tgt := 19) dX9_factorOf_7 rfl ?_
  refine g_iconst dX9_factorOf_19 ?_
  exact g_iret dX9_factorOf_20 rfl ⟨rfl, by unfold aFo; rfl⟩
set_option maxHeartbeats 4000000 in
set_option maxRecDepth 100000 in
theorem sC_factorOfZ (N : GN) (h : GH) (B p : Nat) (hp : prm p) (hp2 : p ≤ 65536) (sy : Value)  (f : Nat) (gr gp : Int → Option Nat) (gt gq gR : Int → Int) (n pn rn tg le sz : Int) (i w : Int) (gW_i : gW i) (gW_w : gW w) (hob : h.2 B = some (cO B (.ref f) sy)) (hfs : FAs B h f gr gp gt gq gR n pn rn tg le sz) (hfc : FAc hp h (none) gr gp gt gq gR n pn rn tg le) : Sp N yX9_factorOf mX9_factorOf 0 0 [.ref (B), .int (gI (i)), .int (gI (w))] h (fun v h1 => h1 = h ∧ v = some (.int (gI (aFo hp (none) i w)))) := by
  refine Sp.of (by decide) rfl rfl (Nat.le_of_ble_eq_true rfl) ?_
  show Go N mX9_factorOf _ 0 0 h 0 [(0, .ref (B)), (1, .int (gI (i))), (2, .int (gI (w)))] []
  have hp1 := hp.1
  obtain ⟨hf1, hf2, ho, hlr, h2, hlp, h4, h5_, hra, hsp, _, _, hap⟩ := hfs
  obtain ⟨c1, c2, c3⟩ := hfc
  refine g_aload_n 0 dX9_factorOf_0 rfl ?_
  refine g_iload_n 1 dX9_factorOf_1 rfl ?_
  refine g_callV (nc2 := 0) (ns2 := 0) (ci := 9) (As := [.int (gI (i))]) (st := []) rfl dX9_factorOf_2 okX9_toldFactor lX9_167 itX9_toldFactor seX9_toldFactor rfl hob (by decide) (by decide) rfl (Nat.le_of_ble_eq_true rfl) (sF_toldS N _ B sy (i) gW_i f gr n pn rn tg le (by omega) hob ho hlr.1 (fun i i0 i1 => by omega)) (by omega) (by omega) (fun v1 hc1 q1 => ?_)
  obtain ⟨hq2, ⟨rfl, _⟩ | ⟨r, _, _, _, _⟩⟩ := q1
  · skip
    refine Go.nf (h' := h) (st' := [.null]) hq2 rfl (Nat.le_refl _) (Nat.le_refl _) ?_
    refine g_astore_nN (ls2 := [(3, .null), (0, .ref (B)), (1, .int (gI (i))), (2, .int (gI (w)))]) dX9_factorOf_5 rfl (by decide) rfl ?_
    refine g_aload_nN 0 dX9_factorOf_6 rfl ?_
    refine g_ifnullN (x := 0) (tgt := 19) dX9_factorOf_7 rfl ?_
    refine g_iconst dX9_factorOf_19 ?_
    exact g_iret dX9_factorOf_20 rfl ⟨rfl, by unfold aFo; rfl⟩
  · exfalso; omega
set_option maxHeartbeats 4000000 in
set_option maxRecDepth 100000 in
theorem sC_factorOfS (N : GN) (h : GH) (B p : Nat) (hp : prm p) (hp2 : p ≤ 65536) (sy : Value) (q : Px p) (f : Nat) (gr gp : Int → Option Nat) (gt gq gR : Int → Int) (n pn rn tg le sz : Int) (i w : Int) (gW_i : gW i) (gW_w : gW w) (hob : h.2 B = some (cO B (.ref f) sy)) (hfs : FAs B h f gr gp gt gq gR n pn rn tg le sz) (hfc : FAc hp h (some q) gr gp gt gq gR n pn rn tg le) : Sp N yX9_factorOf mX9_factorOf 0 0 [.ref (B), .int (gI (i)), .int (gI (w))] h (fun v h1 => h1 = h ∧ v = some (.int (gI (aFo hp (some q) i w)))) := by
  refine Sp.of (by decide) rfl rfl (Nat.le_of_ble_eq_true rfl) ?_
  show Go N mX9_factorOf _ 0 0 h 0 [(0, .ref (B)), (1, .int (gI (i))), (2, .int (gI (w)))] []
  have hp1 := hp.1
  obtain ⟨hf1, hf2, ho, hlr, h2, hlp, h4, h5_, hra, hsp, _, _, hap⟩ := hfs
  obtain ⟨c1, c2, c3, c4, c5, c6, c7, c8, c9⟩ := hfc
  refine g_aload_n 0 dX9_factorOf_0 rfl ?_
  refine g_iload_n 1 dX9_factorOf_1 rfl ?_
  refine g_callV (nc2 := 0) (ns2 := 0) (ci := 9) (As := [.int (gI (i))]) (st := []) rfl dX9_factorOf_2 okX9_toldFactor lX9_167 itX9_toldFactor seX9_toldFactor rfl hob (by decide) (by decide) rfl (Nat.le_of_ble_eq_true rfl) (sF_toldS N _ B sy (i) gW_i f gr n pn rn tg le (by omega) hob ho hlr.1 (fun i i0 i1 => by obtain ⟨_, _, r, y, _⟩ := c7 i i0 (by omega); exact ⟨r, y⟩)) (by omega) (by omega) (fun v1 hc1 q1 => ?_)
  obtain ⟨hq2, ⟨rfl, hno⟩ | ⟨r, rfl, hi0, hi1, hgr⟩⟩ := q1
  · skip
    refine Go.nf (h' := h) (st' := [.null]) hq2 rfl (Nat.le_refl _) (Nat.le_refl _) ?_
    refine g_astore_nN (ls2 := [(3, .null), (0, .ref (B)), (1, .int (gI (i))), (2, .int (gI (w)))]) dX9_factorOf_5 rfl (by decide) rfl ?_
    refine g_aload_nN 0 dX9_factorOf_6 rfl ?_
    refine g_ifnullN (x := 0) (tgt := 19) dX9_factorOf_7 rfl ?_
    refine g_iconst dX9_factorOf_19 ?_
    exact g_iret dX9_factorOf_20 rfl ⟨rfl, by unfold aFo; dsimp only; rw [if_neg (by omega)]⟩
  · skip
    obtain ⟨d40, egt, r2, hg2, hrp⟩ := c7 i hi0 (by omega)
    rw [hgr] at hg2
    have er := Option.some.inj hg2
    subst er
    refine Go.nf (h' := h) (st' := [.ref (r)]) hq2 rfl (Nat.le_refl _) (Nat.le_refl _) ?_
    refine g_astore_n (ls2 := [(3, .ref (r)), (0, .ref (B)), (1, .int (gI (i))), (2, .int (gI (w)))]) dX9_factorOf_5 rfl (by decide) rfl ?_
    refine g_aload_n 0 dX9_factorOf_6 rfl ?_
    refine g_ifnull (tgt := 19) dX9_factorOf_7 rfl ?_
    refine g_iload_n 3 dX9_factorOf_10 rfl ?_
    refine g_if_eq (tgt := 21) dX9_factorOf_11 rfl (by first | assumption | (unfold gW; omega)) (fun c3 => ?_) (fun c3 => ?_)
    · skip
      refine g_iload_n 3 dX9_factorOf_21 rfl ?_
      refine g_if_ne (tgt := 37) dX9_factorOf_22 rfl (by first | assumption | (unfold gW; omega)) (fun c4 => ?_) (fun c4 => ?_)
      · skip
        refine g_aload_n 0 dX9_factorOf_37 rfl ?_
        refine g_getf 1 dX9_factorOf_38 kX5 (by decide) fX9_175 (hrp).o rfl ?_
        exact g_iret dX9_factorOf_41 rfl ⟨rfl, by unfold aFo; dsimp only; rw [if_pos (by omega), if_neg (by omega)]⟩
      · skip
        refine g_aload_n 1 dX9_factorOf_25 rfl ?_
        refine g_getf 10 dX9_factorOf_26 kX9 (by decide) fX9_80 hob rfl ?_
        refine g_getf 4 dX9_factorOf_29 kX0 (by decide) fX9_171 ho rfl ?_
        refine g_iload_n 2 dX9_factorOf_32 rfl ?_
        refine g_iaload dX9_factorOf_33 h2 (by omega) (by omega) (by omega) ?_
        have hv_ : (gt) (i) = fE hp q i := by exact egt
        rw [hv_]
        refine g_goto (tgt := 41) dX9_factorOf_34 rfl ?_
        exact g_iret dX9_factorOf_41 rfl ⟨rfl, by unfold aFo; dsimp only; rw [if_pos (by omega), if_pos (by omega)]⟩
    · skip
      refine g_iload_n 3 dX9_factorOf_14 rfl ?_
      refine g_iconst dX9_factorOf_15 ?_
      refine g_icmp_eq (tgt := 21) dX9_factorOf_16 rfl (by first | assumption | (unfold gW; omega)) (by first | assumption | (unfold gW; omega)) (fun c5 => ?_) (fun c5 => ?_)
      · skip
        refine g_iload_n 3 dX9_factorOf_21 rfl ?_
        refine g_if_ne (tgt := 37) dX9_factorOf_22 rfl (by first | assumption | (unfold gW; omega)) (fun c6 => ?_) (fun c6 => ?_)
        · skip
          refine g_aload_n 0 dX9_factorOf_37 rfl ?_
          refine g_getf 1 dX9_factorOf_38 kX5 (by decide) fX9_175 (hrp).o rfl ?_
          exact g_iret dX9_factorOf_41 rfl ⟨rfl, by unfold aFo; dsimp only; rw [if_pos (by omega), if_neg (by omega)]⟩
        · skip
          refine g_aload_n 1 dX9_factorOf_25 rfl ?_
          refine g_getf 10 dX9_factorOf_26 kX9 (by decide) fX9_80 hob rfl ?_
          refine g_getf 4 dX9_factorOf_29 kX0 (by decide) fX9_171 ho rfl ?_
          refine g_iload_n 2 dX9_factorOf_32 rfl ?_
          refine g_iaload dX9_factorOf_33 h2 (by omega) (by omega) (by omega) ?_
          have hv_ : (gt) (i) = fE hp q i := by exact egt
          rw [hv_]
          refine g_goto (tgt := 41) dX9_factorOf_34 rfl ?_
          exact g_iret dX9_factorOf_41 rfl ⟨rfl, by unfold aFo; dsimp only; rw [if_pos (by omega), if_pos (by omega)]⟩
      · skip
        refine g_iconst dX9_factorOf_19 ?_
        exact g_iret dX9_factorOf_20 rfl ⟨rfl, by unfold aFo; dsimp only; rw [if_neg (by omega)]⟩
theorem sC_factorOf (N : GN) (h : GH) (B p : Nat) (hp : prm p) (hp2 : p ≤ 65536) (sy : Value) (fa : Value) (fo : Option (Px p)) (U : Nat → Prop) (i w : Int) (gW_i : gW i) (gW_w : gW w) (hob : h.2 B = some (cO B fa sy)) (hX : FA hp B h fa fo U) : Sp N yX9_factorOf mX9_factorOf 0 0 [.ref (B), .int (gI (i)), .int (gI (w))] h (fun v h1 => h1 = h ∧ v = some (.int (gI (aFo hp (fo) i w)))) := by
  rcases hX with ⟨z1, z2⟩ | ⟨f, gr, gp, gt, gq, gR, n, pn, rn, tg, le, sz, z1, hfs, hfc, _⟩
  · subst z1; subst z2; exact sC_factorOfN N h B p hp hp2 sy i w gW_i gW_w hob
  · subst z1
    cases fo with
    | none => exact sC_factorOfZ N h B p hp hp2 sy f gr gp gt gq gR n pn rn tg le sz i w gW_i gW_w hob hfs hfc
    | some q => exact sC_factorOfS N h B p hp hp2 sy q f gr gp gt gq gR n pn rn tg le sz i w gW_i gW_w hob hfs hfc
set_option maxHeartbeats 4000000 in
set_option maxRecDepth 100000 in
theorem sC_factorAtN (N : GN) (h : GH) (B p : Nat) (hp : prm p) (hp2 : p ≤ 65536) (sy : Value)   (i k : Int) (gW_i : gW i) (gW_k : gW k) (hob : h.2 B = some (cO B .null sy)) : Sp N yX9_factorAt mX9_factorAt 0 0 [.ref (B), .int (gI (i)), .int (gI (k))] h (fun v h1 => h1 = h ∧ v = some (.int (gI (aFa hp (none) i k)))) := by
  refine Sp.of (by decide) rfl rfl (Nat.le_of_ble_eq_true rfl) ?_
  show Go N mX9_factorAt _ 0 0 h 0 [(0, .ref (B)), (1, .int (gI (i))), (2, .int (gI (k)))] []
  have hp1 := hp.1
  refine g_aload_n 0 dX9_factorAt_0 rfl ?_
  refine g_iload_n 1 dX9_factorAt_1 rfl ?_
  refine g_callV (nc2 := 0) (ns2 := 0) (ci := 9) (As := [.int (gI (i))]) (st := []) rfl dX9_factorAt_2 okX9_toldFactor lX9_167 itX9_toldFactor seX9_toldFactor rfl hob (by decide) (by decide) rfl (Nat.le_of_ble_eq_true rfl) (sF_toldN N _ B sy (i) gW_i hob) (by omega) (by omega) (fun v1 hc1 q1 => ?_)
  obtain ⟨hq2, rfl⟩ := q1
  refine Go.nf (h' := h) (st' := [.null]) hq2 rfl (Nat.le_refl _) (Nat.le_refl _) ?_
  refine g_astore_nN (ls2 := [(3, .null), (0, .ref (B)), (1, .int (gI (i))), (2, .int (gI (k)))]) dX9_factorAt_5 rfl (by decide) rfl ?_
  refine g_aload_nN 0 dX9_factorAt_6 rfl ?_
  refine g_ifnullN (x := 0) (tgt := 20) dX9_factorAt_7 rfl ?_
  refine g_iconst dX9_factorAt_20 ?_
  exact g_iret dX9_factorAt_21 rfl ⟨rfl, by unfold aFa; rfl⟩
set_option maxHeartbeats 4000000 in
set_option maxRecDepth 100000 in
theorem sC_factorAtZ (N : GN) (h : GH) (B p : Nat) (hp : prm p) (hp2 : p ≤ 65536) (sy : Value)  (f : Nat) (gr gp : Int → Option Nat) (gt gq gR : Int → Int) (n pn rn tg le sz : Int) (i k : Int) (gW_i : gW i) (gW_k : gW k) (hob : h.2 B = some (cO B (.ref f) sy)) (hfs : FAs B h f gr gp gt gq gR n pn rn tg le sz) (hfc : FAc hp h (none) gr gp gt gq gR n pn rn tg le) : Sp N yX9_factorAt mX9_factorAt 0 0 [.ref (B), .int (gI (i)), .int (gI (k))] h (fun v h1 => h1 = h ∧ v = some (.int (gI (aFa hp (none) i k)))) := by
  refine Sp.of (by decide) rfl rfl (Nat.le_of_ble_eq_true rfl) ?_
  show Go N mX9_factorAt _ 0 0 h 0 [(0, .ref (B)), (1, .int (gI (i))), (2, .int (gI (k)))] []
  have hp1 := hp.1
  obtain ⟨hf1, hf2, ho, hlr, h2, hlp, h4, h5_, hra, hsp, _, _, hap⟩ := hfs
  obtain ⟨c1, c2, c3⟩ := hfc
  refine g_aload_n 0 dX9_factorAt_0 rfl ?_
  refine g_iload_n 1 dX9_factorAt_1 rfl ?_
  refine g_callV (nc2 := 0) (ns2 := 0) (ci := 9) (As := [.int (gI (i))]) (st := []) rfl dX9_factorAt_2 okX9_toldFactor lX9_167 itX9_toldFactor seX9_toldFactor rfl hob (by decide) (by decide) rfl (Nat.le_of_ble_eq_true rfl) (sF_toldS N _ B sy (i) gW_i f gr n pn rn tg le (by omega) hob ho hlr.1 (fun i i0 i1 => by omega)) (by omega) (by omega) (fun v1 hc1 q1 => ?_)
  obtain ⟨hq2, ⟨rfl, _⟩ | ⟨r, _, _, _, _⟩⟩ := q1
  · skip
    refine Go.nf (h' := h) (st' := [.null]) hq2 rfl (Nat.le_refl _) (Nat.le_refl _) ?_
    refine g_astore_nN (ls2 := [(3, .null), (0, .ref (B)), (1, .int (gI (i))), (2, .int (gI (k)))]) dX9_factorAt_5 rfl (by decide) rfl ?_
    refine g_aload_nN 0 dX9_factorAt_6 rfl ?_
    refine g_ifnullN (x := 0) (tgt := 20) dX9_factorAt_7 rfl ?_
    refine g_iconst dX9_factorAt_20 ?_
    exact g_iret dX9_factorAt_21 rfl ⟨rfl, by unfold aFa; rfl⟩
  · exfalso; omega
set_option maxHeartbeats 4000000 in
set_option maxRecDepth 100000 in
theorem sC_factorAtS (N : GN) (h : GH) (B p : Nat) (hp : prm p) (hp2 : p ≤ 65536) (sy : Value) (q : Px p) (f : Nat) (gr gp : Int → Option Nat) (gt gq gR : Int → Int) (n pn rn tg le sz : Int) (i k : Int) (gW_i : gW i) (gW_k : gW k) (hob : h.2 B = some (cO B (.ref f) sy)) (hfs : FAs B h f gr gp gt gq gR n pn rn tg le sz) (hfc : FAc hp h (some q) gr gp gt gq gR n pn rn tg le) : Sp N yX9_factorAt mX9_factorAt 0 0 [.ref (B), .int (gI (i)), .int (gI (k))] h (fun v h1 => h1 = h ∧ v = some (.int (gI (aFa hp (some q) i k)))) := by
  refine Sp.of (by decide) rfl rfl (Nat.le_of_ble_eq_true rfl) ?_
  show Go N mX9_factorAt _ 0 0 h 0 [(0, .ref (B)), (1, .int (gI (i))), (2, .int (gI (k)))] []
  have hp1 := hp.1
  obtain ⟨hf1, hf2, ho, hlr, h2, hlp, h4, h5_, hra, hsp, _, _, hap⟩ := hfs
  obtain ⟨c1, c2, c3, c4, c5, c6, c7, c8, c9⟩ := hfc
  refine g_aload_n 0 dX9_factorAt_0 rfl ?_
  refine g_iload_n 1 dX9_factorAt_1 rfl ?_
  refine g_callV (nc2 := 0) (ns2 := 0) (ci := 9) (As := [.int (gI (i))]) (st := []) rfl dX9_factorAt_2 okX9_toldFactor lX9_167 itX9_toldFactor seX9_toldFactor rfl hob (by decide) (by decide) rfl (Nat.le_of_ble_eq_true rfl) (sF_toldS N _ B sy (i) gW_i f gr n pn rn tg le (by omega) hob ho hlr.1 (fun i i0 i1 => by obtain ⟨_, _, r, y, _⟩ := c7 i i0 (by omega); exact ⟨r, y⟩)) (by omega) (by omega) (fun v1 hc1 q1 => ?_)
  obtain ⟨hq2, ⟨rfl, hno⟩ | ⟨r, rfl, hi0, hi1, hgr⟩⟩ := q1
  · skip
    refine Go.nf (h' := h) (st' := [.null]) hq2 rfl (Nat.le_refl _) (Nat.le_refl _) ?_
    refine g_astore_nN (ls2 := [(3, .null), (0, .ref (B)), (1, .int (gI (i))), (2, .int (gI (k)))]) dX9_factorAt_5 rfl (by decide) rfl ?_
    refine g_aload_nN 0 dX9_factorAt_6 rfl ?_
    refine g_ifnullN (x := 0) (tgt := 20) dX9_factorAt_7 rfl ?_
    refine g_iconst dX9_factorAt_20 ?_
    exact g_iret dX9_factorAt_21 rfl ⟨rfl, by unfold aFa; dsimp only; rw [if_neg (by omega)]⟩
  · skip
    obtain ⟨d40, egt, r2, hg2, hrp⟩ := c7 i hi0 (by omega)
    rw [hgr] at hg2
    have er := Option.some.inj hg2
    subst er
    refine Go.nf (h' := h) (st' := [.ref (r)]) hq2 rfl (Nat.le_refl _) (Nat.le_refl _) ?_
    refine g_astore_n (ls2 := [(3, .ref (r)), (0, .ref (B)), (1, .int (gI (i))), (2, .int (gI (k)))]) dX9_factorAt_5 rfl (by decide) rfl ?_
    refine g_aload_n 0 dX9_factorAt_6 rfl ?_
    refine g_ifnull (tgt := 20) dX9_factorAt_7 rfl ?_
    refine g_iload_n 3 dX9_factorAt_10 rfl ?_
    refine g_if_lt (tgt := 20) dX9_factorAt_11 rfl (by first | assumption | (unfold gW; omega)) (fun c3 => ?_) (fun c3 => ?_)
    · skip
      refine g_iconst dX9_factorAt_20 ?_
      exact g_iret dX9_factorAt_21 rfl ⟨rfl, by unfold aFa; dsimp only; rw [if_neg (by omega)]⟩
    · skip
      refine g_iload_n 3 dX9_factorAt_14 rfl ?_
      refine g_bipush dX9_factorAt_15 (by decide) ?_
      refine g_icmp_le (tgt := 22) dX9_factorAt_17 rfl (by first | assumption | (unfold gW; omega)) (by first | assumption | (unfold gW; omega)) (fun c4 => ?_) (fun c4 => ?_)
      · skip
        refine g_aload_n 0 dX9_factorAt_22 rfl ?_
        refine g_iload_n 3 dX9_factorAt_23 rfl ?_
        refine g_callV (nc2 := 0) (ns2 := 0) (ci := 5) (As := [.int (gI (k))]) (st := []) rfl dX9_factorAt_24 okX5_number lX9_178 itX5_number seX5_number rfl (hrp).o (by decide) (by decide) rfl (Nat.le_of_ble_eq_true rfl) (sP_number N _ (r) 84 p hp (fP hp q i) (k) (by first | assumption | (unfold gW; omega)) hrp) (by omega) (by omega) (fun v5 hc5 q5 => ?_)
        obtain ⟨hq6, rfl⟩ := q5
        refine Go.nf (h' := h) (st' := [.long (gJ (cf (fP hp q i) (k)))]) hq6 rfl (Nat.le_refl _) (Nat.le_refl _) ?_
        refine g_l2i dX9_factorAt_27 ?_
        exact g_iret dX9_factorAt_28 rfl ⟨rfl, by unfold aFa; dsimp only; rw [if_pos (by omega)]⟩
      · skip
        refine g_iconst dX9_factorAt_20 ?_
        exact g_iret dX9_factorAt_21 rfl ⟨rfl, by unfold aFa; dsimp only; rw [if_neg (by omega)]⟩
theorem sC_factorAt (N : GN) (h : GH) (B p : Nat) (hp : prm p) (hp2 : p ≤ 65536) (sy : Value) (fa : Value) (fo : Option (Px p)) (U : Nat → Prop) (i k : Int) (gW_i : gW i) (gW_k : gW k) (hob : h.2 B = some (cO B fa sy)) (hX : FA hp B h fa fo U) : Sp N yX9_factorAt mX9_factorAt 0 0 [.ref (B), .int (gI (i)), .int (gI (k))] h (fun v h1 => h1 = h ∧ v = some (.int (gI (aFa hp (fo) i k)))) := by
  rcases hX with ⟨z1, z2⟩ | ⟨f, gr, gp, gt, gq, gR, n, pn, rn, tg, le, sz, z1, hfs, hfc, _⟩
  · subst z1; subst z2; exact sC_factorAtN N h B p hp hp2 sy i k gW_i gW_k hob
  · subst z1
    cases fo with
    | none => exact sC_factorAtZ N h B p hp hp2 sy f gr gp gt gq gR n pn rn tg le sz i k gW_i gW_k hob hfs hfc
    | some q => exact sC_factorAtS N h B p hp hp2 sy q f gr gp gt gq gR n pn rn tg le sz i k gW_i gW_k hob hfs hfc
set_option maxHeartbeats 4000000 in
set_option maxRecDepth 100000 in
theorem sC_partN (N : GN) (h : GH) (B p : Nat) (hp : prm p) (hp2 : p ≤ 65536) (sy : Value)   (i w : Int) (gW_i : gW i) (gW_w : gW w) (hob : h.2 B = some (cO B .null sy)) : Sp N yX9_part mX9_part 0 0 [.ref (B), .int (gI (i)), .int (gI (w))] h (fun v h1 => h1 = h ∧ v = some (.int (gI (aPa hp (none) i w)))) := by
  refine Sp.of (by decide) rfl rfl (Nat.le_of_ble_eq_true rfl) ?_
  show Go N mX9_part _ 0 0 h 0 [(0, .ref (B)), (1, .int (gI (i))), (2, .int (gI (w)))] []
  have hp1 := hp.1
  refine g_aload_n 0 dX9_part_0 rfl ?_
  refine g_getf 10 dX9_part_1 kX9 (by decide) fX9_80 hob rfl ?_
  refine g_ifnullN (x := 0) (tgt := 32) dX9_part_4 rfl ?_
  refine g_iconst dX9_part_32 ?_
  exact g_iret dX9_part_33 rfl ⟨rfl, by unfold aPa; rfl⟩
set_option maxHeartbeats 4000000 in
set_option maxRecDepth 100000 in
theorem sC_partZ (N : GN) (h : GH) (B p : Nat) (hp : prm p) (hp2 : p ≤ 65536) (sy : Value)  (f : Nat) (gr gp : Int → Option Nat) (gt gq gR : Int → Int) (n pn rn tg le sz : Int) (i w : Int) (gW_i : gW i) (gW_w : gW w) (hob : h.2 B = some (cO B (.ref f) sy)) (hfs : FAs B h f gr gp gt gq gR n pn rn tg le sz) (hfc : FAc hp h (none) gr gp gt gq gR n pn rn tg le) : Sp N yX9_part mX9_part 0 0 [.ref (B), .int (gI (i)), .int (gI (w))] h (fun v h1 => h1 = h ∧ v = some (.int (gI (aPa hp (none) i w)))) := by
  refine Sp.of (by decide) rfl rfl (Nat.le_of_ble_eq_true rfl) ?_
  show Go N mX9_part _ 0 0 h 0 [(0, .ref (B)), (1, .int (gI (i))), (2, .int (gI (w)))] []
  have hp1 := hp.1
  obtain ⟨hf1, hf2, ho, hlr, h2, hlp, h4, h5_, hra, hsp, _, _, hap⟩ := hfs
  obtain ⟨c1, c2, c3⟩ := hfc
  refine g_aload_n 0 dX9_part_0 rfl ?_
  refine g_getf 10 dX9_part_1 kX9 (by decide) fX9_80 hob rfl ?_
  refine g_ifnull (tgt := 32) dX9_part_4 rfl ?_
  refine g_iload_n 1 dX9_part_7 rfl ?_
  refine g_if_lt (tgt := 32) dX9_part_8 rfl (by first | assumption | (unfold gW; omega)) (fun c1 => ?_) (fun c1 => ?_)
  · skip
    refine g_iconst dX9_part_32 ?_
    exact g_iret dX9_part_33 rfl ⟨rfl, by unfold aPa; rfl⟩
  · skip
    refine g_iload_n 1 dX9_part_11 rfl ?_
    refine g_aload_n 0 dX9_part_12 rfl ?_
    refine g_getf 10 dX9_part_13 kX9 (by decide) fX9_80 hob rfl ?_
    refine g_getf 12 dX9_part_16 kX0 (by decide) fX9_186 ho rfl ?_
    refine g_icmp_ge (tgt := 32) dX9_part_19 rfl (by first | assumption | (unfold gW; omega)) (by first | assumption | (unfold gW; omega)) (fun c2 => ?_) (fun c2 => ?_)
    · skip
      refine g_iconst dX9_part_32 ?_
      exact g_iret dX9_part_33 rfl ⟨rfl, by unfold aPa; rfl⟩
    · skip
      refine g_iload_n 2 dX9_part_22 rfl ?_
      refine g_if_lt (tgt := 32) dX9_part_23 rfl (by first | assumption | (unfold gW; omega)) (fun c3 => ?_) (fun c3 => ?_)
      · skip
        refine g_iconst dX9_part_32 ?_
        exact g_iret dX9_part_33 rfl ⟨rfl, by unfold aPa; rfl⟩
      · skip
        refine g_iload_n 2 dX9_part_26 rfl ?_
        refine g_bipush dX9_part_27 (by decide) ?_
        refine g_icmp_le (tgt := 34) dX9_part_29 rfl (by first | assumption | (unfold gW; omega)) (by first | assumption | (unfold gW; omega)) (fun c4 => ?_) (fun c4 => ?_)
        · skip
          exfalso; omega
        · skip
          refine g_iconst dX9_part_32 ?_
          exact g_iret dX9_part_33 rfl ⟨rfl, by unfold aPa; rfl⟩
set_option maxHeartbeats 4000000 in
set_option maxRecDepth 100000 in
theorem sC_partS (N : GN) (h : GH) (B p : Nat) (hp : prm p) (hp2 : p ≤ 65536) (sy : Value) (q : Px p) (f : Nat) (gr gp : Int → Option Nat) (gt gq gR : Int → Int) (n pn rn tg le sz : Int) (i w : Int) (gW_i : gW i) (gW_w : gW w) (hob : h.2 B = some (cO B (.ref f) sy)) (hfs : FAs B h f gr gp gt gq gR n pn rn tg le sz) (hfc : FAc hp h (some q) gr gp gt gq gR n pn rn tg le) : Sp N yX9_part mX9_part 0 0 [.ref (B), .int (gI (i)), .int (gI (w))] h (fun v h1 => h1 = h ∧ v = some (.int (gI (aPa hp (some q) i w)))) := by
  refine Sp.of (by decide) rfl rfl (Nat.le_of_ble_eq_true rfl) ?_
  show Go N mX9_part _ 0 0 h 0 [(0, .ref (B)), (1, .int (gI (i))), (2, .int (gI (w)))] []
  have hp1 := hp.1
  obtain ⟨hf1, hf2, ho, hlr, h2, hlp, h4, h5_, hra, hsp, _, _, hap⟩ := hfs
  obtain ⟨c1, c2, c3, c4, c5, c6, c7, c8, c9⟩ := hfc
  refine g_aload_n 0 dX9_part_0 rfl ?_
  refine g_getf 10 dX9_part_1 kX9 (by decide) fX9_80 hob rfl ?_
  refine g_ifnull (tgt := 32) dX9_part_4 rfl ?_
  refine g_iload_n 1 dX9_part_7 rfl ?_
  refine g_if_lt (tgt := 32) dX9_part_8 rfl (by first | assumption | (unfold gW; omega)) (fun c1 => ?_) (fun c1 => ?_)
  · skip
    refine g_iconst dX9_part_32 ?_
    exact g_iret dX9_part_33 rfl ⟨rfl, by unfold aPa; dsimp only; rw [if_neg (by omega)]⟩
  · skip
    refine g_iload_n 1 dX9_part_11 rfl ?_
    refine g_aload_n 0 dX9_part_12 rfl ?_
    refine g_getf 10 dX9_part_13 kX9 (by decide) fX9_80 hob rfl ?_
    refine g_getf 12 dX9_part_16 kX0 (by decide) fX9_186 ho rfl ?_
    refine g_icmp_ge (tgt := 32) dX9_part_19 rfl (by first | assumption | (unfold gW; omega)) (by first | assumption | (unfold gW; omega)) (fun c2 => ?_) (fun c2 => ?_)
    · skip
      refine g_iconst dX9_part_32 ?_
      exact g_iret dX9_part_33 rfl ⟨rfl, by unfold aPa; dsimp only; rw [if_neg (by omega)]⟩
    · skip
      refine g_iload_n 2 dX9_part_22 rfl ?_
      refine g_if_lt (tgt := 32) dX9_part_23 rfl (by first | assumption | (unfold gW; omega)) (fun c3 => ?_) (fun c3 => ?_)
      · skip
        refine g_iconst dX9_part_32 ?_
        exact g_iret dX9_part_33 rfl ⟨rfl, by unfold aPa; dsimp only; rw [if_neg (by omega)]⟩
      · skip
        refine g_iload_n 2 dX9_part_26 rfl ?_
        refine g_bipush dX9_part_27 (by decide) ?_
        refine g_icmp_le (tgt := 34) dX9_part_29 rfl (by first | assumption | (unfold gW; omega)) (by first | assumption | (unfold gW; omega)) (fun c4 => ?_) (fun c4 => ?_)
        · skip
          refine g_iload_n 2 dX9_part_34 rfl ?_
          refine g_if_ne (tgt := 48) dX9_part_35 rfl (by first | assumption | (unfold gW; omega)) (fun c5 => ?_) (fun c5 => ?_)
          · skip
            refine g_aload_n 0 dX9_part_48 rfl ?_
            refine g_getf 10 dX9_part_49 kX9 (by decide) fX9_80 hob rfl ?_
            refine g_getf 5 dX9_part_52 kX0 (by decide) fX9_198 ho rfl ?_
            refine g_iload_n 1 dX9_part_55 rfl ?_
            obtain ⟨egq, r, hgr, hrp⟩ := c8 i (by omega) (by omega)
            refine g_callS (nc2 := 0) (ns2 := 0) (As := [.ref (f + 3), .int (gI (i))]) (st := []) rfl dX9_part_56 okX5_in lX9_202 stX5_in (by decide) (by decide) rfl (Nat.le_of_ble_eq_true rfl) (sL_in0 N _ (f + 3) 8 r gp i (by omega) (by omega) hlp.1 hgr) (by omega) (by omega) (fun v6 hc6 q6 => ?_)
            obtain ⟨hq7, rfl⟩ := q6
            refine Go.nf (h' := h) (st' := [.ref (r)]) hq7 rfl (Nat.le_refl _) (Nat.le_refl _) ?_
            refine g_astore_n (ls2 := [(3, .ref (r)), (0, .ref (B)), (1, .int (gI (i))), (2, .int (gI (w)))]) dX9_part_59 rfl (by decide) rfl ?_
            refine g_iload_n 3 dX9_part_60 rfl ?_
            refine g_iconst dX9_part_61 ?_
            refine g_icmp_ne (tgt := 72) dX9_part_62 rfl (by first | assumption | (unfold gW; omega)) (by first | assumption | (unfold gW; omega)) (fun c8 => ?_) (fun c8 => ?_)
            · skip
              refine g_aload_n 0 dX9_part_72 rfl ?_
              refine g_iload_n 3 dX9_part_73 rfl ?_
              refine g_iconst dX9_part_74 ?_
              refine g_isub dX9_part_75 ?_
              refine g_callV (nc2 := 0) (ns2 := 0) (ci := 5) (As := [.int (gI ((w) - (2)))]) (st := []) rfl dX9_part_76 okX5_number lX9_178 itX5_number seX5_number rfl (hrp).o (by decide) (by decide) rfl (Nat.le_of_ble_eq_true rfl) (sP_number N _ (r) 84 p hp (kQ hp q i) ((w) - (2)) (by first | assumption | (unfold gW; omega)) hrp) (by omega) (by omega) (fun v9 hc9 q9 => ?_)
              obtain ⟨hq10, rfl⟩ := q9
              refine Go.nf (h' := h) (st' := [.long (gJ (cf (kQ hp q i) ((w) - (2))))]) hq10 rfl (Nat.le_refl _) (Nat.le_refl _) ?_
              refine g_l2i dX9_part_79 ?_
              exact g_iret dX9_part_80 rfl ⟨rfl, by unfold aPa; dsimp only; rw [if_pos (by omega), if_neg (by omega), if_neg (by omega)]⟩
            · skip
              refine g_aload_n 0 dX9_part_65 rfl ?_
              refine g_getf 1 dX9_part_66 kX5 (by decide) fX9_175 (hrp).o rfl ?_
              refine g_goto (tgt := 80) dX9_part_69 rfl ?_
              exact g_iret dX9_part_80 rfl ⟨rfl, by unfold aPa; dsimp only; rw [if_pos (by omega), if_neg (by omega), if_pos (by omega)]⟩
          · skip
            refine g_aload_n 0 dX9_part_38 rfl ?_
            refine g_getf 10 dX9_part_39 kX9 (by decide) fX9_80 hob rfl ?_
            refine g_getf 6 dX9_part_42 kX0 (by decide) fX9_195 ho rfl ?_
            refine g_iload_n 1 dX9_part_45 rfl ?_
            refine g_iaload dX9_part_46 h4 (by omega) (by omega) (by omega) ?_
            have hv_ : (gq) (i) = kK hp q i := by exact (c8 i (by omega) (by omega)).1
            rw [hv_]
            exact g_iret dX9_part_47 rfl ⟨rfl, by unfold aPa; dsimp only; rw [if_pos (by omega), if_pos (by omega)]⟩
        · skip
          refine g_iconst dX9_part_32 ?_
          exact g_iret dX9_part_33 rfl ⟨rfl, by unfold aPa; dsimp only; rw [if_neg (by omega)]⟩
theorem sC_part (N : GN) (h : GH) (B p : Nat) (hp : prm p) (hp2 : p ≤ 65536) (sy : Value) (fa : Value) (fo : Option (Px p)) (U : Nat → Prop) (i w : Int) (gW_i : gW i) (gW_w : gW w) (hob : h.2 B = some (cO B fa sy)) (hX : FA hp B h fa fo U) : Sp N yX9_part mX9_part 0 0 [.ref (B), .int (gI (i)), .int (gI (w))] h (fun v h1 => h1 = h ∧ v = some (.int (gI (aPa hp (fo) i w)))) := by
  rcases hX with ⟨z1, z2⟩ | ⟨f, gr, gp, gt, gq, gR, n, pn, rn, tg, le, sz, z1, hfs, hfc, _⟩
  · subst z1; subst z2; exact sC_partN N h B p hp hp2 sy i w gW_i gW_w hob
  · subst z1
    cases fo with
    | none => exact sC_partZ N h B p hp hp2 sy f gr gp gt gq gR n pn rn tg le sz i w gW_i gW_w hob hfs hfc
    | some q => exact sC_partS N h B p hp hp2 sy q f gr gp gt gq gR n pn rn tg le sz i w gW_i gW_w hob hfs hfc
set_option maxHeartbeats 4000000 in
set_option maxRecDepth 100000 in
theorem sC_rootN (N : GN) (h : GH) (B p : Nat) (hp : prm p) (hp2 : p ≤ 65536) (sy : Value)   (i : Int) (gW_i : gW i) (hob : h.2 B = some (cO B .null sy)) : Sp N yX9_root mX9_root 0 0 [.ref (B), .int (gI (i))] h (fun v h1 => h1 = h ∧ v = some (.int (gI (aRo hp (none) i)))) := by
  refine Sp.of (by decide) rfl rfl (Nat.le_of_ble_eq_true rfl) ?_
  show Go N mX9_root _ 0 0 h 0 [(0, .ref (B)), (1, .int (gI (i)))] []
  have hp1 := hp.1
  refine g_aload_n 0 dX9_root_0 rfl ?_
  refine g_getf 10 dX9_root_1 kX9 (by decide) fX9_80 hob rfl ?_
  refine g_ifnullN (x := 0) (tgt := 22) dX9_root_4 rfl ?_
  refine g_iconst dX9_root_22 ?_
  exact g_iret dX9_root_23 rfl ⟨rfl, by unfold aRo; rfl⟩
set_option maxHeartbeats 4000000 in
set_option maxRecDepth 100000 in
theorem sC_rootZ (N : GN) (h : GH) (B p : Nat) (hp : prm p) (hp2 : p ≤ 65536) (sy : Value)  (f : Nat) (gr gp : Int → Option Nat) (gt gq gR : Int → Int) (n pn rn tg le sz : Int) (i : Int) (gW_i : gW i) (hob : h.2 B = some (cO B (.ref f) sy)) (hfs : FAs B h f gr gp gt gq gR n pn rn tg le sz) (hfc : FAc hp h (none) gr gp gt gq gR n pn rn tg le) : Sp N yX9_root mX9_root 0 0 [.ref (B), .int (gI (i))] h (fun v h1 => h1 = h ∧ v = some (.int (gI (aRo hp (none) i)))) := by
  refine Sp.of (by decide) rfl rfl (Nat.le_of_ble_eq_true rfl) ?_
  show Go N mX9_root _ 0 0 h 0 [(0, .ref (B)), (1, .int (gI (i)))] []
  have hp1 := hp.1
  obtain ⟨hf1, hf2, ho, hlr, h2, hlp, h4, h5_, hra, hsp, _, _, hap⟩ := hfs
  obtain ⟨c1, c2, c3⟩ := hfc
  refine g_aload_n 0 dX9_root_0 rfl ?_
  refine g_getf 10 dX9_root_1 kX9 (by decide) fX9_80 hob rfl ?_
  refine g_ifnull (tgt := 22) dX9_root_4 rfl ?_
  refine g_iload_n 1 dX9_root_7 rfl ?_
  refine g_if_lt (tgt := 22) dX9_root_8 rfl (by first | assumption | (unfold gW; omega)) (fun c1 => ?_) (fun c1 => ?_)
  · skip
    refine g_iconst dX9_root_22 ?_
    exact g_iret dX9_root_23 rfl ⟨rfl, by unfold aRo; rfl⟩
  · skip
    refine g_iload_n 1 dX9_root_11 rfl ?_
    refine g_aload_n 0 dX9_root_12 rfl ?_
    refine g_getf 10 dX9_root_13 kX9 (by decide) fX9_80 hob rfl ?_
    refine g_getf 13 dX9_root_16 kX0 (by decide) fX9_189 ho rfl ?_
    refine g_icmp_lt (tgt := 24) dX9_root_19 rfl (by first | assumption | (unfold gW; omega)) (by first | assumption | (unfold gW; omega)) (fun c2 => ?_) (fun c2 => ?_)
    · skip
      exfalso; omega
    · skip
      refine g_iconst dX9_root_22 ?_
      exact g_iret dX9_root_23 rfl ⟨rfl, by unfold aRo; rfl⟩
set_option maxHeartbeats 4000000 in
set_option maxRecDepth 100000 in
theorem sC_rootS (N : GN) (h : GH) (B p : Nat) (hp : prm p) (hp2 : p ≤ 65536) (sy : Value) (q : Px p) (f : Nat) (gr gp : Int → Option Nat) (gt gq gR : Int → Int) (n pn rn tg le sz : Int) (i : Int) (gW_i : gW i) (hob : h.2 B = some (cO B (.ref f) sy)) (hfs : FAs B h f gr gp gt gq gR n pn rn tg le sz) (hfc : FAc hp h (some q) gr gp gt gq gR n pn rn tg le) : Sp N yX9_root mX9_root 0 0 [.ref (B), .int (gI (i))] h (fun v h1 => h1 = h ∧ v = some (.int (gI (aRo hp (some q) i)))) := by
  refine Sp.of (by decide) rfl rfl (Nat.le_of_ble_eq_true rfl) ?_
  show Go N mX9_root _ 0 0 h 0 [(0, .ref (B)), (1, .int (gI (i)))] []
  have hp1 := hp.1
  obtain ⟨hf1, hf2, ho, hlr, h2, hlp, h4, h5_, hra, hsp, _, _, hap⟩ := hfs
  obtain ⟨c1, c2, c3, c4, c5, c6, c7, c8, c9⟩ := hfc
  refine g_aload_n 0 dX9_root_0 rfl ?_
  refine g_getf 10 dX9_root_1 kX9 (by decide) fX9_80 hob rfl ?_
  refine g_ifnull (tgt := 22) dX9_root_4 rfl ?_
  refine g_iload_n 1 dX9_root_7 rfl ?_
  refine g_if_lt (tgt := 22) dX9_root_8 rfl (by first | assumption | (unfold gW; omega)) (fun c1 => ?_) (fun c1 => ?_)
  · skip
    refine g_iconst dX9_root_22 ?_
    exact g_iret dX9_root_23 rfl ⟨rfl, by unfold aRo; dsimp only; rw [if_neg (by omega)]⟩
  · skip
    refine g_iload_n 1 dX9_root_11 rfl ?_
    refine g_aload_n 0 dX9_root_12 rfl ?_
    refine g_getf 10 dX9_root_13 kX9 (by decide) fX9_80 hob rfl ?_
    refine g_getf 13 dX9_root_16 kX0 (by decide) fX9_189 ho rfl ?_
    refine g_icmp_lt (tgt := 24) dX9_root_19 rfl (by first | assumption | (unfold gW; omega)) (by first | assumption | (unfold gW; omega)) (fun c2 => ?_) (fun c2 => ?_)
    · skip
      refine g_aload_n 0 dX9_root_24 rfl ?_
      refine g_getf 10 dX9_root_25 kX9 (by decide) fX9_80 hob rfl ?_
      refine g_getf 7 dX9_root_28 kX0 (by decide) fX9_206 ho rfl ?_
      refine g_iload_n 1 dX9_root_31 rfl ?_
      refine g_laload dX9_root_32 h5_ (by omega) (by omega) (by omega) ?_
      have hv_ : (gR) (i) = rR hp q i := by exact c9 i (by omega) (by omega)
      rw [hv_]
      refine g_l2i dX9_root_33 ?_
      exact g_iret dX9_root_34 rfl ⟨rfl, by unfold aRo; dsimp only; rw [if_pos (by omega)]⟩
    · skip
      refine g_iconst dX9_root_22 ?_
      exact g_iret dX9_root_23 rfl ⟨rfl, by unfold aRo; dsimp only; rw [if_neg (by omega)]⟩
theorem sC_root (N : GN) (h : GH) (B p : Nat) (hp : prm p) (hp2 : p ≤ 65536) (sy : Value) (fa : Value) (fo : Option (Px p)) (U : Nat → Prop) (i : Int) (gW_i : gW i) (hob : h.2 B = some (cO B fa sy)) (hX : FA hp B h fa fo U) : Sp N yX9_root mX9_root 0 0 [.ref (B), .int (gI (i))] h (fun v h1 => h1 = h ∧ v = some (.int (gI (aRo hp (fo) i)))) := by
  rcases hX with ⟨z1, z2⟩ | ⟨f, gr, gp, gt, gq, gR, n, pn, rn, tg, le, sz, z1, hfs, hfc, _⟩
  · subst z1; subst z2; exact sC_rootN N h B p hp hp2 sy i gW_i hob
  · subst z1
    cases fo with
    | none => exact sC_rootZ N h B p hp hp2 sy f gr gp gt gq gR n pn rn tg le sz i gW_i hob hfs hfc
    | some q => exact sC_rootS N h B p hp hp2 sy q f gr gp gt gq gR n pn rn tg le sz i gW_i hob hfs hfc
set_option maxHeartbeats 4000000 in
set_option maxRecDepth 100000 in
theorem sC_toldN (N : GN) (h : GH) (B p : Nat) (hp : prm p) (hp2 : p ≤ 65536) (sy : Value)   (w : Int) (gW_w : gW w) (hob : h.2 B = some (cO B .null sy)) : Sp N yX9_told mX9_told 0 0 [.ref (B), .int (gI (w))] h (fun v h1 => h1 = h ∧ v = some (.int (gI (aTo hp (none) w)))) := by
  refine Sp.of (by decide) rfl rfl (Nat.le_of_ble_eq_true rfl) ?_
  show Go N mX9_told _ 0 0 h 0 [(0, .ref (B)), (1, .int (gI (w)))] []
  have hp1 := hp.1
  refine g_aload_n 0 dX9_told_0 rfl ?_
  refine g_getf 10 dX9_told_1 kX9 (by decide) fX9_80 hob rfl ?_
  refine g_ifnullN (x := 0) (tgt := 17) dX9_told_4 rfl ?_
  refine g_iconst dX9_told_17 ?_
  exact g_iret dX9_told_18 rfl ⟨rfl, by unfold aTo; rfl⟩
set_option maxHeartbeats 4000000 in
set_option maxRecDepth 100000 in
theorem sC_toldZ (N : GN) (h : GH) (B p : Nat) (hp : prm p) (hp2 : p ≤ 65536) (sy : Value)  (f : Nat) (gr gp : Int → Option Nat) (gt gq gR : Int → Int) (n pn rn tg le sz : Int) (w : Int) (gW_w : gW w) (hob : h.2 B = some (cO B (.ref f) sy)) (hfs : FAs B h f gr gp gt gq gR n pn rn tg le sz) (hfc : FAc hp h (none) gr gp gt gq gR n pn rn tg le) : Sp N yX9_told mX9_told 0 0 [.ref (B), .int (gI (w))] h (fun v h1 => h1 = h ∧ v = some (.int (gI (aTo hp (none) w)))) := by
  refine Sp.of (by decide) rfl rfl (Nat.le_of_ble_eq_true rfl) ?_
  show Go N mX9_told _ 0 0 h 0 [(0, .ref (B)), (1, .int (gI (w)))] []
  have hp1 := hp.1
  obtain ⟨hf1, hf2, ho, hlr, h2, hlp, h4, h5_, hra, hsp, _, _, hap⟩ := hfs
  obtain ⟨c1, c2, c3⟩ := hfc
  refine g_aload_n 0 dX9_told_0 rfl ?_
  refine g_getf 10 dX9_told_1 kX9 (by decide) fX9_80 hob rfl ?_
  refine g_ifnull (tgt := 17) dX9_told_4 rfl ?_
  refine g_aload_n 0 dX9_told_7 rfl ?_
  refine g_getf 10 dX9_told_8 kX9 (by decide) fX9_80 hob rfl ?_
  refine g_getf 11 dX9_told_11 kX0 (by decide) fX9_166 ho rfl ?_
  refine g_if_ne (tgt := 19) dX9_told_14 rfl (by first | assumption | (unfold gW; omega)) (fun c1 => ?_) (fun c1 => ?_)
  · skip
    exfalso; omega
  · skip
    refine g_iconst dX9_told_17 ?_
    exact g_iret dX9_told_18 rfl ⟨rfl, by unfold aTo; rfl⟩
set_option maxHeartbeats 4000000 in
set_option maxRecDepth 100000 in
theorem sC_toldS (N : GN) (h : GH) (B p : Nat) (hp : prm p) (hp2 : p ≤ 65536) (sy : Value) (q : Px p) (f : Nat) (gr gp : Int → Option Nat) (gt gq gR : Int → Int) (n pn rn tg le sz : Int) (w : Int) (gW_w : gW w) (hob : h.2 B = some (cO B (.ref f) sy)) (hfs : FAs B h f gr gp gt gq gR n pn rn tg le sz) (hfc : FAc hp h (some q) gr gp gt gq gR n pn rn tg le) : Sp N yX9_told mX9_told 0 0 [.ref (B), .int (gI (w))] h (fun v h1 => h1 = h ∧ v = some (.int (gI (aTo hp (some q) w)))) := by
  refine Sp.of (by decide) rfl rfl (Nat.le_of_ble_eq_true rfl) ?_
  show Go N mX9_told _ 0 0 h 0 [(0, .ref (B)), (1, .int (gI (w)))] []
  have hp1 := hp.1
  obtain ⟨hf1, hf2, ho, hlr, h2, hlp, h4, h5_, hra, hsp, _, _, hap⟩ := hfs
  obtain ⟨c1, c2, c3, c4, c5, c6, c7, c8, c9⟩ := hfc
  refine g_aload_n 0 dX9_told_0 rfl ?_
  refine g_getf 10 dX9_told_1 kX9 (by decide) fX9_80 hob rfl ?_
  refine g_ifnull (tgt := 17) dX9_told_4 rfl ?_
  refine g_aload_n 0 dX9_told_7 rfl ?_
  refine g_getf 10 dX9_told_8 kX9 (by decide) fX9_80 hob rfl ?_
  refine g_getf 11 dX9_told_11 kX0 (by decide) fX9_166 ho rfl ?_
  refine g_if_ne (tgt := 19) dX9_told_14 rfl (by first | assumption | (unfold gW; omega)) (fun c1 => ?_) (fun c1 => ?_)
  · skip
    refine g_iload_n 1 dX9_told_19 rfl ?_
    have hsw : w = 0 ∨ w = 1 ∨ w = 2 ∨ w = 3 ∨ (w < 0 ∨ 3 < w) := by omega
    rcases hsw with y | y | y | y | y
    · skip
      refine g_tabIn (tgt := 52) (off := 32) dX9_told_20 (by first | assumption | (unfold gW; omega)) (by omega) (by omega) (by rw [y]; rfl) (by decide) ?_
      refine g_aload_n 0 dX9_told_52 rfl ?_
      refine g_getf 10 dX9_told_53 kX9 (by decide) fX9_80 hob rfl ?_
      refine g_getf 15 dX9_told_56 kX0 (by decide) fX9_182 ho rfl ?_
      refine g_l2i dX9_told_59 ?_
      exact g_iret dX9_told_60 rfl ⟨rfl, by unfold aTo; dsimp only; rw [if_pos (by omega), c5]⟩
    · skip
      refine g_tabIn (tgt := 61) (off := 41) dX9_told_20 (by first | assumption | (unfold gW; omega)) (by omega) (by omega) (by rw [y]; rfl) (by decide) ?_
      refine g_aload_n 0 dX9_told_61 rfl ?_
      refine g_getf 10 dX9_told_62 kX9 (by decide) fX9_80 hob rfl ?_
      refine g_getf 12 dX9_told_65 kX0 (by decide) fX9_186 ho rfl ?_
      exact g_iret dX9_told_68 rfl ⟨rfl, by unfold aTo; dsimp only; rw [if_neg (by omega), if_pos (by omega), c2]⟩
    · skip
      refine g_tabIn (tgt := 69) (off := 49) dX9_told_20 (by first | assumption | (unfold gW; omega)) (by omega) (by omega) (by rw [y]; rfl) (by decide) ?_
      refine g_aload_n 0 dX9_told_69 rfl ?_
      refine g_getf 10 dX9_told_70 kX9 (by decide) fX9_80 hob rfl ?_
      refine g_getf 13 dX9_told_73 kX0 (by decide) fX9_189 ho rfl ?_
      exact g_iret dX9_told_76 rfl ⟨rfl, by unfold aTo; dsimp only; rw [if_neg (by omega), if_neg (by omega), if_pos (by omega), c3]⟩
    · skip
      refine g_tabIn (tgt := 77) (off := 57) dX9_told_20 (by first | assumption | (unfold gW; omega)) (by omega) (by omega) (by rw [y]; rfl) (by decide) ?_
      refine g_aload_n 0 dX9_told_77 rfl ?_
      refine g_getf 10 dX9_told_78 kX9 (by decide) fX9_80 hob rfl ?_
      refine g_getf 14 dX9_told_81 kX0 (by decide) fX9_192 ho rfl ?_
      exact g_iret dX9_told_84 rfl ⟨rfl, by unfold aTo; dsimp only; rw [if_neg (by omega), if_neg (by omega), if_neg (by omega), if_pos (by omega), c4]⟩
    · skip
      refine g_tabOut (tgt := 85) dX9_told_20 (by first | assumption | (unfold gW; omega)) (by omega) (by decide) ?_
      refine g_iconst dX9_told_85 ?_
      exact g_iret dX9_told_86 rfl ⟨rfl, by unfold aTo; dsimp only; rw [if_neg (by omega), if_neg (by omega), if_neg (by omega), if_neg (by omega)]⟩
  · skip
    refine g_iconst dX9_told_17 ?_
    exact g_iret dX9_told_18 rfl ⟨rfl, by unfold aTo; dsimp only; rw [if_neg (by omega), if_neg (by omega), if_neg (by omega), if_neg (by omega)]⟩
theorem sC_told (N : GN) (h : GH) (B p : Nat) (hp : prm p) (hp2 : p ≤ 65536) (sy : Value) (fa : Value) (fo : Option (Px p)) (U : Nat → Prop) (w : Int) (gW_w : gW w) (hob : h.2 B = some (cO B fa sy)) (hX : FA hp B h fa fo U) : Sp N yX9_told mX9_told 0 0 [.ref (B), .int (gI (w))] h (fun v h1 => h1 = h ∧ v = some (.int (gI (aTo hp (fo) w)))) := by
  rcases hX with ⟨z1, z2⟩ | ⟨f, gr, gp, gt, gq, gR, n, pn, rn, tg, le, sz, z1, hfs, hfc, _⟩
  · subst z1; subst z2; exact sC_toldN N h B p hp hp2 sy w gW_w hob
  · subst z1
    cases fo with
    | none => exact sC_toldZ N h B p hp hp2 sy f gr gp gt gq gR n pn rn tg le sz w gW_w hob hfs hfc
    | some q => exact sC_toldS N h B p hp hp2 sy q f gr gp gt gq gR n pn rn tg le sz w gW_w hob hfs hfc
