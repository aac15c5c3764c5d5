section
variable {p : Nat}
/-- what factor(a) answers, and what it leaves as the latest -/
noncomputable def aFc (h : prm p) (T : PT p) (a : Int) : Int := match gT T a with
  | none => -1
  | some F => if 1 ≤ dY h F then -2 else if dgi h (F 0) < 1 then -3 else fN h (F 0)
noncomputable def foF (h : prm p) (T : PT p) (fo : Option (Px p)) (a : Int) : Option (Px p) := match gT T a with
  | none => fo
  | some F => if 1 ≤ dY h F then fo else if dgi h (F 0) < 1 then fo else some (F 0)
theorem FA.mo {hp : prm p} {B : Nat} {h : GH} {fa : Value} {fo : Option (Px p)} {U U2 : Nat → Prop} (w : FA hp B h fa fo U) (k : ∀ x, U x → U2 x) : FA hp B h fa fo U2 := by
  rcases w with z | ⟨f, gr, gp, gt, gq, gR, n, pn, rn, tg, le, sz, a, b, c, d⟩
  · exact Or.inl z
  · exact Or.inr ⟨f, gr, gp, gt, gq, gR, n, pn, rn, tg, le, sz, a, b, c, fun x hx => k x (d x hx)⟩
theorem fas_npc {B : Nat} {h : GH} {f : Nat} {gr gp : Int → Option Nat} {gt gq gR : Int → Int} {n pn rn tg le sz : Int} {x : Nat} {e : GE} (w : FAs B h f gr gp gt gq gR n pn rn tg le sz) (hx : FF f gr gp x) (he : h.2 x = some e) : npc e := by
  obtain ⟨w1, w2, w3, w4, w5, w6, w7, w8, w9, w10, ⟨gg, w11⟩, ⟨gv, w12⟩, w13⟩ := w
  have sm : ∀ (y : Nat) (c : GE), h.2 y = some c → npc c → x = y → npc e := fun y c hy hn e9 => by
    rw [e9, hy] at he
    rw [← Option.some.inj he]; exact hn
  rcases hx with ⟨a, b⟩ | ⟨t, r, hr, hx⟩
  · have key : x = f ∨ x = f + 1 ∨ x = f + 2 ∨ x = f + 3 ∨ x = f + 4 ∨ x = f + 5 ∨ x = f + 12 ∨ x = f + 13 ∨ x = f + 14 ∨ ∃ k : Nat, (k = 6 ∨ k = 8 ∨ k = 10 ∨ k = 15 ∨ k = 17 ∨ k = 19) ∧ (x = f + k ∨ x = f + k + 1) := by
      by_cases z : x = f ∨ x = f + 1 ∨ x = f + 2 ∨ x = f + 3 ∨ x = f + 4 ∨ x = f + 5 ∨ x = f + 12 ∨ x = f + 13 ∨ x = f + 14
      · omega
      · refine Or.inr (Or.inr (Or.inr (Or.inr (Or.inr (Or.inr (Or.inr (Or.inr (Or.inr ?_))))))))
        by_cases y : x < f + 12
        · exact ⟨6 + 2 * ((x - f - 6) / 2), by omega, by omega⟩
        · exact ⟨15 + 2 * ((x - f - 15) / 2), by omega, by omega⟩
    rcases key with z | z | z | z | z | z | z | z | z | ⟨k, hk, z⟩
    · exact sm _ _ w3 (npc_o (by omega)) z
    · exact sm _ _ w4.1 npc_r z
    · exact sm _ _ w5 npc_i z
    · exact sm _ _ w6.1 npc_r z
    · exact sm _ _ w7 npc_i z
    · exact sm _ _ w8 (npc_j (by omega)) z
    · exact sm _ _ w10 (npc_o (by omega)) z
    · exact sm _ _ w11 (npc_j (by omega)) z
    · exact sm _ _ w12 npc_i z
    · exact (w9 k hk).npc (by omega) z he
  · rcases hr with hr | hr
    · exact (w4.2.1 t r hr).2.npc (by omega) hx he
    · exact (w6.2.1 t r hr).2.npc (by omega) hx he
/-- what factor() leaves -/
def FCP (hp : prm p) (B : Nat) (h : GH) (c : Int) (X V : Int → Int) (sy : Value) (T : PT p) (fo : Option (Px p)) (U : Nat → Prop) (a : Int) (v : Option Value) (h1 : GH) : Prop := ∃ fa1, FK (fun x e => pK B x e ∧ ¬ U x) h h1 ∧ FA hp B h1 fa1 (foF hp T fo a) (fun x => U x ∨ h.1 ≤ x) ∧ CSt p B h1 c X V fa1 sy ∧ CP hp B h1 T ∧ v = some (.int (gI (aFc hp T a)))
theorem FCP.tr {hp : prm p} {B : Nat} {h h0 : GH} {c : Int} {X V : Int → Int} {sy : Value} {T : PT p} {fo : Option (Px p)} {U : Nat → Prop} {a : Int} {v : Option Value} {h1 : GH} (wf : ∀ (a : Nat) (e : GE), h.2 a = some e → a < h.1) (hn : h.1 ≤ h0.1) (un : ∀ x, x < h.1 → x ≠ B → h0.2 x = h.2 x) (w : FCP hp B h0 c X V sy T fo (fun x => U x ∨ h.1 ≤ x) a v h1) : FCP hp B h c X V sy T fo U a v h1 := by
  obtain ⟨fa1, k, b, r⟩ := w
  refine ⟨fa1, ⟨Nat.le_trans hn k.1, fun x e hx hk => k.2 x e ((un x (wf x e hx) (by have := hk.1.1; omega)).trans hx) ⟨hk.1, fun q => ?_⟩⟩, b.mo (fun x hx => ?_), r⟩
  · rcases q with z | z
    · exact hk.2 z
    · have := wf x e hx; omega
  · rcases hx with z | z
    · exact z
    · exact Or.inr (by omega)
theorem fac_fin {hp : prm p} {B f : Nat} {h H h1 : GH} {c : Int} {X V : Int → Int} {sy : Value} {T : PT p} {fo : Option (Px p)} {U : Nat → Prop} {a : Int} {F : Pxy p} {gr gp gr1 gp1 : Int → Option Nat} {gt gq gR gt1 gq1 gR1 : Int → Int} {n pn rn tg le sz n1 pn1 rn1 tg1 le1 sz1 e1 : Int} {Q1 : Int → Px p} (hcs : CSt p B h c X V (.ref f) sy) (hT : CP hp B h T) (hfs : FAs B h f gr gp gt gq gR n pn rn tg le sz) (hU : ∀ x, FF f gr gp x → U x) (fr : Fr [B + 29] h H) (r29 : RA 84 H (B + 29)) (pw : PW p B h1) (fw : FW hp B f H gr gp h1 gr1 gp1 gt1 gq1 gR1 n1 pn1 rn1 tg1 le1 sz1 e1 Q1) (fc : FAc hp h1 (some (F 0)) gr1 gp1 gt1 gq1 gR1 n1 pn1 rn1 tg1 le1) (ha : gT T a = some F) (hy : dY hp F < 1) (hd : 1 ≤ dgi hp (F 0)) : FCP hp B h c X V sy T fo U a (some (.int (gI n1))) h1 := by
  have h58 := hfs.1
  obtain ⟨q1, q2, q3⟩ := fw.2.2.2.1
  have low : ∀ x, x < B + 58 → ¬ FF f gr gp x := fun x hx q => by
    rcases q with z | ⟨t, r, hr, z⟩
    · omega
    · rcases hr with hr | hr
      · have := (hfs.2.2.2.1.2.1 t r hr).1; omega
      · have := (hfs.2.2.2.2.2.1.2.1 t r hr).1; omega
  have kH : ∀ (x : Nat) (e : GE), x ≠ B + 29 → x ≠ B + 30 → h.2 x = some e → H.2 x = some e := fun x e h1 h2 he => fr.at0 (Ni.c ⟨by unfold NE; omega, by unfold NE; omega⟩ (Ni.n _)) he
  have k1 : ∀ (x : Nat) (e : GE), x ≠ B + 29 → x ≠ B + 30 → ¬ FF f gr gp x → (x < B + 8 ∨ B + 24 ≤ x) → h.2 x = some e → h1.2 x = some e := fun x e h1 h2 h3 h4 he => q2 x e (kH x e h1 h2 he) h3 h4
  have hn : h.1 ≤ h1.1 := by have := fr.1; omega
  have e1 : aFc hp T a = fN hp (F 0) := by
    unfold aFc
    rw [ha]
    dsimp only
    rw [if_neg (by omega), if_neg (by omega)]
  have e2 : foF hp T fo a = some (F 0) := by
    unfold foF
    rw [ha]
    dsimp only
    rw [if_neg (by omega), if_neg (by omega)]
  obtain ⟨w1, w2, w3, w4, w5, w6, w7, w8, ⟨gx, gv, w9, w10, w11, w12⟩, w13⟩ := hcs
  refine ⟨.ref f, ⟨hn, fun x e hx hk => k1 x e (by have := hk.1.1; omega) (by have := hk.1.1; omega) (fun q => hk.2 (hU x q)) (by have := hk.1.1; omega) hx⟩, ?_, ⟨k1 _ _ (by omega) (by omega) (low _ (by omega)) (by omega) w1, pw, k1 _ _ (by omega) (by omega) (low _ (by omega)) (by omega) w3, w4.of1 (fun x e hx he => k1 x e (by omega) (by omega) (low _ (by omega)) (by omega) he), w5.of1 (fun x e hx he => k1 x e (by omega) (by omega) (low _ (by omega)) (by omega) he), r29.of1 (fun x e hx he => q2 x e he (low _ (by omega)) (by omega)), w7.of1 (fun x e hx he => k1 x e (by omega) (by omega) (low _ (by omega)) (by omega) he), w8.of1 (fun x e hx he => k1 x e (by omega) (by omega) (low _ (by omega)) (by omega) he), ⟨gx, gv, k1 _ _ (by omega) (by omega) (low _ (by omega)) (by omega) w9, k1 _ _ (by omega) (by omega) (low _ (by omega)) (by omega) w10, k1 _ _ (by omega) (by omega) (low _ (by omega)) (by omega) w11, w12⟩, by omega⟩, CP.of1 hT (fun x e hx hk => ?_), by rw [e1, ← fc.1]⟩
  · rw [e2]
    refine Or.inr ⟨f, gr1, gp1, gt1, gq1, gR1, n1, pn1, rn1, tg1, le1, sz1, rfl, fw.1, fc, fun x hx => ?_⟩
    rcases q3 x hx with z | z
    · exact Or.inl (hU x z)
    · have := fr.1; exact Or.inr (by omega)
  · rcases hk with z | z | z
    · exact k1 x e (by omega) (by omega) (low x (by omega)) (by omega) hx
    · exact k1 x e (by omega) (by omega) (low x (by omega)) (by omega) hx
    · exact k1 x e (by omega) (by omega) (fun q => z.2 (fas_npc hfs q hx)) (by omega) hx
end
set_option maxHeartbeats 4000000 in
set_option maxRecDepth 100000 in
theorem gC_fac (N : GN) (h : GH) (B q p : Nat) (hp : prm p) (hp2 : p ≤ 65536) (c : Int) (X V : Int → Int) (sy : Value) (T : PT p) (fo : Option (Px p)) (U : Nat → Prop) (a : Int) (F : Pxy p) (f : Nat) (gr gp : Int → Option Nat) (gt gq gR : Int → Int) (n pn rn tg le sz : Int) (hcs : CSt p B h c X V (.ref f) sy) (hT : CP hp B h T) (hfs : FAs B h f gr gp gt gq gR n pn rn tg le sz) (hU : ∀ x, FF f gr gp x → U x) (lq : B + 58 ≤ q) (hq : PP hp h q F) (ha : gT T a = some F) (hy : dY hp F < 1) (hd : 1 ≤ dgi hp (F 0)) (Q : Option Value → GH → Prop) (kq : ∀ v h1, FCP hp B h c X V sy T fo U a v h1 → Q v h1) : Go N mX9_factor Q 1656 71208 h 59 [(2, .ref (q)), (0, .ref (B)), (1, .int (gI (a)))] [] := by
  have h58 := hfs.1
  have hp1 := hp.1
  refine g_aload_n 0 dX9_factor_59 rfl ?_
  refine g_aload_n 1 dX9_factor_60 rfl ?_
  refine g_getf 7 dX9_factor_61 kX9 (by decide) fX9_59 hcs.1 rfl ?_
  refine g_callV (nc2 := 0) (ns2 := 0) (ci := 4) (As := [.ref (B + 29)]) (st := []) rfl dX9_factor_64 okX4_toRow lX9_138 itX4_toRow seX4_toRow rfl (hq).o (by decide) (by decide) rfl (Nat.le_of_ble_eq_true rfl) (sQ_toRow N _ (q) (B + 29) p hp hp2 (F) hq hcs.2.2.2.2.2.1 (by unfold AP; omega)) (by omega) (by omega) (fun v1 hc1 q1 => ?_)
  obtain ⟨rfl, frT, rT⟩ := q1
  have fB : hc1.2 B = some (cO B (.ref (f)) (sy)) := frT.at0 (Ni.c ⟨by unfold NE; omega, by unfold NE; omega⟩ (Ni.n _)) hcs.1
  have unT : ∀ x, x ≠ B + 29 → x ≠ B + 30 → hc1.2 x = h.2 x := fun x x1 x2 => frT.2 x (Ni.c ⟨by unfold NE; omega, by unfold NE; omega⟩ (Ni.n _))
  have hfT : FAs B hc1 f gr gp gt gq gR n pn rn tg le sz := FAs.fk2 hfs (by have := frT.1; omega) (fun x hx => unT x (by omega) (by omega))
  have pwT : PW p B hc1 := PW.fr2 hcs.2.1 frT (ok_c (by omega) (fun _ h => absurd h (List.not_mem_nil)))
  have r0 := row_po hp hq.pb 0
  refine Go.wf (fun wfT => ?_)
  have fwT : FW hp B f hc1 gr gp hc1 gr gp gt gq gR n pn rn tg le sz 0 (fun _ => F 0) := ⟨hfT, by omega, fun i i0 i1 => by omega, FQ.rf _ _ _ _ _, wfT⟩
  refine Go.nf (h' := hc1) (st' := []) rfl rfl (Nat.le_refl _) (Nat.le_refl _) ?_
  refine g_aload_n 1 dX9_factor_67 rfl ?_
  refine g_getf 10 dX9_factor_68 kX9 (by decide) fX9_80 fB rfl ?_
  refine g_aload_n 1 dX9_factor_71 rfl ?_
  refine g_getf 7 dX9_factor_72 kX9 (by decide) fX9_59 fB rfl ?_
  refine g_callV (nc2 := 1656) (ns2 := 71208) (ci := 0) (As := [.ref (B + 29)]) (st := []) rfl dX9_factor_75 okX0_search lX9_163 itX0_search seX0_search rfl hfT.2.2.1 (by decide) (by decide) rfl (Nat.le_of_ble_eq_true rfl) (sF_search N _ B f (B + 29) p hp hp2 hfs.1 (by omega) hc1 gr gp gr gp gt gq gR n pn rn tg le sz (fun _ => F 0) (F 0) ⟨by omega, by omega⟩ fwT pwT rT) (by omega) (by omega) (fun v2 hc2 q2 => ?_)
  obtain ⟨rfl, gr1, gp1, gt1, gq1, gR1, n1, pn1, rn1, tg1, le1, sz1, Q1, pw1, fw1, fc1⟩ := q2
  have low9 : ¬ FF f gr gp B := fun q => by
                                                                      rcases q with z | ⟨t, r, hr, z⟩
                                                                      · omega
                                                                      · rcases hr with hr | hr
                                                                        · have := (hfs.2.2.2.1.2.1 t r hr).1; omega
                                                                        · have := (hfs.2.2.2.2.2.1.2.1 t r hr).1; omega
  have fB2 : hc2.2 B = some (cO B (.ref (f)) (sy)) := fw1.2.2.2.1.2.1 _ _ fB low9 (by omega)
  refine Go.nf (h' := hc2) (st' := []) rfl rfl (Nat.le_refl _) (Nat.le_refl _) ?_
  refine g_aload_n 1 dX9_factor_78 rfl ?_
  refine g_getf 10 dX9_factor_79 kX9 (by decide) fX9_80 fB2 rfl ?_
  refine g_getf 11 dX9_factor_82 kX0 (by decide) fX9_166 (FW.ob fw1) rfl ?_
  exact g_iret dX9_factor_85 rfl (kq _ _ (fac_fin hcs hT hfs hU frT rT.ra pw1 fw1 fc1 ha hy hd))
set_option maxHeartbeats 4000000 in
set_option maxRecDepth 100000 in
theorem sC_facS (N : GN) (h : GH) (B p : Nat) (hp : prm p) (hp2 : p ≤ 65536) (c : Int) (X V : Int → Int) (sy : Value) (T : PT p) (fo : Option (Px p)) (U : Nat → Prop) (a : Int) (gW_a : gW a) (f : Nat) (gr gp : Int → Option Nat) (gt gq gR : Int → Int) (n pn rn tg le sz : Int) (hcs : CSt p B h c X V (.ref f) sy) (hfs : FAs B h f gr gp gt gq gR n pn rn tg le sz) (hfc : FAc hp h fo gr gp gt gq gR n pn rn tg le) (hU : ∀ x, FF f gr gp x → U x) (hT : CP hp B h T) : Sp N yX9_factor mX9_factor 1680 73700 [.ref (B), .int (gI (a))] h (FCP hp B h c X V sy T fo U a) := by
  refine Sp.of (by decide) rfl rfl (Nat.le_of_ble_eq_true rfl) ?_
  show Go N mX9_factor _ 1680 73700 h 0 [(0, .ref (B)), (1, .int (gI (a)))] []
  refine Go.wf (fun wf => ?_)
  have hp1 := hp.1
  have hob := hcs.1
  have hX : FA hp B h (.ref f) fo U := Or.inr ⟨f, gr, gp, gt, gq, gR, n, pn, rn, tg, le, sz, rfl, hfs, hfc, hU⟩
  refine g_aload_n 0 dX9_factor_0 rfl ?_
  refine g_iload_n 1 dX9_factor_1 rfl ?_
  refine g_callV (nc2 := 0) (ns2 := 0) (ci := 9) (As := [.int (gI (a))]) (st := []) rfl dX9_factor_2 okX9_find lX9_107 itX9_find seX9_find rfl hob (by decide) (by decide) rfl (Nat.le_of_ble_eq_true rfl) (sC_find N _ B p hp (.ref f) sy T (a) gW_a hob hT) (by omega) (by omega) (fun v1 hc1 q1 => ?_)
  obtain ⟨hq2, hr2⟩ := q1
  rcases hr2 with ⟨F, q, g_a, rfl, l_a, pp_a⟩ | ⟨g_a, rfl⟩
  · skip
    refine Go.nf (h' := h) (st' := [.ref (q)]) hq2 rfl (Nat.le_refl _) (Nat.le_refl _) ?_
    refine g_astore_n (ls2 := [(2, .ref (q)), (0, .ref (B)), (1, .int (gI (a)))]) dX9_factor_5 rfl (by decide) rfl ?_
    refine g_aload_n 0 dX9_factor_6 rfl ?_
    refine g_ifnn (tgt := 12) dX9_factor_7 rfl ?_
    refine g_aload_n 0 dX9_factor_12 rfl ?_
    refine g_callV (nc2 := 0) (ns2 := 0) (ci := 4) (As := []) (st := []) rfl dX9_factor_13 okX4_isPlain lX9_131 itX4_isPlain seX4_isPlain rfl (pp_a).o (by decide) (by decide) rfl (Nat.le_of_ble_eq_true rfl) (sQ_isPlain N _ (q) p hp F pp_a) (by omega) (by omega) (fun v3 hc3 q3 => ?_)
    obtain ⟨hq4, rfl⟩ := q3
    refine Go.nf (h' := h) (st' := [.int (gI (if dY hp F < 1 then 1 else 0))]) hq4 rfl (Nat.le_refl _) (Nat.le_refl _) ?_
    refine g_if_ne (tgt := 22) dX9_factor_16 rfl (by first | assumption | (unfold gW; omega) | (unfold gW; split <;> omega)) (fun c5 => ?_) (fun c5 => ?_)
    · skip
      have hyF : dY hp F < 1 := by
                                                                      by_cases z : dY hp F < 1
                                                                      · exact z
                                                                      · rw [if_neg z] at c5; omega
      clear c5
      have hdx := dX_0 hp pp_a.pb hyF
      have hdg := pp_a.dg
      refine g_aload_n 0 dX9_factor_22 rfl ?_
      refine g_getf 1 dX9_factor_23 kX4 (by decide) fX9_135 (pp_a).o rfl ?_
      refine g_iconst dX9_factor_26 ?_
      refine g_icmp_ge (tgt := 33) dX9_factor_27 rfl (by first | assumption | (unfold gW; omega) | (unfold gW; split <;> omega)) (by first | assumption | (unfold gW; omega) | (unfold gW; split <;> omega)) (fun c6 => ?_) (fun c6 => ?_)
      · skip
        refine g_aload_n 1 dX9_factor_33 rfl ?_
        refine g_getf 10 dX9_factor_34 kX9 (by decide) fX9_80 hob rfl ?_
        refine g_ifnn (tgt := 59) dX9_factor_37 rfl ?_
        exact Go.imp (by omega) (by omega) (gC_fac N h B q p hp hp2 c X V sy T fo U a F f gr gp gt gq gR n pn rn tg le sz hcs hT hfs hU (by omega) pp_a g_a hyF (by omega) _ (fun _ _ w => w))
      · skip
        refine g_bipush dX9_factor_30 (by decide) ?_
        exact g_iret dX9_factor_32 rfl ⟨.ref f, FK.rf _ _, (by
                                                                      have e9 : foF hp T fo a = fo := by unfold foF; rw [g_a]; dsimp only; rw [if_neg (by omega), if_pos (by omega)]
                                                                      rw [e9]; exact hX.mo (fun _ a => Or.inl a)), hcs, hT, (by
                                                                      have e9 : aFc hp T a = (-3) := by unfold aFc; rw [g_a]; dsimp only; rw [if_neg (by omega), if_pos (by omega)]
                                                                      rw [e9])⟩
    · skip
      have hyF : ¬ dY hp F < 1 := fun z => by rw [if_pos z] at c5; omega
      clear c5
      refine g_bipush dX9_factor_19 (by decide) ?_
      exact g_iret dX9_factor_21 rfl ⟨.ref f, FK.rf _ _, (by
                                                                      have e9 : foF hp T fo a = fo := by unfold foF; rw [g_a]; dsimp only; rw [if_pos (by omega)]
                                                                      rw [e9]; exact hX.mo (fun _ a => Or.inl a)), hcs, hT, (by
                                                                      have e9 : aFc hp T a = (-2) := by unfold aFc; rw [g_a]; dsimp only; rw [if_pos (by omega)]
                                                                      rw [e9])⟩
  · skip
    refine Go.nf (h' := h) (st' := [.null]) hq2 rfl (Nat.le_refl _) (Nat.le_refl _) ?_
    refine g_astore_nN (ls2 := [(2, .null), (0, .ref (B)), (1, .int (gI (a)))]) dX9_factor_5 rfl (by decide) rfl ?_
    refine g_aload_nN 0 dX9_factor_6 rfl ?_
    refine g_ifnnN (x := 0) (tgt := 12) dX9_factor_7 rfl ?_
    refine g_iconst dX9_factor_10 ?_
    exact g_iret dX9_factor_11 rfl ⟨.ref f, FK.rf _ _, (by
                                                                      have e9 : foF hp T fo a = fo := by unfold foF; rw [g_a]
                                                                      rw [e9]; exact hX.mo (fun _ a => Or.inl a)), hcs, hT, (by
                                                                      have e9 : aFc hp T a = (-1) := by unfold aFc; rw [g_a]
                                                                      rw [e9])⟩
set_option maxHeartbeats 4000000 in
set_option maxRecDepth 100000 in
theorem sC_facN (N : GN) (h : GH) (B p : Nat) (hp : prm p) (hp2 : p ≤ 65536) (c : Int) (X V : Int → Int) (sy : Value) (T : PT p) (fo : Option (Px p)) (U : Nat → Prop) (a : Int) (gW_a : gW a) (hfo : fo = none) (hcs : CSt p B h c X V .null sy) (hT : CP hp B h T) : Sp N yX9_factor mX9_factor 1680 73700 [.ref (B), .int (gI (a))] h (FCP hp B h c X V sy T fo U a) := by
  refine Sp.of (by decide) rfl rfl (Nat.le_of_ble_eq_true rfl) ?_
  show Go N mX9_factor _ 1680 73700 h 0 [(0, .ref (B)), (1, .int (gI (a)))] []
  refine Go.wf (fun wf => ?_)
  have hp1 := hp.1
  have hob := hcs.1
  have hlo := hcs.2.2.2.2.2.2.2.2.2
  have hX : FA hp B h .null fo U := Or.inl ⟨rfl, hfo⟩
  refine g_aload_n 0 dX9_factor_0 rfl ?_
  refine g_iload_n 1 dX9_factor_1 rfl ?_
  refine g_callV (nc2 := 0) (ns2 := 0) (ci := 9) (As := [.int (gI (a))]) (st := []) rfl dX9_factor_2 okX9_find lX9_107 itX9_find seX9_find rfl hob (by decide) (by decide) rfl (Nat.le_of_ble_eq_true rfl) (sC_find N _ B p hp .null sy T (a) gW_a hob hT) (by omega) (by omega) (fun v1 hc1 q1 => ?_)
  obtain ⟨hq2, hr2⟩ := q1
  rcases hr2 with ⟨F, q, g_a, rfl, l_a, pp_a⟩ | ⟨g_a, rfl⟩
  · skip
    refine Go.nf (h' := h) (st' := [.ref (q)]) hq2 rfl (Nat.le_refl _) (Nat.le_refl _) ?_
    refine g_astore_n (ls2 := [(2, .ref (q)), (0, .ref (B)), (1, .int (gI (a)))]) dX9_factor_5 rfl (by decide) rfl ?_
    refine g_aload_n 0 dX9_factor_6 rfl ?_
    refine g_ifnn (tgt := 12) dX9_factor_7 rfl ?_
    refine g_aload_n 0 dX9_factor_12 rfl ?_
    refine g_callV (nc2 := 0) (ns2 := 0) (ci := 4) (As := []) (st := []) rfl dX9_factor_13 okX4_isPlain lX9_131 itX4_isPlain seX4_isPlain rfl (pp_a).o (by decide) (by decide) rfl (Nat.le_of_ble_eq_true rfl) (sQ_isPlain N _ (q) p hp F pp_a) (by omega) (by omega) (fun v3 hc3 q3 => ?_)
    obtain ⟨hq4, rfl⟩ := q3
    refine Go.nf (h' := h) (st' := [.int (gI (if dY hp F < 1 then 1 else 0))]) hq4 rfl (Nat.le_refl _) (Nat.le_refl _) ?_
    refine g_if_ne (tgt := 22) dX9_factor_16 rfl (by first | assumption | (unfold gW; omega) | (unfold gW; split <;> omega)) (fun c5 => ?_) (fun c5 => ?_)
    · skip
      have hyF : dY hp F < 1 := by
                                                                      by_cases z : dY hp F < 1
                                                                      · exact z
                                                                      · rw [if_neg z] at c5; omega
      clear c5
      have hdx := dX_0 hp pp_a.pb hyF
      have hdg := pp_a.dg
      refine g_aload_n 0 dX9_factor_22 rfl ?_
      refine g_getf 1 dX9_factor_23 kX4 (by decide) fX9_135 (pp_a).o rfl ?_
      refine g_iconst dX9_factor_26 ?_
      refine g_icmp_ge (tgt := 33) dX9_factor_27 rfl (by first | assumption | (unfold gW; omega) | (unfold gW; split <;> omega)) (by first | assumption | (unfold gW; omega) | (unfold gW; split <;> omega)) (fun c6 => ?_) (fun c6 => ?_)
      · skip
        refine g_aload_n 1 dX9_factor_33 rfl ?_
        refine g_getf 10 dX9_factor_34 kX9 (by decide) fX9_80 hob rfl ?_
        refine g_ifnnN (x := 0) (tgt := 59) dX9_factor_37 rfl ?_
        refine g_aload_n 1 dX9_factor_40 rfl ?_
        refine Go.wf (fun wf7 => ?_)
        refine g_new (fs := [.null, .null, .null, .null, .null, .null, .null, .null, .null, .null, .null, .int (gI (0)), .int (gI (0)), .int (gI (0)), .int (gI (0)), .long (gJ (0))]) dX9_factor_41 kX0 cX9_85 niX0 nzX0 (by decide) (by omega) (by omega) ?_
        obtain ⟨hh7, eh7⟩ : ∃ z : GH, z = hnew h (oB 0 [.null, .null, .null, .null, .null, .null, .null, .null, .null, .null, .null, .int (gI (0)), .int (gI (0)), .int (gI (0)), .int (gI (0)), .long (gJ (0))]) := ⟨_, rfl⟩
        refine Go.hp eh7.symm ?_
        obtain ⟨qa7, eq7⟩ : ∃ z : Nat, z = h.1 := ⟨_, rfl⟩
        rw [← eq7]
        have ln7_0 : B < qa7 := by rw [eq7]; exact wf7 _ _ hob
        have fh7_0 : hh7.2 (B) = some (cO B (.null) (sy)) := by rw [eh7, hnew_n _ _ (by omega)]; exact hob
        have fq7 : hh7.2 (qa7) = some (oB 0 [.null, .null, .null, .null, .null, .null, .null, .null, .null, .null, .null, .int (gI (0)), .int (gI (0)), .int (gI (0)), .int (gI (0)), .long (gJ (0))]) := by rw [eh7, eq7]; exact hnew_s _ _
        refine g_dup dX9_factor_44 rfl ?_
        refine g_aload_n 1 dX9_factor_45 rfl ?_
        refine g_getf 0 dX9_factor_46 kX9 (by decide) fX9_10 fh7_0 rfl ?_
        refine g_aload_n 1 dX9_factor_49 rfl ?_
        refine g_getf 4 dX9_factor_50 kX9 (by decide) fX9_38 fh7_0 rfl ?_
        refine g_callI (nc2 := 20) (ns2 := 2400) (As := [.ref (B + 1), .ref (B + 7)]) (st := [.ref (qa7), .ref (B)]) rfl dX9_factor_53 okX0_init rfl lX9_160 itX0_init rfl (by decide) (by decide) rfl (Nat.le_of_ble_eq_true rfl) (sF_init N _ B (qa7) (by omega) (by rw [eh7, eq7]; rfl) fq7) (by omega) (by omega) (fun v8 hc8 q8 => ?_)
        obtain ⟨rfl, n1, bl, fs1⟩ := q8
        have fB : hc8.2 (B) = some (cO B (.null) (sy)) := (bl _ (by omega)).trans fh7_0
        refine Go.nf (h' := hc8) (st' := [.ref (qa7), .ref (B)]) rfl rfl (Nat.le_refl _) (Nat.le_refl _) ?_
        refine g_putf 10 dX9_factor_56 kX9 (by decide) fX9_80 rfl fB (Nat.le_of_ble_eq_true rfl) rfl rfl ?_
        obtain ⟨hh9, eh9⟩ : ∃ z : GH, z = hset hc8 (B) (cO B (.ref (qa7)) (sy)) := ⟨_, rfl⟩
        refine Go.hp eh9.symm ?_
        have fh9_0 : hh9.2 (B) = some (cO B (.ref (qa7)) (sy)) := hs_s eh9
        have un : ∀ x, x < h.1 → x ≠ B → hh9.2 x = h.2 x := fun x hx hB => by rw [eh9, hset_n _ _ hB, bl x (by omega), eh7, hnew_n _ _ (by omega)]
        have nH : hh9.1 = qa7 + 21 := by rw [eh9]; exact n1
        have fsH : FAs B hh9 qa7 (fun _ => none) (fun _ => none) (fun _ => 0) (fun _ => 0) (fun _ => 0) 0 0 0 0 0 0 := FAs.fk2 fs1 (by rw [eh9]; exact Nat.le_refl _) (fun x hx => by rw [eh9, hset_n _ _ (by omega)])
        have hcsH : CSt p B hh9 c X V (.ref qa7) sy := by
                                                                      obtain ⟨w1, w2, w3, w4, w5, w6, w7, w8, ⟨gx, gv, w9, w10, w11, w12⟩, w13⟩ := hcs
                                                                      have k1 : ∀ (x : Nat) (e : GE), x ≠ B → h.2 x = some e → hh9.2 x = some e := fun x e hx he => (un x (wf x e he) hx).trans he
                                                                      exact ⟨hs_s eh9, ⟨k1 _ _ (by omega) w2.1, k1 _ _ (by omega) w2.2.1, fun x hx => (w2.2.2 x hx).of1 (fun y e hy he => k1 y e (by have := pl_in hx; omega) he)⟩, k1 _ _ (by omega) w3, w4.of1 (fun x e hx he => k1 x e (by omega) he), w5.of1 (fun x e hx he => k1 x e (by omega) he), w6.of1 (fun x e hx he => k1 x e (by omega) he), w7.of1 (fun x e hx he => k1 x e (by omega) he), w8.of1 (fun x e hx he => k1 x e (by omega) he), ⟨gx, gv, k1 _ _ (by omega) w9, k1 _ _ (by omega) w10, k1 _ _ (by omega) w11, w12⟩, by omega⟩
        have hTH : CP hp B hh9 T := CP.of1 hT (fun x e hx hk => (un x (wf x e hx) (by omega)).trans hx)
        have hqH : PP hp hh9 q F := pp_a.of (fun x e hx he => (un x (wf x e he) (by omega)).trans he)
        have hUH : ∀ x, FF qa7 (fun _ => none) (fun _ => none) x → (fun x => U x ∨ h.1 ≤ x) x := fun x hx => by
                                                                      rcases hx with z | ⟨t, r, hr, _⟩
                                                                      · exact Or.inr (by omega)
                                                                      · rcases hr with hr | hr <;> exact absurd hr (by simp)
        exact Go.imp (by omega) (by omega) (gC_fac N hh9 B q p hp hp2 c X V sy T fo (fun x => U x ∨ h.1 ≤ x) a F qa7 (fun _ => none) (fun _ => none) (fun _ => 0) (fun _ => 0) (fun _ => 0) 0 0 0 0 0 0 hcsH hTH fsH hUH (by omega) hqH g_a hyF (by omega) _ (fun v h1 w => FCP.tr wf (by omega) un w))
      · skip
        refine g_bipush dX9_factor_30 (by decide) ?_
        exact g_iret dX9_factor_32 rfl ⟨.null, FK.rf _ _, (by
                                                                      have e9 : foF hp T fo a = fo := by unfold foF; rw [g_a]; dsimp only; rw [if_neg (by omega), if_pos (by omega)]
                                                                      rw [e9]; exact hX.mo (fun _ a => Or.inl a)), hcs, hT, (by
                                                                      have e9 : aFc hp T a = (-3) := by unfold aFc; rw [g_a]; dsimp only; rw [if_neg (by omega), if_pos (by omega)]
                                                                      rw [e9])⟩
    · skip
      have hyF : ¬ dY hp F < 1 := fun z => by rw [if_pos z] at c5; omega
      clear c5
      refine g_bipush dX9_factor_19 (by decide) ?_
      exact g_iret dX9_factor_21 rfl ⟨.null, FK.rf _ _, (by
                                                                      have e9 : foF hp T fo a = fo := by unfold foF; rw [g_a]; dsimp only; rw [if_pos (by omega)]
                                                                      rw [e9]; exact hX.mo (fun _ a => Or.inl a)), hcs, hT, (by
                                                                      have e9 : aFc hp T a = (-2) := by unfold aFc; rw [g_a]; dsimp only; rw [if_pos (by omega)]
                                                                      rw [e9])⟩
  · skip
    refine Go.nf (h' := h) (st' := [.null]) hq2 rfl (Nat.le_refl _) (Nat.le_refl _) ?_
    refine g_astore_nN (ls2 := [(2, .null), (0, .ref (B)), (1, .int (gI (a)))]) dX9_factor_5 rfl (by decide) rfl ?_
    refine g_aload_nN 0 dX9_factor_6 rfl ?_
    refine g_ifnnN (x := 0) (tgt := 12) dX9_factor_7 rfl ?_
    refine g_iconst dX9_factor_10 ?_
    exact g_iret dX9_factor_11 rfl ⟨.null, FK.rf _ _, (by
                                                                      have e9 : foF hp T fo a = fo := by unfold foF; rw [g_a]
                                                                      rw [e9]; exact hX.mo (fun _ a => Or.inl a)), hcs, hT, (by
                                                                      have e9 : aFc hp T a = (-1) := by unfold aFc; rw [g_a]
                                                                      rw [e9])⟩
theorem sC_factor (N : GN) (h : GH) (B p : Nat) (hp : prm p) (hp2 : p ≤ 65536) (c : Int) (X V : Int → Int) (fa sy : Value) (T : PT p) (fo : Option (Px p)) (U : Nat → Prop) (a : Int) (gW_a : gW a) (hcs : CSt p B h c X V fa sy) (hT : CP hp B h T) (hX : FA hp B h fa fo U) : Sp N yX9_factor mX9_factor 1680 73700 [.ref (B), .int (gI (a))] h (FCP hp B h c X V sy T fo U a) := by
  rcases hX with ⟨z1, z2⟩ | ⟨f, gr, gp, gt, gq, gR, n, pn, rn, tg, le, sz, z1, hfs, hfc, hU⟩
  · subst z1; exact sC_facN N h B p hp hp2 c X V sy T fo U a gW_a z2 hcs hT
  · subst z1; exact sC_facS N h B p hp hp2 c X V sy T fo U a gW_a f gr gp gt gq gR n pn rn tg le sz hcs hfs hfc hU hT
