section
variable {p : Nat}
theorem npc_o {c : Nat} {fs : List Value} (hc : c ≠ 4) : npc (oB c fs) := ⟨fun _ e => oB_ne hc e, fun _ e => oB_aJ e⟩
theorem npc_j {n : Nat} {g : Int → Int} (hn : n ≠ 287) : npc (aJ n g) := ⟨fun _ e => oB_aJ e.symm, fun _ e => aJ_ne hn e⟩
theorem npc_r {C : String} {n : Nat} {g : Int → Option Nat} : npc (aR C n g) := ⟨fun _ e => aR_oB e, fun _ e => aR_aJ e⟩
theorem RA.npc {n : Nat} {h : GH} {r x : Nat} {e : GE} (w : RA n h r) (hn : n ≠ 287) (hx : x = r ∨ x = r + 1) (he : h.2 x = some e) : npc e := by
  obtain ⟨d, g, a, b, _⟩ := w
  rcases hx with z | z
  · rw [z, a] at he; rw [← Option.some.inj he]; exact npc_o (by omega)
  · rw [z, b] at he; rw [← Option.some.inj he]; exact npc_j hn
/-- Sylvester at s -/
def SYs (B : Nat) (h : GH) (s : Nat) (g : Int → Option Nat) (sz : Int) : Prop := B + 58 ≤ s ∧ s + 8 ≤ h.1 ∧ h.2 s = some (sO B s sz) ∧ RLi 144 (s + 8) h (s + 1) g ∧ RA 160 h (s + 2) ∧ RA 160 h (s + 4) ∧ RO h (s + 6)
theorem RO.ra {h : GH} {r : Nat} (w : RO h r) : RA 1 h r := by
  obtain ⟨g, a, _⟩ := w
  exact ⟨0, g, a⟩
theorem SYs.fk {B : Nat} {h h1 : GH} {s : Nat} {g : Int → Option Nat} {sz : Int} {P : Nat → GE → Prop} (w : SYs B h s g sz) (f : FK P h h1) (k : ∀ x e, B + 58 ≤ x → npc e → P x e) : SYs B h1 s g sz := by
  obtain ⟨w1, w2, w3, w4, w5, w6, w7⟩ := w
  have kk : ∀ {n r x : Nat} {e : GE}, RA n h r → n ≠ 287 → B + 58 ≤ r → (x = r ∨ x = r + 1) → h.2 x = some e → h1.2 x = some e := fun {n r x e} wr hn hr hx he => f.2 x e he (k x e (by omega) (wr.npc hn hx he))
  exact ⟨w1, Nat.le_trans w2 f.1, f.2 _ _ w3 (k _ _ w1 (npc_o (by omega))), ⟨f.2 _ _ w4.1 (k _ _ (by omega) npc_r), fun i r hr => ⟨(w4.2.1 i r hr).1, (w4.2.1 i r hr).2.of1 (fun x e hx he => kk (w4.2.1 i r hr).2 (by omega) (by have := (w4.2.1 i r hr).1; omega) hx he)⟩, w4.2.2⟩, w5.of1 (fun x e hx he => kk w5 (by omega) (by omega) hx he), w6.of1 (fun x e hx he => kk w6 (by omega) (by omega) hx he), w7.of1 (fun x e hx he => kk w7.ra (by omega) (by omega) hx he)⟩
theorem SYs.npc {B : Nat} {h : GH} {s : Nat} {g : Int → Option Nat} {sz : Int} {x : Nat} {e : GE} (w : SYs B h s g sz) (hx : SF s g x) (he : h.2 x = some e) : npc e := by
  obtain ⟨w1, w2, w3, w4, w5, w6, w7⟩ := w
  rcases hx with z | ⟨t, r, hr, z⟩
  · have h6 : x = s ∨ x = s + 1 ∨ (x = s + 2 ∨ x = s + 2 + 1) ∨ (x = s + 4 ∨ x = s + 4 + 1) := by omega
    rcases h6 with y | y | y | y
    · rw [y, w3] at he; rw [← Option.some.inj he]; exact npc_o (by omega)
    · rw [y, w4.1] at he; rw [← Option.some.inj he]; exact npc_r
    · exact w5.npc (by omega) y he
    · exact w6.npc (by omega) y he
  · exact (w4.2.1 t r hr).2.npc (by omega) z he
def SY (B : Nat) (h : GH) (sy : Value) (U : Nat → Prop) : Prop := sy = .null ∨ ∃ s g sz, sy = .ref s ∧ SYs B h s g sz ∧ ∀ x, SF s g x ∨ x = s + 6 ∨ x = s + 7 → U x
theorem SY.fk {B : Nat} {h h1 : GH} {sy : Value} {U : Nat → Prop} {P : Nat → GE → Prop} (w : SY B h sy U) (f : FK P h h1) (k : ∀ x e, B + 58 ≤ x → npc e → P x e) : SY B h1 sy U := by
  rcases w with z | ⟨s, g, sz, z1, z2, z3⟩
  · exact Or.inl z
  · exact Or.inr ⟨s, g, sz, z1, z2.fk f k, z3⟩
theorem FSf.lo {n s : Nat} {h h1 : GH} {g g1 : Int → Option Nat} (a : FSf s h g h1 g1) (w : RLi n (s + 8) h (s + 1) g) {x : Nat} {e : GE} (hx : x < s ∨ (s + 2 ≤ x ∧ x < s + 8)) (he : h.2 x = some e) : h1.2 x = some e := a.2.1 x e he (by omega) (by omega) (fun t r hr => by have := (w.2.1 t r hr).1; omega)
theorem FSq.lo {B n s : Nat} {h h1 : GH} {g g1 : Int → Option Nat} (a : FSq B s h g h1 g1) (w : RLi n (s + 8) h (s + 1) g) {x : Nat} {e : GE} (hx : x < s ∨ (s + 6 ≤ x ∧ x < s + 8)) (hb : x < B + 33 ∨ B + 35 ≤ x) (he : h.2 x = some e) : h1.2 x = some e := a.2.1 x e he (fun q => by
  rcases q with z | ⟨t, r, hr, z⟩
  · omega
  · have := (w.2.1 t r hr).1; omega) hb
def FZ (B s : Nat) (h : GH) (g : Int → Option Nat) (h1 : GH) (g1 : Int → Option Nat) : Prop := h.1 ≤ h1.1 ∧ (∀ (x : Nat) (e : GE), h.2 x = some e → ¬ SF s g x → (x < B + 27 ∨ (B + 29 ≤ x ∧ x < B + 33) ∨ B + 35 ≤ x) → h1.2 x = some e) ∧ ∀ x, SF s g1 x → SF s g x ∨ h.1 ≤ x
theorem FSq.z {B s : Nat} {h h1 : GH} {g g1 : Int → Option Nat} (a : FSq B s h g h1 g1) : FZ B s h g h1 g1 := ⟨a.1, fun x e hx hn hb => a.2.1 x e hx hn (by omega), a.2.2⟩
theorem FSq.zw {B s : Nat} {h h1 h2 : GH} {g g1 : Int → Option Nat} (a : FSq B s h g h1 g1) (f : Fr [B + 27] h1 h2) : FZ B s h g h2 g1 := ⟨by rw [f.1]; exact a.1, fun x e hx hn hb => f.at0 (Ni.c ⟨by unfold NE; omega, by unfold NE; omega⟩ (Ni.n _)) (a.2.1 x e hx hn (by omega)), a.2.2⟩
theorem PA.of1 {h h1 : GH} {r : Nat} (w : PA h r) (f : ∀ (x : Nat) (e : GE), x = r ∨ x = r + 1 → h.2 x = some e → h1.2 x = some e) : PA h1 r := by
  obtain ⟨d, e, g, a, b, c⟩ := w
  exact ⟨d, e, g, f _ _ (Or.inl rfl) a, f _ _ (Or.inr rfl) b, c⟩
theorem PA.nn {h : GH} {r x : Nat} {e : GE} (w : PA h r) (hx : x = r ∨ x = r + 1) (he : h.2 x = some e) : ¬ npc e := by
  obtain ⟨d, e2, g, a, b, c⟩ := w
  intro q
  rcases hx with z | z
  · rw [z, a] at he; exact q.1 _ (Option.some.inj he).symm
  · rw [z, b] at he; exact q.2 _ (Option.some.inj he).symm
theorem CP.of1 {hp : prm p} {B : Nat} {h h1 : GH} {T : PT p} (w : CP hp B h T) (f : ∀ (x : Nat) (e : GE), h.2 x = some e → x = B + 2 ∨ x = B + 3 ∨ (B + 58 ≤ x ∧ ¬ npc e) → h1.2 x = some e) : CP hp B h1 T := by
  obtain ⟨gp, gt, a, b, c, d, e⟩ := w
  have kk : ∀ (k : Int) (q : Nat), gp k = some q → ∀ (x : Nat) (e : GE), x = q ∨ x = q + 1 → h.2 x = some e → h1.2 x = some e := fun k q hq x e hx he => f x e he (Or.inr (Or.inr ⟨by have := (d k q hq).1; omega, (d k q hq).2.nn hx he⟩))
  refine ⟨gp, gt, f _ _ a (by omega), f _ _ b (by omega), fun k k0 k1 => ?_, fun k q hq => ⟨(d k q hq).1, (d k q hq).2.of1 (kk k q hq)⟩, e⟩
  rcases c k k0 k1 with z | ⟨F, q, z1, z2, z3, z4⟩
  · exact Or.inl z
  · exact Or.inr ⟨F, q, z1, z2, z3, z4.of (kk k q z3)⟩
theorem CSt.of1 {B : Nat} {h h1 : GH} {c : Int} {X V : Int → Int} {fa sy sy1 : Value} (w : CSt p B h c X V fa sy) (hn : h.1 ≤ h1.1) (hob : h1.2 B = some (cO B fa sy1)) (h27 : PA h1 (B + 27)) (h33 : RA 84 h1 (B + 33)) (f : ∀ (x : Nat) (e : GE), h.2 x = some e → B < x → (x < B + 27 ∨ (B + 29 ≤ x ∧ x < B + 33)) → h1.2 x = some e) : CSt p B h1 c X V fa sy1 := by
  obtain ⟨w1, w2, w3, w4, w5, w6, w7, w8, ⟨gx, gv, w9, w10, w11, w12⟩, w13⟩ := w
  refine ⟨hob, ⟨f _ _ w2.1 (by omega) (by omega), f _ _ w2.2.1 (by omega) (by omega), fun x hx => ?_⟩, f _ _ w3 (by omega) (by omega), w4.of1 (fun x e hx he => f x e he (by omega) (by omega)), h27, w6.of1 (fun x e hx he => f x e he (by omega) (by omega)), w7.of1 (fun x e hx he => f x e he (by omega) (by omega)), h33, ⟨gx, gv, f _ _ w9 (by omega) (by omega), f _ _ w10 (by omega) (by omega), f _ _ w11 (by omega) (by omega), w12⟩, Nat.le_trans w13 hn⟩
  have := pl_in hx
  exact (w2.2.2 x hx).of1 (fun y e hy he => f y e he (by omega) (by omega))
/-- a Poly and Sylvester's own cells lie apart -/
theorem AP_s {B : Nat} {h : GH} {q s : Nat} {g : Int → Option Nat} {sz : Int} (a : PA h q) (w : SYs B h s g sz) : AP q s := by
  obtain ⟨d, e, g2, a1, a2, _⟩ := a
  obtain ⟨_, _, w3, w4, _⟩ := w
  refine AP_of (fun e9 => ?_) (fun e9 => ?_) (fun e9 => ?_)
  · rw [e9, w3] at a1; exact oB_ne (by omega) (Option.some.inj a1)
  · rw [e9, w4.1] at a1; exact aR_oB (Option.some.inj a1)
  · rw [e9, w3] at a2; exact oB_aJ (Option.some.inj a2)
end
set_option maxHeartbeats 4000000 in
set_option maxRecDepth 100000 in
theorem gC_rby (N : GN) (h : GH) (B s qa qb p : Nat) (hp : prm p) (hp2 : p ≤ 65536) (fa : Value) (sz : Int) (F G : Pxy p) (g : Int → Option Nat) (Q : Option Value → GH → Prop) (h1 : dX hp F ≤ 6) (h2 : dX hp G ≤ 6) (hF1 : 1 ≤ dY hp F) (hG1 : 1 ≤ dY hp G) (hy : SYs B h s g sz) (hob : h.2 B = some (cO B fa (.ref s))) (hth : h.2 (B + 7) = some (oB 2 [.ref (B + 1), .ref (B + 8), .ref (B + 10), .ref (B + 12), .ref (B + 14), .ref (B + 16), .ref (B + 18), .ref (B + 20), .ref (B + 22)])) (hfl : h.2 (B + 1) = some (oB 1 [.int (gI ((p : Int)))])) (h33 : RA 84 h (B + 33)) (h27 : PA h (B + 27)) (hqa : PP hp h qa F) (hqb : PP hp h qb G) (hQ : ∀ (w : Int) (h1 : GH) (g1 : Int → Option Nat) (sz1 : Int), FZ B s h g h1 g1 → SYs B h1 s g1 sz1 → RA 84 h1 (B + 33) → ((40 < dgi hp (resY hp F G) ∧ w = -4 ∧ PA h1 (B + 27)) ∨ (dgi hp (resY hp F G) ≤ 40 ∧ w = 0 ∧ PP hp h1 (B + 27) (pF hp (resY hp F G)))) → Q (some (.int (gI w))) h1) : Go N mX9_resultantByY Q 288 12384 h 63 [(0, .ref (B)), (1, .ref (qa)), (2, .ref (qb))] [] := by
  refine Go.wf (fun wf => ?_)
  have hp1 := hp.1
  have hdF := hqa.dg.2
  have hdG := hqb.dg.2
  have hs58 := hy.1
  refine g_aload_n 0 dX9_resultantByY_63 rfl ?_
  refine g_getf 11 dX9_resultantByY_64 kX9 (by decide) fX9_264 hob rfl ?_
  refine g_aload_n 1 dX9_resultantByY_67 rfl ?_
  refine g_aload_n 2 dX9_resultantByY_68 rfl ?_
  refine g_callV (nc2 := 288) (ns2 := 12384) (ci := 7) (As := [.ref (qa), .ref (qb)]) (st := []) rfl dX9_resultantByY_69 okX7_fill lX9_271 itX7_fill seX7_fill rfl hy.2.2.1 (by decide) (by decide) rfl (Nat.le_of_ble_eq_true rfl) (sS_fill N _ B s qa qb p hp hp2 sz F G g hF1 hG1 hy.2.1 hy.2.2.1 hy.2.2.2.1 hqa hqb (AP_s hqa.ra hy) (AP_s hqb.ra hy)) (by omega) (by omega) (fun v1 hc1 q1 => ?_)
  obtain ⟨rfl, g1, fz1, ls1, so1, _, _⟩ := q1
  have fa_0 : hc1.2 (B) = some (cO B (fa) (.ref (s))) := fz1.lo hy.2.2.2.1 (by omega) hob
  have fa_1 : hc1.2 (B + 7) = some (oB 2 [.ref (B + 1), .ref (B + 8), .ref (B + 10), .ref (B + 12), .ref (B + 14), .ref (B + 16), .ref (B + 18), .ref (B + 20), .ref (B + 22)]) := fz1.lo hy.2.2.2.1 (by omega) hth
  have fa_2 : hc1.2 (B + 1) = some (oB 1 [.int (gI ((p : Int)))]) := fz1.lo hy.2.2.2.1 (by omega) hfl
  have r2a : RA 160 hc1 (s + 2) := hy.2.2.2.2.1.of1 (fun x e hx he => fz1.lo hy.2.2.2.1 (by omega) he)
  have r4a : RA 160 hc1 (s + 4) := hy.2.2.2.2.2.1.of1 (fun x e hx he => fz1.lo hy.2.2.2.1 (by omega) he)
  have roa : RO hc1 (s + 6) := hy.2.2.2.2.2.2.of1 (fun x e hx he => fz1.lo hy.2.2.2.1 (by omega) he)
  have r33a : RA 84 hc1 (B + 33) := h33.of1 (fun x e hx he => fz1.lo hy.2.2.2.1 (by omega) he)
  have p27a : PA hc1 (B + 27) := h27.of1 (fun x e hx he => fz1.lo hy.2.2.2.1 (by omega) he)
  refine Go.nf (h' := hc1) (st' := []) rfl rfl (Nat.le_refl _) (Nat.le_refl _) ?_
  refine g_aload_n 0 dX9_resultantByY_72 rfl ?_
  refine g_getf 11 dX9_resultantByY_73 kX9 (by decide) fX9_264 fa_0 rfl ?_
  refine g_aload_n 0 dX9_resultantByY_76 rfl ?_
  refine g_getf 9 dX9_resultantByY_77 kX9 (by decide) fX9_66 fa_0 rfl ?_
  have hbar0 : barI hp (dY hp F + dY hp G).toNat (0 : Int).toNat (sylY hp F G (dY hp F).toNat (dY hp G).toNat) := barI_0 hp (sylY_bd hp hqa.pb hqb.pb (by omega) (by omega) _ _ _) (by omega)
  have hp10 : cz hp (zi hp 1) = pvt (pR hp) (sylY hp F G (dY hp F).toNat (dY hp G).toNat) (0 : Int).toNat := cz_z1 hp
  refine g_callV (nc2 := 0) (ns2 := 0) (ci := 7) (As := [.ref (B + 33)]) (st := []) rfl dX9_resultantByY_80 okX7_determinant lX9_275 itX7_determinant seX7_determinant rfl so1 (by decide) (by decide) rfl (Nat.le_of_ble_eq_true rfl) (sS_determinant N _ B s p hp hp2 (dY hp F + dY hp G) (by omega) hy.1 g1 (eyI hp F G) (sylY hp F G (dY hp F).toNat (dY hp G).toNat) hbar0 (fun i q i0 i1 q0 q1 => eyI_m hp (by omega) (by omega) i0 q0) so1 fa_1 fa_2 ls1 r2a r4a r33a (by rw [← hp10]; exact roa.rp hp)) (by omega) (by omega) (fun v2 hc2 q2 => ?_)
  obtain ⟨rfl, g2, fq2, rp33, rl2, r2b, r4b, so2, _⟩ := q2
  have fb_0 : hc2.2 (B) = some (cO B (fa) (.ref (s))) := fq2.lo ls1.1 (by omega) (by omega) fa_0
  have fb_1 : hc2.2 (B + 7) = some (oB 2 [.ref (B + 1), .ref (B + 8), .ref (B + 10), .ref (B + 12), .ref (B + 14), .ref (B + 16), .ref (B + 18), .ref (B + 20), .ref (B + 22)]) := fq2.lo ls1.1 (by omega) (by omega) fa_1
  have fb_2 : hc2.2 (B + 1) = some (oB 1 [.int (gI ((p : Int)))]) := fq2.lo ls1.1 (by omega) (by omega) fa_2
  have rob : RO hc2 (s + 6) := roa.of1 (fun x e hx he => fq2.lo ls1.1 (by omega) (by omega) he)
  have p27b : PA hc2 (B + 27) := p27a.of1 (fun x e hx he => fq2.lo ls1.1 (by omega) (by omega) he)
  have rpr : RP hp 84 hc2 (B + 33) (resY hp F G) := by
                                                                      unfold resY
                                                                      rw [show (dY hp F + dY hp G).toNat - 1 = (dY hp F + dY hp G - 1).toNat by omega]
                                                                      exact rp33
  have hdl := rpr.lt
  have fq := FSq.tr wf fz1.q fq2
  have hyb : SYs B hc2 s g2 (dY hp F + dY hp G) := ⟨hy.1, Nat.le_trans hy.2.1 fq.1, so2, rl2, r2b, r4b, rob⟩
  refine Go.nf (h' := hc2) (st' := []) rfl rfl (Nat.le_refl _) (Nat.le_refl _) ?_
  refine g_aload_n 0 dX9_resultantByY_83 rfl ?_
  refine g_getf 9 dX9_resultantByY_84 kX9 (by decide) fX9_66 fb_0 rfl ?_
  refine g_getf 1 dX9_resultantByY_87 kX5 (by decide) fX9_175 (rpr).o rfl ?_
  refine g_bipush dX9_resultantByY_90 (by decide) ?_
  refine g_icmp_le (tgt := 98) dX9_resultantByY_92 rfl (by first | assumption | (unfold gW; omega) | (unfold gW; split <;> omega)) (by first | assumption | (unfold gW; omega) | (unfold gW; split <;> omega)) (fun c3 => ?_) (fun c3 => ?_)
  · skip
    refine g_aload_n 0 dX9_resultantByY_98 rfl ?_
    refine g_getf 6 dX9_resultantByY_99 kX9 (by decide) fX9_50 fb_0 rfl ?_
    refine g_aload_n 0 dX9_resultantByY_102 rfl ?_
    refine g_getf 9 dX9_resultantByY_103 kX9 (by decide) fX9_66 fb_0 rfl ?_
    refine g_callV (nc2 := 0) (ns2 := 0) (ci := 4) (As := [.ref (B + 33)]) (st := []) rfl dX9_resultantByY_106 okX4_fromRow lX9_146 itX4_fromRow seX4_fromRow rfl (Classical.choose_spec (PA.o p27b)) (by decide) (by decide) rfl (Nat.le_of_ble_eq_true rfl) (sQ_fromRow N _ (B + 27) (B + 33) 84 p hp hp2 (resY hp F G) p27b rpr (by omega) (show AP (B + 27) (B + 33) by unfold AP; omega)) (by omega) (by omega) (fun v4 hc4 q4 => ?_)
    obtain ⟨rfl, fw, pp27⟩ := q4
    have hyc : SYs B hc4 s g2 (dY hp F + dY hp G) := hyb.fk (P := fun x _ => B + 58 ≤ x) (FK.fr fw (fun x e hx hk => Ni.c ⟨by unfold NE; omega, by unfold NE; omega⟩ (Ni.n _))) (fun x e hx _ => hx)
    have r33c : RA 84 hc4 (B + 33) := rpr.ra.fr fw (Ai.c (show AP (B + 33) (B + 27) by unfold AP; omega) (Ai.n _))
    refine Go.nf (h' := hc4) (st' := []) rfl rfl (Nat.le_refl _) (Nat.le_refl _) ?_
    refine g_iconst dX9_resultantByY_109 ?_
    exact g_iret dX9_resultantByY_110 rfl (hQ 0 _ g2 _ (fq.zw fw) hyc r33c (Or.inr ⟨by omega, rfl, pp27⟩))
  · skip
    refine g_bipush dX9_resultantByY_95 (by decide) ?_
    exact g_iret dX9_resultantByY_97 rfl (hQ (-4) _ g2 _ fq.z hyb rpr.ra (Or.inl ⟨by omega, rfl, p27b⟩))
