section
variable {p : Nat}
/-- what the resultant by y leaves -/
def YP (hp : prm p) (B : Nat) (h : GH) (c : Int) (X V : Int → Int) (fa : Value) (T : PT p) (U : Nat → Prop) (F G : Pxy p) (v : Option Value) (h1 : GH) : Prop := ∃ sy1, FK (fun x e => pK B x e ∧ ¬ U x) h h1 ∧ SY B h1 sy1 (fun x => U x ∨ h.1 ≤ x) ∧ CSt p B h1 c X V fa sy1 ∧ CP hp B h1 T ∧ ((∃ H, pa12 hp F G = .inr H ∧ v = some (.int (gI 0)) ∧ PP hp h1 (B + 27) H) ∨ ∃ r, r < 0 ∧ pa12 hp F G = .inl r ∧ v = some (.int (gI r)))
theorem SY.mo {B : Nat} {h : GH} {sy : Value} {U U2 : Nat → Prop} (w : SY B h sy U) (k : ∀ x, U x → U2 x) : SY B h sy U2 := by
  rcases w with z | ⟨s, g, sz, z1, z2, z3⟩
  · exact Or.inl z
  · exact Or.inr ⟨s, g, sz, z1, z2, fun x hx => k x (z3 x hx)⟩
theorem rby_fin {hp : prm p} {B : Nat} {h h1 : GH} {c : Int} {X V : Int → Int} {fa : Value} {s : Nat} {T : PT p} {U : Nat → Prop} {F G : Pxy p} {g g1 : Int → Option Nat} {sz sz1 w : Int} (hcs : CSt p B h c X V fa (.ref s)) (hT : CP hp B h T) (hy : SYs B h s g sz) (hU : ∀ x, SF s g x ∨ x = s + 6 ∨ x = s + 7 → U x) (hpa : pa12 hp F G = kR hp (resY hp F G)) (fz : FZ B s h g h1 g1) (hy1 : SYs B h1 s g1 sz1) (r33 : RA 84 h1 (B + 33)) (alt : (40 < dgi hp (resY hp F G) ∧ w = -4 ∧ PA h1 (B + 27)) ∨ (dgi hp (resY hp F G) ≤ 40 ∧ w = 0 ∧ PP hp h1 (B + 27) (pF hp (resY hp F G)))) : YP hp B h c X V fa T U F G (some (.int (gI w))) h1 := by
  have low : ∀ x, x < B + 58 → ¬ SF s g x := fun x hx q => by
    have h58 := hy.1
    rcases q with z | ⟨t, r, hr, z⟩
    · omega
    · have := (hy.2.2.2.1.2.1 t r hr).1; omega
  have h27 : PA h1 (B + 27) := by
    rcases alt with z | z
    · exact z.2.2
    · exact z.2.2.ra
  have hob1 := fz.2.1 _ _ hcs.1 (low B (by omega)) (by omega)
  refine ⟨.ref s, ⟨fz.1, fun x e hx hk => fz.2.1 x e hx (fun q => hk.2 (hU x (Or.inl q))) (by have := hk.1.1; omega)⟩, Or.inr ⟨s, g1, sz1, rfl, hy1, fun x hx => ?_⟩, CSt.of1 hcs fz.1 hob1 h27 r33 (fun x e hx b1 b2 => fz.2.1 x e hx (low x (by omega)) (by omega)), CP.of1 hT (fun x e hx hk => ?_), ?_⟩
  · rcases hx with z | z
    · rcases fz.2.2 x z with y | y
      · exact Or.inl (hU x (Or.inl y))
      · exact Or.inr y
    · exact Or.inl (hU x (Or.inr z))
  · rcases hk with z | z | z
    · exact fz.2.1 x e hx (low x (by omega)) (by omega)
    · exact fz.2.1 x e hx (low x (by omega)) (by omega)
    · exact fz.2.1 x e hx (fun q => z.2 (hy.npc q hx)) (by omega)
  · rcases alt with ⟨z1, z2, z3⟩ | ⟨z1, z2, z3⟩
    · exact Or.inr ⟨-4, by omega, by rw [hpa]; unfold kR; rw [if_pos z1], by rw [z2]⟩
    · exact Or.inl ⟨_, by rw [hpa]; exact kR_i hp z1, by rw [z2], z3⟩
theorem YP.tr {hp : prm p} {B : Nat} {h h0 : GH} {c : Int} {X V : Int → Int} {fa : Value} {T : PT p} {U : Nat → Prop} {F G : Pxy p} {v : Option Value} {h1 : GH} (wf : ∀ (a : Nat) (e : GE), h.2 a = some e → a < h.1) (hn : h.1 ≤ h0.1) (un : ∀ x, x < h.1 → x ≠ B → h0.2 x = h.2 x) (w : YP hp B h0 c X V fa T (fun x => U x ∨ h.1 ≤ x) F G v h1) : YP hp B h c X V fa T U F G v h1 := by
  obtain ⟨sy1, a, b, r⟩ := w
  refine ⟨sy1, ⟨Nat.le_trans hn a.1, fun x e hx hk => a.2 x e ((un x (wf x e hx) (by have := hk.1.1; omega)).trans hx) ⟨hk.1, fun q => ?_⟩⟩, b.mo (fun x hx => ?_), r⟩
  · rcases q with z | z
    · exact hk.2 z
    · have := wf x e hx; omega
  · rcases hx with z | z
    · exact z
    · exact Or.inr (by omega)
end
set_option maxHeartbeats 4000000 in
set_option maxRecDepth 100000 in
theorem sC_rbyS (N : GN) (h : GH) (B qa qb p : Nat) (hp : prm p) (hp2 : p ≤ 65536) (c : Int) (X V : Int → Int) (fa : Value) (T : PT p) (U : Nat → Prop) (F G : Pxy p) (s : Nat) (g : Int → Option Nat) (sz : Int) (hcs : CSt p B h c X V fa (.ref s)) (hT : CP hp B h T) (hy : SYs B h s g sz) (hU : ∀ x, SF s g x ∨ x = s + 6 ∨ x = s + 7 → U x) (hqa : PP hp h qa F) (hqb : PP hp h qb G) : Sp N yX9_resultantByY mX9_resultantByY 296 12869 [.ref (B), .ref (qa), .ref (qb)] h (YP hp B h c X V fa T U F G) := by
  refine Sp.of (by decide) rfl rfl (Nat.le_of_ble_eq_true rfl) ?_
  show Go N mX9_resultantByY _ 296 12869 h 0 [(0, .ref (B)), (1, .ref (qa)), (2, .ref (qb))] []
  refine Go.wf (fun wf => ?_)
  have hp1 := hp.1
  have hdF := hqa.dg
  have hdG := hqb.dg
  have hob := hcs.1
  have hsy : SY B h (.ref s) U := Or.inr ⟨s, g, sz, rfl, hy, hU⟩
  refine g_aload_n 1 dX9_resultantByY_0 rfl ?_
  refine g_getf 2 dX9_resultantByY_1 kX4 (by decide) fX9_149 (hqa).o rfl ?_
  refine g_iconst dX9_resultantByY_4 ?_
  refine g_icmp_lt (tgt := 34) dX9_resultantByY_5 rfl (by first | assumption | (unfold gW; omega) | (unfold gW; split <;> omega)) (by first | assumption | (unfold gW; omega) | (unfold gW; split <;> omega)) (fun c1 => ?_) (fun c1 => ?_)
  · skip
    refine g_bipush dX9_resultantByY_34 (by decide) ?_
    exact g_iret dX9_resultantByY_36 rfl ⟨.ref s, FK.rf _ _, hsy.mo (fun _ a => Or.inl a), hcs, hT, Or.inr ⟨-2, by omega, by unfold pa12; rw [if_pos (by omega)], rfl⟩⟩
  · skip
    refine g_aload_n 2 dX9_resultantByY_8 rfl ?_
    refine g_getf 2 dX9_resultantByY_9 kX4 (by decide) fX9_149 (hqb).o rfl ?_
    refine g_iconst dX9_resultantByY_12 ?_
    refine g_icmp_lt (tgt := 34) dX9_resultantByY_13 rfl (by first | assumption | (unfold gW; omega) | (unfold gW; split <;> omega)) (by first | assumption | (unfold gW; omega) | (unfold gW; split <;> omega)) (fun c2 => ?_) (fun c2 => ?_)
    · skip
      refine g_bipush dX9_resultantByY_34 (by decide) ?_
      exact g_iret dX9_resultantByY_36 rfl ⟨.ref s, FK.rf _ _, hsy.mo (fun _ a => Or.inl a), hcs, hT, Or.inr ⟨-2, by omega, by unfold pa12; rw [if_pos (by omega)], rfl⟩⟩
    · skip
      refine g_aload_n 1 dX9_resultantByY_16 rfl ?_
      refine g_getf 1 dX9_resultantByY_17 kX4 (by decide) fX9_135 (hqa).o rfl ?_
      refine g_bipush dX9_resultantByY_20 (by decide) ?_
      refine g_icmp_gt (tgt := 34) dX9_resultantByY_22 rfl (by first | assumption | (unfold gW; omega) | (unfold gW; split <;> omega)) (by first | assumption | (unfold gW; omega) | (unfold gW; split <;> omega)) (fun c3 => ?_) (fun c3 => ?_)
      · skip
        refine g_bipush dX9_resultantByY_34 (by decide) ?_
        exact g_iret dX9_resultantByY_36 rfl ⟨.ref s, FK.rf _ _, hsy.mo (fun _ a => Or.inl a), hcs, hT, Or.inr ⟨-2, by omega, by unfold pa12; rw [if_pos (by omega)], rfl⟩⟩
      · skip
        refine g_aload_n 2 dX9_resultantByY_25 rfl ?_
        refine g_getf 1 dX9_resultantByY_26 kX4 (by decide) fX9_135 (hqb).o rfl ?_
        refine g_bipush dX9_resultantByY_29 (by decide) ?_
        refine g_icmp_le (tgt := 37) dX9_resultantByY_31 rfl (by first | assumption | (unfold gW; omega) | (unfold gW; split <;> omega)) (by first | assumption | (unfold gW; omega) | (unfold gW; split <;> omega)) (fun c4 => ?_) (fun c4 => ?_)
        · skip
          refine g_aload_n 0 dX9_resultantByY_37 rfl ?_
          refine g_getf 11 dX9_resultantByY_38 kX9 (by decide) fX9_264 hob rfl ?_
          refine g_ifnn (tgt := 63) dX9_resultantByY_41 rfl ?_
          have hpa : pa12 hp F G = kR hp (resY hp F G) := by unfold pa12; rw [if_neg (by omega)]
          exact Go.imp (by omega) (by omega) (gC_rby N h B s qa qb p hp hp2 fa sz F G g _ (by omega) (by omega) (by omega) (by omega) hy hcs.1 hcs.2.1.1 hcs.2.1.2.1 hcs.2.2.2.2.2.2.2.1 hcs.2.2.2.2.1 hqa hqb (fun w h1 g1 sz1 fz hy1 r33 alt => rby_fin hcs hT hy hU hpa fz hy1 r33 alt))
        · skip
          refine g_bipush dX9_resultantByY_34 (by decide) ?_
          exact g_iret dX9_resultantByY_36 rfl ⟨.ref s, FK.rf _ _, hsy.mo (fun _ a => Or.inl a), hcs, hT, Or.inr ⟨-2, by omega, by unfold pa12; rw [if_pos (by omega)], rfl⟩⟩
set_option maxHeartbeats 4000000 in
set_option maxRecDepth 100000 in
theorem sC_rbyN (N : GN) (h : GH) (B qa qb p : Nat) (hp : prm p) (hp2 : p ≤ 65536) (c : Int) (X V : Int → Int) (fa : Value) (T : PT p) (U : Nat → Prop) (F G : Pxy p) (hcs : CSt p B h c X V fa .null) (hT : CP hp B h T) (la : B + 58 ≤ qa) (lb : B + 58 ≤ qb) (hqa : PP hp h qa F) (hqb : PP hp h qb G) : Sp N yX9_resultantByY mX9_resultantByY 296 12869 [.ref (B), .ref (qa), .ref (qb)] h (YP hp B h c X V fa T U F G) := by
  refine Sp.of (by decide) rfl rfl (Nat.le_of_ble_eq_true rfl) ?_
  show Go N mX9_resultantByY _ 296 12869 h 0 [(0, .ref (B)), (1, .ref (qa)), (2, .ref (qb))] []
  refine Go.wf (fun wf => ?_)
  have hp1 := hp.1
  have hdF := hqa.dg
  have hdG := hqb.dg
  have hob := hcs.1
  have hlo := hcs.2.2.2.2.2.2.2.2.2
  have hsy : SY B h .null U := Or.inl rfl
  refine g_aload_n 1 dX9_resultantByY_0 rfl ?_
  refine g_getf 2 dX9_resultantByY_1 kX4 (by decide) fX9_149 (hqa).o rfl ?_
  refine g_iconst dX9_resultantByY_4 ?_
  refine g_icmp_lt (tgt := 34) dX9_resultantByY_5 rfl (by first | assumption | (unfold gW; omega) | (unfold gW; split <;> omega)) (by first | assumption | (unfold gW; omega) | (unfold gW; split <;> omega)) (fun c1 => ?_) (fun c1 => ?_)
  · skip
    refine g_bipush dX9_resultantByY_34 (by decide) ?_
    exact g_iret dX9_resultantByY_36 rfl ⟨.null, FK.rf _ _, hsy.mo (fun _ a => Or.inl a), hcs, hT, Or.inr ⟨-2, by omega, by unfold pa12; rw [if_pos (by omega)], rfl⟩⟩
  · skip
    refine g_aload_n 2 dX9_resultantByY_8 rfl ?_
    refine g_getf 2 dX9_resultantByY_9 kX4 (by decide) fX9_149 (hqb).o rfl ?_
    refine g_iconst dX9_resultantByY_12 ?_
    refine g_icmp_lt (tgt := 34) dX9_resultantByY_13 rfl (by first | assumption | (unfold gW; omega) | (unfold gW; split <;> omega)) (by first | assumption | (unfold gW; omega) | (unfold gW; split <;> omega)) (fun c2 => ?_) (fun c2 => ?_)
    · skip
      refine g_bipush dX9_resultantByY_34 (by decide) ?_
      exact g_iret dX9_resultantByY_36 rfl ⟨.null, FK.rf _ _, hsy.mo (fun _ a => Or.inl a), hcs, hT, Or.inr ⟨-2, by omega, by unfold pa12; rw [if_pos (by omega)], rfl⟩⟩
    · skip
      refine g_aload_n 1 dX9_resultantByY_16 rfl ?_
      refine g_getf 1 dX9_resultantByY_17 kX4 (by decide) fX9_135 (hqa).o rfl ?_
      refine g_bipush dX9_resultantByY_20 (by decide) ?_
      refine g_icmp_gt (tgt := 34) dX9_resultantByY_22 rfl (by first | assumption | (unfold gW; omega) | (unfold gW; split <;> omega)) (by first | assumption | (unfold gW; omega) | (unfold gW; split <;> omega)) (fun c3 => ?_) (fun c3 => ?_)
      · skip
        refine g_bipush dX9_resultantByY_34 (by decide) ?_
        exact g_iret dX9_resultantByY_36 rfl ⟨.null, FK.rf _ _, hsy.mo (fun _ a => Or.inl a), hcs, hT, Or.inr ⟨-2, by omega, by unfold pa12; rw [if_pos (by omega)], rfl⟩⟩
      · skip
        refine g_aload_n 2 dX9_resultantByY_25 rfl ?_
        refine g_getf 1 dX9_resultantByY_26 kX4 (by decide) fX9_135 (hqb).o rfl ?_
        refine g_bipush dX9_resultantByY_29 (by decide) ?_
        refine g_icmp_le (tgt := 37) dX9_resultantByY_31 rfl (by first | assumption | (unfold gW; omega) | (unfold gW; split <;> omega)) (by first | assumption | (unfold gW; omega) | (unfold gW; split <;> omega)) (fun c4 => ?_) (fun c4 => ?_)
        · skip
          refine g_aload_n 0 dX9_resultantByY_37 rfl ?_
          refine g_getf 11 dX9_resultantByY_38 kX9 (by decide) fX9_264 hob rfl ?_
          refine g_ifnnN (x := 0) (tgt := 63) dX9_resultantByY_41 rfl ?_
          refine g_aload_n 0 dX9_resultantByY_44 rfl ?_
          refine Go.wf (fun wf5 => ?_)
          refine g_new (fs := [.null, .null, .null, .null, .null, .null, .int (gI (0))]) dX9_resultantByY_45 kX7 cX9_268 niX7 nzX7 (by decide) (by omega) (by omega) ?_
          obtain ⟨hh5, eh5⟩ : ∃ z : GH, z = hnew h (oB 7 [.null, .null, .null, .null, .null, .null, .int (gI (0))]) := ⟨_, rfl⟩
          refine Go.hp eh5.symm ?_
          obtain ⟨qa5, eq5⟩ : ∃ z : Nat, z = h.1 := ⟨_, rfl⟩
          rw [← eq5]
          have ln5_0 : B < qa5 := by rw [eq5]; exact wf5 _ _ hob
          have fh5_0 : hh5.2 (B) = some (cO B (fa) (.null)) := by rw [eh5, hnew_n _ _ (by omega)]; exact hob
          have fq5 : hh5.2 (qa5) = some (oB 7 [.null, .null, .null, .null, .null, .null, .int (gI (0))]) := by rw [eh5, eq5]; exact hnew_s _ _
          refine g_dup dX9_resultantByY_48 rfl ?_
          refine g_aload_n 0 dX9_resultantByY_49 rfl ?_
          refine g_getf 0 dX9_resultantByY_50 kX9 (by decide) fX9_10 fh5_0 rfl ?_
          refine g_aload_n 0 dX9_resultantByY_53 rfl ?_
          refine g_getf 4 dX9_resultantByY_54 kX9 (by decide) fX9_38 fh5_0 rfl ?_
          refine g_callI (nc2 := 7) (ns2 := 478) (As := [.ref (B + 1), .ref (B + 7)]) (st := [.ref (qa5), .ref (B)]) rfl dX9_resultantByY_57 okX7_init rfl lX9_270 itX7_init rfl (by decide) (by decide) rfl (Nat.le_of_ble_eq_true rfl) (sS_init N _ B (qa5) p hp hp2 (by rw [eh5, eq5]; rfl) fq5) (by omega) (by omega) (fun v6 hc6 q6 => ?_)
          obtain ⟨rfl, n1, bl, so, li, r2, r4, ro⟩ := q6
          have fB : hc6.2 (B) = some (cO B (fa) (.null)) := (bl _ (by omega)).trans fh5_0
          refine Go.nf (h' := hc6) (st' := [.ref (qa5), .ref (B)]) rfl rfl (Nat.le_refl _) (Nat.le_refl _) ?_
          refine g_putf 11 dX9_resultantByY_60 kX9 (by decide) fX9_264 rfl fB (Nat.le_of_ble_eq_true rfl) rfl rfl ?_
          obtain ⟨hh7, eh7⟩ : ∃ z : GH, z = hset hc6 (B) (cO B (fa) (.ref (qa5))) := ⟨_, rfl⟩
          refine Go.hp eh7.symm ?_
          have fh7_0 : hh7.2 (B) = some (cO B (fa) (.ref (qa5))) := hs_s eh7
          have fh7_1 : hh7.2 (qa5) = some (oB 7 [.ref (B + 1), .ref (B + 7), .ref (qa5 + 1), .ref (qa5 + 2), .ref (qa5 + 4), .ref (qa5 + 6), .int (gI (0))]) := hs_n eh7 (show NE (qa5) (B) by unfold NE; omega) so
          have hpa : pa12 hp F G = kR hp (resY hp F G) := by unfold pa12; rw [if_neg (by omega)]
          have un : ∀ x, x < h.1 → x ≠ B → hh7.2 x = h.2 x := fun x hx hB => by rw [eh7, hset_n _ _ hB, bl x (by omega), eh5, hnew_n _ _ (by omega)]
          have nH : hh7.1 = qa5 + 8 := by rw [eh7]; exact n1
          have hyc : SYs B hc6 qa5 (fun _ => none) 0 := ⟨by omega, by omega, so, ⟨li, fun i r hr => absurd hr (by simp), fun i j r t _ hr => absurd hr (by simp)⟩, r2, r4, ro⟩
          have hyH : SYs B hh7 qa5 (fun _ => none) 0 := hyc.fk (P := fun x _ => x ≠ B) ⟨by rw [eh7]; exact Nat.le_refl _, fun x e hx hk => by rw [eh7, hset_n _ _ hk]; exact hx⟩ (fun x e hx _ => by omega)
          have hcsH : CSt p B hh7 c X V fa (.ref qa5) := CSt.of1 hcs (by omega) (hs_s eh7) (hcs.2.2.2.2.1.of1 (fun x e hx he => (un x (wf x e he) (by omega)).trans he)) (hcs.2.2.2.2.2.2.2.1.of1 (fun x e hx he => (un x (wf x e he) (by omega)).trans he)) (fun x e hx b1 b2 => (un x (wf x e hx) (by omega)).trans hx)
          have hTH : CP hp B hh7 T := CP.of1 hT (fun x e hx hk => (un x (wf x e hx) (by omega)).trans hx)
          have hqaH : PP hp hh7 qa F := hqa.of (fun x e hx he => (un x (wf x e he) (by omega)).trans he)
          have hqbH : PP hp hh7 qb G := hqb.of (fun x e hx he => (un x (wf x e he) (by omega)).trans he)
          have hUH : ∀ x, SF qa5 (fun _ => none) x ∨ x = qa5 + 6 ∨ x = qa5 + 7 → (fun x => U x ∨ h.1 ≤ x) x := fun x hx => by
                                                                      rcases hx with (z | ⟨t, r, hr, _⟩) | z
                                                                      · exact Or.inr (by omega)
                                                                      · exact absurd hr (by simp)
                                                                      · exact Or.inr (by omega)
          exact Go.imp (by omega) (by omega) (gC_rby N hh7 B qa5 qa qb p hp hp2 fa 0 F G (fun _ => none) _ (by omega) (by omega) (by omega) (by omega) hyH hcsH.1 hcsH.2.1.1 hcsH.2.1.2.1 hcsH.2.2.2.2.2.2.2.1 hcsH.2.2.2.2.1 hqaH hqbH (fun w h1 g1 sz1 fz hy1 r33 alt => YP.tr wf (by omega) un (rby_fin hcsH hTH hyH hUH hpa fz hy1 r33 alt)))
        · skip
          refine g_bipush dX9_resultantByY_34 (by decide) ?_
          exact g_iret dX9_resultantByY_36 rfl ⟨.null, FK.rf _ _, hsy.mo (fun _ a => Or.inl a), hcs, hT, Or.inr ⟨-2, by omega, by unfold pa12; rw [if_pos (by omega)], rfl⟩⟩
theorem sC_resultantByY (N : GN) (h : GH) (B qa qb p : Nat) (hp : prm p) (hp2 : p ≤ 65536) (c : Int) (X V : Int → Int) (fa sy : Value) (T : PT p) (U : Nat → Prop) (F G : Pxy p) (hcs : CSt p B h c X V fa sy) (hT : CP hp B h T) (hsy : SY B h sy U) (la : B + 58 ≤ qa) (lb : B + 58 ≤ qb) (hqa : PP hp h qa F) (hqb : PP hp h qb G) : Sp N yX9_resultantByY mX9_resultantByY 296 12869 [.ref (B), .ref (qa), .ref (qb)] h (YP hp B h c X V fa T U F G) := by
  rcases hsy with z | ⟨s, g, sz, z, hy, hU⟩
  · subst z; exact sC_rbyN N h B qa qb p hp hp2 c X V fa T U F G hcs hT la lb hqa hqb
  · subst z; exact sC_rbyS N h B qa qb p hp hp2 c X V fa T U F G s g sz hcs hT hy hU hqa hqb
set_option maxHeartbeats 4000000 in
set_option maxRecDepth 100000 in
theorem sC_apply12 (N : GN) (h : GH) (B p : Nat) (hp : prm p) (hp2 : p ≤ 65536) (c : Int) (X V : Int → Int) (fa sy : Value) (T : PT p) (U : Nat → Prop) (a b : Int) (gW_a : gW a) (gW_b : gW b) (hcs : CSt p B h c X V fa sy) (hT : CP hp B h T) (hsy : SY B h sy U) : Sp N yX9_apply mX9_apply 298 13159 [.ref (B), .int (gI (12)), .int (gI (a)), .int (gI (b))] h (fun v h1 => ∃ sy1, FK (fun x e => pK B x e ∧ ¬ U x) h h1 ∧ SY B h1 sy1 (fun x => U x ∨ h.1 ≤ x) ∧ ∃ w T2, Ou T (ap2 T a b (rac hp 12)) w T2 ∧ v = some (.int (gI w)) ∧ CSt p B h1 c X V fa sy1 ∧ CP hp B h1 T2) := by
  refine Sp.of (by decide) rfl rfl (Nat.le_of_ble_eq_true rfl) ?_
  show Go N mX9_apply _ 298 13159 h 0 [(0, .ref (B)), (1, .int (gI (12))), (2, .int (gI (a))), (3, .int (gI (b)))] []
  have hob := hcs.1
  have hp1 := hp.1
  refine g_iload_n 1 dX9_apply_0 rfl ?_
  refine g_if_lt (tgt := 10) dX9_apply_1 rfl (by first | assumption | (unfold gW; omega)) (fun c1 => absurd c1 (by omega)) (fun c1 => ?_)
  refine g_iload_n 1 dX9_apply_4 rfl ?_
  refine g_bipush dX9_apply_5 (by decide) ?_
  refine g_icmp_le (tgt := 13) dX9_apply_7 rfl (by first | assumption | (unfold gW; omega)) (by first | assumption | (unfold gW; omega)) (fun c2 => ?_) (fun c2 => absurd c2 (by omega))
  refine g_iload_n 1 dX9_apply_13 rfl ?_
  refine g_iconst dX9_apply_14 ?_
  refine g_icmp_eq (tgt := 30) dX9_apply_15 rfl (by first | assumption | (unfold gW; omega)) (by first | assumption | (unfold gW; omega)) (fun c3 => absurd c3 (by omega)) (fun c3 => ?_)
  refine g_iload_n 1 dX9_apply_18 rfl ?_
  refine g_bipush dX9_apply_19 (by decide) ?_
  refine g_icmp_eq (tgt := 30) dX9_apply_21 rfl (by first | assumption | (unfold gW; omega)) (by first | assumption | (unfold gW; omega)) (fun c4 => absurd c4 (by omega)) (fun c4 => ?_)
  refine g_iload_n 1 dX9_apply_24 rfl ?_
  refine g_bipush dX9_apply_25 (by decide) ?_
  refine g_icmp_ne (tgt := 34) dX9_apply_27 rfl (by first | assumption | (unfold gW; omega)) (by first | assumption | (unfold gW; omega)) (fun c5 => ?_) (fun c5 => absurd c5 (by omega))
  refine g_iconst dX9_apply_34 ?_
  refine g_istore (ls2 := [(4, .int (gI (0))), (0, .ref (B)), (1, .int (gI (12))), (2, .int (gI (a))), (3, .int (gI (b)))]) dX9_apply_35 (by decide) rfl ?_
  refine g_aload_n 1 dX9_apply_37 rfl ?_
  refine g_iload_n 3 dX9_apply_38 rfl ?_
  refine g_callV (nc2 := 0) (ns2 := 0) (ci := 9) (As := [.int (gI (a))]) (st := []) rfl dX9_apply_39 okX9_find lX9_107 itX9_find seX9_find rfl hob (by decide) (by decide) rfl (Nat.le_of_ble_eq_true rfl) (sC_find N _ B p hp fa sy T (a) gW_a hob hT) (by omega) (by omega) (fun v6 hc6 q6 => ?_)
  obtain ⟨hq7, hr7⟩ := q6
  rcases hr7 with ⟨F, qa, g_a, rfl, l_a, pp_a⟩ | ⟨g_a, rfl⟩
  · skip
    refine Go.nf (h' := h) (st' := [.ref (qa)]) hq7 rfl (Nat.le_refl _) (Nat.le_refl _) ?_
    refine g_astore (ls2 := [(5, .ref (qa)), (4, .int (gI (0))), (0, .ref (B)), (1, .int (gI (12))), (2, .int (gI (a))), (3, .int (gI (b)))]) dX9_apply_42 (by decide) rfl ?_
    refine g_iload 1 dX9_apply_44 rfl ?_
    refine g_if_eq (tgt := 54) dX9_apply_46 rfl (by first | assumption | (unfold gW; omega)) (fun c8 => ?_) (fun c8 => absurd c8 (by omega))
    refine g_aload_n 2 dX9_apply_54 rfl ?_
    refine g_iload_n 5 dX9_apply_55 rfl ?_
    refine g_callV (nc2 := 0) (ns2 := 0) (ci := 9) (As := [.int (gI (b))]) (st := []) rfl dX9_apply_56 okX9_find lX9_107 itX9_find seX9_find rfl hob (by decide) (by decide) rfl (Nat.le_of_ble_eq_true rfl) (sC_find N _ B p hp fa sy T (b) gW_b hob hT) (by omega) (by omega) (fun v9 hc9 q9 => ?_)
    obtain ⟨hq10, hr10⟩ := q9
    rcases hr10 with ⟨G, qb, g_b, rfl, l_b, pp_b⟩ | ⟨g_b, rfl⟩
    · skip
      refine Go.nf (h' := h) (st' := [.ref (qb)]) hq10 rfl (Nat.le_refl _) (Nat.le_refl _) ?_
      refine g_astore (ls2 := [(6, .ref (qb)), (5, .ref (qa)), (4, .int (gI (0))), (0, .ref (B)), (1, .int (gI (12))), (2, .int (gI (a))), (3, .int (gI (b)))]) dX9_apply_59 (by decide) rfl ?_
      refine g_aload 1 dX9_apply_61 rfl ?_
      refine g_ifnull (tgt := 71) dX9_apply_63 rfl ?_
      refine g_aload 0 dX9_apply_66 rfl ?_
      refine g_ifnn (tgt := 73) dX9_apply_68 rfl ?_
      refine g_iload_n 4 dX9_apply_73 rfl ?_
      refine g_bipush dX9_apply_74 (by decide) ?_
      refine g_icmp_ge (tgt := 102) dX9_apply_76 rfl (by first | assumption | (unfold gW; omega)) (by first | assumption | (unfold gW; omega)) (fun c11 => ?_) (fun c11 => absurd c11 (by omega))
      refine g_iload_n 4 dX9_apply_102 rfl ?_
      refine g_bipush dX9_apply_103 (by decide) ?_
      refine g_icmp_ne (tgt := 121) dX9_apply_105 rfl (by first | assumption | (unfold gW; omega)) (by first | assumption | (unfold gW; omega)) (fun c12 => absurd c12 (by omega)) (fun c12 => ?_)
      refine g_aload_n 3 dX9_apply_108 rfl ?_
      refine g_aload 1 dX9_apply_109 rfl ?_
      refine g_aload 0 dX9_apply_111 rfl ?_
      refine g_callV (nc2 := 296) (ns2 := 12869) (ci := 9) (As := [.ref (qa), .ref (qb)]) (st := []) rfl dX9_apply_113 okX9_resultantByY lX9_115 itX9_resultantByY seX9_resultantByY rfl hob (by decide) (by decide) rfl (Nat.le_of_ble_eq_true rfl) (sC_resultantByY N _ B qa qb p hp hp2 c X V fa sy T U F G hcs hT hsy (by omega) (by omega) pp_a pp_b) (by omega) (by omega) (fun v13 hc13 q13 => ?_)
      obtain ⟨sy1, fk1, hs1, cs1, ct1, hd⟩ := q13
      rcases hd with ⟨H, y1, rfl, y2⟩ | ⟨r, y0, y1, rfl⟩
      · skip
        refine Go.nf (h' := hc13) (st' := [.int (gI (0))]) rfl rfl (Nat.le_refl _) (Nat.le_refl _) ?_
        refine g_istore (ls2 := [(7, .int (gI (0))), (6, .ref (qb)), (5, .ref (qa)), (4, .int (gI (0))), (0, .ref (B)), (1, .int (gI (12))), (2, .int (gI (a))), (3, .int (gI (b)))]) dX9_apply_116 (by decide) rfl ?_
        refine g_goto (tgt := 132) dX9_apply_118 rfl ?_
        refine g_iload 0 dX9_apply_132 rfl ?_
        refine g_if_ge (tgt := 142) dX9_apply_134 rfl (by first | assumption | (unfold gW; omega)) (fun c14 => ?_) (fun c14 => absurd c14 (by omega))
        refine g_aload_n 4 dX9_apply_142 rfl ?_
        refine g_aload_n 4 dX9_apply_143 rfl ?_
        refine g_getf 6 dX9_apply_144 kX9 (by decide) fX9_50 cs1.1 rfl ?_
        refine g_callV (nc2 := 2) (ns2 := 290) (ci := 9) (As := [.ref (B + 27)]) (st := []) rfl dX9_apply_147 okX9_keep lX9_103 itX9_keep seX9_keep rfl cs1.1 (by decide) (by decide) rfl (Nat.le_of_ble_eq_true rfl) (sC_keep N _ B p hp hp2 c X V fa sy1 T H cs1 ct1 y2) (by omega) (by omega) (fun v15 hc15 q15 => ?_)
        obtain ⟨w, hK, rfl, cp2, fk2⟩ := q15
        refine Go.nf (h' := hc15) (st' := [.int (gI (w))]) rfl rfl (Nat.le_refl _) (Nat.le_refl _) ?_
        exact g_iret dX9_apply_150 rfl ⟨sy1, FK.tr fk1 (fk2.mo (fun x e _ hk => kpK_pK hk.1)), hs1.fk fk2 (fun x e hx hn => ⟨by omega, by omega, Or.inr hn⟩), w, _, (by rw [ap2_s g_a g_b, show rac hp 12 F G = pa12 hp F G from rfl, y1]; exact ⟨hK, rfl⟩), rfl, CSt.fk cs1 fk2, cp2⟩
      · skip
        refine Go.nf (h' := hc13) (st' := [.int (gI (r))]) rfl rfl (Nat.le_refl _) (Nat.le_refl _) ?_
        have hrW : gW r := rac_gW (k := 12) y1
        refine g_istore (ls2 := [(7, .int (gI (r))), (6, .ref (qb)), (5, .ref (qa)), (4, .int (gI (0))), (0, .ref (B)), (1, .int (gI (12))), (2, .int (gI (a))), (3, .int (gI (b)))]) dX9_apply_116 (by decide) rfl ?_
        refine g_goto (tgt := 132) dX9_apply_118 rfl ?_
        refine g_iload 0 dX9_apply_132 rfl ?_
        refine g_if_ge (tgt := 142) dX9_apply_134 rfl (by first | assumption | (unfold gW; omega)) (fun c16 => absurd c16 (by omega)) (fun c16 => ?_)
        refine g_iload 0 dX9_apply_137 rfl ?_
        refine g_goto (tgt := 150) dX9_apply_139 rfl ?_
        exact g_iret dX9_apply_150 rfl ⟨sy1, fk1, hs1, r, T, (by rw [ap2_s g_a g_b, show rac hp 12 F G = pa12 hp F G from rfl, y1]; exact ⟨rfl, rfl⟩), rfl, cs1, ct1⟩
    · skip
      refine Go.nf (h' := h) (st' := [.null]) hq10 rfl (Nat.le_refl _) (Nat.le_refl _) ?_
      refine g_astoreN (ls2 := [(6, .null), (5, .ref (qa)), (4, .int (gI (0))), (0, .ref (B)), (1, .int (gI (12))), (2, .int (gI (a))), (3, .int (gI (b)))]) dX9_apply_59 (by decide) rfl ?_
      refine g_aload 1 dX9_apply_61 rfl ?_
      refine g_ifnull (tgt := 71) dX9_apply_63 rfl ?_
      refine g_aloadN 0 dX9_apply_66 rfl ?_
      refine g_ifnnN (x := 0) (tgt := 73) dX9_apply_68 rfl ?_
      refine g_iconst dX9_apply_71 ?_
      exact g_iret dX9_apply_72 rfl ⟨sy, FK.rf _ _, hsy.mo (fun _ a => Or.inl a), (-1), T, (by rw [ap2_nb g_b]; exact ⟨rfl, rfl⟩), rfl, hcs, hT⟩
  · skip
    refine Go.nf (h' := h) (st' := [.null]) hq7 rfl (Nat.le_refl _) (Nat.le_refl _) ?_
    refine g_astoreN (ls2 := [(5, .null), (4, .int (gI (0))), (0, .ref (B)), (1, .int (gI (12))), (2, .int (gI (a))), (3, .int (gI (b)))]) dX9_apply_42 (by decide) rfl ?_
    refine g_iload 1 dX9_apply_44 rfl ?_
    refine g_if_eq (tgt := 54) dX9_apply_46 rfl (by first | assumption | (unfold gW; omega)) (fun c17 => ?_) (fun c17 => absurd c17 (by omega))
    refine g_aload_n 2 dX9_apply_54 rfl ?_
    refine g_iload_n 5 dX9_apply_55 rfl ?_
    refine g_callV (nc2 := 0) (ns2 := 0) (ci := 9) (As := [.int (gI (b))]) (st := []) rfl dX9_apply_56 okX9_find lX9_107 itX9_find seX9_find rfl hob (by decide) (by decide) rfl (Nat.le_of_ble_eq_true rfl) (sC_find N _ B p hp fa sy T (b) gW_b hob hT) (by omega) (by omega) (fun v18 hc18 q18 => ?_)
    obtain ⟨hq19, hr19⟩ := q18
    rcases hr19 with ⟨G, qb, g_b, rfl, l_b, pp_b⟩ | ⟨g_b, rfl⟩
    · skip
      refine Go.nf (h' := h) (st' := [.ref (qb)]) hq19 rfl (Nat.le_refl _) (Nat.le_refl _) ?_
      refine g_astore (ls2 := [(6, .ref (qb)), (5, .null), (4, .int (gI (0))), (0, .ref (B)), (1, .int (gI (12))), (2, .int (gI (a))), (3, .int (gI (b)))]) dX9_apply_59 (by decide) rfl ?_
      refine g_aloadN 1 dX9_apply_61 rfl ?_
      refine g_ifnullN (x := 0) (tgt := 71) dX9_apply_63 rfl ?_
      refine g_iconst dX9_apply_71 ?_
      exact g_iret dX9_apply_72 rfl ⟨sy, FK.rf _ _, hsy.mo (fun _ a => Or.inl a), (-1), T, (by rw [ap2_na g_a]; exact ⟨rfl, rfl⟩), rfl, hcs, hT⟩
    · skip
      refine Go.nf (h' := h) (st' := [.null]) hq19 rfl (Nat.le_refl _) (Nat.le_refl _) ?_
      refine g_astoreN (ls2 := [(6, .null), (5, .null), (4, .int (gI (0))), (0, .ref (B)), (1, .int (gI (12))), (2, .int (gI (a))), (3, .int (gI (b)))]) dX9_apply_59 (by decide) rfl ?_
      refine g_aloadN 1 dX9_apply_61 rfl ?_
      refine g_ifnullN (x := 0) (tgt := 71) dX9_apply_63 rfl ?_
      refine g_iconst dX9_apply_71 ?_
      exact g_iret dX9_apply_72 rfl ⟨sy, FK.rf _ _, hsy.mo (fun _ a => Or.inl a), (-1), T, (by rw [ap2_na g_a]; exact ⟨rfl, rfl⟩), rfl, hcs, hT⟩
