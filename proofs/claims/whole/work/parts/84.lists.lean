/-! lists of rows that are made when they are wanted -/
def RLi (n lo : Nat) (h : GH) (a : Nat) (g : Int → Option Nat) : Prop := h.2 a = some (aR "PolyWork$Row" n g) ∧ (∀ (i : Int) (r : Nat), g i = some r → lo ≤ r ∧ RA 84 h r) ∧ ∀ (i j : Int) (r s : Nat), i ≠ j → g i = some r → g j = some s → AP r s
theorem RA.lt2 {n : Nat} {h : GH} {r : Nat} (w : RA n h r) (wf : ∀ (a : Nat) (e : GE), h.2 a = some e → a < h.1) : r + 1 < h.1 := by
  obtain ⟨d, g, a, b, c⟩ := w
  exact wf _ _ b
theorem RA.of {n : Nat} {h h1 : GH} {r : Nat} (w : RA n h r) (f : ∀ x, x = r ∨ x = r + 1 → h1.2 x = h.2 x) : RA n h1 r := by
  obtain ⟨d, g, a, b, c⟩ := w
  exact ⟨d, g, (f _ (Or.inl rfl)).trans a, (f _ (Or.inr rfl)).trans b, c⟩
theorem RP.of {p : Nat} {hp : prm p} {n : Nat} {h h1 : GH} {r : Nat} {q : Px p} (w : RP hp n h r q) (f : ∀ x, x = r ∨ x = r + 1 → h1.2 x = h.2 x) : RP hp n h1 r q := by
  obtain ⟨g, ⟨a, b, c⟩, d⟩ := w
  exact ⟨g, ⟨(f _ (Or.inl rfl)).trans a, (f _ (Or.inr rfl)).trans b, c⟩, d⟩
theorem AP_of {a b : Nat} (h1 : a ≠ b) (h2 : a ≠ b + 1) (h3 : a + 1 ≠ b) : AP a b := by unfold AP; omega
/-- a row and a Poly lie apart -/
theorem AP_ty {h : GH} {q r n : Nat} (hn : n ≠ 287) (a : PA h q) (b : RA n h r) : AP q r := by
  obtain ⟨d, e, g, a1, a2, _⟩ := a
  obtain ⟨d2, g2, b1, b2, _⟩ := b
  refine AP_of (fun e9 => ?_) (fun e9 => ?_) (fun e9 => ?_)
  · rw [e9, b1] at a1; exact oB_ne (by omega) (Option.some.inj a1)
  · rw [e9, b2] at a1; exact oB_aJ (Option.some.inj a1).symm
  · rw [e9, b1] at a2; exact oB_aJ (Option.some.inj a2)
/-- rows of different length lie apart -/
theorem AP_ln {h : GH} {q r n m : Nat} (hn : n ≠ m) (a : RA m h q) (b : RA n h r) : AP q r := by
  obtain ⟨d, g, a1, a2, _⟩ := a
  obtain ⟨d2, g2, b1, b2, _⟩ := b
  refine AP_of (fun e9 => ?_) (fun e9 => ?_) (fun e9 => ?_)
  · subst e9
    rw [b2] at a2; exact aJ_ne hn (Option.some.inj a2)
  · rw [e9, b2] at a1; exact oB_aJ (Option.some.inj a1).symm
  · rw [e9, b1] at a2; exact oB_aJ (Option.some.inj a2)
theorem RLi.fr {n lo : Nat} {L : List Nat} {h h1 : GH} {a : Nat} {g : Int → Option Nat} (w : RLi n lo h a g) (f : Fr L h h1) (na : Ni a L) (ha : ∀ (i : Int) (r : Nat), g i = some r → (∀ x ∈ L, AP r x) ∨ RA 84 h1 r) : RLi n lo h1 a g := by
  refine ⟨f.at0 na w.1, fun i r hr => ⟨(w.2.1 i r hr).1, ?_⟩, w.2.2⟩
  rcases ha i r hr with z | z
  · exact (w.2.1 i r hr).2.fr f z
  · exact z
theorem RLi.fk {n lo : Nat} {P : Nat → GE → Prop} {h h1 : GH} {a : Nat} {g : Int → Option Nat} (w : RLi n lo h a g) (f : FK P h h1) (ka : ∀ g, P a (aR "PolyWork$Row" n g)) (kr : ∀ (i : Int) (r : Nat), g i = some r → ∀ e, (h.2 r = some e → P r e) ∧ (h.2 (r + 1) = some e → P (r + 1) e)) : RLi n lo h1 a g := by
  refine ⟨f.2 _ _ w.1 (ka _), fun i r hr => ⟨(w.2.1 i r hr).1, ?_⟩, w.2.2⟩
  obtain ⟨d, q, x1, x2, x3⟩ := (w.2.1 i r hr).2
  exact ⟨d, q, f.2 _ _ x1 ((kr i r hr _).1 x1), f.2 _ _ x2 ((kr i r hr _).2 x2), x3⟩
theorem init_eq (h : GH) (a : Nat) (ha : a < h.1) (e1 e2 e3 : GE) : hset (hnew (hset h a e1) e2) a e3 = hset (hnew h e2) a e3 := by
  refine Prod.ext rfl (funext fun b => ?_)
  show (if b = a then some e3 else if b = h.1 then some e2 else (if b = a then some e1 else h.2 b)) = (if b = a then some e3 else if b = h.1 then some e2 else h.2 b)
  by_cases z : b = a
  · rw [if_pos z, if_pos z]
  · rw [if_neg z, if_neg z, if_neg z]
set_option maxHeartbeats 4000000 in
set_option maxRecDepth 100000 in
theorem sX5_initG84 (N : GN) (h : GH) (a : Nat) (ha9 : a < h.1) (ho : h.2 a = some (oB 5 [.null, .int (gI 0)])) : Sp N yX5_init mX5_init 1 84 [.ref a, .int (gI 84)] h (fun r h1 => r = none ∧ h1 = hset (hnew h (aJ 84 (fun _ => 0))) a (oB 5 [.ref h.1, .int (gI (-1))])) := by
  refine Sp.of (by decide) rfl rfl (Nat.le_of_ble_eq_true rfl) ?_
  show Go N mX5_init _ 1 84 h 0 [(0, .ref (a)), (1, .int (gI (84)))] []
  refine g_aload_n 0 dX5_init_0 rfl ?_
  refine g_objInit dX5_init_1 lX5_3 (by decide) (Nat.le_of_ble_eq_true rfl) ?_
  refine g_aload_n 0 dX5_init_4 rfl ?_
  refine g_iconst dX5_init_5 ?_
  refine g_putf 1 dX5_init_6 kX5 (by decide) fX5_9 rfl ho (Nat.le_of_ble_eq_true rfl) rfl rfl ?_
  obtain ⟨hh1, eh1⟩ : ∃ z : GH, z = hset h (a) (oB 5 [.null, .int (gI (-1))]) := ⟨_, rfl⟩
  refine Go.hp eh1.symm ?_
  have fh1_0 : hh1.2 (a) = some (oB 5 [.null, .int (gI (-1))]) := by rw [eh1]; exact hset_s _ _ _
  refine g_aload_n 0 dX5_init_9 rfl ?_
  refine g_iload_n 1 dX5_init_10 rfl ?_
  refine g_iconst dX5_init_11 ?_
  refine g_icmp_ge (tgt := 19) dX5_init_12 rfl (by unfold gW; omega) (by unfold gW; omega) (fun c2 => ?_) (fun c2 => absurd c2 (by omega))
  refine g_iload_n 1 dX5_init_19 rfl ?_
  refine Go.wf (fun wf3 => ?_)
  refine g_newarr (n := 84) (ty := .long) dX5_init_20 rfl rfl (by decide) ac_long (by decide) (by decide) (by omega) (by omega) ?_
  obtain ⟨hh3, eh3⟩ : ∃ z : GH, z = hnew hh1 (aJ 84 (fun _ => 0)) := ⟨_, rfl⟩
  refine Go.hp eh3.symm ?_
  obtain ⟨qa3, eq3⟩ : ∃ z : Nat, z = hh1.1 := ⟨_, rfl⟩
  rw [← eq3]
  have ln3_0 : a < qa3 := by rw [eq3]; exact wf3 _ _ fh1_0
  have fh3_0 : hh3.2 (a) = some (oB 5 [.null, .int (gI (-1))]) := by rw [eh3, hnew_n _ _ (by omega)]; exact fh1_0
  have fq3 : hh3.2 (qa3) = some (aJ 84 (fun _ => 0)) := by rw [eh3, eq3]; exact hnew_s _ _
  refine g_putF 0 dX5_init_22 kX5 (by decide) fX5_15 rfl rfl rfl fh3_0 (Nat.le_of_ble_eq_true rfl) rfl rfl ?_
  obtain ⟨hh4, eh4⟩ : ∃ z : GH, z = hset hh3 (a) (oB 5 [.ref (qa3), .int (gI (-1))]) := ⟨_, rfl⟩
  refine Go.hp eh4.symm ?_
  have fh4_0 : hh4.2 (a) = some (oB 5 [.ref (qa3), .int (gI (-1))]) := by rw [eh4]; exact hset_s _ _ _
  have fh4_1 : hh4.2 (qa3) = some (aJ 84 (fun _ => 0)) := by rw [eh4, hset_n _ _ (by omega)]; exact fq3
  exact g_vret dX5_init_25 rfl ⟨rfl, by
                                                                      rw [eh4, eh3, eh1]
                                                                      show hset (hnew (hset h a _) _) a _ = _
                                                                      rw [eq3, eh1]
                                                                      exact init_eq h a ha9 _ _ _⟩
set_option maxHeartbeats 4000000 in
set_option maxRecDepth 100000 in
theorem sX5_initG160 (N : GN) (h : GH) (a : Nat) (ha9 : a < h.1) (ho : h.2 a = some (oB 5 [.null, .int (gI 0)])) : Sp N yX5_init mX5_init 1 160 [.ref a, .int (gI 160)] h (fun r h1 => r = none ∧ h1 = hset (hnew h (aJ 160 (fun _ => 0))) a (oB 5 [.ref h.1, .int (gI (-1))])) := by
  refine Sp.of (by decide) rfl rfl (Nat.le_of_ble_eq_true rfl) ?_
  show Go N mX5_init _ 1 160 h 0 [(0, .ref (a)), (1, .int (gI (160)))] []
  refine g_aload_n 0 dX5_init_0 rfl ?_
  refine g_objInit dX5_init_1 lX5_3 (by decide) (Nat.le_of_ble_eq_true rfl) ?_
  refine g_aload_n 0 dX5_init_4 rfl ?_
  refine g_iconst dX5_init_5 ?_
  refine g_putf 1 dX5_init_6 kX5 (by decide) fX5_9 rfl ho (Nat.le_of_ble_eq_true rfl) rfl rfl ?_
  obtain ⟨hh1, eh1⟩ : ∃ z : GH, z = hset h (a) (oB 5 [.null, .int (gI (-1))]) := ⟨_, rfl⟩
  refine Go.hp eh1.symm ?_
  have fh1_0 : hh1.2 (a) = some (oB 5 [.null, .int (gI (-1))]) := by rw [eh1]; exact hset_s _ _ _
  refine g_aload_n 0 dX5_init_9 rfl ?_
  refine g_iload_n 1 dX5_init_10 rfl ?_
  refine g_iconst dX5_init_11 ?_
  refine g_icmp_ge (tgt := 19) dX5_init_12 rfl (by unfold gW; omega) (by unfold gW; omega) (fun c2 => ?_) (fun c2 => absurd c2 (by omega))
  refine g_iload_n 1 dX5_init_19 rfl ?_
  refine Go.wf (fun wf3 => ?_)
  refine g_newarr (n := 160) (ty := .long) dX5_init_20 rfl rfl (by decide) ac_long (by decide) (by decide) (by omega) (by omega) ?_
  obtain ⟨hh3, eh3⟩ : ∃ z : GH, z = hnew hh1 (aJ 160 (fun _ => 0)) := ⟨_, rfl⟩
  refine Go.hp eh3.symm ?_
  obtain ⟨qa3, eq3⟩ : ∃ z : Nat, z = hh1.1 := ⟨_, rfl⟩
  rw [← eq3]
  have ln3_0 : a < qa3 := by rw [eq3]; exact wf3 _ _ fh1_0
  have fh3_0 : hh3.2 (a) = some (oB 5 [.null, .int (gI (-1))]) := by rw [eh3, hnew_n _ _ (by omega)]; exact fh1_0
  have fq3 : hh3.2 (qa3) = some (aJ 160 (fun _ => 0)) := by rw [eh3, eq3]; exact hnew_s _ _
  refine g_putF 0 dX5_init_22 kX5 (by decide) fX5_15 rfl rfl rfl fh3_0 (Nat.le_of_ble_eq_true rfl) rfl rfl ?_
  obtain ⟨hh4, eh4⟩ : ∃ z : GH, z = hset hh3 (a) (oB 5 [.ref (qa3), .int (gI (-1))]) := ⟨_, rfl⟩
  refine Go.hp eh4.symm ?_
  have fh4_0 : hh4.2 (a) = some (oB 5 [.ref (qa3), .int (gI (-1))]) := by rw [eh4]; exact hset_s _ _ _
  have fh4_1 : hh4.2 (qa3) = some (aJ 160 (fun _ => 0)) := by rw [eh4, hset_n _ _ (by omega)]; exact fq3
  exact g_vret dX5_init_25 rfl ⟨rfl, by
                                                                      rw [eh4, eh3, eh1]
                                                                      show hset (hnew (hset h a _) _) a _ = _
                                                                      rw [eq3, eh1]
                                                                      exact init_eq h a ha9 _ _ _⟩
set_option maxHeartbeats 4000000 in
set_option maxRecDepth 100000 in
theorem sX5_initG1 (N : GN) (h : GH) (a : Nat) (ha9 : a < h.1) (ho : h.2 a = some (oB 5 [.null, .int (gI 0)])) : Sp N yX5_init mX5_init 1 1 [.ref a, .int (gI 1)] h (fun r h1 => r = none ∧ h1 = hset (hnew h (aJ 1 (fun _ => 0))) a (oB 5 [.ref h.1, .int (gI (-1))])) := by
  refine Sp.of (by decide) rfl rfl (Nat.le_of_ble_eq_true rfl) ?_
  show Go N mX5_init _ 1 1 h 0 [(0, .ref (a)), (1, .int (gI (1)))] []
  refine g_aload_n 0 dX5_init_0 rfl ?_
  refine g_objInit dX5_init_1 lX5_3 (by decide) (Nat.le_of_ble_eq_true rfl) ?_
  refine g_aload_n 0 dX5_init_4 rfl ?_
  refine g_iconst dX5_init_5 ?_
  refine g_putf 1 dX5_init_6 kX5 (by decide) fX5_9 rfl ho (Nat.le_of_ble_eq_true rfl) rfl rfl ?_
  obtain ⟨hh1, eh1⟩ : ∃ z : GH, z = hset h (a) (oB 5 [.null, .int (gI (-1))]) := ⟨_, rfl⟩
  refine Go.hp eh1.symm ?_
  have fh1_0 : hh1.2 (a) = some (oB 5 [.null, .int (gI (-1))]) := by rw [eh1]; exact hset_s _ _ _
  refine g_aload_n 0 dX5_init_9 rfl ?_
  refine g_iload_n 1 dX5_init_10 rfl ?_
  refine g_iconst dX5_init_11 ?_
  refine g_icmp_ge (tgt := 19) dX5_init_12 rfl (by unfold gW; omega) (by unfold gW; omega) (fun c2 => ?_) (fun c2 => absurd c2 (by omega))
  refine g_iload_n 1 dX5_init_19 rfl ?_
  refine Go.wf (fun wf3 => ?_)
  refine g_newarr (n := 1) (ty := .long) dX5_init_20 rfl rfl (by decide) ac_long (by decide) (by decide) (by omega) (by omega) ?_
  obtain ⟨hh3, eh3⟩ : ∃ z : GH, z = hnew hh1 (aJ 1 (fun _ => 0)) := ⟨_, rfl⟩
  refine Go.hp eh3.symm ?_
  obtain ⟨qa3, eq3⟩ : ∃ z : Nat, z = hh1.1 := ⟨_, rfl⟩
  rw [← eq3]
  have ln3_0 : a < qa3 := by rw [eq3]; exact wf3 _ _ fh1_0
  have fh3_0 : hh3.2 (a) = some (oB 5 [.null, .int (gI (-1))]) := by rw [eh3, hnew_n _ _ (by omega)]; exact fh1_0
  have fq3 : hh3.2 (qa3) = some (aJ 1 (fun _ => 0)) := by rw [eh3, eq3]; exact hnew_s _ _
  refine g_putF 0 dX5_init_22 kX5 (by decide) fX5_15 rfl rfl rfl fh3_0 (Nat.le_of_ble_eq_true rfl) rfl rfl ?_
  obtain ⟨hh4, eh4⟩ : ∃ z : GH, z = hset hh3 (a) (oB 5 [.ref (qa3), .int (gI (-1))]) := ⟨_, rfl⟩
  refine Go.hp eh4.symm ?_
  have fh4_0 : hh4.2 (a) = some (oB 5 [.ref (qa3), .int (gI (-1))]) := by rw [eh4]; exact hset_s _ _ _
  have fh4_1 : hh4.2 (qa3) = some (aJ 1 (fun _ => 0)) := by rw [eh4, hset_n _ _ (by omega)]; exact fq3
  exact g_vret dX5_init_25 rfl ⟨rfl, by
                                                                      rw [eh4, eh3, eh1]
                                                                      show hset (hnew (hset h a _) _) a _ = _
                                                                      rw [eq3, eh1]
                                                                      exact init_eq h a ha9 _ _ _⟩
theorem aR_oB {C : String} {n c : Nat} {g : Int → Option Nat} {f : List Value} : aR C n g ≠ oB c f := fun e => by cases e
theorem aR_aJ {C : String} {n m : Nat} {g : Int → Option Nat} {f : Int → Int} : aR C n g ≠ aJ m f := fun e => by
  have := congrArg Prod.fst (Sum.inl.inj e)
  exact absurd this (by simp)
set_option maxHeartbeats 4000000 in
set_option maxRecDepth 100000 in
theorem sL_in (N : GN) (h : GH) (a n lo : Nat) (g : Int → Option Nat) (i : Int) (hi : 0 ≤ i ∧ i < n) (hn : n ≤ 1000) (hlo : lo ≤ h.1) (w : RLi n lo h a g) : Sp N yX5_in mX5_in 2 86 [.ref (a), .int (gI (i))] h (fun v h1 => ∃ r g2, v = some (.ref r) ∧ g2 i = some r ∧ (∀ j, j ≠ i → g2 j = g j) ∧ ((g i = some r ∧ h1 = h ∧ g2 = g) ∨ (g i = none ∧ r = h.1 ∧ RA 84 h1 r)) ∧ RLi n lo h1 a g2 ∧ FK (fun x _ => x ≠ a) h h1) := by
  refine Sp.of (by decide) rfl rfl (Nat.le_of_ble_eq_true rfl) ?_
  show Go N mX5_in _ 2 86 h 0 [(0, .ref (a)), (1, .int (gI (i)))] []
  refine g_iconst dX5_in_0 ?_
  refine g_iload_n 1 dX5_in_1 rfl ?_
  refine g_aload_n 0 dX5_in_2 rfl ?_
  refine g_alen (n := n) dX5_in_3 (by decide) w.1 ?_
  refine g_iconst dX5_in_4 ?_
  refine g_isub dX5_in_5 ?_
  refine g_min dX5_in_6 lX5_19 (by first | assumption | (unfold gW; omega) | (unfold gW; split <;> omega)) (by first | assumption | (unfold gW; omega) | (unfold gW; split <;> omega)) (by decide) (Nat.le_of_ble_eq_true rfl) ?_
  refine g_max dX5_in_9 lX5_25 (by first | assumption | (unfold gW; omega) | (unfold gW; split <;> omega)) (by first | assumption | (unfold gW; omega) | (unfold gW; split <;> omega)) (by decide) (Nat.le_of_ble_eq_true rfl) ?_
  have hk9 : (if 0 < if (n : Int) - (1) < i then (n : Int) - (1) else i then if (n : Int) - (1) < i then (n : Int) - (1) else i else 0) = i := by split <;> split <;> omega
  rw [hk9]
  refine g_istore_n (ls2 := [(2, .int (gI (i))), (0, .ref (a)), (1, .int (gI (i)))]) dX5_in_12 rfl (by decide) rfl ?_
  refine g_aload_n 1 dX5_in_13 rfl ?_
  refine g_iload_n 0 dX5_in_14 rfl ?_
  refine g_aaload dX5_in_15 (by decide) w.1 (by omega) (by omega) (by first | decide | omega) ?_
  refine Go.wf (fun wf => ?_)
  rcases hgi : g i with _ | r
  · skip
    refine Go.nf (h' := h) (st' := [.null]) rfl rfl (Nat.le_refl _) (Nat.le_refl _) ?_
    refine g_ifnnN (x := 0) (tgt := 31) dX5_in_16 rfl ?_
    refine g_aload_n 1 dX5_in_19 rfl ?_
    refine g_iload_n 0 dX5_in_20 rfl ?_
    refine Go.wf (fun wf1 => ?_)
    refine g_new (fs := [.null, .int (gI (0))]) dX5_in_21 kX5 cX5_10 niX5 nzX5 (by decide) (by omega) (by omega) ?_
    obtain ⟨hh1, eh1⟩ : ∃ z : GH, z = hnew h (oB 5 [.null, .int (gI (0))]) := ⟨_, rfl⟩
    refine Go.hp eh1.symm ?_
    obtain ⟨qa1, eq1⟩ : ∃ z : Nat, z = h.1 := ⟨_, rfl⟩
    rw [← eq1]
    have ln1_0 : a < qa1 := by rw [eq1]; exact wf1 _ _ w.1
    have fh1_0 : hh1.2 (a) = some (aR "PolyWork$Row" n (g)) := by rw [eh1, hnew_n _ _ (by omega)]; exact w.1
    have fq1 : hh1.2 (qa1) = some (oB 5 [.null, .int (gI (0))]) := by rw [eh1, eq1]; exact hnew_s _ _
    refine g_dup dX5_in_24 rfl ?_
    refine g_bipush dX5_in_25 (by decide) ?_
    refine Go.wf (fun wg3 => ?_)
    refine g_callI (nc2 := 1) (ns2 := 84) (As := [.int (gI (84))]) (st := [.ref (qa1), .int (gI (i)), .ref (a)]) rfl dX5_in_27 okX5_init rfl lX5_28 itX5_init rfl (by decide) (by decide) rfl (Nat.le_of_ble_eq_true rfl) (sX5_initG84 N _ (qa1) (by rw [eh1, eq1]; exact Nat.lt_succ_self _) fq1) (by omega) (by omega) (fun v2 hc2 q2 => ?_)
    obtain ⟨rfl, hq3⟩ := q2
    have hn1 : hh1.1 = qa1 + 1 := by rw [eh1, eq1]; rfl
    rw [hn1] at hq3
    have lm3_0 : a < qa1 := by rw [eq1]; exact wf1 _ _ (w.1)
    have fi3_0 : hc2.2 (a) = some (aR "PolyWork$Row" n (g)) := by rw [hq3, hset_n _ _ (by omega), hnew_n _ _ (by omega)]; exact fh1_0
    have fi3_1 : hc2.2 (qa1) = some (oB 5 [.ref (qa1 + 1), .int (gI (-1))]) := by rw [hq3]; exact hset_s _ _ _
    have fin3 : hc2.2 (qa1 + 1) = some (aJ 84 (fun _ => 0)) := by rw [hq3, hset_n _ _ (by omega), ← hn1]; exact hnew_s _ _
    refine Go.nf (h' := hc2) (st' := [.ref (qa1), .int (gI (i)), .ref (a)]) rfl rfl (Nat.le_refl _) (Nat.le_refl _) ?_
    refine g_aastore dX5_in_30 (by decide) kX5 fi3_0 fi3_1 (by omega) (by omega) (by first | decide | omega) ?_
    obtain ⟨hh4, eh4⟩ : ∃ z : GH, z = hset hc2 (a) (aR "PolyWork$Row" n (gup (g) (i) (some (qa1)))) := ⟨_, rfl⟩
    refine Go.hp eh4.symm ?_
    have fh4_0 : hh4.2 (a) = some (aR "PolyWork$Row" n (gup (g) (i) (some (qa1)))) := hs_s eh4
    have fh4_1 : hh4.2 (qa1) = some (oB 5 [.ref (qa1 + 1), .int (gI (-1))]) := hs_n eh4 (show NE (qa1) (a) by unfold NE; omega) fi3_1
    have fh4_2 : hh4.2 (qa1 + 1) = some (aJ 84 (fun _ => 0)) := hs_n eh4 (show NE (qa1 + 1) (a) by unfold NE; omega) fin3
    refine g_aload_n 1 dX5_in_31 rfl ?_
    refine g_iload_n 0 dX5_in_32 rfl ?_
    refine g_aaload dX5_in_33 (by decide) fh4_0 (by omega) (by omega) (by first | decide | omega) ?_
    rw [gup_s]
    exact g_aret (a := some (qa1)) dX5_in_34 rfl (by
                                                                      have unX : ∀ x, x < h.1 → x ≠ a → hh4.2 x = h.2 x := fun x x0 x1 => by
                                                                        rw [eh4, hset_n _ _ x1, hq3, hset_n _ _ (by omega), hnew_n _ _ (by omega), eh1, hnew_n _ _ (by omega)]
                                                                      have hqR : RA 84 hh4 qa1 := ⟨-1, fun _ => 0, fh4_1, fh4_2, fun _ => by show gX 0; unfold gX; omega, by omega, by omega, by omega, by omega⟩
                                                                      have hle : h.1 ≤ hh4.1 := by
                                                                        have e9 : hh4.1 = hh1.1 + 1 := by rw [eh4, hq3]; rfl
                                                                        omega
                                                                      refine ⟨qa1, _, rfl, gup_s _ _ _, fun j hj => gup_n _ _ hj, Or.inr ⟨by first | rfl | exact hgi, by first | rfl | exact eq1, hqR⟩, ⟨fh4_0, fun j q hq => ?_, fun j l q t hjl hq ht => ?_⟩, hle, fun x y hx hk => (unX x (wf x y hx) hk).trans hx⟩
                                                                      · by_cases z : j = i
                                                                        · rw [z, gup_s] at hq
                                                                          have := Option.some.inj hq
                                                                          subst this
                                                                          exact ⟨by omega, hqR⟩
                                                                        · rw [gup_n _ _ z] at hq
                                                                          have h8 := w.2.1 j q hq
                                                                          have h7 := h8.2.lt2 wf
                                                                          have h6 := wf _ _ w.1
                                                                          exact ⟨h8.1, h8.2.of (fun x hx => unX x (by omega) (fun z9 => by
                                                                            obtain ⟨d9, g9, y1, y2, _⟩ := h8.2
                                                                            rcases hx with z8 | z8
                                                                            · rw [← z8, z9, w.1] at y1; exact absurd (Option.some.inj y1) aR_oB
                                                                            · rw [← z8, z9, w.1] at y2; exact absurd (Option.some.inj y2) aR_aJ))⟩
                                                                      · have h7 : ∀ (j : Int) (q : Nat), g j = some q → AP q qa1 := fun j q hq => by
                                                                          have := (w.2.1 j q hq).2.lt2 wf
                                                                          unfold AP; omega
                                                                        by_cases z : j = i
                                                                        · rw [z, gup_s] at hq
                                                                          have := Option.some.inj hq
                                                                          subst this
                                                                          rw [gup_n _ _ (by omega)] at ht
                                                                          exact (h7 l t ht).s
                                                                        · rw [gup_n _ _ z] at hq
                                                                          by_cases y : l = i
                                                                          · rw [y, gup_s] at ht
                                                                            have := Option.some.inj ht
                                                                            subst this
                                                                            exact h7 j q hq
                                                                          · rw [gup_n _ _ y] at ht
                                                                            exact w.2.2 j l q t hjl hq ht)
  · skip
    refine Go.nf (h' := h) (st' := [.ref (r)]) rfl rfl (Nat.le_refl _) (Nat.le_refl _) ?_
    refine g_ifnn (tgt := 31) dX5_in_16 rfl ?_
    refine g_aload_n 1 dX5_in_31 rfl ?_
    refine g_iload_n 0 dX5_in_32 rfl ?_
    refine g_aaload dX5_in_33 (by decide) w.1 (by omega) (by omega) (by first | decide | omega) ?_
    rw [hgi]
    exact g_aret (a := some (r)) dX5_in_34 rfl ⟨r, g, rfl, hgi, fun _ _ => rfl, Or.inl ⟨by first | rfl | exact hgi, rfl, rfl⟩, w, FK.rf _ _⟩
set_option maxHeartbeats 4000000 in
set_option maxRecDepth 100000 in
theorem sL_in0 (N : GN) (h : GH) (a n r : Nat) (g : Int → Option Nat) (i : Int) (hi : 0 ≤ i ∧ i < n) (hn : n ≤ 1000) (w : h.2 a = some (aR "PolyWork$Row" n g)) (hgi : g i = some r) : Sp N yX5_in mX5_in 0 0 [.ref (a), .int (gI (i))] h (fun v h1 => h1 = h ∧ v = some (.ref r)) := by
  refine Sp.of (by decide) rfl rfl (Nat.le_of_ble_eq_true rfl) ?_
  show Go N mX5_in _ 0 0 h 0 [(0, .ref (a)), (1, .int (gI (i)))] []
  refine g_iconst dX5_in_0 ?_
  refine g_iload_n 1 dX5_in_1 rfl ?_
  refine g_aload_n 0 dX5_in_2 rfl ?_
  refine g_alen (n := n) dX5_in_3 (by decide) w ?_
  refine g_iconst dX5_in_4 ?_
  refine g_isub dX5_in_5 ?_
  refine g_min dX5_in_6 lX5_19 (by first | assumption | (unfold gW; omega) | (unfold gW; split <;> omega)) (by first | assumption | (unfold gW; omega) | (unfold gW; split <;> omega)) (by decide) (Nat.le_of_ble_eq_true rfl) ?_
  refine g_max dX5_in_9 lX5_25 (by first | assumption | (unfold gW; omega) | (unfold gW; split <;> omega)) (by first | assumption | (unfold gW; omega) | (unfold gW; split <;> omega)) (by decide) (Nat.le_of_ble_eq_true rfl) ?_
  have hk9 : (if 0 < if (n : Int) - (1) < i then (n : Int) - (1) else i then if (n : Int) - (1) < i then (n : Int) - (1) else i else 0) = i := by split <;> split <;> omega
  rw [hk9]
  refine g_istore_n (ls2 := [(2, .int (gI (i))), (0, .ref (a)), (1, .int (gI (i)))]) dX5_in_12 rfl (by decide) rfl ?_
  refine g_aload_n 1 dX5_in_13 rfl ?_
  refine g_iload_n 0 dX5_in_14 rfl ?_
  refine g_aaload dX5_in_15 (by decide) w (by omega) (by omega) (by first | decide | omega) ?_
  rw [hgi]
  refine g_ifnn (tgt := 31) dX5_in_16 rfl ?_
  refine g_aload_n 1 dX5_in_31 rfl ?_
  refine g_iload_n 0 dX5_in_32 rfl ?_
  refine g_aaload dX5_in_33 (by decide) w (by omega) (by omega) (by first | decide | omega) ?_
  rw [hgi]
  exact g_aret (a := some (r)) dX5_in_34 rfl ⟨rfl, rfl⟩
