theorem gX_ite {c : Prop} [Decidable c] {a b : Int} (ha : gX a) (hb : gX b) : gX (if c then a else b) := by
  split
  · exact ha
  · exact hb
theorem gX_0 : gX 0 := by unfold gX; omega
theorem Mo_new {B : Nat} {h : GH} {e : GE} (wf : ∀ (a : Nat) (e : GE), h.2 a = some e → a < h.1) (hm : Mo B h) : Mo B (hnew h e) := fun j f hj hf => by
  have := wf _ _ (hm j f hj hf)
  rw [hnew_n _ _ (by omega)]
  exact hm j f hj hf
theorem Mo_new2 {B q : Nat} {h : GH} {e : GE} (hq : ∀ (k : Nat) (e : GE), 35 ≤ k → (cS B)[k]? = some e → B + k < q) (hm : Mo B h) : Mo B (hset h q e) := fun j f hj hf => by
  have := hq j f hj hf
  rw [hset_n _ _ (by omega)]
  exact hm j f hj hf
set_option maxHeartbeats 4000000 in
set_option maxRecDepth 100000 in
theorem sX4_initG (N : GN) (h : GH) (a : Nat) (ho : h.2 a = some (oB 4 [.null, .int (gI 0), .int (gI 0)])) : Sp N yX4_init mX4_init 1 287 [.ref a] h (fun r h1 => r = none ∧ h1 = hset (hnew h (aJ 287 (fun _ => 0))) a (oB 4 [.ref h.1, .int (gI (-1)), .int (gI (-1))])) := by
  refine Sp.of (by decide) rfl rfl (Nat.le_of_ble_eq_true rfl) ?_
  show Go N mX4_init _ 1 287 h 0 [(0, .ref a)] []
  refine g_aload_n 0 dX4_init_0 rfl ?_
  refine g_objInit dX4_init_1 lX4_3 (by decide) (Nat.le_of_ble_eq_true rfl) ?_
  refine g_aload_n 0 dX4_init_4 rfl ?_
  refine g_sipush dX4_init_5 (by decide) ?_
  refine Go.wf (fun wf1 => ?_)
  refine g_newarr (n := 287) (ty := .long) dX4_init_8 rfl rfl (by decide) ac_long (by decide) (by decide) (by omega) (by omega) ?_
  obtain ⟨hh1, eh1⟩ : ∃ z : GH, z = hnew h (aJ 287 (fun _ => 0)) := ⟨_, rfl⟩
  refine Go.hp eh1.symm ?_
  obtain ⟨qa1, eq1⟩ : ∃ z : Nat, z = h.1 := ⟨_, rfl⟩
  rw [← eq1]
  have ln1_0 : a < qa1 := by rw [eq1]; exact wf1 _ _ ho
  have fh1_0 : hh1.2 (a) = some (oB 4 [.null, .int (gI (0)), .int (gI (0))]) := by rw [eh1, hnew_n _ _ (by omega)]; exact ho
  have fq1 : hh1.2 (qa1) = some (aJ 287 (fun _ => 0)) := by rw [eh1, eq1]; exact hnew_s _ _
  refine g_putF 0 dX4_init_10 kX4 (by decide) fX4_9 rfl rfl rfl fh1_0 (Nat.le_of_ble_eq_true rfl) rfl rfl ?_
  obtain ⟨hh2, eh2⟩ : ∃ z : GH, z = hset hh1 (a) (oB 4 [.ref (qa1), .int (gI (0)), .int (gI (0))]) := ⟨_, rfl⟩
  refine Go.hp eh2.symm ?_
  have fh2_0 : hh2.2 (a) = some (oB 4 [.ref (qa1), .int (gI (0)), .int (gI (0))]) := by rw [eh2]; exact hset_s _ _ _
  have fh2_1 : hh2.2 (qa1) = some (aJ 287 (fun _ => 0)) := by rw [eh2, hset_n _ _ (by omega)]; exact fq1
  refine g_aload_n 0 dX4_init_13 rfl ?_
  refine g_iconst dX4_init_14 ?_
  refine g_putf 1 dX4_init_15 kX4 (by decide) fX4_15 rfl fh2_0 (Nat.le_of_ble_eq_true rfl) rfl rfl ?_
  obtain ⟨hh3, eh3⟩ : ∃ z : GH, z = hset hh2 (a) (oB 4 [.ref (qa1), .int (gI (-1)), .int (gI (0))]) := ⟨_, rfl⟩
  refine Go.hp eh3.symm ?_
  have fh3_0 : hh3.2 (a) = some (oB 4 [.ref (qa1), .int (gI (-1)), .int (gI (0))]) := by rw [eh3]; exact hset_s _ _ _
  have fh3_1 : hh3.2 (qa1) = some (aJ 287 (fun _ => 0)) := by rw [eh3, hset_n _ _ (by omega)]; exact fh2_1
  refine g_aload_n 0 dX4_init_18 rfl ?_
  refine g_iconst dX4_init_19 ?_
  refine g_putf 2 dX4_init_20 kX4 (by decide) fX4_19 rfl fh3_0 (Nat.le_of_ble_eq_true rfl) rfl rfl ?_
  obtain ⟨hh4, eh4⟩ : ∃ z : GH, z = hset hh3 (a) (oB 4 [.ref (qa1), .int (gI (-1)), .int (gI (-1))]) := ⟨_, rfl⟩
  refine Go.hp eh4.symm ?_
  have fh4_0 : hh4.2 (a) = some (oB 4 [.ref (qa1), .int (gI (-1)), .int (gI (-1))]) := by rw [eh4]; exact hset_s _ _ _
  have fh4_1 : hh4.2 (qa1) = some (aJ 287 (fun _ => 0)) := by rw [eh4, hset_n _ _ (by omega)]; exact fh3_1
  exact g_vret dX4_init_23 rfl ⟨rfl, by rw [eh4, eh3, eh2, eh1, hset_hset, hset_hset, eq1]⟩
set_option maxHeartbeats 4000000 in
set_option maxRecDepth 100000 in
theorem xkeep (N : GN) (B : Nat) (h : GH) (dx dy : Int) (G : Int → Int) (hMo : Mo B h) (s0 : h.2 (B + 0) = some (oB 9 [.ref (B + 1), .ref (B + 2), .ref (B + 3), .ref (B + 4), .ref (B + 7), .ref (B + 24), .ref (B + 27), .ref (B + 29), .ref (B + 31), .ref (B + 33), .null, .null])) (s2 : h.2 (B + 2) = some (aR "PolyWork$Poly" 100 (fun _ => none))) (s3 : h.2 (B + 3) = some (aZ 100 (fun _ => 0))) (s27 : h.2 (B + 27) = some (oB 4 [.ref (B + 28), .int (gI (dx)), .int (gI (dy))])) (s28 : h.2 (B + 28) = some (aJ 287 (G))) : Sp N yX9_keep mX9_keep 2 290 [.ref (B + 0), .ref (B + 27)] h (fun r h1 => r = some (.int (gI (0))) ∧ Mo B h1) := by
  refine Sp.of (by decide) rfl rfl (Nat.le_of_ble_eq_true rfl) ?_
  show Go N mX9_keep _ 2 290 h 0 [(0, .ref (B + 0)), (1, .ref (B + 27))] []
  refine g_iconst dX9_keep_0 ?_
  refine g_istore_n (ls2 := [(2, .int (gI (0))), (0, .ref (B + 0)), (1, .ref (B + 27))]) dX9_keep_1 rfl (by decide) rfl ?_
  refine g_iload_n 0 dX9_keep_2 rfl ?_
  refine g_bipush dX9_keep_3 (by decide) ?_
  refine g_icmp_ge (tgt := 64) dX9_keep_5 rfl (by unfold gW at *; omega) (by unfold gW at *; omega) (fun c1 => absurd c1 (by omega)) (fun c1 => ?_)
  refine g_aload_n 1 dX9_keep_8 rfl ?_
  refine g_getf 2 dX9_keep_9 kX9 (by decide) fX9_22 s0 rfl ?_
  refine g_iload_n 0 dX9_keep_12 rfl ?_
  refine g_baload dX9_keep_13 s3 (by omega) (by omega) (by decide) ?_
  refine g_if_ne (tgt := 58) dX9_keep_14 rfl (by unfold gW at *; omega) (fun c2 => absurd c2 (by omega)) (fun c2 => ?_)
  refine g_aload_n 1 dX9_keep_17 rfl ?_
  refine g_getf 1 dX9_keep_18 kX9 (by decide) fX9_18 s0 rfl ?_
  refine g_iload_n 0 dX9_keep_21 rfl ?_
  refine g_aaload dX9_keep_22 (by decide) s2 (by omega) (by omega) (by decide) ?_
  refine g_ifnnN (x := 0) (tgt := 39) dX9_keep_23 rfl ?_
  refine g_aload_n 1 dX9_keep_26 rfl ?_
  refine g_getf 1 dX9_keep_27 kX9 (by decide) fX9_18 s0 rfl ?_
  refine g_iload_n 0 dX9_keep_30 rfl ?_
  refine Go.wf (fun wf3 => ?_)
  refine g_new (fs := [.null, .int (gI (0)), .int (gI (0))]) dX9_keep_31 kX4 cX9_16 niX4 nzX4 (by decide) (by omega) (by omega) ?_
  obtain ⟨hh3, eh3⟩ : ∃ z : GH, z = hnew h (oB 4 [.null, .int (gI (0)), .int (gI (0))]) := ⟨_, rfl⟩
  refine Go.hp eh3.symm ?_
  obtain ⟨qa3, eq3⟩ : ∃ z : Nat, z = h.1 := ⟨_, rfl⟩
  rw [← eq3]
  have ln3_0 : B + 0 < qa3 := by rw [eq3]; exact wf3 _ _ s0
  have fh3_0 : hh3.2 (B + 0) = some (oB 9 [.ref (B + 1), .ref (B + 2), .ref (B + 3), .ref (B + 4), .ref (B + 7), .ref (B + 24), .ref (B + 27), .ref (B + 29), .ref (B + 31), .ref (B + 33), .null, .null]) := by rw [eh3, hnew_n _ _ (by omega)]; exact s0
  have ln3_1 : B + 2 < qa3 := by rw [eq3]; exact wf3 _ _ s2
  have fh3_1 : hh3.2 (B + 2) = some (aR "PolyWork$Poly" 100 (fun _ => none)) := by rw [eh3, hnew_n _ _ (by omega)]; exact s2
  have ln3_2 : B + 3 < qa3 := by rw [eq3]; exact wf3 _ _ s3
  have fh3_2 : hh3.2 (B + 3) = some (aZ 100 (fun _ => 0)) := by rw [eh3, hnew_n _ _ (by omega)]; exact s3
  have ln3_3 : B + 27 < qa3 := by rw [eq3]; exact wf3 _ _ s27
  have fh3_3 : hh3.2 (B + 27) = some (oB 4 [.ref (B + 28), .int (gI (dx)), .int (gI (dy))]) := by rw [eh3, hnew_n _ _ (by omega)]; exact s27
  have ln3_4 : B + 28 < qa3 := by rw [eq3]; exact wf3 _ _ s28
  have fh3_4 : hh3.2 (B + 28) = some (aJ 287 (G)) := by rw [eh3, hnew_n _ _ (by omega)]; exact s28
  have fq3 : hh3.2 (qa3) = some (oB 4 [.null, .int (gI (0)), .int (gI (0))]) := by rw [eh3, eq3]; exact hnew_s _ _
  refine g_dup dX9_keep_34 rfl ?_
  refine Go.wf (fun wg5 => ?_)
  refine g_callIN (host := "PolyWork") (nc2 := 1) (ns2 := 287) (As := []) (st := [.ref (qa3), .int (gI (0)), .ref (B + 2)]) rfl dX9_keep_35 okX4_init rfl (by decide) itX4_init rfl (by decide) (by decide) rfl (Nat.le_of_ble_eq_true rfl) (sX4_initG N _ (qa3) fq3) (by omega) (by omega) (fun v4 hc4 q4 => ?_)
  obtain ⟨rfl, hq5⟩ := q4
  obtain ⟨na5, en5⟩ : ∃ z : Nat, z = hh3.1 := ⟨_, rfl⟩
  rw [← en5] at hq5
  have lm5_0 : B + 0 < na5 := by rw [en5]; exact wg5 _ _ fh3_0
  have lm5_1 : B + 2 < na5 := by rw [en5]; exact wg5 _ _ fh3_1
  have lm5_2 : B + 3 < na5 := by rw [en5]; exact wg5 _ _ fh3_2
  have lm5_3 : B + 27 < na5 := by rw [en5]; exact wg5 _ _ fh3_3
  have lm5_4 : B + 28 < na5 := by rw [en5]; exact wg5 _ _ fh3_4
  have lm5_5 : qa3 < na5 := by rw [en5]; exact wg5 _ _ fq3
  have fi5_0 : hc4.2 (B + 0) = some (oB 9 [.ref (B + 1), .ref (B + 2), .ref (B + 3), .ref (B + 4), .ref (B + 7), .ref (B + 24), .ref (B + 27), .ref (B + 29), .ref (B + 31), .ref (B + 33), .null, .null]) := by rw [hq5, hset_n _ _ (by omega), hnew_n _ _ (by omega)]; exact fh3_0
  have fi5_1 : hc4.2 (B + 2) = some (aR "PolyWork$Poly" 100 (fun _ => none)) := by rw [hq5, hset_n _ _ (by omega), hnew_n _ _ (by omega)]; exact fh3_1
  have fi5_2 : hc4.2 (B + 3) = some (aZ 100 (fun _ => 0)) := by rw [hq5, hset_n _ _ (by omega), hnew_n _ _ (by omega)]; exact fh3_2
  have fi5_3 : hc4.2 (B + 27) = some (oB 4 [.ref (B + 28), .int (gI (dx)), .int (gI (dy))]) := by rw [hq5, hset_n _ _ (by omega), hnew_n _ _ (by omega)]; exact fh3_3
  have fi5_4 : hc4.2 (B + 28) = some (aJ 287 (G)) := by rw [hq5, hset_n _ _ (by omega), hnew_n _ _ (by omega)]; exact fh3_4
  have fi5_5 : hc4.2 (qa3) = some (oB 4 [.ref (na5), .int (gI (-1)), .int (gI (-1))]) := by rw [hq5]; exact hset_s _ _ _
  have fin5 : hc4.2 (na5) = some (aJ 287 (fun _ => 0)) := by rw [hq5, hset_n _ _ (by omega), en5]; exact hnew_s _ _
  refine Go.nf (h' := hc4) (st' := [.ref (qa3), .int (gI (0)), .ref (B + 2)]) rfl rfl (Nat.le_refl _) (Nat.le_refl _) ?_
  refine g_aastore dX9_keep_38 (by decide) kX4 fi5_1 fi5_5 (by omega) (by omega) (by decide) ?_
  obtain ⟨hh6, eh6⟩ : ∃ z : GH, z = hset hc4 (B + 2) (aR "PolyWork$Poly" 100 (gup (fun _ => none) (0) (some (qa3)))) := ⟨_, rfl⟩
  refine Go.hp eh6.symm ?_
  have fh6_0 : hh6.2 (B + 0) = some (oB 9 [.ref (B + 1), .ref (B + 2), .ref (B + 3), .ref (B + 4), .ref (B + 7), .ref (B + 24), .ref (B + 27), .ref (B + 29), .ref (B + 31), .ref (B + 33), .null, .null]) := by rw [eh6, hset_n _ _ (by omega)]; exact fi5_0
  have fh6_1 : hh6.2 (B + 2) = some (aR "PolyWork$Poly" 100 (gup (fun _ => none) (0) (some (qa3)))) := by rw [eh6]; exact hset_s _ _ _
  have fh6_2 : hh6.2 (B + 3) = some (aZ 100 (fun _ => 0)) := by rw [eh6, hset_n _ _ (by omega)]; exact fi5_2
  have fh6_3 : hh6.2 (B + 27) = some (oB 4 [.ref (B + 28), .int (gI (dx)), .int (gI (dy))]) := by rw [eh6, hset_n _ _ (by omega)]; exact fi5_3
  have fh6_4 : hh6.2 (B + 28) = some (aJ 287 (G)) := by rw [eh6, hset_n _ _ (by omega)]; exact fi5_4
  have fh6_5 : hh6.2 (qa3) = some (oB 4 [.ref (na5), .int (gI (-1)), .int (gI (-1))]) := by rw [eh6, hset_n _ _ (by omega)]; exact fi5_5
  have fh6_6 : hh6.2 (na5) = some (aJ 287 (fun _ => 0)) := by rw [eh6, hset_n _ _ (by omega)]; exact fin5
  refine g_aload_n 1 dX9_keep_39 rfl ?_
  refine g_getf 1 dX9_keep_40 kX9 (by decide) fX9_18 fh6_0 rfl ?_
  refine g_iload_n 0 dX9_keep_43 rfl ?_
  refine g_aaload dX9_keep_44 (by decide) fh6_1 (by omega) (by omega) (by decide) ?_
  rw [gup_s]
  refine g_aload_n 2 dX9_keep_45 rfl ?_
  refine g_callV (nc2 := 0) (ns2 := 0) (ci := 4) (As := [.ref (B + 27)]) (st := []) rfl dX9_keep_46 okX4_copy lX9_127 itX4_copy seX4_copy rfl fh6_5 (by decide) (by decide) rfl (Nat.le_of_ble_eq_true rfl) (sX4_copy N _ (qa3) (na5) (B + 27) (B + 28) _ _ _ _ _ _ (by omega) (by omega) (by omega) (by omega) (by omega) fh6_5 fh6_6 fh6_3 fh6_4) (by omega) (by omega) (fun v7 hc7 q7 => ?_)
  obtain ⟨rfl, hq8⟩ := q7
  have fk9_0 : hc7.2 (B + 0) = some (oB 9 [.ref (B + 1), .ref (B + 2), .ref (B + 3), .ref (B + 4), .ref (B + 7), .ref (B + 24), .ref (B + 27), .ref (B + 29), .ref (B + 31), .ref (B + 33), .null, .null]) := by rw [hq8, hset_n _ _ (by omega), hset_n _ _ (by omega)]; exact fh6_0
  have fk9_1 : hc7.2 (B + 2) = some (aR "PolyWork$Poly" 100 (gup (fun _ => none) (0) (some (qa3)))) := by rw [hq8, hset_n _ _ (by omega), hset_n _ _ (by omega)]; exact fh6_1
  have fk9_2 : hc7.2 (B + 3) = some (aZ 100 (fun _ => 0)) := by rw [hq8, hset_n _ _ (by omega), hset_n _ _ (by omega)]; exact fh6_2
  have fk9_3 : hc7.2 (B + 27) = some (oB 4 [.ref (B + 28), .int (gI (dx)), .int (gI (dy))]) := by rw [hq8, hset_n _ _ (by omega), hset_n _ _ (by omega)]; exact fh6_3
  have fk9_4 : hc7.2 (B + 28) = some (aJ 287 (G)) := by rw [hq8, hset_n _ _ (by omega), hset_n _ _ (by omega)]; exact fh6_4
  have fk9_5 : hc7.2 (qa3) = some (oB 4 [.ref (na5), .int (gI (dx)), .int (gI (dy))]) := by rw [hq8]; exact hset_s _ _ _
  have fk9_6 : hc7.2 (na5) = some (aJ 287 (fun j => if j < 287 then (G) j else (fun _ => 0) j)) := by rw [hq8]; rw [hset_n _ _ (by omega)]; exact hset_s _ _ _
  refine Go.nf (h' := hc7) (st' := []) rfl rfl (Nat.le_refl _) (Nat.le_refl _) ?_
  have hlq1 : ∀ (k : Nat) (e : GE), 35 ≤ k → (cS B)[k]? = some e → B + k < qa3 := fun k e hk he => by rw [eq3]; exact wf3 _ _ (hMo k e hk he)
  have hlq2 : ∀ (k : Nat) (e : GE), 35 ≤ k → (cS B)[k]? = some e → B + k < na5 := fun k e hk he => by rw [en5]; exact wg5 _ _ (by rw [eh3]; exact Mo_new wf3 hMo k e hk he)
  refine g_aload_n 1 dX9_keep_49 rfl ?_
  refine g_getf 2 dX9_keep_50 kX9 (by decide) fX9_22 fk9_0 rfl ?_
  refine g_iload_n 0 dX9_keep_53 rfl ?_
  refine g_iconst dX9_keep_54 ?_
  refine g_bastore dX9_keep_55 fk9_2 (by omega) (by omega) (by decide) (by omega) ?_
  obtain ⟨hh10, eh10⟩ : ∃ z : GH, z = hset hc7 (B + 3) (aZ 100 (gup (fun _ => 0) (0) (1))) := ⟨_, rfl⟩
  refine Go.hp eh10.symm ?_
  have fh10_0 : hh10.2 (B + 0) = some (oB 9 [.ref (B + 1), .ref (B + 2), .ref (B + 3), .ref (B + 4), .ref (B + 7), .ref (B + 24), .ref (B + 27), .ref (B + 29), .ref (B + 31), .ref (B + 33), .null, .null]) := by rw [eh10, hset_n _ _ (by omega)]; exact fk9_0
  have fh10_1 : hh10.2 (B + 2) = some (aR "PolyWork$Poly" 100 (gup (fun _ => none) (0) (some (qa3)))) := by rw [eh10, hset_n _ _ (by omega)]; exact fk9_1
  have fh10_2 : hh10.2 (B + 3) = some (aZ 100 (gup (fun _ => 0) (0) (1))) := by rw [eh10]; exact hset_s _ _ _
  have fh10_3 : hh10.2 (B + 27) = some (oB 4 [.ref (B + 28), .int (gI (dx)), .int (gI (dy))]) := by rw [eh10, hset_n _ _ (by omega)]; exact fk9_3
  have fh10_4 : hh10.2 (B + 28) = some (aJ 287 (G)) := by rw [eh10, hset_n _ _ (by omega)]; exact fk9_4
  have fh10_5 : hh10.2 (qa3) = some (oB 4 [.ref (na5), .int (gI (dx)), .int (gI (dy))]) := by rw [eh10, hset_n _ _ (by omega)]; exact fk9_5
  have fh10_6 : hh10.2 (na5) = some (aJ 287 (fun j => if j < 287 then (G) j else (fun _ => 0) j)) := by rw [eh10, hset_n _ _ (by omega)]; exact fk9_6
  refine g_iload_n 0 dX9_keep_56 rfl ?_
  exact g_iret dX9_keep_57 rfl ⟨rfl, by
    rw [eh10, hq8, eh6, hq5, eh3]
    exact Mo_set (by omega) (Mo_new2 hlq1 (Mo_new2 hlq2 (Mo_set (by omega) (Mo_new2 hlq1 (Mo_new (by rw [← eh3]; exact wg5) (Mo_new wf3 hMo))))))⟩
set_option maxHeartbeats 4000000 in
set_option maxRecDepth 100000 in
theorem xprime (N : GN) (B : Nat) (h : GH) (hs : h = hL B (cS B)) (q : Int) (h_q : gW q) : Sp N yX9_prime mX9_prime 0 0 [.ref (B + 0), .int (gI (q))] h (fun r h1 => ((gPrime q ∧ r = some (.int (gI 1))) ∨ (¬ gPrime q ∧ r = some (.int (gI 0)))) ∧ Mo B h1) := by
  refine Sp.of (by decide) rfl rfl (Nat.le_of_ble_eq_true rfl) ?_
  show Go N mX9_prime _ 0 0 h 0 [(0, .ref (B + 0)), (1, .int (gI (q)))] []
  have s0 : h.2 (B + 0) = some (oB 9 [.ref (B + 1), .ref (B + 2), .ref (B + 3), .ref (B + 4), .ref (B + 7), .ref (B + 24), .ref (B + 27), .ref (B + 29), .ref (B + 31), .ref (B + 33), .null, .null]) := by rw [hs]; exact hL_get rfl
  have s1 : h.2 (B + 1) = some (oB 1 [.int (gI (2))]) := by rw [hs]; exact hL_get rfl
  have s3 : h.2 (B + 3) = some (aZ 100 (fun _ => 0)) := by rw [hs]; exact hL_get rfl
  have s24 : h.2 (B + 24) = some (oB 3 [.ref (B + 1), .ref (B + 25), .ref (B + 26), .int (gI (0))]) := by rw [hs]; exact hL_get rfl
  have hMo : Mo B h := by rw [hs]; exact Mo_of rfl
  refine g_iload_n 1 dX9_prime_0 rfl ?_
  refine g_callS (nc2 := 0) (ns2 := 0) (As := [.int (gI (q))]) (st := []) rfl dX9_prime_1 okX1_isPrime lX9_69 stX1_isPrime (by decide) (by decide) rfl (Nat.le_of_ble_eq_true rfl) (sX1_isPrime N _ (q) (by assumption)) (by omega) (by omega) (fun v1 hc1 q1 => ?_)
  obtain ⟨hq, ⟨hp, rfl⟩ | ⟨hp, rfl⟩⟩ := q1
  · skip
    refine Go.nf (h' := h) (st' := [.int (gI (1))]) hq rfl (Nat.le_refl _) (Nat.le_refl _) ?_
    refine g_if_ne (tgt := 9) dX9_prime_4 rfl (by unfold gW at *; omega) (fun c2 => ?_) (fun c2 => absurd c2 (by omega))
    refine g_aload_n 0 dX9_prime_9 rfl ?_
    refine g_getf 0 dX9_prime_10 kX9 (by decide) fX9_10 s0 rfl ?_
    refine g_iload_n 1 dX9_prime_13 rfl ?_
    refine g_callV (nc2 := 0) (ns2 := 0) (ci := 1) (As := [.int (gI (q))]) (st := []) rfl dX9_prime_14 okX1_become lX9_73 itX1_become seX1_become rfl s1 (by decide) (by decide) rfl (Nat.le_of_ble_eq_true rfl) (sX1_become N _ (B + 1) _ (q) (by assumption) s1) (by omega) (by omega) (fun v3 hc3 q3 => ?_)
    obtain ⟨rfl, hqb⟩ := q3
    have fk4_0 : hc3.2 (B + 0) = some (oB 9 [.ref (B + 1), .ref (B + 2), .ref (B + 3), .ref (B + 4), .ref (B + 7), .ref (B + 24), .ref (B + 27), .ref (B + 29), .ref (B + 31), .ref (B + 33), .null, .null]) := by rw [hqb, hset_n _ _ (by omega)]; exact s0
    have fk4_1 : hc3.2 (B + 1) = some (oB 1 [.int (gI (if 2 < q then q else 2))]) := by rw [hqb]; exact hset_s _ _ _
    have fk4_2 : hc3.2 (B + 3) = some (aZ 100 (fun _ => 0)) := by rw [hqb, hset_n _ _ (by omega)]; exact s3
    have fk4_3 : hc3.2 (B + 24) = some (oB 3 [.ref (B + 1), .ref (B + 25), .ref (B + 26), .int (gI (0))]) := by rw [hqb, hset_n _ _ (by omega)]; exact s24
    refine Go.nf (h' := hc3) (st' := []) rfl rfl (Nat.le_refl _) (Nat.le_refl _) ?_
    refine g_iconst dX9_prime_17 ?_
    refine g_istore_n (ls2 := [(2, .int (gI (0))), (0, .ref (B + 0)), (1, .int (gI (q)))]) dX9_prime_18 rfl (by decide) rfl ?_
    have loop : ∀ x : Int × GH, (0 ≤ x.1 ∧ x.1 ≤ 100 ∧ x.2 = hset hc3 (B + 3) (aZ 100 (gF (fun _ => 0) (fun _ => 0) x.1))) → Go N mX9_prime (fun r h1 => ((gPrime q ∧ r = some (.int (gI 1))) ∨ (¬ gPrime q ∧ r = some (.int (gI 0)))) ∧ Mo B h1) 0 0 x.2 19 [(2, .int (gI (x.1))), (0, .ref (B + 0)), (1, .int (gI (q)))] [] := by
      refine Go.loop _ (fun x : Int × GH => Go N mX9_prime _ 0 0 x.2 19 [(2, .int (gI (x.1))), (0, .ref (B + 0)), (1, .int (gI (q)))] []) (fun x => (101 - x.1).toNat) (fun x hx ih => ?_)
      obtain ⟨k, hh⟩ := x
      obtain ⟨hk0, hk1, he⟩ := hx
      dsimp only at hk0 hk1 he
      have g0 : hh.2 (B + 0) = some (oB 9 [.ref (B + 1), .ref (B + 2), .ref (B + 3), .ref (B + 4), .ref (B + 7), .ref (B + 24), .ref (B + 27), .ref (B + 29), .ref (B + 31), .ref (B + 33), .null, .null]) := by rw [he, hset_n _ _ (by omega)]; exact fk4_0
      have g1 : hh.2 (B + 1) = some (oB 1 [.int (gI (if 2 < q then q else 2))]) := by rw [he, hset_n _ _ (by omega)]; exact fk4_1
      have g2 : hh.2 (B + 3) = some (aZ 100 (gF (fun _ => 0) (fun _ => 0) k)) := by rw [he]; exact hset_s _ _ _
      have g3 : hh.2 (B + 24) = some (oB 3 [.ref (B + 1), .ref (B + 25), .ref (B + 26), .int (gI (0))]) := by rw [he, hset_n _ _ (by omega)]; exact fk4_3
      refine g_iload_n 0 dX9_prime_19 rfl ?_
      refine g_bipush dX9_prime_20 (by decide) ?_
      refine g_icmp_ge (tgt := 38) dX9_prime_22 rfl (by unfold gW at *; omega) (by unfold gW at *; omega) (fun c1 => ?_) (fun c1 => ?_)
      · skip
        refine g_aload_n 1 dX9_prime_38 rfl ?_
        refine g_getf 5 dX9_prime_39 kX9 (by decide) fX9_45 g0 rfl ?_
        refine g_iconst dX9_prime_42 ?_
        refine g_putf 3 dX9_prime_43 kX3 (by decide) fX9_76 rfl g3 (Nat.le_of_ble_eq_true rfl) rfl rfl ?_
        obtain ⟨hh2, eh2⟩ : ∃ z : GH, z = hset hh (B + 24) (oB 3 [.ref (B + 1), .ref (B + 25), .ref (B + 26), .int (gI (0))]) := ⟨_, rfl⟩
        refine Go.hp eh2.symm ?_
        have fh2_0 : hh2.2 (B + 0) = some (oB 9 [.ref (B + 1), .ref (B + 2), .ref (B + 3), .ref (B + 4), .ref (B + 7), .ref (B + 24), .ref (B + 27), .ref (B + 29), .ref (B + 31), .ref (B + 33), .null, .null]) := by rw [eh2, hset_n _ _ (by omega)]; exact g0
        have fh2_1 : hh2.2 (B + 1) = some (oB 1 [.int (gI (if 2 < q then q else 2))]) := by rw [eh2, hset_n _ _ (by omega)]; exact g1
        have fh2_2 : hh2.2 (B + 3) = some (aZ 100 (gF (fun _ => 0) (fun _ => 0) k)) := by rw [eh2, hset_n _ _ (by omega)]; exact g2
        have fh2_3 : hh2.2 (B + 24) = some (oB 3 [.ref (B + 1), .ref (B + 25), .ref (B + 26), .int (gI (0))]) := by rw [eh2]; exact hset_s _ _ _
        refine g_aload_n 1 dX9_prime_46 rfl ?_
        refine g_getf 10 dX9_prime_47 kX9 (by decide) fX9_80 fh2_0 rfl ?_
        refine g_ifnullN (x := 0) (tgt := 60) dX9_prime_50 rfl ?_
        refine g_iconst dX9_prime_60 ?_
        exact g_zret dX9_prime_61 rfl (by omega) ⟨Or.inl ⟨hp, rfl⟩, by rw [eh2, he, hqb]; exact Mo_set (by omega) (Mo_set (by omega) (Mo_set (by omega) hMo))⟩
      · skip
        refine g_aload_n 1 dX9_prime_25 rfl ?_
        refine g_getf 2 dX9_prime_26 kX9 (by decide) fX9_22 g0 rfl ?_
        refine g_iload_n 0 dX9_prime_29 rfl ?_
        refine g_iconst dX9_prime_30 ?_
        refine g_bastore dX9_prime_31 g2 (by omega) (by omega) (by decide) (by omega) ?_
        obtain ⟨hh3, eh3⟩ : ∃ z : GH, z = hset hh (B + 3) (aZ 100 (gup (gF (fun _ => 0) (fun _ => 0) k) (k) (0))) := ⟨_, rfl⟩
        refine Go.hp eh3.symm ?_
        have fh3_0 : hh3.2 (B + 0) = some (oB 9 [.ref (B + 1), .ref (B + 2), .ref (B + 3), .ref (B + 4), .ref (B + 7), .ref (B + 24), .ref (B + 27), .ref (B + 29), .ref (B + 31), .ref (B + 33), .null, .null]) := by rw [eh3, hset_n _ _ (by omega)]; exact g0
        have fh3_1 : hh3.2 (B + 1) = some (oB 1 [.int (gI (if 2 < q then q else 2))]) := by rw [eh3, hset_n _ _ (by omega)]; exact g1
        have fh3_2 : hh3.2 (B + 3) = some (aZ 100 (gup (gF (fun _ => 0) (fun _ => 0) k) (k) (0))) := by rw [eh3]; exact hset_s _ _ _
        have fh3_3 : hh3.2 (B + 24) = some (oB 3 [.ref (B + 1), .ref (B + 25), .ref (B + 26), .int (gI (0))]) := by rw [eh3, hset_n _ _ (by omega)]; exact g3
        refine g_iinc 0 (ls2 := [(2, .int (gI (k + 1))), (0, .ref (B + 0)), (1, .int (gI (q)))]) dX9_prime_32 rfl (by decide) rfl ?_
        refine g_goto (tgt := 19) dX9_prime_35 rfl ?_
        exact ih (k + 1, hh3) ⟨by dsimp only; omega, by dsimp only; omega, by dsimp only; rw [eh3, he, hset_hset, gF_s _ _ hk0]⟩ (by dsimp only; omega)
    exact loop (0, hc3) ⟨by dsimp only; omega, by dsimp only; omega, by dsimp only; rw [gF_0]; exact (hset_id fk4_2).symm⟩
  · skip
    refine Go.nf (h' := h) (st' := [.int (gI (0))]) hq rfl (Nat.le_refl _) (Nat.le_refl _) ?_
    refine g_if_ne (tgt := 9) dX9_prime_4 rfl (by unfold gW at *; omega) (fun c5 => absurd c5 (by omega)) (fun c5 => ?_)
    refine g_iconst dX9_prime_7 ?_
    exact g_zret dX9_prime_8 rfl (by omega) ⟨Or.inr ⟨hp, rfl⟩, hMo⟩
set_option maxHeartbeats 4000000 in
set_option maxRecDepth 100000 in
theorem xconstant (N : GN) (B : Nat) (h : GH) (hs : h = hL B (cS B)) (c : Int) (h_c : gX c) : Sp N yX9_constant mX9_constant 2 290 [.ref (B + 0), .long (gJ (c))] h (fun r h1 => r = some (.int (gI (0))) ∧ Mo B h1) := by
  refine Sp.of (by decide) rfl rfl (Nat.le_of_ble_eq_true rfl) ?_
  show Go N mX9_constant _ 2 290 h 0 [(0, .ref (B + 0)), (1, .long (gJ (c)))] []
  have s0 : h.2 (B + 0) = some (oB 9 [.ref (B + 1), .ref (B + 2), .ref (B + 3), .ref (B + 4), .ref (B + 7), .ref (B + 24), .ref (B + 27), .ref (B + 29), .ref (B + 31), .ref (B + 33), .null, .null]) := by rw [hs]; exact hL_get rfl
  have s1 : h.2 (B + 1) = some (oB 1 [.int (gI (2))]) := by rw [hs]; exact hL_get rfl
  have s2 : h.2 (B + 2) = some (aR "PolyWork$Poly" 100 (fun _ => none)) := by rw [hs]; exact hL_get rfl
  have s3 : h.2 (B + 3) = some (aZ 100 (fun _ => 0)) := by rw [hs]; exact hL_get rfl
  have s27 : h.2 (B + 27) = some (oB 4 [.ref (B + 28), .int (gI (-1)), .int (gI (-1))]) := by rw [hs]; exact hL_get rfl
  have s28 : h.2 (B + 28) = some (aJ 287 (fun _ => 0)) := by rw [hs]; exact hL_get rfl
  have hMo : Mo B h := by rw [hs]; exact Mo_of rfl
  refine g_aload_n 0 dX9_constant_0 rfl ?_
  refine g_getf 6 dX9_constant_1 kX9 (by decide) fX9_50 s0 rfl ?_
  refine g_callV (nc2 := 0) (ns2 := 0) (ci := 4) (As := []) (st := []) rfl dX9_constant_4 okX4_clear lX9_89 itX4_clear seX4_clear rfl s27 (by decide) (by decide) rfl (Nat.le_of_ble_eq_true rfl) (sX4_clear N _ (B + 27) (B + 28) _ _ _ (by omega) s27 s28) (by omega) (by omega) (fun v1 hc1 q1 => ?_)
  obtain ⟨rfl, hqc⟩ := q1
  have fk2_0 : hc1.2 (B + 0) = some (oB 9 [.ref (B + 1), .ref (B + 2), .ref (B + 3), .ref (B + 4), .ref (B + 7), .ref (B + 24), .ref (B + 27), .ref (B + 29), .ref (B + 31), .ref (B + 33), .null, .null]) := by rw [hqc, hset_n _ _ (by omega), hset_n _ _ (by omega)]; exact s0
  have fk2_1 : hc1.2 (B + 1) = some (oB 1 [.int (gI (2))]) := by rw [hqc, hset_n _ _ (by omega), hset_n _ _ (by omega)]; exact s1
  have fk2_2 : hc1.2 (B + 2) = some (aR "PolyWork$Poly" 100 (fun _ => none)) := by rw [hqc, hset_n _ _ (by omega), hset_n _ _ (by omega)]; exact s2
  have fk2_3 : hc1.2 (B + 3) = some (aZ 100 (fun _ => 0)) := by rw [hqc, hset_n _ _ (by omega), hset_n _ _ (by omega)]; exact s3
  have fk2_4 : hc1.2 (B + 27) = some (oB 4 [.ref (B + 28), .int (gI (-1)), .int (gI (-1))]) := by rw [hqc]; exact hset_s _ _ _
  have fk2_5 : hc1.2 (B + 28) = some (aJ 287 (gF (fun _ => 0) (fun _ => 0) 287)) := by rw [hqc]; rw [hset_n _ _ (by omega)]; exact hset_s _ _ _
  refine Go.nf (h' := hc1) (st' := []) rfl rfl (Nat.le_refl _) (Nat.le_refl _) ?_
  refine g_aload_n 0 dX9_constant_7 rfl ?_
  refine g_getf 6 dX9_constant_8 kX9 (by decide) fX9_50 fk2_0 rfl ?_
  refine g_getf 0 dX9_constant_11 kX4 (by decide) fX9_92 fk2_4 rfl ?_
  refine g_iconst dX9_constant_14 ?_
  refine g_aload_n 0 dX9_constant_15 rfl ?_
  refine g_getf 0 dX9_constant_16 kX9 (by decide) fX9_10 fk2_0 rfl ?_
  refine g_lload_n 1 dX9_constant_19 rfl ?_
  refine g_callV (nc2 := 0) (ns2 := 0) (ci := 1) (As := [.long (gJ (c))]) (st := [.int (gI (0)), .ref (B + 28)]) rfl dX9_constant_20 okX1_mod lX9_96 itX1_mod seX1_mod rfl fk2_1 (by decide) (by decide) rfl (Nat.le_of_ble_eq_true rfl) (sX1_mod N _ (B + 1) 2 (c) (by assumption) (by omega) (by omega) fk2_1) (by omega) (by omega) (fun v3 hc3 q3 => ?_)
  obtain ⟨hqm4, rfl⟩ := q3
  refine Go.nf (h' := hc1) (st' := [.long (gJ (gMod (c) 2)), .int (gI (0)), .ref (B + 28)]) hqm4 rfl (Nat.le_refl _) (Nat.le_refl _) ?_
  refine g_lastore dX9_constant_23 fk2_5 (by omega) (by omega) (by decide) ?_
  obtain ⟨hh5, eh5⟩ : ∃ z : GH, z = hset hc1 (B + 28) (aJ 287 (gup (gF (fun _ => 0) (fun _ => 0) 287) (0) (gMod (c) 2))) := ⟨_, rfl⟩
  refine Go.hp eh5.symm ?_
  have fh5_0 : hh5.2 (B + 0) = some (oB 9 [.ref (B + 1), .ref (B + 2), .ref (B + 3), .ref (B + 4), .ref (B + 7), .ref (B + 24), .ref (B + 27), .ref (B + 29), .ref (B + 31), .ref (B + 33), .null, .null]) := by rw [eh5, hset_n _ _ (by omega)]; exact fk2_0
  have fh5_1 : hh5.2 (B + 1) = some (oB 1 [.int (gI (2))]) := by rw [eh5, hset_n _ _ (by omega)]; exact fk2_1
  have fh5_2 : hh5.2 (B + 2) = some (aR "PolyWork$Poly" 100 (fun _ => none)) := by rw [eh5, hset_n _ _ (by omega)]; exact fk2_2
  have fh5_3 : hh5.2 (B + 3) = some (aZ 100 (fun _ => 0)) := by rw [eh5, hset_n _ _ (by omega)]; exact fk2_3
  have fh5_4 : hh5.2 (B + 27) = some (oB 4 [.ref (B + 28), .int (gI (-1)), .int (gI (-1))]) := by rw [eh5, hset_n _ _ (by omega)]; exact fk2_4
  have fh5_5 : hh5.2 (B + 28) = some (aJ 287 (gup (gF (fun _ => 0) (fun _ => 0) 287) (0) (gMod (c) 2))) := by rw [eh5]; exact hset_s _ _ _
  refine g_aload_n 0 dX9_constant_24 rfl ?_
  refine g_getf 6 dX9_constant_25 kX9 (by decide) fX9_50 fh5_0 rfl ?_
  refine g_callV (nc2 := 0) (ns2 := 0) (ci := 4) (As := []) (st := []) rfl dX9_constant_28 okX4_measure lX9_100 itX4_measure seX4_measure rfl fh5_4 (by decide) (by decide) rfl (Nat.le_of_ble_eq_true rfl) (sX4_measure N _ (B + 27) (B + 28) _ _ _ (by omega) (fun j => gX_ite (by have := gMod_in (n := c) (show (0 : Int) < 2 by omega); unfold gX; omega) (gX_ite gX_0 gX_0)) fh5_4 fh5_5) (by omega) (by omega) (fun v6 hc6 q6 => ?_)
  obtain ⟨rfl, dx, dy, hdx, hdy, hqs⟩ := q6
  unfold gObj at hqs
  have fk7_0 : hc6.2 (B + 0) = some (oB 9 [.ref (B + 1), .ref (B + 2), .ref (B + 3), .ref (B + 4), .ref (B + 7), .ref (B + 24), .ref (B + 27), .ref (B + 29), .ref (B + 31), .ref (B + 33), .null, .null]) := by rw [hqs, hset_n _ _ (by omega)]; exact fh5_0
  have fk7_1 : hc6.2 (B + 1) = some (oB 1 [.int (gI (2))]) := by rw [hqs, hset_n _ _ (by omega)]; exact fh5_1
  have fk7_2 : hc6.2 (B + 2) = some (aR "PolyWork$Poly" 100 (fun _ => none)) := by rw [hqs, hset_n _ _ (by omega)]; exact fh5_2
  have fk7_3 : hc6.2 (B + 3) = some (aZ 100 (fun _ => 0)) := by rw [hqs, hset_n _ _ (by omega)]; exact fh5_3
  have fk7_4 : hc6.2 (B + 27) = some (oB 4 [.ref (B + 28), .int (gI (dx)), .int (gI (dy))]) := by rw [hqs]; exact hset_s _ _ _
  have fk7_5 : hc6.2 (B + 28) = some (aJ 287 (gup (gF (fun _ => 0) (fun _ => 0) 287) (0) (gMod (c) 2))) := by rw [hqs, hset_n _ _ (by omega)]; exact fh5_5
  refine Go.nf (h' := hc6) (st' := []) rfl rfl (Nat.le_refl _) (Nat.le_refl _) ?_
  refine g_aload_n 0 dX9_constant_31 rfl ?_
  refine g_aload_n 0 dX9_constant_32 rfl ?_
  refine g_getf 6 dX9_constant_33 kX9 (by decide) fX9_50 fk7_0 rfl ?_
  refine g_callV (nc2 := 2) (ns2 := 290) (ci := 9) (As := [.ref (B + 27)]) (st := []) rfl dX9_constant_36 okX9_keep lX9_103 itX9_keep seX9_keep rfl fk7_0 (by decide) (by decide) rfl (Nat.le_of_ble_eq_true rfl) (xkeep N B _ _ _ _ (by rw [hqs, eh5, hqc]; exact Mo_set (by omega) (Mo_set (by omega) (Mo_set (by omega) (Mo_set (by omega) hMo)))) fk7_0 fk7_2 fk7_3 fk7_4 fk7_5) (by omega) (by omega) (fun v8 hc8 q8 => ?_)
  obtain ⟨rfl, hMo2⟩ := q8
  refine Go.nf (h' := hc8) (st' := [.int (gI (0))]) rfl rfl (Nat.le_refl _) (Nat.le_refl _) ?_
  exact g_iret dX9_constant_39 rfl ⟨rfl, hMo2⟩
set_option maxHeartbeats 4000000 in
set_option maxRecDepth 100000 in
theorem xvariable (N : GN) (B : Nat) (h : GH) (hs : h = hL B (cS B)) (w : Int) (h_w : gW w) : Sp N yX9_variable mX9_variable 2 290 [.ref (B + 0), .int (gI (w))] h (fun r h1 => r = some (.int (gI (if w = 0 ∨ w = 1 then 0 else -2))) ∧ Mo B h1) := by
  refine Sp.of (by decide) rfl rfl (Nat.le_of_ble_eq_true rfl) ?_
  show Go N mX9_variable _ 2 290 h 0 [(0, .ref (B + 0)), (1, .int (gI (w)))] []
  have s0 : h.2 (B + 0) = some (oB 9 [.ref (B + 1), .ref (B + 2), .ref (B + 3), .ref (B + 4), .ref (B + 7), .ref (B + 24), .ref (B + 27), .ref (B + 29), .ref (B + 31), .ref (B + 33), .null, .null]) := by rw [hs]; exact hL_get rfl
  have s1 : h.2 (B + 1) = some (oB 1 [.int (gI (2))]) := by rw [hs]; exact hL_get rfl
  have s2 : h.2 (B + 2) = some (aR "PolyWork$Poly" 100 (fun _ => none)) := by rw [hs]; exact hL_get rfl
  have s3 : h.2 (B + 3) = some (aZ 100 (fun _ => 0)) := by rw [hs]; exact hL_get rfl
  have s27 : h.2 (B + 27) = some (oB 4 [.ref (B + 28), .int (gI (-1)), .int (gI (-1))]) := by rw [hs]; exact hL_get rfl
  have s28 : h.2 (B + 28) = some (aJ 287 (fun _ => 0)) := by rw [hs]; exact hL_get rfl
  have hMo : Mo B h := by rw [hs]; exact Mo_of rfl
  refine g_iload_n 1 dX9_variable_0 rfl ?_
  refine g_if_eq (tgt := 12) dX9_variable_1 rfl (by unfold gW at *; omega) (fun c1 => ?_) (fun c1 => ?_)
  · skip
    refine g_aload_n 0 dX9_variable_12 rfl ?_
    refine g_getf 6 dX9_variable_13 kX9 (by decide) fX9_50 s0 rfl ?_
    refine g_callV (nc2 := 0) (ns2 := 0) (ci := 4) (As := []) (st := []) rfl dX9_variable_16 okX4_clear lX9_89 itX4_clear seX4_clear rfl s27 (by decide) (by decide) rfl (Nat.le_of_ble_eq_true rfl) (sX4_clear N _ (B + 27) (B + 28) _ _ _ (by omega) s27 s28) (by omega) (by omega) (fun v2 hc2 q2 => ?_)
    obtain ⟨rfl, hqc⟩ := q2
    have fk3_0 : hc2.2 (B + 0) = some (oB 9 [.ref (B + 1), .ref (B + 2), .ref (B + 3), .ref (B + 4), .ref (B + 7), .ref (B + 24), .ref (B + 27), .ref (B + 29), .ref (B + 31), .ref (B + 33), .null, .null]) := by rw [hqc, hset_n _ _ (by omega), hset_n _ _ (by omega)]; exact s0
    have fk3_1 : hc2.2 (B + 1) = some (oB 1 [.int (gI (2))]) := by rw [hqc, hset_n _ _ (by omega), hset_n _ _ (by omega)]; exact s1
    have fk3_2 : hc2.2 (B + 2) = some (aR "PolyWork$Poly" 100 (fun _ => none)) := by rw [hqc, hset_n _ _ (by omega), hset_n _ _ (by omega)]; exact s2
    have fk3_3 : hc2.2 (B + 3) = some (aZ 100 (fun _ => 0)) := by rw [hqc, hset_n _ _ (by omega), hset_n _ _ (by omega)]; exact s3
    have fk3_4 : hc2.2 (B + 27) = some (oB 4 [.ref (B + 28), .int (gI (-1)), .int (gI (-1))]) := by rw [hqc]; exact hset_s _ _ _
    have fk3_5 : hc2.2 (B + 28) = some (aJ 287 (gF (fun _ => 0) (fun _ => 0) 287)) := by rw [hqc]; rw [hset_n _ _ (by omega)]; exact hset_s _ _ _
    refine Go.nf (h' := hc2) (st' := []) rfl rfl (Nat.le_refl _) (Nat.le_refl _) ?_
    refine g_aload_n 0 dX9_variable_19 rfl ?_
    refine g_getf 6 dX9_variable_20 kX9 (by decide) fX9_50 fk3_0 rfl ?_
    refine g_getf 0 dX9_variable_23 kX4 (by decide) fX9_92 fk3_4 rfl ?_
    refine g_iload_n 1 dX9_variable_26 rfl ?_
    refine g_if_ne (tgt := 34) dX9_variable_27 rfl (by unfold gW at *; omega) (fun c4 => ?_) (fun c4 => ?_)
    · skip
      refine g_bipush dX9_variable_34 (by decide) ?_
      refine g_lconst1 dX9_variable_36 ?_
      refine g_lastore dX9_variable_37 fk3_5 (by omega) (by omega) (by decide) ?_
      obtain ⟨hh5, eh5⟩ : ∃ z : GH, z = hset hc2 (B + 28) (aJ 287 (gup (gF (fun _ => 0) (fun _ => 0) 287) (41) (1))) := ⟨_, rfl⟩
      refine Go.hp eh5.symm ?_
      have fh5_0 : hh5.2 (B + 0) = some (oB 9 [.ref (B + 1), .ref (B + 2), .ref (B + 3), .ref (B + 4), .ref (B + 7), .ref (B + 24), .ref (B + 27), .ref (B + 29), .ref (B + 31), .ref (B + 33), .null, .null]) := by rw [eh5, hset_n _ _ (by omega)]; exact fk3_0
      have fh5_1 : hh5.2 (B + 1) = some (oB 1 [.int (gI (2))]) := by rw [eh5, hset_n _ _ (by omega)]; exact fk3_1
      have fh5_2 : hh5.2 (B + 2) = some (aR "PolyWork$Poly" 100 (fun _ => none)) := by rw [eh5, hset_n _ _ (by omega)]; exact fk3_2
      have fh5_3 : hh5.2 (B + 3) = some (aZ 100 (fun _ => 0)) := by rw [eh5, hset_n _ _ (by omega)]; exact fk3_3
      have fh5_4 : hh5.2 (B + 27) = some (oB 4 [.ref (B + 28), .int (gI (-1)), .int (gI (-1))]) := by rw [eh5, hset_n _ _ (by omega)]; exact fk3_4
      have fh5_5 : hh5.2 (B + 28) = some (aJ 287 (gup (gF (fun _ => 0) (fun _ => 0) 287) (41) (1))) := by rw [eh5]; exact hset_s _ _ _
      refine g_aload_n 0 dX9_variable_38 rfl ?_
      refine g_getf 6 dX9_variable_39 kX9 (by decide) fX9_50 fh5_0 rfl ?_
      refine g_callV (nc2 := 0) (ns2 := 0) (ci := 4) (As := []) (st := []) rfl dX9_variable_42 okX4_measure lX9_100 itX4_measure seX4_measure rfl fh5_4 (by decide) (by decide) rfl (Nat.le_of_ble_eq_true rfl) (sX4_measure N _ (B + 27) (B + 28) _ _ _ (by omega) (fun j => gX_ite (by unfold gX; omega) (gX_ite gX_0 gX_0)) fh5_4 fh5_5) (by omega) (by omega) (fun v6 hc6 q6 => ?_)
      obtain ⟨rfl, dx, dy, hdx, hdy, hqs⟩ := q6
      unfold gObj at hqs
      have fk7_0 : hc6.2 (B + 0) = some (oB 9 [.ref (B + 1), .ref (B + 2), .ref (B + 3), .ref (B + 4), .ref (B + 7), .ref (B + 24), .ref (B + 27), .ref (B + 29), .ref (B + 31), .ref (B + 33), .null, .null]) := by rw [hqs, hset_n _ _ (by omega)]; exact fh5_0
      have fk7_1 : hc6.2 (B + 1) = some (oB 1 [.int (gI (2))]) := by rw [hqs, hset_n _ _ (by omega)]; exact fh5_1
      have fk7_2 : hc6.2 (B + 2) = some (aR "PolyWork$Poly" 100 (fun _ => none)) := by rw [hqs, hset_n _ _ (by omega)]; exact fh5_2
      have fk7_3 : hc6.2 (B + 3) = some (aZ 100 (fun _ => 0)) := by rw [hqs, hset_n _ _ (by omega)]; exact fh5_3
      have fk7_4 : hc6.2 (B + 27) = some (oB 4 [.ref (B + 28), .int (gI (dx)), .int (gI (dy))]) := by rw [hqs]; exact hset_s _ _ _
      have fk7_5 : hc6.2 (B + 28) = some (aJ 287 (gup (gF (fun _ => 0) (fun _ => 0) 287) (41) (1))) := by rw [hqs, hset_n _ _ (by omega)]; exact fh5_5
      refine Go.nf (h' := hc6) (st' := []) rfl rfl (Nat.le_refl _) (Nat.le_refl _) ?_
      refine g_aload_n 0 dX9_variable_45 rfl ?_
      refine g_aload_n 0 dX9_variable_46 rfl ?_
      refine g_getf 6 dX9_variable_47 kX9 (by decide) fX9_50 fk7_0 rfl ?_
      refine g_callV (nc2 := 2) (ns2 := 290) (ci := 9) (As := [.ref (B + 27)]) (st := []) rfl dX9_variable_50 okX9_keep lX9_103 itX9_keep seX9_keep rfl fk7_0 (by decide) (by decide) rfl (Nat.le_of_ble_eq_true rfl) (xkeep N B _ _ _ _ (by rw [hqs, eh5, hqc]; exact Mo_set (by omega) (Mo_set (by omega) (Mo_set (by omega) (Mo_set (by omega) hMo)))) fk7_0 fk7_2 fk7_3 fk7_4 fk7_5) (by omega) (by omega) (fun v8 hc8 q8 => ?_)
      obtain ⟨rfl, hMo2⟩ := q8
      refine Go.nf (h' := hc8) (st' := [.int (gI (0))]) rfl rfl (Nat.le_refl _) (Nat.le_refl _) ?_
      exact g_iret dX9_variable_53 rfl ⟨by rw [if_pos (by omega)], hMo2⟩
    · skip
      refine g_iconst dX9_variable_30 ?_
      refine g_goto (tgt := 36) dX9_variable_31 rfl ?_
      refine g_lconst1 dX9_variable_36 ?_
      refine g_lastore dX9_variable_37 fk3_5 (by omega) (by omega) (by decide) ?_
      obtain ⟨hh9, eh9⟩ : ∃ z : GH, z = hset hc2 (B + 28) (aJ 287 (gup (gF (fun _ => 0) (fun _ => 0) 287) (1) (1))) := ⟨_, rfl⟩
      refine Go.hp eh9.symm ?_
      have fh9_0 : hh9.2 (B + 0) = some (oB 9 [.ref (B + 1), .ref (B + 2), .ref (B + 3), .ref (B + 4), .ref (B + 7), .ref (B + 24), .ref (B + 27), .ref (B + 29), .ref (B + 31), .ref (B + 33), .null, .null]) := by rw [eh9, hset_n _ _ (by omega)]; exact fk3_0
      have fh9_1 : hh9.2 (B + 1) = some (oB 1 [.int (gI (2))]) := by rw [eh9, hset_n _ _ (by omega)]; exact fk3_1
      have fh9_2 : hh9.2 (B + 2) = some (aR "PolyWork$Poly" 100 (fun _ => none)) := by rw [eh9, hset_n _ _ (by omega)]; exact fk3_2
      have fh9_3 : hh9.2 (B + 3) = some (aZ 100 (fun _ => 0)) := by rw [eh9, hset_n _ _ (by omega)]; exact fk3_3
      have fh9_4 : hh9.2 (B + 27) = some (oB 4 [.ref (B + 28), .int (gI (-1)), .int (gI (-1))]) := by rw [eh9, hset_n _ _ (by omega)]; exact fk3_4
      have fh9_5 : hh9.2 (B + 28) = some (aJ 287 (gup (gF (fun _ => 0) (fun _ => 0) 287) (1) (1))) := by rw [eh9]; exact hset_s _ _ _
      refine g_aload_n 0 dX9_variable_38 rfl ?_
      refine g_getf 6 dX9_variable_39 kX9 (by decide) fX9_50 fh9_0 rfl ?_
      refine g_callV (nc2 := 0) (ns2 := 0) (ci := 4) (As := []) (st := []) rfl dX9_variable_42 okX4_measure lX9_100 itX4_measure seX4_measure rfl fh9_4 (by decide) (by decide) rfl (Nat.le_of_ble_eq_true rfl) (sX4_measure N _ (B + 27) (B + 28) _ _ _ (by omega) (fun j => gX_ite (by unfold gX; omega) (gX_ite gX_0 gX_0)) fh9_4 fh9_5) (by omega) (by omega) (fun v10 hc10 q10 => ?_)
      obtain ⟨rfl, dx, dy, hdx, hdy, hqs⟩ := q10
      unfold gObj at hqs
      have fk11_0 : hc10.2 (B + 0) = some (oB 9 [.ref (B + 1), .ref (B + 2), .ref (B + 3), .ref (B + 4), .ref (B + 7), .ref (B + 24), .ref (B + 27), .ref (B + 29), .ref (B + 31), .ref (B + 33), .null, .null]) := by rw [hqs, hset_n _ _ (by omega)]; exact fh9_0
      have fk11_1 : hc10.2 (B + 1) = some (oB 1 [.int (gI (2))]) := by rw [hqs, hset_n _ _ (by omega)]; exact fh9_1
      have fk11_2 : hc10.2 (B + 2) = some (aR "PolyWork$Poly" 100 (fun _ => none)) := by rw [hqs, hset_n _ _ (by omega)]; exact fh9_2
      have fk11_3 : hc10.2 (B + 3) = some (aZ 100 (fun _ => 0)) := by rw [hqs, hset_n _ _ (by omega)]; exact fh9_3
      have fk11_4 : hc10.2 (B + 27) = some (oB 4 [.ref (B + 28), .int (gI (dx)), .int (gI (dy))]) := by rw [hqs]; exact hset_s _ _ _
      have fk11_5 : hc10.2 (B + 28) = some (aJ 287 (gup (gF (fun _ => 0) (fun _ => 0) 287) (1) (1))) := by rw [hqs, hset_n _ _ (by omega)]; exact fh9_5
      refine Go.nf (h' := hc10) (st' := []) rfl rfl (Nat.le_refl _) (Nat.le_refl _) ?_
      refine g_aload_n 0 dX9_variable_45 rfl ?_
      refine g_aload_n 0 dX9_variable_46 rfl ?_
      refine g_getf 6 dX9_variable_47 kX9 (by decide) fX9_50 fk11_0 rfl ?_
      refine g_callV (nc2 := 2) (ns2 := 290) (ci := 9) (As := [.ref (B + 27)]) (st := []) rfl dX9_variable_50 okX9_keep lX9_103 itX9_keep seX9_keep rfl fk11_0 (by decide) (by decide) rfl (Nat.le_of_ble_eq_true rfl) (xkeep N B _ _ _ _ (by rw [hqs, eh9, hqc]; exact Mo_set (by omega) (Mo_set (by omega) (Mo_set (by omega) (Mo_set (by omega) hMo)))) fk11_0 fk11_2 fk11_3 fk11_4 fk11_5) (by omega) (by omega) (fun v12 hc12 q12 => ?_)
      obtain ⟨rfl, hMo2⟩ := q12
      refine Go.nf (h' := hc12) (st' := [.int (gI (0))]) rfl rfl (Nat.le_refl _) (Nat.le_refl _) ?_
      exact g_iret dX9_variable_53 rfl ⟨by rw [if_pos (by omega)], hMo2⟩
  · skip
    refine g_iload_n 1 dX9_variable_4 rfl ?_
    refine g_iconst dX9_variable_5 ?_
    refine g_icmp_eq (tgt := 12) dX9_variable_6 rfl (by unfold gW at *; omega) (by unfold gW at *; omega) (fun c13 => ?_) (fun c13 => ?_)
    · skip
      refine g_aload_n 0 dX9_variable_12 rfl ?_
      refine g_getf 6 dX9_variable_13 kX9 (by decide) fX9_50 s0 rfl ?_
      refine g_callV (nc2 := 0) (ns2 := 0) (ci := 4) (As := []) (st := []) rfl dX9_variable_16 okX4_clear lX9_89 itX4_clear seX4_clear rfl s27 (by decide) (by decide) rfl (Nat.le_of_ble_eq_true rfl) (sX4_clear N _ (B + 27) (B + 28) _ _ _ (by omega) s27 s28) (by omega) (by omega) (fun v14 hc14 q14 => ?_)
      obtain ⟨rfl, hqc⟩ := q14
      have fk15_0 : hc14.2 (B + 0) = some (oB 9 [.ref (B + 1), .ref (B + 2), .ref (B + 3), .ref (B + 4), .ref (B + 7), .ref (B + 24), .ref (B + 27), .ref (B + 29), .ref (B + 31), .ref (B + 33), .null, .null]) := by rw [hqc, hset_n _ _ (by omega), hset_n _ _ (by omega)]; exact s0
      have fk15_1 : hc14.2 (B + 1) = some (oB 1 [.int (gI (2))]) := by rw [hqc, hset_n _ _ (by omega), hset_n _ _ (by omega)]; exact s1
      have fk15_2 : hc14.2 (B + 2) = some (aR "PolyWork$Poly" 100 (fun _ => none)) := by rw [hqc, hset_n _ _ (by omega), hset_n _ _ (by omega)]; exact s2
      have fk15_3 : hc14.2 (B + 3) = some (aZ 100 (fun _ => 0)) := by rw [hqc, hset_n _ _ (by omega), hset_n _ _ (by omega)]; exact s3
      have fk15_4 : hc14.2 (B + 27) = some (oB 4 [.ref (B + 28), .int (gI (-1)), .int (gI (-1))]) := by rw [hqc]; exact hset_s _ _ _
      have fk15_5 : hc14.2 (B + 28) = some (aJ 287 (gF (fun _ => 0) (fun _ => 0) 287)) := by rw [hqc]; rw [hset_n _ _ (by omega)]; exact hset_s _ _ _
      refine Go.nf (h' := hc14) (st' := []) rfl rfl (Nat.le_refl _) (Nat.le_refl _) ?_
      refine g_aload_n 0 dX9_variable_19 rfl ?_
      refine g_getf 6 dX9_variable_20 kX9 (by decide) fX9_50 fk15_0 rfl ?_
      refine g_getf 0 dX9_variable_23 kX4 (by decide) fX9_92 fk15_4 rfl ?_
      refine g_iload_n 1 dX9_variable_26 rfl ?_
      refine g_if_ne (tgt := 34) dX9_variable_27 rfl (by unfold gW at *; omega) (fun c16 => ?_) (fun c16 => ?_)
      · skip
        refine g_bipush dX9_variable_34 (by decide) ?_
        refine g_lconst1 dX9_variable_36 ?_
        refine g_lastore dX9_variable_37 fk15_5 (by omega) (by omega) (by decide) ?_
        obtain ⟨hh17, eh17⟩ : ∃ z : GH, z = hset hc14 (B + 28) (aJ 287 (gup (gF (fun _ => 0) (fun _ => 0) 287) (41) (1))) := ⟨_, rfl⟩
        refine Go.hp eh17.symm ?_
        have fh17_0 : hh17.2 (B + 0) = some (oB 9 [.ref (B + 1), .ref (B + 2), .ref (B + 3), .ref (B + 4), .ref (B + 7), .ref (B + 24), .ref (B + 27), .ref (B + 29), .ref (B + 31), .ref (B + 33), .null, .null]) := by rw [eh17, hset_n _ _ (by omega)]; exact fk15_0
        have fh17_1 : hh17.2 (B + 1) = some (oB 1 [.int (gI (2))]) := by rw [eh17, hset_n _ _ (by omega)]; exact fk15_1
        have fh17_2 : hh17.2 (B + 2) = some (aR "PolyWork$Poly" 100 (fun _ => none)) := by rw [eh17, hset_n _ _ (by omega)]; exact fk15_2
        have fh17_3 : hh17.2 (B + 3) = some (aZ 100 (fun _ => 0)) := by rw [eh17, hset_n _ _ (by omega)]; exact fk15_3
        have fh17_4 : hh17.2 (B + 27) = some (oB 4 [.ref (B + 28), .int (gI (-1)), .int (gI (-1))]) := by rw [eh17, hset_n _ _ (by omega)]; exact fk15_4
        have fh17_5 : hh17.2 (B + 28) = some (aJ 287 (gup (gF (fun _ => 0) (fun _ => 0) 287) (41) (1))) := by rw [eh17]; exact hset_s _ _ _
        refine g_aload_n 0 dX9_variable_38 rfl ?_
        refine g_getf 6 dX9_variable_39 kX9 (by decide) fX9_50 fh17_0 rfl ?_
        refine g_callV (nc2 := 0) (ns2 := 0) (ci := 4) (As := []) (st := []) rfl dX9_variable_42 okX4_measure lX9_100 itX4_measure seX4_measure rfl fh17_4 (by decide) (by decide) rfl (Nat.le_of_ble_eq_true rfl) (sX4_measure N _ (B + 27) (B + 28) _ _ _ (by omega) (fun j => gX_ite (by unfold gX; omega) (gX_ite gX_0 gX_0)) fh17_4 fh17_5) (by omega) (by omega) (fun v18 hc18 q18 => ?_)
        obtain ⟨rfl, dx, dy, hdx, hdy, hqs⟩ := q18
        unfold gObj at hqs
        have fk19_0 : hc18.2 (B + 0) = some (oB 9 [.ref (B + 1), .ref (B + 2), .ref (B + 3), .ref (B + 4), .ref (B + 7), .ref (B + 24), .ref (B + 27), .ref (B + 29), .ref (B + 31), .ref (B + 33), .null, .null]) := by rw [hqs, hset_n _ _ (by omega)]; exact fh17_0
        have fk19_1 : hc18.2 (B + 1) = some (oB 1 [.int (gI (2))]) := by rw [hqs, hset_n _ _ (by omega)]; exact fh17_1
        have fk19_2 : hc18.2 (B + 2) = some (aR "PolyWork$Poly" 100 (fun _ => none)) := by rw [hqs, hset_n _ _ (by omega)]; exact fh17_2
        have fk19_3 : hc18.2 (B + 3) = some (aZ 100 (fun _ => 0)) := by rw [hqs, hset_n _ _ (by omega)]; exact fh17_3
        have fk19_4 : hc18.2 (B + 27) = some (oB 4 [.ref (B + 28), .int (gI (dx)), .int (gI (dy))]) := by rw [hqs]; exact hset_s _ _ _
        have fk19_5 : hc18.2 (B + 28) = some (aJ 287 (gup (gF (fun _ => 0) (fun _ => 0) 287) (41) (1))) := by rw [hqs, hset_n _ _ (by omega)]; exact fh17_5
        refine Go.nf (h' := hc18) (st' := []) rfl rfl (Nat.le_refl _) (Nat.le_refl _) ?_
        refine g_aload_n 0 dX9_variable_45 rfl ?_
        refine g_aload_n 0 dX9_variable_46 rfl ?_
        refine g_getf 6 dX9_variable_47 kX9 (by decide) fX9_50 fk19_0 rfl ?_
        refine g_callV (nc2 := 2) (ns2 := 290) (ci := 9) (As := [.ref (B + 27)]) (st := []) rfl dX9_variable_50 okX9_keep lX9_103 itX9_keep seX9_keep rfl fk19_0 (by decide) (by decide) rfl (Nat.le_of_ble_eq_true rfl) (xkeep N B _ _ _ _ (by rw [hqs, eh17, hqc]; exact Mo_set (by omega) (Mo_set (by omega) (Mo_set (by omega) (Mo_set (by omega) hMo)))) fk19_0 fk19_2 fk19_3 fk19_4 fk19_5) (by omega) (by omega) (fun v20 hc20 q20 => ?_)
        obtain ⟨rfl, hMo2⟩ := q20
        refine Go.nf (h' := hc20) (st' := [.int (gI (0))]) rfl rfl (Nat.le_refl _) (Nat.le_refl _) ?_
        exact g_iret dX9_variable_53 rfl ⟨by rw [if_pos (by omega)], hMo2⟩
      · skip
        refine g_iconst dX9_variable_30 ?_
        refine g_goto (tgt := 36) dX9_variable_31 rfl ?_
        refine g_lconst1 dX9_variable_36 ?_
        refine g_lastore dX9_variable_37 fk15_5 (by omega) (by omega) (by decide) ?_
        obtain ⟨hh21, eh21⟩ : ∃ z : GH, z = hset hc14 (B + 28) (aJ 287 (gup (gF (fun _ => 0) (fun _ => 0) 287) (1) (1))) := ⟨_, rfl⟩
        refine Go.hp eh21.symm ?_
        have fh21_0 : hh21.2 (B + 0) = some (oB 9 [.ref (B + 1), .ref (B + 2), .ref (B + 3), .ref (B + 4), .ref (B + 7), .ref (B + 24), .ref (B + 27), .ref (B + 29), .ref (B + 31), .ref (B + 33), .null, .null]) := by rw [eh21, hset_n _ _ (by omega)]; exact fk15_0
        have fh21_1 : hh21.2 (B + 1) = some (oB 1 [.int (gI (2))]) := by rw [eh21, hset_n _ _ (by omega)]; exact fk15_1
        have fh21_2 : hh21.2 (B + 2) = some (aR "PolyWork$Poly" 100 (fun _ => none)) := by rw [eh21, hset_n _ _ (by omega)]; exact fk15_2
        have fh21_3 : hh21.2 (B + 3) = some (aZ 100 (fun _ => 0)) := by rw [eh21, hset_n _ _ (by omega)]; exact fk15_3
        have fh21_4 : hh21.2 (B + 27) = some (oB 4 [.ref (B + 28), .int (gI (-1)), .int (gI (-1))]) := by rw [eh21, hset_n _ _ (by omega)]; exact fk15_4
        have fh21_5 : hh21.2 (B + 28) = some (aJ 287 (gup (gF (fun _ => 0) (fun _ => 0) 287) (1) (1))) := by rw [eh21]; exact hset_s _ _ _
        refine g_aload_n 0 dX9_variable_38 rfl ?_
        refine g_getf 6 dX9_variable_39 kX9 (by decide) fX9_50 fh21_0 rfl ?_
        refine g_callV (nc2 := 0) (ns2 := 0) (ci := 4) (As := []) (st := []) rfl dX9_variable_42 okX4_measure lX9_100 itX4_measure seX4_measure rfl fh21_4 (by decide) (by decide) rfl (Nat.le_of_ble_eq_true rfl) (sX4_measure N _ (B + 27) (B + 28) _ _ _ (by omega) (fun j => gX_ite (by unfold gX; omega) (gX_ite gX_0 gX_0)) fh21_4 fh21_5) (by omega) (by omega) (fun v22 hc22 q22 => ?_)
        obtain ⟨rfl, dx, dy, hdx, hdy, hqs⟩ := q22
        unfold gObj at hqs
        have fk23_0 : hc22.2 (B + 0) = some (oB 9 [.ref (B + 1), .ref (B + 2), .ref (B + 3), .ref (B + 4), .ref (B + 7), .ref (B + 24), .ref (B + 27), .ref (B + 29), .ref (B + 31), .ref (B + 33), .null, .null]) := by rw [hqs, hset_n _ _ (by omega)]; exact fh21_0
        have fk23_1 : hc22.2 (B + 1) = some (oB 1 [.int (gI (2))]) := by rw [hqs, hset_n _ _ (by omega)]; exact fh21_1
        have fk23_2 : hc22.2 (B + 2) = some (aR "PolyWork$Poly" 100 (fun _ => none)) := by rw [hqs, hset_n _ _ (by omega)]; exact fh21_2
        have fk23_3 : hc22.2 (B + 3) = some (aZ 100 (fun _ => 0)) := by rw [hqs, hset_n _ _ (by omega)]; exact fh21_3
        have fk23_4 : hc22.2 (B + 27) = some (oB 4 [.ref (B + 28), .int (gI (dx)), .int (gI (dy))]) := by rw [hqs]; exact hset_s _ _ _
        have fk23_5 : hc22.2 (B + 28) = some (aJ 287 (gup (gF (fun _ => 0) (fun _ => 0) 287) (1) (1))) := by rw [hqs, hset_n _ _ (by omega)]; exact fh21_5
        refine Go.nf (h' := hc22) (st' := []) rfl rfl (Nat.le_refl _) (Nat.le_refl _) ?_
        refine g_aload_n 0 dX9_variable_45 rfl ?_
        refine g_aload_n 0 dX9_variable_46 rfl ?_
        refine g_getf 6 dX9_variable_47 kX9 (by decide) fX9_50 fk23_0 rfl ?_
        refine g_callV (nc2 := 2) (ns2 := 290) (ci := 9) (As := [.ref (B + 27)]) (st := []) rfl dX9_variable_50 okX9_keep lX9_103 itX9_keep seX9_keep rfl fk23_0 (by decide) (by decide) rfl (Nat.le_of_ble_eq_true rfl) (xkeep N B _ _ _ _ (by rw [hqs, eh21, hqc]; exact Mo_set (by omega) (Mo_set (by omega) (Mo_set (by omega) (Mo_set (by omega) hMo)))) fk23_0 fk23_2 fk23_3 fk23_4 fk23_5) (by omega) (by omega) (fun v24 hc24 q24 => ?_)
        obtain ⟨rfl, hMo2⟩ := q24
        refine Go.nf (h' := hc24) (st' := [.int (gI (0))]) rfl rfl (Nat.le_refl _) (Nat.le_refl _) ?_
        exact g_iret dX9_variable_53 rfl ⟨by rw [if_pos (by omega)], hMo2⟩
    · skip
      refine g_bipush dX9_variable_9 (by decide) ?_
      exact g_iret dX9_variable_11 rfl ⟨by rw [if_neg (by omega)], hMo⟩
