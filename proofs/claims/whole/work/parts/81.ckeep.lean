theorem lo_c {B a : Nat} {L : List Nat} (h : a + 2 ≤ B + 58) (t : ∀ x ∈ L, x + 2 ≤ B + 58) : ∀ x ∈ a :: L, x + 2 ≤ B + 58 := fun x hx => by
  rcases List.mem_cons.mp hx with z | z
  · rw [z]; exact h
  · exact t x z
theorem lo_pl {B : Nat} : ∀ x ∈ pl B, x + 2 ≤ B + 58 := fun x hx => by
  have := pl_in hx
  omega
theorem hi_c {B a : Nat} {L : List Nat} (h : a + 2 ≤ B + 35) (t : ∀ x ∈ L, x + 2 ≤ B + 35) : ∀ x ∈ a :: L, x + 2 ≤ B + 35 := fun x hx => by
  rcases List.mem_cons.mp hx with z | z
  · rw [z]; exact h
  · exact t x z
theorem hi_pl {B : Nat} : ∀ x ∈ pl B, x + 2 ≤ B + 35 := fun x hx => by
  have := pl_in hx
  omega
theorem ok_c {B a : Nat} {L : List Nat} (h : (B + 2 ≤ a ∧ a + 2 ≤ B + 7) ∨ B + 24 ≤ a) (t : ∀ x ∈ L, (B + 2 ≤ x ∧ x + 2 ≤ B + 7) ∨ B + 24 ≤ x) : ∀ x ∈ a :: L, (B + 2 ≤ x ∧ x + 2 ≤ B + 7) ∨ B + 24 ≤ x := fun x hx => by
  rcases List.mem_cons.mp hx with z | z
  · rw [z]; exact h
  · exact t x z
theorem Ni_hi {B a : Nat} {L : List Nat} (h : B + 35 ≤ a) (t : ∀ x ∈ L, x + 2 ≤ B + 35) : Ni a L := fun x hx => by
  have := t x hx
  unfold NE; omega
set_option maxHeartbeats 4000000 in
set_option maxRecDepth 100000 in
theorem sC_find (N : GN) (h : GH) (B p : Nat) (hp : prm p) (fa sy : Value) (T : PT p) (a : Int) (gW_a : gW a) (hob : h.2 B = some (cO B fa sy)) (hT : CP hp B h T) : Sp N yX9_find mX9_find 0 0 [.ref (B), .int (gI (a))] h (fun v h1 => h1 = h ∧ ((∃ F q, gT T a = some F ∧ v = some (.ref q) ∧ B + 58 ≤ q ∧ PP hp h q F) ∨ (gT T a = none ∧ v = some .null))) := by
  refine Sp.of (by decide) rfl rfl (Nat.le_of_ble_eq_true rfl) ?_
  show Go N mX9_find _ 0 0 h 0 [(0, .ref (B)), (1, .int (gI (a)))] []
  obtain ⟨gp, gt, hc1, hc2, hc3, hc4, hc5⟩ := hT
  refine g_iload_n 1 dX9_find_0 rfl ?_
  refine g_if_lt (tgt := 28) dX9_find_1 rfl (by first | exact gW_a | (unfold gW; omega)) (fun c1 => ?_) (fun c1 => ?_)
  · skip
    refine g_null dX9_find_28 ?_
    exact g_aret (a := none) dX9_find_29 rfl ⟨rfl, Or.inr ⟨gT_n (fun ⟨y1, y2, y3⟩ => by omega), rfl⟩⟩
  · skip
    refine g_iload_n 1 dX9_find_4 rfl ?_
    refine g_bipush dX9_find_5 (by decide) ?_
    refine g_icmp_ge (tgt := 28) dX9_find_7 rfl (by first | exact gW_a | (unfold gW; omega)) (by first | exact gW_a | (unfold gW; omega)) (fun c2 => ?_) (fun c2 => ?_)
    · skip
      refine g_null dX9_find_28 ?_
      exact g_aret (a := none) dX9_find_29 rfl ⟨rfl, Or.inr ⟨gT_n (fun ⟨y1, y2, y3⟩ => by omega), rfl⟩⟩
    · skip
      refine g_aload_n 0 dX9_find_10 rfl ?_
      refine g_getf 2 dX9_find_11 kX9 (by decide) fX9_22 hob rfl ?_
      refine g_iload_n 1 dX9_find_14 rfl ?_
      refine g_baload dX9_find_15 hc2 (by omega) (by omega) (by omega) ?_
      have hgt : gt a = 0 ∨ gt a = 1 := by
                                                                      rcases hc3 a (by omega) (by omega) with y | ⟨F, q, y1, y2, _⟩
                                                                      · exact Or.inl y.2
                                                                      · exact Or.inr y2
      refine g_if_eq (tgt := 28) dX9_find_16 rfl (by first | exact gW_a | (unfold gW; omega)) (fun c3 => ?_) (fun c3 => ?_)
      · skip
        refine g_null dX9_find_28 ?_
        exact g_aret (a := none) dX9_find_29 rfl ⟨rfl, Or.inr ⟨gT_n (fun ⟨y1, y2, F, y3⟩ => by
                                                                      rcases hc3 a (by omega) (by omega) with y | ⟨G, q, y4, y5, _⟩
                                                                      · rw [y3] at y; exact absurd y.1 (by simp)
                                                                      · omega), rfl⟩⟩
      · skip
        obtain ⟨F, q, z1, z2, z3, z4⟩ : ∃ F q, T a.toNat = some F ∧ gt a = 1 ∧ gp a = some q ∧ PP hp h q F := by
                                                                      rcases hc3 a (by omega) (by omega) with y | y
                                                                      · omega
                                                                      · exact y
        refine g_aload_n 0 dX9_find_19 rfl ?_
        refine g_getf 1 dX9_find_20 kX9 (by decide) fX9_18 hob rfl ?_
        refine g_iload_n 1 dX9_find_23 rfl ?_
        refine g_aaload dX9_find_24 (by decide) hc1 (by omega) (by omega) (by decide) ?_
        rw [z3]
        refine Go.nf (h' := h) (st' := [.ref q]) rfl rfl (Nat.le_refl _) (Nat.le_refl _) ?_
        refine g_goto (tgt := 29) dX9_find_25 rfl ?_
        exact g_aret (a := some (q)) dX9_find_29 rfl ⟨rfl, Or.inl ⟨F, q, gT_s (by omega) (by omega) z1, rfl, (hc4 a q z3).1, z4⟩⟩
set_option maxHeartbeats 4000000 in
set_option maxRecDepth 100000 in
theorem sC_keep (N : GN) (h : GH) (B p : Nat) (hp : prm p) (hp2 : p ≤ 65536) (c : Int) (X V : Int → Int) (fa sy : Value) (T : PT p) (F : Pxy p) (hcs : CSt p B h c X V fa sy) (hT : CP hp B h T) (hF : PP hp h (B + 27) F) : Sp N yX9_keep mX9_keep 2 290 [.ref (B), .ref (B + 27)] h (fun v h1 => ∃ w, isK T w ∧ v = some (.int (gI w)) ∧ CP hp B h1 (putT T w F) ∧ FK (kpK B) h h1) := by
  refine Sp.of (by decide) rfl rfl (Nat.le_of_ble_eq_true rfl) ?_
  show Go N mX9_keep _ 2 290 h 0 [(0, .ref (B)), (1, .ref (B + 27))] []
  have hob := hcs.1
  have hlo := hcs.2.2.2.2.2.2.2.2.2
  obtain ⟨gp, gt, hc1, hc2, hc3, hc4, hc5⟩ := hT
  refine g_iconst dX9_keep_0 ?_
  refine g_istore_n (ls2 := [(2, .int (gI (0))), (0, .ref (B)), (1, .ref (B + 27))]) dX9_keep_1 rfl (by decide) rfl ?_
  have lo : ∀ (kk : Nat) (k : Int) (hlo : GH), kk = (100 - k).toNat → Fr [] h hlo → PP hp hlo (B + 27) (F) → (0 ≤ k) → (k ≤ 100) → (∀ j : Nat, (j : Int) < k → T j ≠ none) → Go N mX9_keep (fun v h1 => ∃ w, isK T w ∧ v = some (.int (gI w)) ∧ CP hp B h1 (putT T w F) ∧ FK (kpK B) h h1) 2 290 hlo 2 [(2, .int (gI (k))), (0, .ref (B)), (1, .ref (B + 27))] [] := by
    refine Go.ind (fun kk ih_lo => ?_)
    intro k hlo hkk_lo fr_lo cr_lo_0 hk0 hk1 hE
    have cg_lo_0 : hlo.2 (B) = some (cO B (fa) (sy)) := Fr.at0 fr_lo (Ni.n _) hob
    have cg_lo_1 : hlo.2 (B + 2) = some (aR "PolyWork$Poly" 100 (gp)) := Fr.at0 fr_lo (Ni.n _) hc1
    have cg_lo_2 : hlo.2 (B + 3) = some (aZ 100 (gt)) := Fr.at0 fr_lo (Ni.n _) hc2
    refine g_iload_n 0 dX9_keep_2 rfl ?_
    refine g_bipush dX9_keep_3 (by decide) ?_
    refine g_icmp_ge (tgt := 64) dX9_keep_5 rfl (by unfold gW; omega) (by unfold gW; omega) (fun c101 => ?_) (fun c101 => ?_)
    · skip
      refine g_bipush dX9_keep_64 (by decide) ?_
      exact g_iret dX9_keep_66 rfl ⟨-5, Or.inl ⟨rfl, fun j j1 => hE j (by omega)⟩, rfl, by
                                                                      have hh0 : hlo = h := Fr.e0 fr_lo
                                                                      rw [hh0]
                                                                      refine ⟨?_, FK.rf _ _⟩
                                                                      have e9 : putT T (-5) F = T := funext fun j => if_neg (by omega)
                                                                      rw [e9]; exact ⟨gp, gt, hc1, hc2, hc3, hc4, hc5⟩⟩
    · skip
      refine g_aload_n 1 dX9_keep_8 rfl ?_
      refine g_getf 2 dX9_keep_9 kX9 (by decide) fX9_22 cg_lo_0 rfl ?_
      refine g_iload_n 0 dX9_keep_12 rfl ?_
      refine g_baload dX9_keep_13 cg_lo_2 (by omega) (by omega) (by omega) ?_
      have hgt : gt k = 0 ∨ gt k = 1 := by
                                                                      rcases hc3 k (by omega) (by omega) with y | ⟨F, q, y1, y2, _⟩
                                                                      · exact Or.inl y.2
                                                                      · exact Or.inr y2
      refine g_if_ne (tgt := 58) dX9_keep_14 rfl (by unfold gW; omega) (fun c102 => ?_) (fun c102 => ?_)
      · skip
        refine g_iinc 0 (ls2 := [(2, .int (gI (k + 1))), (0, .ref (B)), (1, .ref (B + 27))]) dX9_keep_58 rfl (by decide) rfl ?_
        refine g_goto (tgt := 2) dX9_keep_61 rfl ?_
        exact ih_lo _ (by omega) (k + 1) hlo rfl fr_lo cr_lo_0 (by omega) (by omega) (fun j j1 => by
                                                                      rcases Int.lt_or_le (j : Int) k with z | z
                                                                      · exact hE j z
                                                                      · rw [show j = k.toNat by omega]
                                                                        rcases hc3 k hk0 (by omega) with y | ⟨F, q, y1, y2⟩
                                                                        · omega
                                                                        · rw [y1]; simp)
      · skip
        have hTk : T k.toNat = none := by
                                                                      rcases hc3 k (by omega) (by omega) with y | ⟨F, q, y1, y2, _⟩
                                                                      · exact y.1
                                                                      · omega
        have hh0 : h = hlo := (Fr.e0 fr_lo).symm
        subst hh0
        refine g_aload_n 1 dX9_keep_17 rfl ?_
        refine g_getf 1 dX9_keep_18 kX9 (by decide) fX9_18 cg_lo_0 rfl ?_
        refine g_iload_n 0 dX9_keep_21 rfl ?_
        refine g_aaload dX9_keep_22 (by decide) cg_lo_1 (by omega) (by omega) (by decide) ?_
        refine Go.wf (fun wf => ?_)
        rcases hgp : gp k with _ | q
        · skip
          refine Go.nf (h' := h) (st' := [.null]) rfl rfl (Nat.le_refl _) (Nat.le_refl _) ?_
          refine g_ifnnN (x := 0) (tgt := 39) dX9_keep_23 rfl ?_
          refine g_aload_n 1 dX9_keep_26 rfl ?_
          refine g_getf 1 dX9_keep_27 kX9 (by decide) fX9_18 cg_lo_0 rfl ?_
          refine g_iload_n 0 dX9_keep_30 rfl ?_
          refine Go.wf (fun wf103 => ?_)
          refine g_new (fs := [.null, .int (gI (0)), .int (gI (0))]) dX9_keep_31 kX4 cX9_16 niX4 nzX4 (by decide) (by omega) (by omega) ?_
          obtain ⟨hh103, eh103⟩ : ∃ z : GH, z = hnew h (oB 4 [.null, .int (gI (0)), .int (gI (0))]) := ⟨_, rfl⟩
          refine Go.hp eh103.symm ?_
          obtain ⟨qa103, eq103⟩ : ∃ z : Nat, z = h.1 := ⟨_, rfl⟩
          rw [← eq103]
          have ln103_0 : B < qa103 := by rw [eq103]; exact wf103 _ _ cg_lo_0
          have fh103_0 : hh103.2 (B) = some (cO B (fa) (sy)) := by rw [eh103, hnew_n _ _ (by omega)]; exact cg_lo_0
          have ln103_1 : B + 2 < qa103 := by rw [eq103]; exact wf103 _ _ cg_lo_1
          have fh103_1 : hh103.2 (B + 2) = some (aR "PolyWork$Poly" 100 (gp)) := by rw [eh103, hnew_n _ _ (by omega)]; exact cg_lo_1
          have ln103_2 : B + 3 < qa103 := by rw [eq103]; exact wf103 _ _ cg_lo_2
          have fh103_2 : hh103.2 (B + 3) = some (aZ 100 (gt)) := by rw [eh103, hnew_n _ _ (by omega)]; exact cg_lo_2
          have fq103 : hh103.2 (qa103) = some (oB 4 [.null, .int (gI (0)), .int (gI (0))]) := by rw [eh103, eq103]; exact hnew_s _ _
          refine g_dup dX9_keep_34 rfl ?_
          refine Go.wf (fun wg105 => ?_)
          refine g_callIN (host := "PolyWork") (nc2 := 1) (ns2 := 287) (As := []) (st := [.ref (qa103), .int (gI (k)), .ref (B + 2)]) rfl dX9_keep_35 okX4_init rfl (by decide) itX4_init rfl (by decide) (by decide) rfl (Nat.le_of_ble_eq_true rfl) (sX4_initG N _ (qa103) fq103) (by omega) (by omega) (fun v104 hc104 q104 => ?_)
          obtain ⟨rfl, hq105⟩ := q104
          have hn1 : hh103.1 = qa103 + 1 := by rw [eh103, eq103]; rfl
          rw [hn1] at hq105
          have lm105_0 : B < qa103 := by rw [eq103]; exact wf103 _ _ (cg_lo_0)
          have fi105_0 : hc104.2 (B) = some (cO B (fa) (sy)) := by rw [hq105, hset_n _ _ (by omega), hnew_n _ _ (by omega)]; exact fh103_0
          have lm105_1 : B + 2 < qa103 := by rw [eq103]; exact wf103 _ _ (cg_lo_1)
          have fi105_1 : hc104.2 (B + 2) = some (aR "PolyWork$Poly" 100 (gp)) := by rw [hq105, hset_n _ _ (by omega), hnew_n _ _ (by omega)]; exact fh103_1
          have lm105_2 : B + 3 < qa103 := by rw [eq103]; exact wf103 _ _ (cg_lo_2)
          have fi105_2 : hc104.2 (B + 3) = some (aZ 100 (gt)) := by rw [hq105, hset_n _ _ (by omega), hnew_n _ _ (by omega)]; exact fh103_2
          have fi105_3 : hc104.2 (qa103) = some (oB 4 [.ref (qa103 + 1), .int (gI (-1)), .int (gI (-1))]) := by rw [hq105]; exact hset_s _ _ _
          have fin105 : hc104.2 (qa103 + 1) = some (aJ 287 (fun _ => 0)) := by rw [hq105, hset_n _ _ (by omega), ← hn1]; exact hnew_s _ _
          refine Go.nf (h' := hc104) (st' := [.ref (qa103), .int (gI (k)), .ref (B + 2)]) rfl rfl (Nat.le_refl _) (Nat.le_refl _) ?_
          refine g_aastore dX9_keep_38 (by decide) kX4 fi105_1 fi105_3 (by omega) (by omega) (by decide) ?_
          obtain ⟨hh106, eh106⟩ : ∃ z : GH, z = hset hc104 (B + 2) (aR "PolyWork$Poly" 100 (gup (gp) (k) (some (qa103)))) := ⟨_, rfl⟩
          refine Go.hp eh106.symm ?_
          have fh106_0 : hh106.2 (B) = some (cO B (fa) (sy)) := hs_n eh106 (show NE (B) (B + 2) by unfold NE; omega) fi105_0
          have fh106_1 : hh106.2 (B + 2) = some (aR "PolyWork$Poly" 100 (gup (gp) (k) (some (qa103)))) := hs_s eh106
          have fh106_2 : hh106.2 (B + 3) = some (aZ 100 (gt)) := hs_n eh106 (show NE (B + 3) (B + 2) by unfold NE; omega) fi105_2
          have fh106_3 : hh106.2 (qa103) = some (oB 4 [.ref (qa103 + 1), .int (gI (-1)), .int (gI (-1))]) := hs_n eh106 (show NE (qa103) (B + 2) by unfold NE; omega) fi105_3
          have fh106_4 : hh106.2 (qa103 + 1) = some (aJ 287 (fun _ => 0)) := hs_n eh106 (show NE (qa103 + 1) (B + 2) by unfold NE; omega) fin105
          have unX : ∀ x, x < h.1 → x ≠ B + 2 → hh106.2 x = h.2 x := fun x x0 x1 => by
                                                                      rw [eh106, hset_n _ _ x1, hq105, hset_n _ _ (by omega), hnew_n _ _ (by omega), eh103, hnew_n _ _ (by omega)]
          have hp27 : PP hp hh106 (B + 27) F := gp_S (q := 0) hF (fun x hx => unX x (by have := hF.ra.lt wf; omega) (by omega))
          have hqA : PA hh106 qa103 := ⟨-1, -1, fun _ => 0, fh106_3, fh106_4, fun _ => by show gX 0; unfold gX; omega⟩
          have hqB : B + 58 ≤ qa103 := by omega
          have hle : h.1 ≤ hh106.1 := by
                                                                      have e9 : hh106.1 = hh103.1 + 1 := by rw [eh106, hq105]; rfl
                                                                      omega
          refine g_aload_n 1 dX9_keep_39 rfl ?_
          refine g_getf 1 dX9_keep_40 kX9 (by decide) fX9_18 fh106_0 rfl ?_
          refine g_iload_n 0 dX9_keep_43 rfl ?_
          refine g_aaload dX9_keep_44 (by decide) fh106_1 (by omega) (by omega) (by decide) ?_
          rw [gup_s]
          refine g_aload_n 2 dX9_keep_45 rfl ?_
          refine g_callV (nc2 := 0) (ns2 := 0) (ci := 4) (As := [.ref (B + 27)]) (st := []) rfl dX9_keep_46 okX4_copy lX9_127 itX4_copy seX4_copy rfl (Classical.choose_spec (PA.o hqA)) (by decide) (by decide) rfl (Nat.le_of_ble_eq_true rfl) (sQ_copy N _ (qa103) (B + 27) p hp hp2 F hqA hp27 (show AP (qa103) (B + 27) by unfold AP; omega)) (by omega) (by omega) (fun v107 hc107 q107 => ?_)
          obtain ⟨rfl, frc, ppq⟩ := q107
          have fk108_0 : hc107.2 (B) = some (cO B (fa) (sy)) := Fr.at0 frc (Ni.c ⟨show NE (B) (qa103) by unfold NE; omega, show NE (B) (qa103 + 1) by unfold NE; omega⟩ (Ni.n _)) fh106_0
          have fk108_1 : hc107.2 (B + 2) = some (aR "PolyWork$Poly" 100 (gup (gp) (k) (some (qa103)))) := Fr.at0 frc (Ni.c ⟨show NE (B + 2) (qa103) by unfold NE; omega, show NE (B + 2) (qa103 + 1) by unfold NE; omega⟩ (Ni.n _)) fh106_1
          have fk108_2 : hc107.2 (B + 3) = some (aZ 100 (gt)) := Fr.at0 frc (Ni.c ⟨show NE (B + 3) (qa103) by unfold NE; omega, show NE (B + 3) (qa103 + 1) by unfold NE; omega⟩ (Ni.n _)) fh106_2
          refine Go.nf (h' := hc107) (st' := []) rfl rfl (Nat.le_refl _) (Nat.le_refl _) ?_
          refine g_aload_n 1 dX9_keep_49 rfl ?_
          refine g_getf 2 dX9_keep_50 kX9 (by decide) fX9_22 fk108_0 rfl ?_
          refine g_iload_n 0 dX9_keep_53 rfl ?_
          refine g_iconst dX9_keep_54 ?_
          refine g_bastore dX9_keep_55 fk108_2 (by omega) (by omega) (by omega) (by omega) ?_
          obtain ⟨hh109, eh109⟩ : ∃ z : GH, z = hset hc107 (B + 3) (aZ 100 (gup (gt) (k) (1))) := ⟨_, rfl⟩
          refine Go.hp eh109.symm ?_
          have fh109_0 : hh109.2 (B) = some (cO B (fa) (sy)) := hs_n eh109 (show NE (B) (B + 3) by unfold NE; omega) fk108_0
          have fh109_1 : hh109.2 (B + 2) = some (aR "PolyWork$Poly" 100 (gup (gp) (k) (some (qa103)))) := hs_n eh109 (show NE (B + 2) (B + 3) by unfold NE; omega) fk108_1
          have fh109_2 : hh109.2 (B + 3) = some (aZ 100 (gup (gt) (k) (1))) := hs_s eh109
          refine g_iload_n 0 dX9_keep_56 rfl ?_
          exact g_iret dX9_keep_57 rfl ⟨k, Or.inr ⟨hk0, by omega, hTk, hE⟩, rfl, CP.put (q := qa103) (gp2 := gup gp k (some (qa103))) wf hc3 hc4 hc5 hk0 (by omega) hTk (Or.inr ⟨hgp, eq103, rfl⟩) hqB (gp_S (q := 0) ppq (fun x hx => by rw [eh109]; exact hset_n _ _ (by omega))) (by rw [eh109]; show h.1 ≤ hc107.1; rw [frc.1]; exact hle) fh109_1 fh109_2 (fun x x0 x1 x2 x3 x4 => by
                                                                      rw [eh109, hset_n _ _ x2, frc.2 x (Ni.c ⟨x3, x4⟩ (Ni.n _))]; exact unX x x0 x1)⟩
        · skip
          refine Go.nf (h' := h) (st' := [.ref (q)]) rfl rfl (Nat.le_refl _) (Nat.le_refl _) ?_
          have hqB := (hc4 k q hgp).1
          have hqA := (hc4 k q hgp).2
          refine g_ifnn (tgt := 39) dX9_keep_23 rfl ?_
          refine g_aload_n 1 dX9_keep_39 rfl ?_
          refine g_getf 1 dX9_keep_40 kX9 (by decide) fX9_18 cg_lo_0 rfl ?_
          refine g_iload_n 0 dX9_keep_43 rfl ?_
          refine g_aaload dX9_keep_44 (by decide) cg_lo_1 (by omega) (by omega) (by decide) ?_
          rw [hgp]
          refine Go.nf (h' := h) (st' := [.ref (q)]) rfl rfl (Nat.le_refl _) (Nat.le_refl _) ?_
          refine g_aload_n 2 dX9_keep_45 rfl ?_
          refine g_callV (nc2 := 0) (ns2 := 0) (ci := 4) (As := [.ref (B + 27)]) (st := []) rfl dX9_keep_46 okX4_copy lX9_127 itX4_copy seX4_copy rfl (Classical.choose_spec (PA.o hqA)) (by decide) (by decide) rfl (Nat.le_of_ble_eq_true rfl) (sQ_copy N _ (q) (B + 27) p hp hp2 F hqA cr_lo_0 (show AP (q) (B + 27) by unfold AP; omega)) (by omega) (by omega) (fun v110 hc110 q110 => ?_)
          obtain ⟨rfl, frc, ppq⟩ := q110
          have fk111_0 : hc110.2 (B) = some (cO B (fa) (sy)) := Fr.at0 frc (Ni.c ⟨show NE (B) (q) by unfold NE; omega, show NE (B) (q + 1) by unfold NE; omega⟩ (Ni.n _)) cg_lo_0
          have fk111_1 : hc110.2 (B + 2) = some (aR "PolyWork$Poly" 100 (gp)) := Fr.at0 frc (Ni.c ⟨show NE (B + 2) (q) by unfold NE; omega, show NE (B + 2) (q + 1) by unfold NE; omega⟩ (Ni.n _)) cg_lo_1
          have fk111_2 : hc110.2 (B + 3) = some (aZ 100 (gt)) := Fr.at0 frc (Ni.c ⟨show NE (B + 3) (q) by unfold NE; omega, show NE (B + 3) (q + 1) by unfold NE; omega⟩ (Ni.n _)) cg_lo_2
          refine Go.nf (h' := hc110) (st' := []) rfl rfl (Nat.le_refl _) (Nat.le_refl _) ?_
          refine g_aload_n 1 dX9_keep_49 rfl ?_
          refine g_getf 2 dX9_keep_50 kX9 (by decide) fX9_22 fk111_0 rfl ?_
          refine g_iload_n 0 dX9_keep_53 rfl ?_
          refine g_iconst dX9_keep_54 ?_
          refine g_bastore dX9_keep_55 fk111_2 (by omega) (by omega) (by omega) (by omega) ?_
          obtain ⟨hh112, eh112⟩ : ∃ z : GH, z = hset hc110 (B + 3) (aZ 100 (gup (gt) (k) (1))) := ⟨_, rfl⟩
          refine Go.hp eh112.symm ?_
          have fh112_0 : hh112.2 (B) = some (cO B (fa) (sy)) := hs_n eh112 (show NE (B) (B + 3) by unfold NE; omega) fk111_0
          have fh112_1 : hh112.2 (B + 2) = some (aR "PolyWork$Poly" 100 (gp)) := hs_n eh112 (show NE (B + 2) (B + 3) by unfold NE; omega) fk111_1
          have fh112_2 : hh112.2 (B + 3) = some (aZ 100 (gup (gt) (k) (1))) := hs_s eh112
          refine g_iload_n 0 dX9_keep_56 rfl ?_
          exact g_iret dX9_keep_57 rfl ⟨k, Or.inr ⟨hk0, by omega, hTk, hE⟩, rfl, CP.put (q := q) (gp2 := gp) wf hc3 hc4 hc5 hk0 (by omega) hTk (Or.inl ⟨hgp, rfl⟩) hqB (gp_S (q := 0) ppq (fun x hx => by rw [eh112]; exact hset_n _ _ (by omega))) (by rw [eh112]; exact Nat.le_of_eq frc.1.symm) fh112_1 fh112_2 (fun x x0 x1 x2 x3 x4 => by
                                                                      rw [eh112, hset_n _ _ x2, frc.2 x (Ni.c ⟨x3, x4⟩ (Ni.n _))])⟩
  exact lo _ (0) h rfl (Fr.rf [] h) hF (by omega) (by omega) (fun j j1 => by omega)
