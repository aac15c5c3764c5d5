set_option maxHeartbeats 4000000 in
set_option maxRecDepth 100000 in
theorem sF_isBefore (N : GN) (h : GH) (a b p : Nat) (hp : prm p) (hp2 : p ≤ 65536) (fa fb : Px p) (ha : RP hp 84 h a fa) (hb : RP hp 84 h b fb) : Sp N yX0_isBefore mX0_isBefore 0 0 [.ref (a), .ref (b)] h (fun v h1 => h1 = h ∧ ((ltP hp fa fb ∧ v = some (.int (gI 1))) ∨ (¬ ltP hp fa fb ∧ v = some (.int (gI 0))))) := by
  refine Sp.of (by decide) rfl rfl (Nat.le_of_ble_eq_true rfl) ?_
  show Go N mX0_isBefore _ 0 0 h 0 [(0, .ref (a)), (1, .ref (b))] []
  obtain ⟨ga, ⟨a1, a2, a3, a4, a5, a6, a7⟩, hPa⟩ := ha
  obtain ⟨gb, ⟨b1, b2, b3, b4, b5, b6, b7⟩, hPb⟩ := hb
  have hp1 := hp.1
  refine g_aload_n 0 dX0_isBefore_0 rfl ?_
  refine g_getf 1 dX0_isBefore_1 kX5 (by decide) fX0_93 a1 rfl ?_
  refine g_aload_n 1 dX0_isBefore_4 rfl ?_
  refine g_getf 1 dX0_isBefore_5 kX5 (by decide) fX0_93 b1 rfl ?_
  refine g_icmp_eq (tgt := 28) dX0_isBefore_8 rfl (by first | assumption | (unfold gW; omega) | (unfold gW; split <;> omega)) (by first | assumption | (unfold gW; omega) | (unfold gW; split <;> omega)) (fun c1 => ?_) (fun c1 => ?_)
  · skip
    refine g_aload_n 0 dX0_isBefore_28 rfl ?_
    refine g_getf 1 dX0_isBefore_29 kX5 (by decide) fX0_93 a1 rfl ?_
    refine g_istore_n (ls2 := [(2, .int (gI (dgi hp fa))), (0, .ref (a)), (1, .ref (b))]) dX0_isBefore_32 rfl (by decide) rfl ?_
    have lk : ∀ (kk : Nat) (k : Int) (hlk : GH), kk = (k + 1).toNat → Fr [] h hlk → (-1 ≤ k ∧ k ≤ dgi hp fa) → (∀ m, k < m → cf fa m = cf fb m) → Go N mX0_isBefore (fun v h1 => h1 = h ∧ ((ltP hp fa fb ∧ v = some (.int (gI 1))) ∨ (¬ ltP hp fa fb ∧ v = some (.int (gI 0))))) 0 0 hlk 33 [(2, .int (gI (k))), (0, .ref (a)), (1, .ref (b))] [] := by
      refine Go.ind (fun kk ih_lk => ?_)
      intro k hlk hkk_lk fr_lk hk hE
      have cg_lk_0 : hlk.2 (a) = some (oB 5 [.ref (a + 1), .int (gI (dgi hp fa))]) := Fr.at0 fr_lk (Ni.n _) a1
      have cg_lk_1 : hlk.2 (a + 1) = some (aJ 84 (ga)) := Fr.at0 fr_lk (Ni.n _) a2
      have cg_lk_2 : hlk.2 (b) = some (oB 5 [.ref (b + 1), .int (gI (dgi hp fb))]) := Fr.at0 fr_lk (Ni.n _) b1
      have cg_lk_3 : hlk.2 (b + 1) = some (aJ 84 (gb)) := Fr.at0 fr_lk (Ni.n _) b2
      refine g_iload_n 0 dX0_isBefore_33 rfl ?_
      refine g_if_lt (tgt := 81) dX0_isBefore_34 rfl (by first | assumption | (unfold gW; omega) | (unfold gW; split <;> omega)) (fun c102 => ?_) (fun c102 => ?_)
      · skip
        refine g_iconst dX0_isBefore_81 ?_
        exact g_zret dX0_isBefore_82 rfl (by omega) ⟨Fr.e0 fr_lk, Or.inr ⟨by
                                                                      rintro (z | ⟨_, x, x0, x1, x2⟩)
                                                                      · omega
                                                                      · have := hE x (by omega); omega, rfl⟩⟩
      · skip
        have ea : ga k = cf fa k := PO_cf hPa (by omega) (by omega)
        have eb : gb k = cf fb k := PO_cf hPb (by omega) (by omega)
        have ia := cf_in fa hp k
        have ib := cf_in fb hp k
        have gxa : gX (ga k) := by unfold gX; omega
        have gxb : gX (gb k) := by unfold gX; omega
        refine g_aload_n 1 dX0_isBefore_37 rfl ?_
        refine g_getf 0 dX0_isBefore_38 kX5 (by decide) fX0_139 cg_lk_0 rfl ?_
        refine g_iload_n 0 dX0_isBefore_41 rfl ?_
        refine g_laload dX0_isBefore_42 cg_lk_1 (by omega) (by omega) (by omega) ?_
        refine g_aload_n 2 dX0_isBefore_43 rfl ?_
        refine g_getf 0 dX0_isBefore_44 kX5 (by decide) fX0_139 cg_lk_2 rfl ?_
        refine g_iload_n 0 dX0_isBefore_47 rfl ?_
        refine g_laload dX0_isBefore_48 cg_lk_3 (by omega) (by omega) (by omega) ?_
        refine g_lcmp dX0_isBefore_49 (by first | assumption | (unfold gX; omega)) (by unfold gX; omega) ?_
        refine g_if_eq (tgt := 75) dX0_isBefore_50 rfl (gW_cmp _ _) (fun c103 => ?_) (fun c103 => ?_)
        · skip
          have hz := gcmp_eq.mp c103
          refine g_iinc 0 (ls2 := [(2, .int (gI (k + (-1)))), (0, .ref (a)), (1, .ref (b))]) dX0_isBefore_75 rfl (by decide) rfl ?_
          refine g_goto (tgt := 33) dX0_isBefore_78 rfl ?_
          exact ih_lk _ (by omega) (k - 1) hlk rfl fr_lk (by omega) (fun m m1 => by
                                                                      rcases Int.lt_or_le k m with z | z
                                                                      · exact hE m z
                                                                      · rw [show m = k by omega, ← ea, ← eb]; exact hz)
        · skip
          have hz : ¬ ga k = gb k := fun z => c103 (gcmp_eq.mpr z)
          refine g_aload_n 1 dX0_isBefore_53 rfl ?_
          refine g_getf 0 dX0_isBefore_54 kX5 (by decide) fX0_139 cg_lk_0 rfl ?_
          refine g_iload_n 0 dX0_isBefore_57 rfl ?_
          refine g_laload dX0_isBefore_58 cg_lk_1 (by omega) (by omega) (by omega) ?_
          refine g_aload_n 2 dX0_isBefore_59 rfl ?_
          refine g_getf 0 dX0_isBefore_60 kX5 (by decide) fX0_139 cg_lk_2 rfl ?_
          refine g_iload_n 0 dX0_isBefore_63 rfl ?_
          refine g_laload dX0_isBefore_64 cg_lk_3 (by omega) (by omega) (by omega) ?_
          refine g_lcmp dX0_isBefore_65 (by first | assumption | (unfold gX; omega)) (by unfold gX; omega) ?_
          refine g_if_ge (tgt := 73) dX0_isBefore_66 rfl (gW_cmp _ _) (fun c104 => ?_) (fun c104 => ?_)
          · skip
            have hlt : ¬ ga k < gb k := fun z => by have := gcmp_lt.mpr z; omega
            refine g_iconst dX0_isBefore_73 ?_
            exact g_zret dX0_isBefore_74 rfl (by omega) ⟨Fr.e0 fr_lk, Or.inr ⟨by
                                                                      rintro (z | ⟨_, x, x0, x1, x2⟩)
                                                                      · omega
                                                                      · rcases Int.lt_trichotomy x k with y | y | y
                                                                        · have := x2 k y; omega
                                                                        · rw [y] at x1; omega
                                                                        · have := hE x y; omega, rfl⟩⟩
          · skip
            have hlt : ga k < gb k := gcmp_lt.mp (by omega)
            refine g_iconst dX0_isBefore_69 ?_
            refine g_goto (tgt := 74) dX0_isBefore_70 rfl ?_
            exact g_zret dX0_isBefore_74 rfl (by omega) ⟨Fr.e0 fr_lk, Or.inl ⟨Or.inr ⟨by omega, k, by omega, by omega, hE⟩, rfl⟩⟩
    exact lk _ (dgi hp fa) h rfl (Fr.rf [] h) (by omega) (fun m m1 => by rw [cf_hi hp hPa.po (by omega), cf_hi hp hPb.po (by omega)])
  · skip
    refine g_aload_n 0 dX0_isBefore_11 rfl ?_
    refine g_getf 1 dX0_isBefore_12 kX5 (by decide) fX0_93 a1 rfl ?_
    refine g_aload_n 1 dX0_isBefore_15 rfl ?_
    refine g_getf 1 dX0_isBefore_16 kX5 (by decide) fX0_93 b1 rfl ?_
    refine g_icmp_ge (tgt := 26) dX0_isBefore_19 rfl (by first | assumption | (unfold gW; omega) | (unfold gW; split <;> omega)) (by first | assumption | (unfold gW; omega) | (unfold gW; split <;> omega)) (fun c205 => ?_) (fun c205 => ?_)
    · skip
      refine g_iconst dX0_isBefore_26 ?_
      exact g_zret dX0_isBefore_27 rfl (by omega) ⟨rfl, Or.inr ⟨by rintro (z | ⟨z, _⟩) <;> omega, rfl⟩⟩
    · skip
      refine g_iconst dX0_isBefore_22 ?_
      refine g_goto (tgt := 27) dX0_isBefore_23 rfl ?_
      exact g_zret dX0_isBefore_27 rfl (by omega) ⟨rfl, Or.inl ⟨Or.inl (by omega), rfl⟩⟩
