set_option maxHeartbeats 4000000 in
set_option maxRecDepth 100000 in
theorem law_go (N : GN) (B b L : Nat) (hb : N.2.2.2.2.1 = b) (hLn : N.2.2.2.2.2.1 = L) (hlen : L ≤ 6) : Go N mL_law (fun v _ => v = some (.int (gI 1))) 1000 200000 (hL B []) 0 [(0, .ref b)] [] := by
  have fin : ∀ (h : GH) (nc ns : Nat), Go N mL_law (fun v _ => v = some (.int (gI 1))) nc ns h 958 [(3, .int (gI (0))), (2, .ref (B + 35)), (1, .ref (B + 0)), (0, .ref (b))] [] := by
    intro h nc ns
    refine g_iinc 0 (ls2 := [(3, .int (gI (0 + 6))), (2, .ref (B + 35)), (1, .ref (B + 0)), (0, .ref (b))]) dL_law_958 rfl (by decide) rfl ?_
    refine g_goto (tgt := 18) dL_law_961 rfl ?_
    refine g_iload_n 0 dL_law_18 rfl ?_
    refine g_aload_n 3 dL_law_19 rfl ?_
    refine g_slen dL_law_20 rfl hb hLn ?_
    refine g_bipush dL_law_21 (by decide) ?_
    refine g_isub dL_law_23 ?_
    refine g_icmp_gt (tgt := 964) dL_law_24 rfl (by first | exact gW_t _ | (unfold gW at *; omega) | (unfold gW; split <;> omega)) (by first | exact gW_t _ | (unfold gW at *; omega) | (unfold gW; split <;> omega)) (fun c1 => ?_) (fun c1 => absurd c1 (by omega))
    refine g_iconst dL_law_964 ?_
    exact g_zret dL_law_965 rfl (by omega) rfl
  refine L_new (q := 0) [.null, .null, .null, .null, .null, .null, .null, .null, .null, .null, .null, .null] dL_law_0 kX9 cL_7 niX9 nzX9 (by decide) (by decide) (by decide) rfl (cs2 := [oB 9 [.null, .null, .null, .null, .null, .null, .null, .null, .null, .null, .null, .null]]) rfl ?_
  refine g_dup dL_law_3 rfl ?_
  refine g_callI (nc2 := 34) (ns2 := 1824) (As := []) (st := [.ref (B + 0)]) rfl dL_law_4 okX9_init rfl lL_9 itX9_init rfl (by decide) (by decide) rfl (Nat.le_of_ble_eq_true rfl) (eX9_init N B) (by omega) (by omega) (fun v h1 q => ?_)
  obtain ⟨rfl, rfl⟩ := q
  refine Go.nf (h' := hL B [oB 9 [.ref (B + 1), .ref (B + 2), .ref (B + 3), .ref (B + 4), .ref (B + 7), .ref (B + 24), .ref (B + 27), .ref (B + 29), .ref (B + 31), .ref (B + 33), .null, .null], oB 1 [.int (gI (2))], aR "PolyWork$Poly" 100 (fun _ => none), aZ 100 (fun _ => 0), oB 8 [.ref (B + 1), .ref (B + 5)], oB 4 [.ref (B + 6), .int (gI (-1)), .int (gI (-1))], aJ 287 (fun _ => 0), oB 2 [.ref (B + 1), .ref (B + 8), .ref (B + 10), .ref (B + 12), .ref (B + 14), .ref (B + 16), .ref (B + 18), .ref (B + 20), .ref (B + 22)], oB 5 [.ref (B + 9), .int (gI (-1))], aJ 84 (fun _ => 0), oB 5 [.ref (B + 11), .int (gI (-1))], aJ 84 (fun _ => 0), oB 5 [.ref (B + 13), .int (gI (-1))], aJ 84 (fun _ => 0), oB 5 [.ref (B + 15), .int (gI (-1))], aJ 84 (fun _ => 0), oB 5 [.ref (B + 17), .int (gI (-1))], aJ 84 (fun _ => 0), oB 5 [.ref (B + 19), .int (gI (-1))], aJ 84 (fun _ => 0), oB 5 [.ref (B + 21), .int (gI (-1))], aJ 84 (fun _ => 0), oB 5 [.ref (B + 23), .int (gI (-1))], aJ 84 (fun _ => 0), oB 3 [.ref (B + 1), .ref (B + 25), .ref (B + 26), .int (gI (0))], aJ 41 (fun _ => 0), aJ 41 (fun _ => 0), oB 4 [.ref (B + 28), .int (gI (-1)), .int (gI (-1))], aJ 287 (fun _ => 0), oB 5 [.ref (B + 30), .int (gI (-1))], aJ 84 (fun _ => 0), oB 5 [.ref (B + 32), .int (gI (-1))], aJ 84 (fun _ => 0), oB 5 [.ref (B + 34), .int (gI (-1))], aJ 84 (fun _ => 0)]) (st' := [.ref (B + 0)]) (nc' := 965) (ns' := 198164) rfl rfl (by omega) (by omega) ?_
  refine g_astore_n (ls2 := [(1, .ref (B + 0)), (0, .ref (b))]) dL_law_7 rfl (by decide) rfl ?_
  refine L_new (q := 35) [.int (gI (0)), .null, .null, .null, .null, .null, .null, .null, .null, .int (gI (0)), .int (gI (0)), .int (gI (0)), .null, .null, .null, .int (gI (0)), .null, .null, .null, .int (gI (0)), .null, .int (gI (0)), .null, .null, .null, .null, .null, .int (gI (0)), .null, .null] dL_law_8 kX10 cL_10 niX10 nzX10 (by decide) (by decide) (by decide) rfl (cs2 := [oB 9 [.ref (B + 1), .ref (B + 2), .ref (B + 3), .ref (B + 4), .ref (B + 7), .ref (B + 24), .ref (B + 27), .ref (B + 29), .ref (B + 31), .ref (B + 33), .null, .null], oB 1 [.int (gI (2))], aR "PolyWork$Poly" 100 (fun _ => none), aZ 100 (fun _ => 0), oB 8 [.ref (B + 1), .ref (B + 5)], oB 4 [.ref (B + 6), .int (gI (-1)), .int (gI (-1))], aJ 287 (fun _ => 0), oB 2 [.ref (B + 1), .ref (B + 8), .ref (B + 10), .ref (B + 12), .ref (B + 14), .ref (B + 16), .ref (B + 18), .ref (B + 20), .ref (B + 22)], oB 5 [.ref (B + 9), .int (gI (-1))], aJ 84 (fun _ => 0), oB 5 [.ref (B + 11), .int (gI (-1))], aJ 84 (fun _ => 0), oB 5 [.ref (B + 13), .int (gI (-1))], aJ 84 (fun _ => 0), oB 5 [.ref (B + 15), .int (gI (-1))], aJ 84 (fun _ => 0), oB 5 [.ref (B + 17), .int (gI (-1))], aJ 84 (fun _ => 0), oB 5 [.ref (B + 19), .int (gI (-1))], aJ 84 (fun _ => 0), oB 5 [.ref (B + 21), .int (gI (-1))], aJ 84 (fun _ => 0), oB 5 [.ref (B + 23), .int (gI (-1))], aJ 84 (fun _ => 0), oB 3 [.ref (B + 1), .ref (B + 25), .ref (B + 26), .int (gI (0))], aJ 41 (fun _ => 0), aJ 41 (fun _ => 0), oB 4 [.ref (B + 28), .int (gI (-1)), .int (gI (-1))], aJ 287 (fun _ => 0), oB 5 [.ref (B + 30), .int (gI (-1))], aJ 84 (fun _ => 0), oB 5 [.ref (B + 32), .int (gI (-1))], aJ 84 (fun _ => 0), oB 5 [.ref (B + 34), .int (gI (-1))], aJ 84 (fun _ => 0), oB 10 [.int (gI (0)), .null, .null, .null, .null, .null, .null, .null, .null, .int (gI (0)), .int (gI (0)), .int (gI (0)), .null, .null, .null, .int (gI (0)), .null, .null, .null, .int (gI (0)), .null, .int (gI (0)), .null, .null, .null, .null, .null, .int (gI (0)), .null, .null]]) rfl ?_
  refine g_dup dL_law_11 rfl ?_
  refine g_callI (nc2 := 22) (ns2 := 69012) (As := []) (st := [.ref (B + 35)]) rfl dL_law_12 okX10_init rfl lL_12 itX10_init rfl (by decide) (by decide) rfl (Nat.le_of_ble_eq_true rfl) (eX10_init N B) (by omega) (by omega) (fun v h1 q => ?_)
  obtain ⟨rfl, rfl⟩ := q
  refine Go.nf (h' := hL B [oB 9 [.ref (B + 1), .ref (B + 2), .ref (B + 3), .ref (B + 4), .ref (B + 7), .ref (B + 24), .ref (B + 27), .ref (B + 29), .ref (B + 31), .ref (B + 33), .null, .null], oB 1 [.int (gI (2))], aR "PolyWork$Poly" 100 (fun _ => none), aZ 100 (fun _ => 0), oB 8 [.ref (B + 1), .ref (B + 5)], oB 4 [.ref (B + 6), .int (gI (-1)), .int (gI (-1))], aJ 287 (fun _ => 0), oB 2 [.ref (B + 1), .ref (B + 8), .ref (B + 10), .ref (B + 12), .ref (B + 14), .ref (B + 16), .ref (B + 18), .ref (B + 20), .ref (B + 22)], oB 5 [.ref (B + 9), .int (gI (-1))], aJ 84 (fun _ => 0), oB 5 [.ref (B + 11), .int (gI (-1))], aJ 84 (fun _ => 0), oB 5 [.ref (B + 13), .int (gI (-1))], aJ 84 (fun _ => 0), oB 5 [.ref (B + 15), .int (gI (-1))], aJ 84 (fun _ => 0), oB 5 [.ref (B + 17), .int (gI (-1))], aJ 84 (fun _ => 0), oB 5 [.ref (B + 19), .int (gI (-1))], aJ 84 (fun _ => 0), oB 5 [.ref (B + 21), .int (gI (-1))], aJ 84 (fun _ => 0), oB 5 [.ref (B + 23), .int (gI (-1))], aJ 84 (fun _ => 0), oB 3 [.ref (B + 1), .ref (B + 25), .ref (B + 26), .int (gI (0))], aJ 41 (fun _ => 0), aJ 41 (fun _ => 0), oB 4 [.ref (B + 28), .int (gI (-1)), .int (gI (-1))], aJ 287 (fun _ => 0), oB 5 [.ref (B + 30), .int (gI (-1))], aJ 84 (fun _ => 0), oB 5 [.ref (B + 32), .int (gI (-1))], aJ 84 (fun _ => 0), oB 5 [.ref (B + 34), .int (gI (-1))], aJ 84 (fun _ => 0), oB 10 [.int (gI (2)), .ref (B + 36), .ref (B + 37), .ref (B + 38), .ref (B + 39), .ref (B + 40), .ref (B + 41), .ref (B + 42), .ref (B + 43), .int (gI (0)), .int (gI (0)), .int (gI (0)), .ref (B + 44), .ref (B + 45), .ref (B + 46), .int (gI (0)), .ref (B + 47), .ref (B + 48), .ref (B + 49), .int (gI (0)), .ref (B + 50), .int (gI (0)), .ref (B + 51), .ref (B + 52), .ref (B + 53), .ref (B + 54), .ref (B + 55), .int (gI (0)), .ref (B + 56), .ref (B + 57)], aZ 100 (fun _ => 0), aI 28700 (fun _ => 0), aI 1500 (fun _ => 0), aI 1500 (fun _ => 0), aI 8000 (fun _ => 0), aI 40 (fun _ => 0), aJ 6400 (fun _ => 0), aI 11520 (fun _ => 0), aI 41 (fun _ => 0), aI 41 (fun _ => 0), aI 1681 (fun _ => 0), aI 41 (fun _ => 0), aI 41 (fun _ => 0), aI 1681 (fun _ => 0), aI 41 (fun _ => 0), aI 100 (fun _ => 0), aI 4100 (fun _ => 0), aI 1681 (fun _ => 0), aI 41 (fun _ => 0), aI 1681 (fun _ => 0), aI 41 (fun _ => 0), aI 41 (fun _ => 0)]) (st' := [.ref (B + 35)]) (nc' := 942) (ns' := 129122) rfl rfl (by omega) (by omega) ?_
  refine g_astore_n (ls2 := [(2, .ref (B + 35)), (1, .ref (B + 0)), (0, .ref (b))]) dL_law_15 rfl (by decide) rfl ?_
  refine g_iconst dL_law_16 ?_
  refine g_istore_n (ls2 := [(3, .int (gI (0))), (2, .ref (B + 35)), (1, .ref (B + 0)), (0, .ref (b))]) dL_law_17 rfl (by decide) rfl ?_
  obtain ⟨h, hs⟩ : ∃ z : GH, z = hL B (cS B) := ⟨_, rfl⟩
  refine Go.hp hs.symm ?_
  have s0 : h.2 (B + 0) = some (oB 9 [.ref (B + 1), .ref (B + 2), .ref (B + 3), .ref (B + 4), .ref (B + 7), .ref (B + 24), .ref (B + 27), .ref (B + 29), .ref (B + 31), .ref (B + 33), .null, .null]) := by rw [hs]; exact hL_get rfl
  refine g_iload_n 0 dL_law_18 rfl ?_
  refine g_aload_n 3 dL_law_19 rfl ?_
  refine g_slen dL_law_20 rfl hb hLn ?_
  refine g_bipush dL_law_21 (by decide) ?_
  refine g_isub dL_law_23 ?_
  refine g_icmp_gt (tgt := 964) dL_law_24 rfl (by first | exact gW_t _ | (unfold gW at *; omega) | (unfold gW; split <;> omega)) (by first | exact gW_t _ | (unfold gW at *; omega) | (unfold gW; split <;> omega)) (fun c1001 => ?_) (fun c1001 => ?_)
  · skip
    refine g_iconst dL_law_964 ?_
    exact g_zret dL_law_965 rfl (by omega) rfl
  · skip
    refine g_aload_n 3 dL_law_27 rfl ?_
    refine g_iload_n 0 dL_law_28 rfl ?_
    refine g_sld dL_law_29 rfl hb hLn (by omega) (by omega) (by omega) ?_
    refine g_bipush dL_law_30 (by decide) ?_
    refine g_iand dL_law_32 ?_
    have ht := gAnd31 (gs N (0))
    generalize gAnd (gs N (0)) 31 = t at ht ⊢
    rcases (show t = 0 ∨ t = 1 ∨ t = 2 ∨ t = 3 ∨ t = 4 ∨ t = 5 ∨ t = 6 ∨ t = 7 ∨ t = 8 ∨ t = 9 ∨ t = 10 ∨ t = 11 ∨ t = 12 ∨ t = 13 ∨ t = 14 ∨ t = 15 ∨ t = 16 ∨ t = 17 ∨ t = 18 ∨ t = 19 ∨ 19 < t by omega) with rfl | rfl | rfl | rfl | rfl | rfl | rfl | rfl | rfl | rfl | rfl | rfl | rfl | rfl | rfl | rfl | rfl | rfl | rfl | rfl | ht2
    · refine g_tabIn (tgt := 128) dL_law_33 (by unfold gW; omega) (by omega) (by omega) rfl rfl ?_
      refine g_aload_n 2 dL_law_128 rfl ?_
      refine g_aload_n 3 dL_law_129 rfl ?_
      refine g_iload_n 0 dL_law_130 rfl ?_
      refine g_iconst dL_law_131 ?_
      refine g_iadd dL_law_132 ?_
      refine g_sld dL_law_133 rfl hb hLn (by omega) (by omega) (by omega) ?_
      refine g_callV (nc2 := 0) (ns2 := 0) (ci := 9) (As := [.int (gI (gs N ((0) + (1))))]) (st := []) rfl dL_law_134 okX9_prime lL_13 itX9_prime seX9_prime rfl s0 (by decide) (by decide) rfl (Nat.le_of_ble_eq_true rfl) (xprime N B _ hs (gs N ((0) + (1))) (gW_t _)) (by omega) (by omega) (fun v1002 hc1002 q1002 => ?_)
      obtain ⟨hx9, hM⟩ := q1002
      obtain ⟨r9, hr9, hv9⟩ : ∃ r9 : Int, ((gPrime (gs N ((0) + (1))) ∧ r9 = 1) ∨ (¬ gPrime (gs N ((0) + (1))) ∧ r9 = 0)) ∧ v1002 = some (.int (gI r9)) := by
        rcases hx9 with ⟨z1, z2⟩ | ⟨z1, z2⟩
        · exact ⟨1, Or.inl ⟨z1, rfl⟩, z2⟩
        · exact ⟨0, Or.inr ⟨z1, rfl⟩, z2⟩
      subst hv9
      have hw9 : 0 ≤ r9 ∧ r9 ≤ 1 := by rcases hr9 with ⟨-, z⟩ | ⟨-, z⟩ <;> omega
      refine Go.nf (h' := hc1002) (st' := [.int (gI (r9))]) rfl rfl (Nat.le_refl _) (Nat.le_refl _) ?_
      refine g_aload_n 1 dL_law_137 rfl ?_
      refine g_aload_n 3 dL_law_138 rfl ?_
      refine g_iload_n 0 dL_law_139 rfl ?_
      refine g_iconst dL_law_140 ?_
      refine g_iadd dL_law_141 ?_
      refine g_sld dL_law_142 rfl hb hLn (by omega) (by omega) (by omega) ?_
      refine g_callV (nc2 := 0) (ns2 := 0) (ci := 10) (As := [.int (gI (gs N ((0) + (1))))]) (st := [.int (gI (r9))]) rfl dL_law_143 okX10_prime lL_17 itX10_prime seX10_prime rfl (hM 35 _ (by omega) rfl) (by decide) (by decide) rfl (Nat.le_of_ble_eq_true rfl) (mprime N B _ hM (gs N ((0) + (1))) (gW_t _)) (by omega) (by omega) (fun v1003 hc1003 q1003 => ?_)
      have hv8 : v1003 = some (.int (gI r9)) := by
        rcases q1003 with ⟨z1, z2⟩ | ⟨z1, z2⟩ <;> rcases hr9 with ⟨y1, y2⟩ | ⟨y1, y2⟩
        · rw [z2, y2]
        · exact absurd z1 y1
        · exact absurd y1 z1
        · rw [z2, y2]
      subst hv8
      refine Go.nf (h' := hc1003) (st' := [.int (gI (r9)), .int (gI (r9))]) rfl rfl (Nat.le_refl _) (Nat.le_refl _) ?_
      refine g_icmp_eq (tgt := 958) dL_law_146 rfl (by first | exact gW_t _ | (unfold gW at *; omega) | (unfold gW; split <;> omega)) (by first | exact gW_t _ | (unfold gW at *; omega) | (unfold gW; split <;> omega)) (fun c1004 => ?_) (fun c1004 => absurd c1004 (by simp))
      exact fin _ _ _
    · refine g_tabIn (tgt := 151) dL_law_33 (by unfold gW; omega) (by omega) (by omega) rfl rfl ?_
      refine g_aload_n 2 dL_law_151 rfl ?_
      refine g_aload_n 3 dL_law_152 rfl ?_
      refine g_iload_n 0 dL_law_153 rfl ?_
      refine g_iconst dL_law_154 ?_
      refine g_iadd dL_law_155 ?_
      refine g_sld dL_law_156 rfl hb hLn (by omega) (by omega) (by omega) ?_
      refine g_i2l dL_law_157 (by first | exact gW_t _ | (unfold gW at *; omega) | (unfold gW; split <;> omega)) ?_
      refine g_bipush dL_law_158 (by decide) ?_
      refine g_lshl dL_law_160 ?_
      refine g_aload_n 3 dL_law_161 rfl ?_
      refine g_iload_n 0 dL_law_162 rfl ?_
      refine g_iconst dL_law_163 ?_
      refine g_iadd dL_law_164 ?_
      refine g_sld dL_law_165 rfl hb hLn (by omega) (by omega) (by omega) ?_
      refine g_i2l dL_law_166 (by first | exact gW_t _ | (unfold gW at *; omega) | (unfold gW; split <;> omega)) ?_
      refine g_ldc2 dL_law_167 vL_18 ?_
      refine g_land dL_law_170 ?_
      refine g_lor dL_law_171 ?_
      refine g_callV (nc2 := 2) (ns2 := 290) (ci := 9) (As := [.long (gJ (gOrL (gShlL (gs N ((0) + (1))) (32)) (gAndL (gs N ((0) + (2))) (4294967295))))]) (st := []) rfl dL_law_172 okX9_constant lL_20 itX9_constant seX9_constant rfl s0 (by decide) (by decide) rfl (Nat.le_of_ble_eq_true rfl) (xconstant N B _ hs (gOrL (gShlL (gs N ((0) + (1))) (32)) (gAndL (gs N ((0) + (2))) (4294967295))) (gX_t _)) (by omega) (by omega) (fun v1005 hc1005 q1005 => ?_)
      obtain ⟨rfl, hM⟩ := q1005
      refine Go.nf (h' := hc1005) (st' := [.int (gI (0))]) rfl rfl (Nat.le_refl _) (Nat.le_refl _) ?_
      refine g_aload_n 1 dL_law_175 rfl ?_
      refine g_aload_n 3 dL_law_176 rfl ?_
      refine g_iload_n 0 dL_law_177 rfl ?_
      refine g_iconst dL_law_178 ?_
      refine g_iadd dL_law_179 ?_
      refine g_sld dL_law_180 rfl hb hLn (by omega) (by omega) (by omega) ?_
      refine g_i2l dL_law_181 (by first | exact gW_t _ | (unfold gW at *; omega) | (unfold gW; split <;> omega)) ?_
      refine g_bipush dL_law_182 (by decide) ?_
      refine g_lshl dL_law_184 ?_
      refine g_aload_n 3 dL_law_185 rfl ?_
      refine g_iload_n 0 dL_law_186 rfl ?_
      refine g_iconst dL_law_187 ?_
      refine g_iadd dL_law_188 ?_
      refine g_sld dL_law_189 rfl hb hLn (by omega) (by omega) (by omega) ?_
      refine g_i2l dL_law_190 (by first | exact gW_t _ | (unfold gW at *; omega) | (unfold gW; split <;> omega)) ?_
      refine g_ldc2 dL_law_191 vL_18 ?_
      refine g_land dL_law_194 ?_
      refine g_lor dL_law_195 ?_
      refine g_callV (nc2 := 0) (ns2 := 0) (ci := 10) (As := [.long (gJ (gOrL (gShlL (gs N ((0) + (1))) (32)) (gAndL (gs N ((0) + (2))) (4294967295))))]) (st := [.int (gI (0))]) rfl dL_law_196 okX10_constant lL_24 itX10_constant seX10_constant rfl (hM 35 _ (by omega) rfl) (by decide) (by decide) rfl (Nat.le_of_ble_eq_true rfl) (mconstant N B _ hM (gOrL (gShlL (gs N ((0) + (1))) (32)) (gAndL (gs N ((0) + (2))) (4294967295))) (gX_t _)) (by omega) (by omega) (fun v1006 hc1006 q1006 => ?_)
      subst q1006
      refine Go.nf (h' := hc1006) (st' := [.int (gI (0)), .int (gI (0))]) rfl rfl (Nat.le_refl _) (Nat.le_refl _) ?_
      refine g_icmp_eq (tgt := 958) dL_law_199 rfl (by first | exact gW_t _ | (unfold gW at *; omega) | (unfold gW; split <;> omega)) (by first | exact gW_t _ | (unfold gW at *; omega) | (unfold gW; split <;> omega)) (fun c1007 => ?_) (fun c1007 => absurd c1007 (by simp))
      exact fin _ _ _
    · refine g_tabIn (tgt := 204) dL_law_33 (by unfold gW; omega) (by omega) (by omega) rfl rfl ?_
      refine g_aload_n 2 dL_law_204 rfl ?_
      refine g_aload_n 3 dL_law_205 rfl ?_
      refine g_iload_n 0 dL_law_206 rfl ?_
      refine g_iconst dL_law_207 ?_
      refine g_iadd dL_law_208 ?_
      refine g_sld dL_law_209 rfl hb hLn (by omega) (by omega) (by omega) ?_
      refine g_callV (nc2 := 2) (ns2 := 290) (ci := 9) (As := [.int (gI (gs N ((0) + (1))))]) (st := []) rfl dL_law_210 okX9_variable lL_25 itX9_variable seX9_variable rfl s0 (by decide) (by decide) rfl (Nat.le_of_ble_eq_true rfl) (xvariable N B _ hs (gs N ((0) + (1))) (gW_t _)) (by omega) (by omega) (fun v1008 hc1008 q1008 => ?_)
      obtain ⟨rfl, hM⟩ := q1008
      refine Go.nf (h' := hc1008) (st' := [.int (gI (if gs N ((0) + (1)) = 0 ∨ gs N ((0) + (1)) = 1 then 0 else -2))]) rfl rfl (Nat.le_refl _) (Nat.le_refl _) ?_
      refine g_aload_n 1 dL_law_213 rfl ?_
      refine g_aload_n 3 dL_law_214 rfl ?_
      refine g_iload_n 0 dL_law_215 rfl ?_
      refine g_iconst dL_law_216 ?_
      refine g_iadd dL_law_217 ?_
      refine g_sld dL_law_218 rfl hb hLn (by omega) (by omega) (by omega) ?_
      refine g_callV (nc2 := 0) (ns2 := 0) (ci := 10) (As := [.int (gI (gs N ((0) + (1))))]) (st := [.int (gI (if gs N ((0) + (1)) = 0 ∨ gs N ((0) + (1)) = 1 then 0 else -2))]) rfl dL_law_219 okX10_variable lL_29 itX10_variable seX10_variable rfl (hM 35 _ (by omega) rfl) (by decide) (by decide) rfl (Nat.le_of_ble_eq_true rfl) (mvariable N B _ hM (gs N ((0) + (1))) (gW_t _)) (by omega) (by omega) (fun v1009 hc1009 q1009 => ?_)
      subst q1009
      refine Go.nf (h' := hc1009) (st' := [.int (gI (if gs N ((0) + (1)) = 0 ∨ gs N ((0) + (1)) = 1 then 0 else -2)), .int (gI (if gs N ((0) + (1)) = 0 ∨ gs N ((0) + (1)) = 1 then 0 else -2))]) rfl rfl (Nat.le_refl _) (Nat.le_refl _) ?_
      refine g_icmp_eq (tgt := 958) dL_law_222 rfl (by first | exact gW_t _ | (unfold gW at *; omega) | (unfold gW; split <;> omega)) (by first | exact gW_t _ | (unfold gW at *; omega) | (unfold gW; split <;> omega)) (fun c1010 => ?_) (fun c1010 => absurd c1010 (by simp))
      exact fin _ _ _
    · refine g_tabIn (tgt := 227) dL_law_33 (by unfold gW; omega) (by omega) (by omega) rfl rfl ?_
      refine g_aload_n 2 dL_law_227 rfl ?_
      refine g_aload_n 3 dL_law_228 rfl ?_
      refine g_iload_n 0 dL_law_229 rfl ?_
      refine g_iconst dL_law_230 ?_
      refine g_iadd dL_law_231 ?_
      refine g_sld dL_law_232 rfl hb hLn (by omega) (by omega) (by omega) ?_
      refine g_aload_n 3 dL_law_233 rfl ?_
      refine g_iload_n 0 dL_law_234 rfl ?_
      refine g_iconst dL_law_235 ?_
      refine g_iadd dL_law_236 ?_
      refine g_sld dL_law_237 rfl hb hLn (by omega) (by omega) (by omega) ?_
      refine g_aload_n 3 dL_law_238 rfl ?_
      refine g_iload_n 0 dL_law_239 rfl ?_
      refine g_iconst dL_law_240 ?_
      refine g_iadd dL_law_241 ?_
      refine g_sld dL_law_242 rfl hb hLn (by omega) (by omega) (by omega) ?_
      refine g_callV (nc2 := 0) (ns2 := 0) (ci := 9) (As := [.int (gI (gs N ((0) + (1)))), .int (gI (gs N ((0) + (2)))), .int (gI (gs N ((0) + (3))))]) (st := []) rfl dL_law_243 okX9_apply lL_30 itX9_apply seX9_apply rfl s0 (by decide) (by decide) rfl (Nat.le_of_ble_eq_true rfl) (xapply N B _ hs (gs N ((0) + (1))) (gW_t _) (gs N ((0) + (2))) (gW_t _) (gs N ((0) + (3))) (gW_t _)) (by omega) (by omega) (fun v1011 hc1011 q1011 => ?_)
      obtain ⟨rfl, hM⟩ := q1011
      refine Go.nf (h' := hc1011) (st' := [.int (gI (if gs N ((0) + (1)) < 0 ∨ 13 < gs N ((0) + (1)) then -2 else -1))]) rfl rfl (Nat.le_refl _) (Nat.le_refl _) ?_
      refine g_aload_n 1 dL_law_246 rfl ?_
      refine g_aload_n 3 dL_law_247 rfl ?_
      refine g_iload_n 0 dL_law_248 rfl ?_
      refine g_iconst dL_law_249 ?_
      refine g_iadd dL_law_250 ?_
      refine g_sld dL_law_251 rfl hb hLn (by omega) (by omega) (by omega) ?_
      refine g_aload_n 3 dL_law_252 rfl ?_
      refine g_iload_n 0 dL_law_253 rfl ?_
      refine g_iconst dL_law_254 ?_
      refine g_iadd dL_law_255 ?_
      refine g_sld dL_law_256 rfl hb hLn (by omega) (by omega) (by omega) ?_
      refine g_aload_n 3 dL_law_257 rfl ?_
      refine g_iload_n 0 dL_law_258 rfl ?_
      refine g_iconst dL_law_259 ?_
      refine g_iadd dL_law_260 ?_
      refine g_sld dL_law_261 rfl hb hLn (by omega) (by omega) (by omega) ?_
      refine g_callV (nc2 := 0) (ns2 := 0) (ci := 10) (As := [.int (gI (gs N ((0) + (1)))), .int (gI (gs N ((0) + (2)))), .int (gI (gs N ((0) + (3))))]) (st := [.int (gI (if gs N ((0) + (1)) < 0 ∨ 13 < gs N ((0) + (1)) then -2 else -1))]) rfl dL_law_262 okX10_apply lL_34 itX10_apply seX10_apply rfl (hM 35 _ (by omega) rfl) (by decide) (by decide) rfl (Nat.le_of_ble_eq_true rfl) (mapply N B _ hM (gs N ((0) + (1))) (gW_t _) (gs N ((0) + (2))) (gW_t _) (gs N ((0) + (3))) (gW_t _)) (by omega) (by omega) (fun v1012 hc1012 q1012 => ?_)
      subst q1012
      refine Go.nf (h' := hc1012) (st' := [.int (gI (if gs N ((0) + (1)) < 0 ∨ 13 < gs N ((0) + (1)) then -2 else -1)), .int (gI (if gs N ((0) + (1)) < 0 ∨ 13 < gs N ((0) + (1)) then -2 else -1))]) rfl rfl (Nat.le_refl _) (Nat.le_refl _) ?_
      refine g_icmp_eq (tgt := 958) dL_law_265 rfl (by first | exact gW_t _ | (unfold gW at *; omega) | (unfold gW; split <;> omega)) (by first | exact gW_t _ | (unfold gW at *; omega) | (unfold gW; split <;> omega)) (fun c1013 => ?_) (fun c1013 => absurd c1013 (by simp))
      exact fin _ _ _
    · refine g_tabIn (tgt := 270) dL_law_33 (by unfold gW; omega) (by omega) (by omega) rfl rfl ?_
      refine g_aload_n 2 dL_law_270 rfl ?_
      refine g_aload_n 3 dL_law_271 rfl ?_
      refine g_iload_n 0 dL_law_272 rfl ?_
      refine g_iconst dL_law_273 ?_
      refine g_iadd dL_law_274 ?_
      refine g_sld dL_law_275 rfl hb hLn (by omega) (by omega) (by omega) ?_
      refine g_aload_n 3 dL_law_276 rfl ?_
      refine g_iload_n 0 dL_law_277 rfl ?_
      refine g_iconst dL_law_278 ?_
      refine g_iadd dL_law_279 ?_
      refine g_sld dL_law_280 rfl hb hLn (by omega) (by omega) (by omega) ?_
      refine g_i2l dL_law_281 (by first | exact gW_t _ | (unfold gW at *; omega) | (unfold gW; split <;> omega)) ?_
      refine g_bipush dL_law_282 (by decide) ?_
      refine g_lshl dL_law_284 ?_
      refine g_aload_n 3 dL_law_285 rfl ?_
      refine g_iload_n 0 dL_law_286 rfl ?_
      refine g_iconst dL_law_287 ?_
      refine g_iadd dL_law_288 ?_
      refine g_sld dL_law_289 rfl hb hLn (by omega) (by omega) (by omega) ?_
      refine g_i2l dL_law_290 (by first | exact gW_t _ | (unfold gW at *; omega) | (unfold gW; split <;> omega)) ?_
      refine g_ldc2 dL_law_291 vL_18 ?_
      refine g_land dL_law_294 ?_
      refine g_lor dL_law_295 ?_
      refine g_aload_n 3 dL_law_296 rfl ?_
      refine g_iload_n 0 dL_law_297 rfl ?_
      refine g_iconst dL_law_298 ?_
      refine g_iadd dL_law_299 ?_
      refine g_sld dL_law_300 rfl hb hLn (by omega) (by omega) (by omega) ?_
      refine g_aload_n 3 dL_law_301 rfl ?_
      refine g_iload_n 0 dL_law_302 rfl ?_
      refine g_iconst dL_law_303 ?_
      refine g_iadd dL_law_304 ?_
      refine g_sld dL_law_305 rfl hb hLn (by omega) (by omega) (by omega) ?_
      refine g_callV (nc2 := 0) (ns2 := 0) (ci := 9) (As := [.int (gI (gs N ((0) + (1)))), .long (gJ (gOrL (gShlL (gs N ((0) + (2))) (32)) (gAndL (gs N ((0) + (3))) (4294967295)))), .int (gI (gs N ((0) + (4)))), .int (gI (gs N ((0) + (5))))]) (st := []) rfl dL_law_306 okX9_plus lL_35 itX9_plus seX9_plus rfl s0 (by decide) (by decide) rfl (Nat.le_of_ble_eq_true rfl) (xplus N B _ hs (gs N ((0) + (1))) (gW_t _) (gOrL (gShlL (gs N ((0) + (2))) (32)) (gAndL (gs N ((0) + (3))) (4294967295))) (gX_t _) (gs N ((0) + (4))) (gW_t _) (gs N ((0) + (5))) (gW_t _)) (by omega) (by omega) (fun v1014 hc1014 q1014 => ?_)
      obtain ⟨rfl, hM⟩ := q1014
      refine Go.nf (h' := hc1014) (st' := [.int (gI (-1))]) rfl rfl (Nat.le_refl _) (Nat.le_refl _) ?_
      refine g_aload_n 1 dL_law_309 rfl ?_
      refine g_aload_n 3 dL_law_310 rfl ?_
      refine g_iload_n 0 dL_law_311 rfl ?_
      refine g_iconst dL_law_312 ?_
      refine g_iadd dL_law_313 ?_
      refine g_sld dL_law_314 rfl hb hLn (by omega) (by omega) (by omega) ?_
      refine g_aload_n 3 dL_law_315 rfl ?_
      refine g_iload_n 0 dL_law_316 rfl ?_
      refine g_iconst dL_law_317 ?_
      refine g_iadd dL_law_318 ?_
      refine g_sld dL_law_319 rfl hb hLn (by omega) (by omega) (by omega) ?_
      refine g_i2l dL_law_320 (by first | exact gW_t _ | (unfold gW at *; omega) | (unfold gW; split <;> omega)) ?_
      refine g_bipush dL_law_321 (by decide) ?_
      refine g_lshl dL_law_323 ?_
      refine g_aload_n 3 dL_law_324 rfl ?_
      refine g_iload_n 0 dL_law_325 rfl ?_
      refine g_iconst dL_law_326 ?_
      refine g_iadd dL_law_327 ?_
      refine g_sld dL_law_328 rfl hb hLn (by omega) (by omega) (by omega) ?_
      refine g_i2l dL_law_329 (by first | exact gW_t _ | (unfold gW at *; omega) | (unfold gW; split <;> omega)) ?_
      refine g_ldc2 dL_law_330 vL_18 ?_
      refine g_land dL_law_333 ?_
      refine g_lor dL_law_334 ?_
      refine g_aload_n 3 dL_law_335 rfl ?_
      refine g_iload_n 0 dL_law_336 rfl ?_
      refine g_iconst dL_law_337 ?_
      refine g_iadd dL_law_338 ?_
      refine g_sld dL_law_339 rfl hb hLn (by omega) (by omega) (by omega) ?_
      refine g_aload_n 3 dL_law_340 rfl ?_
      refine g_iload_n 0 dL_law_341 rfl ?_
      refine g_iconst dL_law_342 ?_
      refine g_iadd dL_law_343 ?_
      refine g_sld dL_law_344 rfl hb hLn (by omega) (by omega) (by omega) ?_
      refine g_callV (nc2 := 0) (ns2 := 0) (ci := 10) (As := [.int (gI (gs N ((0) + (1)))), .long (gJ (gOrL (gShlL (gs N ((0) + (2))) (32)) (gAndL (gs N ((0) + (3))) (4294967295)))), .int (gI (gs N ((0) + (4)))), .int (gI (gs N ((0) + (5))))]) (st := [.int (gI (-1))]) rfl dL_law_345 okX10_plus lL_39 itX10_plus seX10_plus rfl (hM 35 _ (by omega) rfl) (by decide) (by decide) rfl (Nat.le_of_ble_eq_true rfl) (mplus N B _ hM (gs N ((0) + (1))) (gW_t _) (gOrL (gShlL (gs N ((0) + (2))) (32)) (gAndL (gs N ((0) + (3))) (4294967295))) (gX_t _) (gs N ((0) + (4))) (gW_t _) (gs N ((0) + (5))) (gW_t _)) (by omega) (by omega) (fun v1015 hc1015 q1015 => ?_)
      subst q1015
      refine Go.nf (h' := hc1015) (st' := [.int (gI (-1)), .int (gI (-1))]) rfl rfl (Nat.le_refl _) (Nat.le_refl _) ?_
      refine g_icmp_eq (tgt := 958) dL_law_348 rfl (by first | exact gW_t _ | (unfold gW at *; omega) | (unfold gW; split <;> omega)) (by first | exact gW_t _ | (unfold gW at *; omega) | (unfold gW; split <;> omega)) (fun c1016 => ?_) (fun c1016 => absurd c1016 (by simp))
      exact fin _ _ _
    · refine g_tabIn (tgt := 353) dL_law_33 (by unfold gW; omega) (by omega) (by omega) rfl rfl ?_
      refine g_aload_n 2 dL_law_353 rfl ?_
      refine g_aload_n 3 dL_law_354 rfl ?_
      refine g_iload_n 0 dL_law_355 rfl ?_
      refine g_iconst dL_law_356 ?_
      refine g_iadd dL_law_357 ?_
      refine g_sld dL_law_358 rfl hb hLn (by omega) (by omega) (by omega) ?_
      refine g_aload_n 3 dL_law_359 rfl ?_
      refine g_iload_n 0 dL_law_360 rfl ?_
      refine g_iconst dL_law_361 ?_
      refine g_iadd dL_law_362 ?_
      refine g_sld dL_law_363 rfl hb hLn (by omega) (by omega) (by omega) ?_
      refine g_i2l dL_law_364 (by first | exact gW_t _ | (unfold gW at *; omega) | (unfold gW; split <;> omega)) ?_
      refine g_bipush dL_law_365 (by decide) ?_
      refine g_lshl dL_law_367 ?_
      refine g_aload_n 3 dL_law_368 rfl ?_
      refine g_iload_n 0 dL_law_369 rfl ?_
      refine g_iconst dL_law_370 ?_
      refine g_iadd dL_law_371 ?_
      refine g_sld dL_law_372 rfl hb hLn (by omega) (by omega) (by omega) ?_
      refine g_i2l dL_law_373 (by first | exact gW_t _ | (unfold gW at *; omega) | (unfold gW; split <;> omega)) ?_
      refine g_ldc2 dL_law_374 vL_18 ?_
      refine g_land dL_law_377 ?_
      refine g_lor dL_law_378 ?_
      refine g_aload_n 3 dL_law_379 rfl ?_
      refine g_iload_n 0 dL_law_380 rfl ?_
      refine g_iconst dL_law_381 ?_
      refine g_iadd dL_law_382 ?_
      refine g_sld dL_law_383 rfl hb hLn (by omega) (by omega) (by omega) ?_
      refine g_callV (nc2 := 0) (ns2 := 0) (ci := 9) (As := [.int (gI (gs N ((0) + (1)))), .long (gJ (gOrL (gShlL (gs N ((0) + (2))) (32)) (gAndL (gs N ((0) + (3))) (4294967295)))), .int (gI (gs N ((0) + (4))))]) (st := []) rfl dL_law_384 okX9_power lL_40 itX9_power seX9_power rfl s0 (by decide) (by decide) rfl (Nat.le_of_ble_eq_true rfl) (xpower N B _ hs (gs N ((0) + (1))) (gW_t _) (gOrL (gShlL (gs N ((0) + (2))) (32)) (gAndL (gs N ((0) + (3))) (4294967295))) (gX_t _) (gs N ((0) + (4))) (gW_t _)) (by omega) (by omega) (fun v1017 hc1017 q1017 => ?_)
      obtain ⟨rfl, hM⟩ := q1017
      refine Go.nf (h' := hc1017) (st' := [.int (gI (-1))]) rfl rfl (Nat.le_refl _) (Nat.le_refl _) ?_
      refine g_aload_n 1 dL_law_387 rfl ?_
      refine g_aload_n 3 dL_law_388 rfl ?_
      refine g_iload_n 0 dL_law_389 rfl ?_
      refine g_iconst dL_law_390 ?_
      refine g_iadd dL_law_391 ?_
      refine g_sld dL_law_392 rfl hb hLn (by omega) (by omega) (by omega) ?_
      refine g_aload_n 3 dL_law_393 rfl ?_
      refine g_iload_n 0 dL_law_394 rfl ?_
      refine g_iconst dL_law_395 ?_
      refine g_iadd dL_law_396 ?_
      refine g_sld dL_law_397 rfl hb hLn (by omega) (by omega) (by omega) ?_
      refine g_i2l dL_law_398 (by first | exact gW_t _ | (unfold gW at *; omega) | (unfold gW; split <;> omega)) ?_
      refine g_bipush dL_law_399 (by decide) ?_
      refine g_lshl dL_law_401 ?_
      refine g_aload_n 3 dL_law_402 rfl ?_
      refine g_iload_n 0 dL_law_403 rfl ?_
      refine g_iconst dL_law_404 ?_
      refine g_iadd dL_law_405 ?_
      refine g_sld dL_law_406 rfl hb hLn (by omega) (by omega) (by omega) ?_
      refine g_i2l dL_law_407 (by first | exact gW_t _ | (unfold gW at *; omega) | (unfold gW; split <;> omega)) ?_
      refine g_ldc2 dL_law_408 vL_18 ?_
      refine g_land dL_law_411 ?_
      refine g_lor dL_law_412 ?_
      refine g_aload_n 3 dL_law_413 rfl ?_
      refine g_iload_n 0 dL_law_414 rfl ?_
      refine g_iconst dL_law_415 ?_
      refine g_iadd dL_law_416 ?_
      refine g_sld dL_law_417 rfl hb hLn (by omega) (by omega) (by omega) ?_
      refine g_callV (nc2 := 0) (ns2 := 0) (ci := 10) (As := [.int (gI (gs N ((0) + (1)))), .long (gJ (gOrL (gShlL (gs N ((0) + (2))) (32)) (gAndL (gs N ((0) + (3))) (4294967295)))), .int (gI (gs N ((0) + (4))))]) (st := [.int (gI (-1))]) rfl dL_law_418 okX10_power lL_44 itX10_power seX10_power rfl (hM 35 _ (by omega) rfl) (by decide) (by decide) rfl (Nat.le_of_ble_eq_true rfl) (mpower N B _ hM (gs N ((0) + (1))) (gW_t _) (gOrL (gShlL (gs N ((0) + (2))) (32)) (gAndL (gs N ((0) + (3))) (4294967295))) (gX_t _) (gs N ((0) + (4))) (gW_t _)) (by omega) (by omega) (fun v1018 hc1018 q1018 => ?_)
      subst q1018
      refine Go.nf (h' := hc1018) (st' := [.int (gI (-1)), .int (gI (-1))]) rfl rfl (Nat.le_refl _) (Nat.le_refl _) ?_
      refine g_icmp_eq (tgt := 958) dL_law_421 rfl (by first | exact gW_t _ | (unfold gW at *; omega) | (unfold gW; split <;> omega)) (by first | exact gW_t _ | (unfold gW at *; omega) | (unfold gW; split <;> omega)) (fun c1019 => ?_) (fun c1019 => absurd c1019 (by simp))
      exact fin _ _ _
    · refine g_tabIn (tgt := 426) dL_law_33 (by unfold gW; omega) (by omega) (by omega) rfl rfl ?_
      refine g_aload_n 2 dL_law_426 rfl ?_
      refine g_aload_n 3 dL_law_427 rfl ?_
      refine g_iload_n 0 dL_law_428 rfl ?_
      refine g_iconst dL_law_429 ?_
      refine g_iadd dL_law_430 ?_
      refine g_sld dL_law_431 rfl hb hLn (by omega) (by omega) (by omega) ?_
      refine g_aload_n 3 dL_law_432 rfl ?_
      refine g_iload_n 0 dL_law_433 rfl ?_
      refine g_iconst dL_law_434 ?_
      refine g_iadd dL_law_435 ?_
      refine g_sld dL_law_436 rfl hb hLn (by omega) (by omega) (by omega) ?_
      refine g_aload_n 3 dL_law_437 rfl ?_
      refine g_iload_n 0 dL_law_438 rfl ?_
      refine g_iconst dL_law_439 ?_
      refine g_iadd dL_law_440 ?_
      refine g_sld dL_law_441 rfl hb hLn (by omega) (by omega) (by omega) ?_
      refine g_callV (nc2 := 0) (ns2 := 0) (ci := 9) (As := [.int (gI (gs N ((0) + (1)))), .int (gI (gs N ((0) + (2)))), .int (gI (gs N ((0) + (3))))]) (st := []) rfl dL_law_442 okX9_at lL_45 itX9_at seX9_at rfl s0 (by decide) (by decide) rfl (Nat.le_of_ble_eq_true rfl) (xat N B _ hs (gs N ((0) + (1))) (gW_t _) (gs N ((0) + (2))) (gW_t _) (gs N ((0) + (3))) (gW_t _)) (by omega) (by omega) (fun v1020 hc1020 q1020 => ?_)
      obtain ⟨rfl, hM⟩ := q1020
      refine Go.nf (h' := hc1020) (st' := [.int (gI (-1))]) rfl rfl (Nat.le_refl _) (Nat.le_refl _) ?_
      refine g_aload_n 1 dL_law_445 rfl ?_
      refine g_aload_n 3 dL_law_446 rfl ?_
      refine g_iload_n 0 dL_law_447 rfl ?_
      refine g_iconst dL_law_448 ?_
      refine g_iadd dL_law_449 ?_
      refine g_sld dL_law_450 rfl hb hLn (by omega) (by omega) (by omega) ?_
      refine g_aload_n 3 dL_law_451 rfl ?_
      refine g_iload_n 0 dL_law_452 rfl ?_
      refine g_iconst dL_law_453 ?_
      refine g_iadd dL_law_454 ?_
      refine g_sld dL_law_455 rfl hb hLn (by omega) (by omega) (by omega) ?_
      refine g_aload_n 3 dL_law_456 rfl ?_
      refine g_iload_n 0 dL_law_457 rfl ?_
      refine g_iconst dL_law_458 ?_
      refine g_iadd dL_law_459 ?_
      refine g_sld dL_law_460 rfl hb hLn (by omega) (by omega) (by omega) ?_
      refine g_callV (nc2 := 0) (ns2 := 0) (ci := 10) (As := [.int (gI (gs N ((0) + (1)))), .int (gI (gs N ((0) + (2)))), .int (gI (gs N ((0) + (3))))]) (st := [.int (gI (-1))]) rfl dL_law_461 okX10_at lL_48 itX10_at seX10_at rfl (hM 35 _ (by omega) rfl) (by decide) (by decide) rfl (Nat.le_of_ble_eq_true rfl) (mat N B _ hM (gs N ((0) + (1))) (gW_t _) (gs N ((0) + (2))) (gW_t _) (gs N ((0) + (3))) (gW_t _)) (by omega) (by omega) (fun v1021 hc1021 q1021 => ?_)
      subst q1021
      refine Go.nf (h' := hc1021) (st' := [.int (gI (-1)), .int (gI (-1))]) rfl rfl (Nat.le_refl _) (Nat.le_refl _) ?_
      refine g_icmp_eq (tgt := 958) dL_law_464 rfl (by first | exact gW_t _ | (unfold gW at *; omega) | (unfold gW; split <;> omega)) (by first | exact gW_t _ | (unfold gW at *; omega) | (unfold gW; split <;> omega)) (fun c1022 => ?_) (fun c1022 => absurd c1022 (by simp))
      exact fin _ _ _
    · refine g_tabIn (tgt := 469) dL_law_33 (by unfold gW; omega) (by omega) (by omega) rfl rfl ?_
      refine g_aload_n 2 dL_law_469 rfl ?_
      refine g_aload_n 3 dL_law_470 rfl ?_
      refine g_iload_n 0 dL_law_471 rfl ?_
      refine g_iconst dL_law_472 ?_
      refine g_iadd dL_law_473 ?_
      refine g_sld dL_law_474 rfl hb hLn (by omega) (by omega) (by omega) ?_
      refine g_aload_n 3 dL_law_475 rfl ?_
      refine g_iload_n 0 dL_law_476 rfl ?_
      refine g_iconst dL_law_477 ?_
      refine g_iadd dL_law_478 ?_
      refine g_sld dL_law_479 rfl hb hLn (by omega) (by omega) (by omega) ?_
      refine g_callV (nc2 := 0) (ns2 := 0) (ci := 9) (As := [.int (gI (gs N ((0) + (1)))), .int (gI (gs N ((0) + (2))))]) (st := []) rfl dL_law_480 okX9_degree lL_49 itX9_degree seX9_degree rfl s0 (by decide) (by decide) rfl (Nat.le_of_ble_eq_true rfl) (xdegree N B _ hs (gs N ((0) + (1))) (gW_t _) (gs N ((0) + (2))) (gW_t _)) (by omega) (by omega) (fun v1023 hc1023 q1023 => ?_)
      obtain ⟨rfl, hM⟩ := q1023
      refine Go.nf (h' := hc1023) (st' := [.int (gI (-2))]) rfl rfl (Nat.le_refl _) (Nat.le_refl _) ?_
      refine g_aload_n 1 dL_law_483 rfl ?_
      refine g_aload_n 3 dL_law_484 rfl ?_
      refine g_iload_n 0 dL_law_485 rfl ?_
      refine g_iconst dL_law_486 ?_
      refine g_iadd dL_law_487 ?_
      refine g_sld dL_law_488 rfl hb hLn (by omega) (by omega) (by omega) ?_
      refine g_aload_n 3 dL_law_489 rfl ?_
      refine g_iload_n 0 dL_law_490 rfl ?_
      refine g_iconst dL_law_491 ?_
      refine g_iadd dL_law_492 ?_
      refine g_sld dL_law_493 rfl hb hLn (by omega) (by omega) (by omega) ?_
      refine g_callV (nc2 := 0) (ns2 := 0) (ci := 10) (As := [.int (gI (gs N ((0) + (1)))), .int (gI (gs N ((0) + (2))))]) (st := [.int (gI (-2))]) rfl dL_law_494 okX10_degree lL_53 itX10_degree seX10_degree rfl (hM 35 _ (by omega) rfl) (by decide) (by decide) rfl (Nat.le_of_ble_eq_true rfl) (mdegree N B _ hM (gs N ((0) + (1))) (gW_t _) (gs N ((0) + (2))) (gW_t _)) (by omega) (by omega) (fun v1024 hc1024 q1024 => ?_)
      subst q1024
      refine Go.nf (h' := hc1024) (st' := [.int (gI (-2)), .int (gI (-2))]) rfl rfl (Nat.le_refl _) (Nat.le_refl _) ?_
      refine g_icmp_eq (tgt := 958) dL_law_497 rfl (by first | exact gW_t _ | (unfold gW at *; omega) | (unfold gW; split <;> omega)) (by first | exact gW_t _ | (unfold gW at *; omega) | (unfold gW; split <;> omega)) (fun c1025 => ?_) (fun c1025 => absurd c1025 (by simp))
      exact fin _ _ _
    · refine g_tabIn (tgt := 502) dL_law_33 (by unfold gW; omega) (by omega) (by omega) rfl rfl ?_
      refine g_aload_n 2 dL_law_502 rfl ?_
      refine g_aload_n 3 dL_law_503 rfl ?_
      refine g_iload_n 0 dL_law_504 rfl ?_
      refine g_iconst dL_law_505 ?_
      refine g_iadd dL_law_506 ?_
      refine g_sld dL_law_507 rfl hb hLn (by omega) (by omega) (by omega) ?_
      refine g_aload_n 3 dL_law_508 rfl ?_
      refine g_iload_n 0 dL_law_509 rfl ?_
      refine g_iconst dL_law_510 ?_
      refine g_iadd dL_law_511 ?_
      refine g_sld dL_law_512 rfl hb hLn (by omega) (by omega) (by omega) ?_
      refine g_i2l dL_law_513 (by first | exact gW_t _ | (unfold gW at *; omega) | (unfold gW; split <;> omega)) ?_
      refine g_bipush dL_law_514 (by decide) ?_
      refine g_lshl dL_law_516 ?_
      refine g_aload_n 3 dL_law_517 rfl ?_
      refine g_iload_n 0 dL_law_518 rfl ?_
      refine g_iconst dL_law_519 ?_
      refine g_iadd dL_law_520 ?_
      refine g_sld dL_law_521 rfl hb hLn (by omega) (by omega) (by omega) ?_
      refine g_i2l dL_law_522 (by first | exact gW_t _ | (unfold gW at *; omega) | (unfold gW; split <;> omega)) ?_
      refine g_ldc2 dL_law_523 vL_18 ?_
      refine g_land dL_law_526 ?_
      refine g_lor dL_law_527 ?_
      refine g_aload_n 3 dL_law_528 rfl ?_
      refine g_iload_n 0 dL_law_529 rfl ?_
      refine g_iconst dL_law_530 ?_
      refine g_iadd dL_law_531 ?_
      refine g_sld dL_law_532 rfl hb hLn (by omega) (by omega) (by omega) ?_
      refine g_i2l dL_law_533 (by first | exact gW_t _ | (unfold gW at *; omega) | (unfold gW; split <;> omega)) ?_
      refine g_bipush dL_law_534 (by decide) ?_
      refine g_lshl dL_law_536 ?_
      refine g_aload_n 3 dL_law_537 rfl ?_
      refine g_iload_n 0 dL_law_538 rfl ?_
      refine g_iconst dL_law_539 ?_
      refine g_iadd dL_law_540 ?_
      refine g_sld dL_law_541 rfl hb hLn (by omega) (by omega) (by omega) ?_
      refine g_i2l dL_law_542 (by first | exact gW_t _ | (unfold gW at *; omega) | (unfold gW; split <;> omega)) ?_
      refine g_ldc2 dL_law_543 vL_18 ?_
      refine g_land dL_law_546 ?_
      refine g_lor dL_law_547 ?_
      refine g_callV (nc2 := 0) (ns2 := 0) (ci := 9) (As := [.int (gI (gs N ((0) + (1)))), .long (gJ (gOrL (gShlL (gs N ((0) + (2))) (32)) (gAndL (gs N ((0) + (3))) (4294967295)))), .long (gJ (gOrL (gShlL (gs N ((0) + (4))) (32)) (gAndL (gs N ((0) + (5))) (4294967295))))]) (st := []) rfl dL_law_548 okX9_value lL_54 itX9_value seX9_value rfl s0 (by decide) (by decide) rfl (Nat.le_of_ble_eq_true rfl) (xvalue N B _ hs (gs N ((0) + (1))) (gW_t _) (gOrL (gShlL (gs N ((0) + (2))) (32)) (gAndL (gs N ((0) + (3))) (4294967295))) (gX_t _) (gOrL (gShlL (gs N ((0) + (4))) (32)) (gAndL (gs N ((0) + (5))) (4294967295))) (gX_t _)) (by omega) (by omega) (fun v1026 hc1026 q1026 => ?_)
      obtain ⟨rfl, hM⟩ := q1026
      refine Go.nf (h' := hc1026) (st' := [.int (gI (-1))]) rfl rfl (Nat.le_refl _) (Nat.le_refl _) ?_
      refine g_aload_n 1 dL_law_551 rfl ?_
      refine g_aload_n 3 dL_law_552 rfl ?_
      refine g_iload_n 0 dL_law_553 rfl ?_
      refine g_iconst dL_law_554 ?_
      refine g_iadd dL_law_555 ?_
      refine g_sld dL_law_556 rfl hb hLn (by omega) (by omega) (by omega) ?_
      refine g_aload_n 3 dL_law_557 rfl ?_
      refine g_iload_n 0 dL_law_558 rfl ?_
      refine g_iconst dL_law_559 ?_
      refine g_iadd dL_law_560 ?_
      refine g_sld dL_law_561 rfl hb hLn (by omega) (by omega) (by omega) ?_
      refine g_i2l dL_law_562 (by first | exact gW_t _ | (unfold gW at *; omega) | (unfold gW; split <;> omega)) ?_
      refine g_bipush dL_law_563 (by decide) ?_
      refine g_lshl dL_law_565 ?_
      refine g_aload_n 3 dL_law_566 rfl ?_
      refine g_iload_n 0 dL_law_567 rfl ?_
      refine g_iconst dL_law_568 ?_
      refine g_iadd dL_law_569 ?_
      refine g_sld dL_law_570 rfl hb hLn (by omega) (by omega) (by omega) ?_
      refine g_i2l dL_law_571 (by first | exact gW_t _ | (unfold gW at *; omega) | (unfold gW; split <;> omega)) ?_
      refine g_ldc2 dL_law_572 vL_18 ?_
      refine g_land dL_law_575 ?_
      refine g_lor dL_law_576 ?_
      refine g_aload_n 3 dL_law_577 rfl ?_
      refine g_iload_n 0 dL_law_578 rfl ?_
      refine g_iconst dL_law_579 ?_
      refine g_iadd dL_law_580 ?_
      refine g_sld dL_law_581 rfl hb hLn (by omega) (by omega) (by omega) ?_
      refine g_i2l dL_law_582 (by first | exact gW_t _ | (unfold gW at *; omega) | (unfold gW; split <;> omega)) ?_
      refine g_bipush dL_law_583 (by decide) ?_
      refine g_lshl dL_law_585 ?_
      refine g_aload_n 3 dL_law_586 rfl ?_
      refine g_iload_n 0 dL_law_587 rfl ?_
      refine g_iconst dL_law_588 ?_
      refine g_iadd dL_law_589 ?_
      refine g_sld dL_law_590 rfl hb hLn (by omega) (by omega) (by omega) ?_
      refine g_i2l dL_law_591 (by first | exact gW_t _ | (unfold gW at *; omega) | (unfold gW; split <;> omega)) ?_
      refine g_ldc2 dL_law_592 vL_18 ?_
      refine g_land dL_law_595 ?_
      refine g_lor dL_law_596 ?_
      refine g_callV (nc2 := 0) (ns2 := 0) (ci := 10) (As := [.int (gI (gs N ((0) + (1)))), .long (gJ (gOrL (gShlL (gs N ((0) + (2))) (32)) (gAndL (gs N ((0) + (3))) (4294967295)))), .long (gJ (gOrL (gShlL (gs N ((0) + (4))) (32)) (gAndL (gs N ((0) + (5))) (4294967295))))]) (st := [.int (gI (-1))]) rfl dL_law_597 okX10_value lL_58 itX10_value seX10_value rfl (hM 35 _ (by omega) rfl) (by decide) (by decide) rfl (Nat.le_of_ble_eq_true rfl) (mvalue N B _ hM (gs N ((0) + (1))) (gW_t _) (gOrL (gShlL (gs N ((0) + (2))) (32)) (gAndL (gs N ((0) + (3))) (4294967295))) (gX_t _) (gOrL (gShlL (gs N ((0) + (4))) (32)) (gAndL (gs N ((0) + (5))) (4294967295))) (gX_t _)) (by omega) (by omega) (fun v1027 hc1027 q1027 => ?_)
      subst q1027
      refine Go.nf (h' := hc1027) (st' := [.int (gI (-1)), .int (gI (-1))]) rfl rfl (Nat.le_refl _) (Nat.le_refl _) ?_
      refine g_icmp_eq (tgt := 958) dL_law_600 rfl (by first | exact gW_t _ | (unfold gW at *; omega) | (unfold gW; split <;> omega)) (by first | exact gW_t _ | (unfold gW at *; omega) | (unfold gW; split <;> omega)) (fun c1028 => ?_) (fun c1028 => absurd c1028 (by simp))
      exact fin _ _ _
    · refine g_tabIn (tgt := 605) dL_law_33 (by unfold gW; omega) (by omega) (by omega) rfl rfl ?_
      refine g_aload_n 2 dL_law_605 rfl ?_
      refine g_aload_n 3 dL_law_606 rfl ?_
      refine g_iload_n 0 dL_law_607 rfl ?_
      refine g_iconst dL_law_608 ?_
      refine g_iadd dL_law_609 ?_
      refine g_sld dL_law_610 rfl hb hLn (by omega) (by omega) (by omega) ?_
      refine g_aload_n 3 dL_law_611 rfl ?_
      refine g_iload_n 0 dL_law_612 rfl ?_
      refine g_iconst dL_law_613 ?_
      refine g_iadd dL_law_614 ?_
      refine g_sld dL_law_615 rfl hb hLn (by omega) (by omega) (by omega) ?_
      refine g_callV (nc2 := 0) (ns2 := 0) (ci := 9) (As := [.int (gI (gs N ((0) + (1)))), .int (gI (gs N ((0) + (2))))]) (st := []) rfl dL_law_616 okX9_same lL_59 itX9_same seX9_same rfl s0 (by decide) (by decide) rfl (Nat.le_of_ble_eq_true rfl) (xsame N B _ hs (gs N ((0) + (1))) (gW_t _) (gs N ((0) + (2))) (gW_t _)) (by omega) (by omega) (fun v1029 hc1029 q1029 => ?_)
      obtain ⟨rfl, hM⟩ := q1029
      refine Go.nf (h' := hc1029) (st' := [.int (gI (0))]) rfl rfl (Nat.le_refl _) (Nat.le_refl _) ?_
      refine g_aload_n 1 dL_law_619 rfl ?_
      refine g_aload_n 3 dL_law_620 rfl ?_
      refine g_iload_n 0 dL_law_621 rfl ?_
      refine g_iconst dL_law_622 ?_
      refine g_iadd dL_law_623 ?_
      refine g_sld dL_law_624 rfl hb hLn (by omega) (by omega) (by omega) ?_
      refine g_aload_n 3 dL_law_625 rfl ?_
      refine g_iload_n 0 dL_law_626 rfl ?_
      refine g_iconst dL_law_627 ?_
      refine g_iadd dL_law_628 ?_
      refine g_sld dL_law_629 rfl hb hLn (by omega) (by omega) (by omega) ?_
      refine g_callV (nc2 := 0) (ns2 := 0) (ci := 10) (As := [.int (gI (gs N ((0) + (1)))), .int (gI (gs N ((0) + (2))))]) (st := [.int (gI (0))]) rfl dL_law_630 okX10_same lL_63 itX10_same seX10_same rfl (hM 35 _ (by omega) rfl) (by decide) (by decide) rfl (Nat.le_of_ble_eq_true rfl) (msame N B _ hM (gs N ((0) + (1))) (gW_t _) (gs N ((0) + (2))) (gW_t _)) (by omega) (by omega) (fun v1030 hc1030 q1030 => ?_)
      subst q1030
      refine Go.nf (h' := hc1030) (st' := [.int (gI (0)), .int (gI (0))]) rfl rfl (Nat.le_refl _) (Nat.le_refl _) ?_
      refine g_icmp_eq (tgt := 958) dL_law_633 rfl (by first | exact gW_t _ | (unfold gW at *; omega) | (unfold gW; split <;> omega)) (by first | exact gW_t _ | (unfold gW at *; omega) | (unfold gW; split <;> omega)) (fun c1031 => ?_) (fun c1031 => absurd c1031 (by simp))
      exact fin _ _ _
    · refine g_tabIn (tgt := 638) dL_law_33 (by unfold gW; omega) (by omega) (by omega) rfl rfl ?_
      refine g_aload_n 2 dL_law_638 rfl ?_
      refine g_aload_n 3 dL_law_639 rfl ?_
      refine g_iload_n 0 dL_law_640 rfl ?_
      refine g_iconst dL_law_641 ?_
      refine g_iadd dL_law_642 ?_
      refine g_sld dL_law_643 rfl hb hLn (by omega) (by omega) (by omega) ?_
      refine g_callV (nc2 := 0) (ns2 := 0) (ci := 9) (As := [.int (gI (gs N ((0) + (1))))]) (st := []) rfl dL_law_644 okX9_drop lL_64 itX9_drop seX9_drop rfl s0 (by decide) (by decide) rfl (Nat.le_of_ble_eq_true rfl) (xdrop N B _ hs (gs N ((0) + (1))) (gW_t _)) (by omega) (by omega) (fun v1032 hc1032 q1032 => ?_)
      obtain ⟨rfl, hM⟩ := q1032
      refine Go.nf (h' := hc1032) (st' := [.int (gI (0))]) rfl rfl (Nat.le_refl _) (Nat.le_refl _) ?_
      refine g_aload_n 1 dL_law_647 rfl ?_
      refine g_aload_n 3 dL_law_648 rfl ?_
      refine g_iload_n 0 dL_law_649 rfl ?_
      refine g_iconst dL_law_650 ?_
      refine g_iadd dL_law_651 ?_
      refine g_sld dL_law_652 rfl hb hLn (by omega) (by omega) (by omega) ?_
      refine g_callV (nc2 := 0) (ns2 := 0) (ci := 10) (As := [.int (gI (gs N ((0) + (1))))]) (st := [.int (gI (0))]) rfl dL_law_653 okX10_drop lL_67 itX10_drop seX10_drop rfl (hM 35 _ (by omega) rfl) (by decide) (by decide) rfl (Nat.le_of_ble_eq_true rfl) (mdrop N B _ hM (gs N ((0) + (1))) (gW_t _)) (by omega) (by omega) (fun v1033 hc1033 q1033 => ?_)
      subst q1033
      refine Go.nf (h' := hc1033) (st' := [.int (gI (0)), .int (gI (0))]) rfl rfl (Nat.le_refl _) (Nat.le_refl _) ?_
      refine g_icmp_eq (tgt := 958) dL_law_656 rfl (by first | exact gW_t _ | (unfold gW at *; omega) | (unfold gW; split <;> omega)) (by first | exact gW_t _ | (unfold gW at *; omega) | (unfold gW; split <;> omega)) (fun c1034 => ?_) (fun c1034 => absurd c1034 (by simp))
      exact fin _ _ _
    · refine g_tabIn (tgt := 661) dL_law_33 (by unfold gW; omega) (by omega) (by omega) rfl rfl ?_
      refine g_aload_n 2 dL_law_661 rfl ?_
      refine g_aload_n 3 dL_law_662 rfl ?_
      refine g_iload_n 0 dL_law_663 rfl ?_
      refine g_iconst dL_law_664 ?_
      refine g_iadd dL_law_665 ?_
      refine g_sld dL_law_666 rfl hb hLn (by omega) (by omega) (by omega) ?_
      refine g_callV (nc2 := 0) (ns2 := 0) (ci := 9) (As := [.int (gI (gs N ((0) + (1))))]) (st := []) rfl dL_law_667 okX9_factor lL_68 itX9_factor seX9_factor rfl s0 (by decide) (by decide) rfl (Nat.le_of_ble_eq_true rfl) (xfactor N B _ hs (gs N ((0) + (1))) (gW_t _)) (by omega) (by omega) (fun v1035 hc1035 q1035 => ?_)
      obtain ⟨rfl, hM⟩ := q1035
      refine Go.nf (h' := hc1035) (st' := [.int (gI (-1))]) rfl rfl (Nat.le_refl _) (Nat.le_refl _) ?_
      refine g_aload_n 1 dL_law_670 rfl ?_
      refine g_aload_n 3 dL_law_671 rfl ?_
      refine g_iload_n 0 dL_law_672 rfl ?_
      refine g_iconst dL_law_673 ?_
      refine g_iadd dL_law_674 ?_
      refine g_sld dL_law_675 rfl hb hLn (by omega) (by omega) (by omega) ?_
      refine g_callV (nc2 := 0) (ns2 := 0) (ci := 10) (As := [.int (gI (gs N ((0) + (1))))]) (st := [.int (gI (-1))]) rfl dL_law_676 okX10_factor lL_71 itX10_factor seX10_factor rfl (hM 35 _ (by omega) rfl) (by decide) (by decide) rfl (Nat.le_of_ble_eq_true rfl) (mfactor N B _ hM (gs N ((0) + (1))) (gW_t _)) (by omega) (by omega) (fun v1036 hc1036 q1036 => ?_)
      subst q1036
      refine Go.nf (h' := hc1036) (st' := [.int (gI (-1)), .int (gI (-1))]) rfl rfl (Nat.le_refl _) (Nat.le_refl _) ?_
      refine g_icmp_eq (tgt := 958) dL_law_679 rfl (by first | exact gW_t _ | (unfold gW at *; omega) | (unfold gW; split <;> omega)) (by first | exact gW_t _ | (unfold gW at *; omega) | (unfold gW; split <;> omega)) (fun c1037 => ?_) (fun c1037 => absurd c1037 (by simp))
      exact fin _ _ _
    · refine g_tabIn (tgt := 684) dL_law_33 (by unfold gW; omega) (by omega) (by omega) rfl rfl ?_
      refine g_aload_n 2 dL_law_684 rfl ?_
      refine g_aload_n 3 dL_law_685 rfl ?_
      refine g_iload_n 0 dL_law_686 rfl ?_
      refine g_iconst dL_law_687 ?_
      refine g_iadd dL_law_688 ?_
      refine g_sld dL_law_689 rfl hb hLn (by omega) (by omega) (by omega) ?_
      refine g_aload_n 3 dL_law_690 rfl ?_
      refine g_iload_n 0 dL_law_691 rfl ?_
      refine g_iconst dL_law_692 ?_
      refine g_iadd dL_law_693 ?_
      refine g_sld dL_law_694 rfl hb hLn (by omega) (by omega) (by omega) ?_
      refine g_callV (nc2 := 0) (ns2 := 0) (ci := 9) (As := [.int (gI (gs N ((0) + (1)))), .int (gI (gs N ((0) + (2))))]) (st := []) rfl dL_law_695 okX9_factorOf lL_72 itX9_factorOf seX9_factorOf rfl s0 (by decide) (by decide) rfl (Nat.le_of_ble_eq_true rfl) (xfactorOf N B _ hs (gs N ((0) + (1))) (gW_t _) (gs N ((0) + (2))) (gW_t _)) (by omega) (by omega) (fun v1038 hc1038 q1038 => ?_)
      obtain ⟨rfl, hM⟩ := q1038
      refine Go.nf (h' := hc1038) (st' := [.int (gI (-1))]) rfl rfl (Nat.le_refl _) (Nat.le_refl _) ?_
      refine g_aload_n 1 dL_law_698 rfl ?_
      refine g_aload_n 3 dL_law_699 rfl ?_
      refine g_iload_n 0 dL_law_700 rfl ?_
      refine g_iconst dL_law_701 ?_
      refine g_iadd dL_law_702 ?_
      refine g_sld dL_law_703 rfl hb hLn (by omega) (by omega) (by omega) ?_
      refine g_aload_n 3 dL_law_704 rfl ?_
      refine g_iload_n 0 dL_law_705 rfl ?_
      refine g_iconst dL_law_706 ?_
      refine g_iadd dL_law_707 ?_
      refine g_sld dL_law_708 rfl hb hLn (by omega) (by omega) (by omega) ?_
      refine g_callV (nc2 := 0) (ns2 := 0) (ci := 10) (As := [.int (gI (gs N ((0) + (1)))), .int (gI (gs N ((0) + (2))))]) (st := [.int (gI (-1))]) rfl dL_law_709 okX10_factorOf lL_75 itX10_factorOf seX10_factorOf rfl (hM 35 _ (by omega) rfl) (by decide) (by decide) rfl (Nat.le_of_ble_eq_true rfl) (mfactorOf N B _ hM (gs N ((0) + (1))) (gW_t _) (gs N ((0) + (2))) (gW_t _)) (by omega) (by omega) (fun v1039 hc1039 q1039 => ?_)
      subst q1039
      refine Go.nf (h' := hc1039) (st' := [.int (gI (-1)), .int (gI (-1))]) rfl rfl (Nat.le_refl _) (Nat.le_refl _) ?_
      refine g_icmp_eq (tgt := 958) dL_law_712 rfl (by first | exact gW_t _ | (unfold gW at *; omega) | (unfold gW; split <;> omega)) (by first | exact gW_t _ | (unfold gW at *; omega) | (unfold gW; split <;> omega)) (fun c1040 => ?_) (fun c1040 => absurd c1040 (by simp))
      exact fin _ _ _
    · refine g_tabIn (tgt := 717) dL_law_33 (by unfold gW; omega) (by omega) (by omega) rfl rfl ?_
      refine g_aload_n 2 dL_law_717 rfl ?_
      refine g_aload_n 3 dL_law_718 rfl ?_
      refine g_iload_n 0 dL_law_719 rfl ?_
      refine g_iconst dL_law_720 ?_
      refine g_iadd dL_law_721 ?_
      refine g_sld dL_law_722 rfl hb hLn (by omega) (by omega) (by omega) ?_
      refine g_aload_n 3 dL_law_723 rfl ?_
      refine g_iload_n 0 dL_law_724 rfl ?_
      refine g_iconst dL_law_725 ?_
      refine g_iadd dL_law_726 ?_
      refine g_sld dL_law_727 rfl hb hLn (by omega) (by omega) (by omega) ?_
      refine g_callV (nc2 := 0) (ns2 := 0) (ci := 9) (As := [.int (gI (gs N ((0) + (1)))), .int (gI (gs N ((0) + (2))))]) (st := []) rfl dL_law_728 okX9_factorAt lL_76 itX9_factorAt seX9_factorAt rfl s0 (by decide) (by decide) rfl (Nat.le_of_ble_eq_true rfl) (xfactorAt N B _ hs (gs N ((0) + (1))) (gW_t _) (gs N ((0) + (2))) (gW_t _)) (by omega) (by omega) (fun v1041 hc1041 q1041 => ?_)
      obtain ⟨rfl, hM⟩ := q1041
      refine Go.nf (h' := hc1041) (st' := [.int (gI (-1))]) rfl rfl (Nat.le_refl _) (Nat.le_refl _) ?_
      refine g_aload_n 1 dL_law_731 rfl ?_
      refine g_aload_n 3 dL_law_732 rfl ?_
      refine g_iload_n 0 dL_law_733 rfl ?_
      refine g_iconst dL_law_734 ?_
      refine g_iadd dL_law_735 ?_
      refine g_sld dL_law_736 rfl hb hLn (by omega) (by omega) (by omega) ?_
      refine g_aload_n 3 dL_law_737 rfl ?_
      refine g_iload_n 0 dL_law_738 rfl ?_
      refine g_iconst dL_law_739 ?_
      refine g_iadd dL_law_740 ?_
      refine g_sld dL_law_741 rfl hb hLn (by omega) (by omega) (by omega) ?_
      refine g_callV (nc2 := 0) (ns2 := 0) (ci := 10) (As := [.int (gI (gs N ((0) + (1)))), .int (gI (gs N ((0) + (2))))]) (st := [.int (gI (-1))]) rfl dL_law_742 okX10_factorAt lL_79 itX10_factorAt seX10_factorAt rfl (hM 35 _ (by omega) rfl) (by decide) (by decide) rfl (Nat.le_of_ble_eq_true rfl) (mfactorAt N B _ hM (gs N ((0) + (1))) (gW_t _) (gs N ((0) + (2))) (gW_t _)) (by omega) (by omega) (fun v1042 hc1042 q1042 => ?_)
      subst q1042
      refine Go.nf (h' := hc1042) (st' := [.int (gI (-1)), .int (gI (-1))]) rfl rfl (Nat.le_refl _) (Nat.le_refl _) ?_
      refine g_icmp_eq (tgt := 958) dL_law_745 rfl (by first | exact gW_t _ | (unfold gW at *; omega) | (unfold gW; split <;> omega)) (by first | exact gW_t _ | (unfold gW at *; omega) | (unfold gW; split <;> omega)) (fun c1043 => ?_) (fun c1043 => absurd c1043 (by simp))
      exact fin _ _ _
    · refine g_tabIn (tgt := 750) dL_law_33 (by unfold gW; omega) (by omega) (by omega) rfl rfl ?_
      refine g_aload_n 2 dL_law_750 rfl ?_
      refine g_aload_n 3 dL_law_751 rfl ?_
      refine g_iload_n 0 dL_law_752 rfl ?_
      refine g_iconst dL_law_753 ?_
      refine g_iadd dL_law_754 ?_
      refine g_sld dL_law_755 rfl hb hLn (by omega) (by omega) (by omega) ?_
      refine g_callV (nc2 := 0) (ns2 := 0) (ci := 9) (As := [.int (gI (gs N ((0) + (1))))]) (st := []) rfl dL_law_756 okX9_take lL_80 itX9_take seX9_take rfl s0 (by decide) (by decide) rfl (Nat.le_of_ble_eq_true rfl) (xtake N B _ hs (gs N ((0) + (1))) (gW_t _)) (by omega) (by omega) (fun v1044 hc1044 q1044 => ?_)
      obtain ⟨rfl, hM⟩ := q1044
      refine Go.nf (h' := hc1044) (st' := [.int (gI (-1))]) rfl rfl (Nat.le_refl _) (Nat.le_refl _) ?_
      refine g_aload_n 1 dL_law_759 rfl ?_
      refine g_aload_n 3 dL_law_760 rfl ?_
      refine g_iload_n 0 dL_law_761 rfl ?_
      refine g_iconst dL_law_762 ?_
      refine g_iadd dL_law_763 ?_
      refine g_sld dL_law_764 rfl hb hLn (by omega) (by omega) (by omega) ?_
      refine g_callV (nc2 := 0) (ns2 := 0) (ci := 10) (As := [.int (gI (gs N ((0) + (1))))]) (st := [.int (gI (-1))]) rfl dL_law_765 okX10_take lL_83 itX10_take seX10_take rfl (hM 35 _ (by omega) rfl) (by decide) (by decide) rfl (Nat.le_of_ble_eq_true rfl) (mtake N B _ hM (gs N ((0) + (1))) (gW_t _)) (by omega) (by omega) (fun v1045 hc1045 q1045 => ?_)
      subst q1045
      refine Go.nf (h' := hc1045) (st' := [.int (gI (-1)), .int (gI (-1))]) rfl rfl (Nat.le_refl _) (Nat.le_refl _) ?_
      refine g_icmp_eq (tgt := 958) dL_law_768 rfl (by first | exact gW_t _ | (unfold gW at *; omega) | (unfold gW; split <;> omega)) (by first | exact gW_t _ | (unfold gW at *; omega) | (unfold gW; split <;> omega)) (fun c1046 => ?_) (fun c1046 => absurd c1046 (by simp))
      exact fin _ _ _
    · refine g_tabIn (tgt := 773) dL_law_33 (by unfold gW; omega) (by omega) (by omega) rfl rfl ?_
      refine g_aload_n 2 dL_law_773 rfl ?_
      refine g_aload_n 3 dL_law_774 rfl ?_
      refine g_iload_n 0 dL_law_775 rfl ?_
      refine g_iconst dL_law_776 ?_
      refine g_iadd dL_law_777 ?_
      refine g_sld dL_law_778 rfl hb hLn (by omega) (by omega) (by omega) ?_
      refine g_callV (nc2 := 0) (ns2 := 0) (ci := 9) (As := [.int (gI (gs N ((0) + (1))))]) (st := []) rfl dL_law_779 okX9_told lL_84 itX9_told seX9_told rfl s0 (by decide) (by decide) rfl (Nat.le_of_ble_eq_true rfl) (xtoldw N B _ hs (gs N ((0) + (1))) (gW_t _)) (by omega) (by omega) (fun v1047 hc1047 q1047 => ?_)
      obtain ⟨rfl, hM⟩ := q1047
      refine Go.nf (h' := hc1047) (st' := [.int (gI (-1))]) rfl rfl (Nat.le_refl _) (Nat.le_refl _) ?_
      refine g_aload_n 1 dL_law_782 rfl ?_
      refine g_aload_n 3 dL_law_783 rfl ?_
      refine g_iload_n 0 dL_law_784 rfl ?_
      refine g_iconst dL_law_785 ?_
      refine g_iadd dL_law_786 ?_
      refine g_sld dL_law_787 rfl hb hLn (by omega) (by omega) (by omega) ?_
      refine g_callV (nc2 := 0) (ns2 := 0) (ci := 10) (As := [.int (gI (gs N ((0) + (1))))]) (st := [.int (gI (-1))]) rfl dL_law_788 okX10_told lL_87 itX10_told seX10_told rfl (hM 35 _ (by omega) rfl) (by decide) (by decide) rfl (Nat.le_of_ble_eq_true rfl) (mtold N B _ hM (gs N ((0) + (1))) (gW_t _)) (by omega) (by omega) (fun v1048 hc1048 q1048 => ?_)
      subst q1048
      refine Go.nf (h' := hc1048) (st' := [.int (gI (-1)), .int (gI (-1))]) rfl rfl (Nat.le_refl _) (Nat.le_refl _) ?_
      refine g_icmp_eq (tgt := 958) dL_law_791 rfl (by first | exact gW_t _ | (unfold gW at *; omega) | (unfold gW; split <;> omega)) (by first | exact gW_t _ | (unfold gW at *; omega) | (unfold gW; split <;> omega)) (fun c1049 => ?_) (fun c1049 => absurd c1049 (by simp))
      exact fin _ _ _
    · refine g_tabIn (tgt := 796) dL_law_33 (by unfold gW; omega) (by omega) (by omega) rfl rfl ?_
      refine g_aload_n 2 dL_law_796 rfl ?_
      refine g_aload_n 3 dL_law_797 rfl ?_
      refine g_iload_n 0 dL_law_798 rfl ?_
      refine g_iconst dL_law_799 ?_
      refine g_iadd dL_law_800 ?_
      refine g_sld dL_law_801 rfl hb hLn (by omega) (by omega) (by omega) ?_
      refine g_aload_n 3 dL_law_802 rfl ?_
      refine g_iload_n 0 dL_law_803 rfl ?_
      refine g_iconst dL_law_804 ?_
      refine g_iadd dL_law_805 ?_
      refine g_sld dL_law_806 rfl hb hLn (by omega) (by omega) (by omega) ?_
      refine g_callV (nc2 := 0) (ns2 := 0) (ci := 9) (As := [.int (gI (gs N ((0) + (1)))), .int (gI (gs N ((0) + (2))))]) (st := []) rfl dL_law_807 okX9_part lL_88 itX9_part seX9_part rfl s0 (by decide) (by decide) rfl (Nat.le_of_ble_eq_true rfl) (xpart N B _ hs (gs N ((0) + (1))) (gW_t _) (gs N ((0) + (2))) (gW_t _)) (by omega) (by omega) (fun v1050 hc1050 q1050 => ?_)
      obtain ⟨rfl, hM⟩ := q1050
      refine Go.nf (h' := hc1050) (st' := [.int (gI (-1))]) rfl rfl (Nat.le_refl _) (Nat.le_refl _) ?_
      refine g_aload_n 1 dL_law_810 rfl ?_
      refine g_aload_n 3 dL_law_811 rfl ?_
      refine g_iload_n 0 dL_law_812 rfl ?_
      refine g_iconst dL_law_813 ?_
      refine g_iadd dL_law_814 ?_
      refine g_sld dL_law_815 rfl hb hLn (by omega) (by omega) (by omega) ?_
      refine g_aload_n 3 dL_law_816 rfl ?_
      refine g_iload_n 0 dL_law_817 rfl ?_
      refine g_iconst dL_law_818 ?_
      refine g_iadd dL_law_819 ?_
      refine g_sld dL_law_820 rfl hb hLn (by omega) (by omega) (by omega) ?_
      refine g_callV (nc2 := 0) (ns2 := 0) (ci := 10) (As := [.int (gI (gs N ((0) + (1)))), .int (gI (gs N ((0) + (2))))]) (st := [.int (gI (-1))]) rfl dL_law_821 okX10_part_ lL_91 itX10_part_ seX10_part_ rfl (hM 35 _ (by omega) rfl) (by decide) (by decide) rfl (Nat.le_of_ble_eq_true rfl) (mpart N B _ hM (gs N ((0) + (1))) (gW_t _) (gs N ((0) + (2))) (gW_t _)) (by omega) (by omega) (fun v1051 hc1051 q1051 => ?_)
      subst q1051
      refine Go.nf (h' := hc1051) (st' := [.int (gI (-1)), .int (gI (-1))]) rfl rfl (Nat.le_refl _) (Nat.le_refl _) ?_
      refine g_icmp_eq (tgt := 958) dL_law_824 rfl (by first | exact gW_t _ | (unfold gW at *; omega) | (unfold gW; split <;> omega)) (by first | exact gW_t _ | (unfold gW at *; omega) | (unfold gW; split <;> omega)) (fun c1052 => ?_) (fun c1052 => absurd c1052 (by simp))
      exact fin _ _ _
    · refine g_tabIn (tgt := 829) dL_law_33 (by unfold gW; omega) (by omega) (by omega) rfl rfl ?_
      refine g_aload_n 2 dL_law_829 rfl ?_
      refine g_aload_n 3 dL_law_830 rfl ?_
      refine g_iload_n 0 dL_law_831 rfl ?_
      refine g_iconst dL_law_832 ?_
      refine g_iadd dL_law_833 ?_
      refine g_sld dL_law_834 rfl hb hLn (by omega) (by omega) (by omega) ?_
      refine g_callV (nc2 := 0) (ns2 := 0) (ci := 9) (As := [.int (gI (gs N ((0) + (1))))]) (st := []) rfl dL_law_835 okX9_root lL_92 itX9_root seX9_root rfl s0 (by decide) (by decide) rfl (Nat.le_of_ble_eq_true rfl) (xroot N B _ hs (gs N ((0) + (1))) (gW_t _)) (by omega) (by omega) (fun v1053 hc1053 q1053 => ?_)
      obtain ⟨rfl, hM⟩ := q1053
      refine Go.nf (h' := hc1053) (st' := [.int (gI (-1))]) rfl rfl (Nat.le_refl _) (Nat.le_refl _) ?_
      refine g_aload_n 1 dL_law_838 rfl ?_
      refine g_aload_n 3 dL_law_839 rfl ?_
      refine g_iload_n 0 dL_law_840 rfl ?_
      refine g_iconst dL_law_841 ?_
      refine g_iadd dL_law_842 ?_
      refine g_sld dL_law_843 rfl hb hLn (by omega) (by omega) (by omega) ?_
      refine g_callV (nc2 := 0) (ns2 := 0) (ci := 10) (As := [.int (gI (gs N ((0) + (1))))]) (st := [.int (gI (-1))]) rfl dL_law_844 okX10_root lL_95 itX10_root seX10_root rfl (hM 35 _ (by omega) rfl) (by decide) (by decide) rfl (Nat.le_of_ble_eq_true rfl) (mroot N B _ hM (gs N ((0) + (1))) (gW_t _)) (by omega) (by omega) (fun v1054 hc1054 q1054 => ?_)
      subst q1054
      refine Go.nf (h' := hc1054) (st' := [.int (gI (-1)), .int (gI (-1))]) rfl rfl (Nat.le_refl _) (Nat.le_refl _) ?_
      refine g_icmp_eq (tgt := 958) dL_law_847 rfl (by first | exact gW_t _ | (unfold gW at *; omega) | (unfold gW; split <;> omega)) (by first | exact gW_t _ | (unfold gW at *; omega) | (unfold gW; split <;> omega)) (fun c1055 => ?_) (fun c1055 => absurd c1055 (by simp))
      exact fin _ _ _
    · refine g_tabIn (tgt := 852) dL_law_33 (by unfold gW; omega) (by omega) (by omega) rfl rfl ?_
      refine g_aload_n 2 dL_law_852 rfl ?_
      refine g_aload_n 3 dL_law_853 rfl ?_
      refine g_iload_n 0 dL_law_854 rfl ?_
      refine g_iconst dL_law_855 ?_
      refine g_iadd dL_law_856 ?_
      refine g_sld dL_law_857 rfl hb hLn (by omega) (by omega) (by omega) ?_
      refine g_i2l dL_law_858 (by first | exact gW_t _ | (unfold gW at *; omega) | (unfold gW; split <;> omega)) ?_
      refine g_bipush dL_law_859 (by decide) ?_
      refine g_lshl dL_law_861 ?_
      refine g_aload_n 3 dL_law_862 rfl ?_
      refine g_iload_n 0 dL_law_863 rfl ?_
      refine g_iconst dL_law_864 ?_
      refine g_iadd dL_law_865 ?_
      refine g_sld dL_law_866 rfl hb hLn (by omega) (by omega) (by omega) ?_
      refine g_i2l dL_law_867 (by first | exact gW_t _ | (unfold gW at *; omega) | (unfold gW; split <;> omega)) ?_
      refine g_ldc2 dL_law_868 vL_18 ?_
      refine g_land dL_law_871 ?_
      refine g_lor dL_law_872 ?_
      refine g_aload_n 3 dL_law_873 rfl ?_
      refine g_iload_n 0 dL_law_874 rfl ?_
      refine g_iconst dL_law_875 ?_
      refine g_iadd dL_law_876 ?_
      refine g_sld dL_law_877 rfl hb hLn (by omega) (by omega) (by omega) ?_
      refine g_i2l dL_law_878 (by first | exact gW_t _ | (unfold gW at *; omega) | (unfold gW; split <;> omega)) ?_
      refine g_bipush dL_law_879 (by decide) ?_
      refine g_lshl dL_law_881 ?_
      refine g_aload_n 3 dL_law_882 rfl ?_
      refine g_iload_n 0 dL_law_883 rfl ?_
      refine g_iconst dL_law_884 ?_
      refine g_iadd dL_law_885 ?_
      refine g_sld dL_law_886 rfl hb hLn (by omega) (by omega) (by omega) ?_
      refine g_i2l dL_law_887 (by first | exact gW_t _ | (unfold gW at *; omega) | (unfold gW; split <;> omega)) ?_
      refine g_ldc2 dL_law_888 vL_18 ?_
      refine g_land dL_law_891 ?_
      refine g_lor dL_law_892 ?_
      refine g_callV (nc2 := 0) (ns2 := 0) (ci := 9) (As := [.long (gJ (gOrL (gShlL (gs N ((0) + (1))) (32)) (gAndL (gs N ((0) + (2))) (4294967295)))), .long (gJ (gOrL (gShlL (gs N ((0) + (3))) (32)) (gAndL (gs N ((0) + (4))) (4294967295))))]) (st := []) rfl dL_law_893 okX9_point lL_96 itX9_point seX9_point rfl s0 (by decide) (by decide) rfl (Nat.le_of_ble_eq_true rfl) (xpoint N B _ hs (gOrL (gShlL (gs N ((0) + (1))) (32)) (gAndL (gs N ((0) + (2))) (4294967295))) (gX_t _) (gOrL (gShlL (gs N ((0) + (3))) (32)) (gAndL (gs N ((0) + (4))) (4294967295))) (gX_t _)) (by omega) (by omega) (fun v1056 hc1056 q1056 => ?_)
      obtain ⟨rfl, hM⟩ := q1056
      refine Go.nf (h' := hc1056) (st' := [.int (gI (1))]) rfl rfl (Nat.le_refl _) (Nat.le_refl _) ?_
      refine g_aload_n 1 dL_law_896 rfl ?_
      refine g_aload_n 3 dL_law_897 rfl ?_
      refine g_iload_n 0 dL_law_898 rfl ?_
      refine g_iconst dL_law_899 ?_
      refine g_iadd dL_law_900 ?_
      refine g_sld dL_law_901 rfl hb hLn (by omega) (by omega) (by omega) ?_
      refine g_i2l dL_law_902 (by first | exact gW_t _ | (unfold gW at *; omega) | (unfold gW; split <;> omega)) ?_
      refine g_bipush dL_law_903 (by decide) ?_
      refine g_lshl dL_law_905 ?_
      refine g_aload_n 3 dL_law_906 rfl ?_
      refine g_iload_n 0 dL_law_907 rfl ?_
      refine g_iconst dL_law_908 ?_
      refine g_iadd dL_law_909 ?_
      refine g_sld dL_law_910 rfl hb hLn (by omega) (by omega) (by omega) ?_
      refine g_i2l dL_law_911 (by first | exact gW_t _ | (unfold gW at *; omega) | (unfold gW; split <;> omega)) ?_
      refine g_ldc2 dL_law_912 vL_18 ?_
      refine g_land dL_law_915 ?_
      refine g_lor dL_law_916 ?_
      refine g_aload_n 3 dL_law_917 rfl ?_
      refine g_iload_n 0 dL_law_918 rfl ?_
      refine g_iconst dL_law_919 ?_
      refine g_iadd dL_law_920 ?_
      refine g_sld dL_law_921 rfl hb hLn (by omega) (by omega) (by omega) ?_
      refine g_i2l dL_law_922 (by first | exact gW_t _ | (unfold gW at *; omega) | (unfold gW; split <;> omega)) ?_
      refine g_bipush dL_law_923 (by decide) ?_
      refine g_lshl dL_law_925 ?_
      refine g_aload_n 3 dL_law_926 rfl ?_
      refine g_iload_n 0 dL_law_927 rfl ?_
      refine g_iconst dL_law_928 ?_
      refine g_iadd dL_law_929 ?_
      refine g_sld dL_law_930 rfl hb hLn (by omega) (by omega) (by omega) ?_
      refine g_i2l dL_law_931 (by first | exact gW_t _ | (unfold gW at *; omega) | (unfold gW; split <;> omega)) ?_
      refine g_ldc2 dL_law_932 vL_18 ?_
      refine g_land dL_law_935 ?_
      refine g_lor dL_law_936 ?_
      refine g_callV (nc2 := 0) (ns2 := 0) (ci := 10) (As := [.long (gJ (gOrL (gShlL (gs N ((0) + (1))) (32)) (gAndL (gs N ((0) + (2))) (4294967295)))), .long (gJ (gOrL (gShlL (gs N ((0) + (3))) (32)) (gAndL (gs N ((0) + (4))) (4294967295))))]) (st := [.int (gI (1))]) rfl dL_law_937 okX10_point lL_100 itX10_point seX10_point rfl (hM 35 _ (by omega) rfl) (by decide) (by decide) rfl (Nat.le_of_ble_eq_true rfl) (mpoint N B _ hM (gOrL (gShlL (gs N ((0) + (1))) (32)) (gAndL (gs N ((0) + (2))) (4294967295))) (gX_t _) (gOrL (gShlL (gs N ((0) + (3))) (32)) (gAndL (gs N ((0) + (4))) (4294967295))) (gX_t _)) (by omega) (by omega) (fun v1057 hc1057 q1057 => ?_)
      subst q1057
      refine Go.nf (h' := hc1057) (st' := [.int (gI (1)), .int (gI (1))]) rfl rfl (Nat.le_refl _) (Nat.le_refl _) ?_
      refine g_icmp_eq (tgt := 958) dL_law_940 rfl (by first | exact gW_t _ | (unfold gW at *; omega) | (unfold gW; split <;> omega)) (by first | exact gW_t _ | (unfold gW at *; omega) | (unfold gW; split <;> omega)) (fun c1058 => ?_) (fun c1058 => absurd c1058 (by simp))
      exact fin _ _ _
    · refine g_tabIn (tgt := 945) dL_law_33 (by unfold gW; omega) (by omega) (by omega) rfl rfl ?_
      refine g_aload_n 2 dL_law_945 rfl ?_
      refine g_callV (nc2 := 2) (ns2 := 290) (ci := 9) (As := []) (st := []) rfl dL_law_946 okX9_interpolate lL_101 itX9_interpolate seX9_interpolate rfl s0 (by decide) (by decide) rfl (Nat.le_of_ble_eq_true rfl) (xinterpolate N B _ hs ) (by omega) (by omega) (fun v1059 hc1059 q1059 => ?_)
      obtain ⟨rfl, hM⟩ := q1059
      refine Go.nf (h' := hc1059) (st' := [.int (gI (0))]) rfl rfl (Nat.le_refl _) (Nat.le_refl _) ?_
      refine g_aload_n 1 dL_law_949 rfl ?_
      refine g_callV (nc2 := 0) (ns2 := 0) (ci := 10) (As := []) (st := [.int (gI (0))]) rfl dL_law_950 okX10_interpolate lL_105 itX10_interpolate seX10_interpolate rfl (hM 35 _ (by omega) rfl) (by decide) (by decide) rfl (Nat.le_of_ble_eq_true rfl) (minterpolate N B _ hM ) (by omega) (by omega) (fun v1060 hc1060 q1060 => ?_)
      subst q1060
      refine Go.nf (h' := hc1060) (st' := [.int (gI (0)), .int (gI (0))]) rfl rfl (Nat.le_refl _) (Nat.le_refl _) ?_
      refine g_icmp_eq (tgt := 958) dL_law_953 rfl (by first | exact gW_t _ | (unfold gW at *; omega) | (unfold gW; split <;> omega)) (by first | exact gW_t _ | (unfold gW at *; omega) | (unfold gW; split <;> omega)) (fun c1061 => ?_) (fun c1061 => absurd c1061 (by simp))
      exact fin _ _ _
    · refine g_tabOut (tgt := 958) dL_law_33 (by unfold gW; omega) (by omega) rfl ?_
      exact fin _ _ _
