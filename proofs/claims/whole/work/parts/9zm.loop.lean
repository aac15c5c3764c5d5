/-! the law's loop -/
theorem prm_two : prm 2 := ⟨Nat.le_refl _, fun d h1 h2 => by omega⟩
theorem PA_0 {B k : Nat} {cs : List GE} (h : cs[k]? = some (oB 4 [.ref (B + (k + 1)), .int (gI (-1)), .int (gI (-1))])) (h1 : cs[k + 1]? = some (aJ 287 (fun _ => 0))) : PA (hL B cs) (B + k) := ⟨-1, -1, _, hL_get h, hL_get (k := k + 1) h1, fun _ => gX_0⟩
theorem RA_0 {B k : Nat} {cs : List GE} (h : cs[k]? = some (oB 5 [.ref (B + (k + 1)), .int (gI (-1))])) (h1 : cs[k + 1]? = some (aJ 84 (fun _ => 0))) : RA 84 (hL B cs) (B + k) := ⟨-1, _, hL_get h, hL_get (k := k + 1) h1, fun _ => gX_0, by omega, by omega, by omega, by omega⟩
theorem JJ_start (B : Nat) : JJ B (hL B (cS B)) := by
  refine ⟨2, prm_two, fun _ => none, none, 0, fun _ => 0, fun _ => 0, by omega, ⟨.null, .null, fun _ => False, fun _ => False, ⟨hL_get (k := 0) rfl, ⟨hL_get (k := 7) rfl, hL_get (k := 1) rfl, fun x hx => ?_⟩, hL_get (k := 4) rfl, PA_0 (k := 5) rfl rfl, PA_0 (k := 27) rfl rfl, RA_0 (k := 29) rfl rfl, RA_0 (k := 31) rfl rfl, RA_0 (k := 33) rfl rfl, ⟨_, _, hL_get (k := 24) rfl, hL_get (k := 25) rfl, hL_get (k := 26) rfl, by omega, fun k a b => by omega⟩, Nat.le_refl _⟩, ⟨fun _ => none, fun _ => 0, hL_get (k := 2) rfl, hL_get (k := 3) rfl, fun k a b => Or.inl ⟨rfl, rfl⟩, fun k q hq => (by cases hq), fun k l q r _ hq => (by cases hq)⟩, Or.inl ⟨rfl, rfl⟩, Or.inl rfl, fun x hx => hx.elim⟩, ?_⟩
  · unfold pl at hx
    simp only [List.mem_cons, List.not_mem_nil, or_false] at hx
    rcases hx with rfl | rfl | rfl | rfl | rfl | rfl | rfl | rfl
    · exact RA_0 (k := 8) rfl rfl
    · exact RA_0 (k := 10) rfl rfl
    · exact RA_0 (k := 12) rfl rfl
    · exact RA_0 (k := 14) rfl rfl
    · exact RA_0 (k := 16) rfl rfl
    · exact RA_0 (k := 18) rfl rfl
    · exact RA_0 (k := 20) rfl rfl
    · exact RA_0 (k := 22) rfl rfl
  · have g : ∀ (k : Nat) (e : GE), (cS B)[35 + k]? = some e → (hL B (cS B)).2 (B + 35 + k) = some e := fun k e he => by rw [Nat.add_assoc]; exact hL_get he
    exact ⟨0, 0, 0, 0, 0, 0, g 0 _ rfl, ⟨_, _, g 1 _ rfl, g 2 _ rfl, fun k a b => Or.inl ⟨rfl, rfl⟩⟩, ⟨MA.of (g 5 _ rfl) (g 6 _ rfl), ⟨_, g 3 _ rfl⟩, ⟨_, g 4 _ rfl⟩, ⟨_, g 7 _ rfl⟩, ⟨_, g 8 _ rfl⟩⟩, ⟨⟨_, g 16 _ rfl⟩, ⟨_, g 17 _ rfl⟩, ⟨_, g 18 _ rfl⟩, ⟨_, g 19 _ rfl⟩, ⟨_, g 20 _ rfl⟩⟩, g 21 _ rfl, g 22 _ rfl, ⟨_, _, _, _, _, _, _, g 9 _ rfl, g 10 _ rfl, g 11 _ rfl, g 12 _ rfl, g 13 _ rfl, g 14 _ rfl, g 15 _ rfl, rfl, rfl, rfl, rfl⟩, by omega, fun k a b => by omega⟩
set_option maxHeartbeats 4000000 in
set_option maxRecDepth 100000 in
theorem law_loop (N : GN) (B b L : Nat) (hb : N.2.2.2.2.1 = b) (hLn : N.2.2.2.2.2.1 = L) (hlen : L ≤ 384) : ∀ (kk : Nat) (i : Int) (h : GH), kk = (390 - i).toNat → 0 ≤ i → i ≤ 384 → JJ B h → Go N mL_law (fun v _ => v = some (.int (gI 1))) (1680 * (kk / 6)) (73700 * (kk / 6)) h 18 [(3, .int (gI (i))), (2, .ref (B + 35)), (1, .ref (B)), (0, .ref (b))] [] := by
  refine Go.ind (fun kk ih => ?_)
  intro i h hkk i0 i1 hJ
  refine g_iload_n 0 dL_law_18 rfl ?_
  refine g_aload_n 3 dL_law_19 rfl ?_
  refine g_slen dL_law_20 rfl hb hLn ?_
  refine g_bipush dL_law_21 (by decide) ?_
  refine g_isub dL_law_23 ?_
  refine g_icmp_gt (tgt := 964) dL_law_24 rfl (by first | exact gW_t _ | assumption | (unfold gW at *; omega) | (unfold gW; split <;> omega)) (by first | exact gW_t _ | assumption | (unfold gW at *; omega) | (unfold gW; split <;> omega)) (fun c1001 => ?_) (fun c1001 => ?_)
  · skip
    refine g_iconst dL_law_964 ?_
    exact g_zret dL_law_965 rfl (by omega) rfl
  · skip
    refine g_aload_n 3 dL_law_27 rfl ?_
    refine g_iload_n 0 dL_law_28 rfl ?_
    refine g_sld dL_law_29 rfl hb hLn (by omega) (by omega) (by omega) ?_
    refine g_bipush dL_law_30 (by decide) ?_
    refine g_iand dL_law_32 ?_
    have ht := gAnd31 (gs N (i))
    generalize gAnd (gs N (i)) 31 = t at ht ⊢
    rcases (show t = 0 ∨ t = 1 ∨ t = 2 ∨ t = 3 ∨ t = 4 ∨ t = 5 ∨ t = 6 ∨ t = 7 ∨ t = 8 ∨ t = 9 ∨ t = 10 ∨ t = 11 ∨ t = 12 ∨ t = 13 ∨ t = 14 ∨ t = 15 ∨ t = 16 ∨ t = 17 ∨ t = 18 ∨ t = 19 ∨ 19 < t by omega) with rfl | rfl | rfl | rfl | rfl | rfl | rfl | rfl | rfl | rfl | rfl | rfl | rfl | rfl | rfl | rfl | rfl | rfl | rfl | rfl | ht2
    · refine g_tabIn (tgt := 128) dL_law_33 (by unfold gW; omega) (by omega) (by omega) rfl rfl ?_
      refine g_aload_n 2 dL_law_128 rfl ?_
      refine g_aload_n 3 dL_law_129 rfl ?_
      refine g_iload_n 0 dL_law_130 rfl ?_
      refine g_iconst dL_law_131 ?_
      refine g_iadd dL_law_132 ?_
      refine g_sld dL_law_133 rfl hb hLn (by omega) (by omega) (by omega) ?_
      refine Go.wf (fun wf1003 => ?_)
      obtain ⟨⟨fs1003, ho1003⟩, nc1003, ns1003, bn1003, bs1003, sp1003⟩ := jp_prime N B h hJ wf1003 (gs N ((i) + (1))) (gW_t _)
      refine g_callV (nc2 := nc1003) (ns2 := ns1003) (ci := 9) (As := [.int (gI (gs N ((i) + (1))))]) (st := []) rfl dL_law_134 okX9_prime lL_13 itX9_prime seX9_prime rfl ho1003 (by decide) (by decide) rfl (Nat.le_of_ble_eq_true rfl) (sp1003) (by omega) (by omega) (fun v1002 hc1002 q1002 => ?_)
      obtain ⟨⟨fm1003, hm1003⟩, w1003, gw1003, rfl, sm1003⟩ := q1002
      refine Go.nf (h' := hc1002) (st' := [.int (gI (w1003))]) rfl rfl (Nat.le_refl _) (Nat.le_refl _) ?_
      refine g_aload_n 1 dL_law_137 rfl ?_
      refine g_aload_n 3 dL_law_138 rfl ?_
      refine g_iload_n 0 dL_law_139 rfl ?_
      refine g_iconst dL_law_140 ?_
      refine g_iadd dL_law_141 ?_
      refine g_sld dL_law_142 rfl hb hLn (by omega) (by omega) (by omega) ?_
      refine g_callV (nc2 := 0) (ns2 := 0) (ci := 10) (As := [.int (gI (gs N ((i) + (1))))]) (st := [.int (gI (w1003))]) rfl dL_law_143 okX10_prime lL_17 itX10_prime seX10_prime rfl hm1003 (by decide) (by decide) rfl (Nat.le_of_ble_eq_true rfl) (sm1003) (by omega) (by omega) (fun v1004 hc1004 q1004 => ?_)
      obtain ⟨rfl, hJhc1004⟩ := q1004
      refine Go.nf (h' := hc1004) (st' := [.int (gI (w1003)), .int (gI (w1003))]) rfl rfl (Nat.le_refl _) (Nat.le_refl _) ?_
      refine g_icmp_eq (tgt := 958) dL_law_146 rfl (by first | exact gW_t _ | assumption | (unfold gW at *; omega) | (unfold gW; split <;> omega)) (by first | exact gW_t _ | assumption | (unfold gW at *; omega) | (unfold gW; split <;> omega)) (fun c1005 => ?_) (fun c1005 => absurd c1005 (by simp))
      refine g_iinc 0 (ls2 := [(3, .int (gI (i + 6))), (2, .ref (B + 35)), (1, .ref (B)), (0, .ref (b))]) dL_law_958 rfl (by decide) rfl ?_
      refine g_goto (tgt := 18) dL_law_961 rfl ?_
      exact Go.imp (by omega) (by omega) (ih _ (by omega) (i + 6) hc1004 rfl (by omega) (by omega) hJhc1004)
    · refine g_tabIn (tgt := 151) dL_law_33 (by unfold gW; omega) (by omega) (by omega) rfl rfl ?_
      refine g_aload_n 2 dL_law_151 rfl ?_
      refine g_aload_n 3 dL_law_152 rfl ?_
      refine g_iload_n 0 dL_law_153 rfl ?_
      refine g_iconst dL_law_154 ?_
      refine g_iadd dL_law_155 ?_
      refine g_sld dL_law_156 rfl hb hLn (by omega) (by omega) (by omega) ?_
      refine g_i2l dL_law_157 (by first | exact gW_t _ | assumption | (unfold gW at *; omega) | (unfold gW; split <;> omega)) ?_
      refine g_bipush dL_law_158 (by decide) ?_
      refine g_lshl dL_law_160 ?_
      refine g_aload_n 3 dL_law_161 rfl ?_
      refine g_iload_n 0 dL_law_162 rfl ?_
      refine g_iconst dL_law_163 ?_
      refine g_iadd dL_law_164 ?_
      refine g_sld dL_law_165 rfl hb hLn (by omega) (by omega) (by omega) ?_
      refine g_i2l dL_law_166 (by first | exact gW_t _ | assumption | (unfold gW at *; omega) | (unfold gW; split <;> omega)) ?_
      refine g_ldc2 dL_law_167 vL_18 ?_
      refine g_land dL_law_170 ?_
      refine g_lor dL_law_171 ?_
      refine Go.wf (fun wf1007 => ?_)
      obtain ⟨⟨fs1007, ho1007⟩, nc1007, ns1007, bn1007, bs1007, sp1007⟩ := jp_constant N B h hJ wf1007 (gOrL (gShlL (gs N ((i) + (1))) (32)) (gAndL (gs N ((i) + (2))) (4294967295))) (gX_t _)
      refine g_callV (nc2 := nc1007) (ns2 := ns1007) (ci := 9) (As := [.long (gJ (gOrL (gShlL (gs N ((i) + (1))) (32)) (gAndL (gs N ((i) + (2))) (4294967295))))]) (st := []) rfl dL_law_172 okX9_constant lL_20 itX9_constant seX9_constant rfl ho1007 (by decide) (by decide) rfl (Nat.le_of_ble_eq_true rfl) (sp1007) (by omega) (by omega) (fun v1006 hc1006 q1006 => ?_)
      obtain ⟨⟨fm1007, hm1007⟩, w1007, gw1007, rfl, sm1007⟩ := q1006
      refine Go.nf (h' := hc1006) (st' := [.int (gI (w1007))]) rfl rfl (Nat.le_refl _) (Nat.le_refl _) ?_
      refine g_aload_n 1 dL_law_175 rfl ?_
      refine g_aload_n 3 dL_law_176 rfl ?_
      refine g_iload_n 0 dL_law_177 rfl ?_
      refine g_iconst dL_law_178 ?_
      refine g_iadd dL_law_179 ?_
      refine g_sld dL_law_180 rfl hb hLn (by omega) (by omega) (by omega) ?_
      refine g_i2l dL_law_181 (by first | exact gW_t _ | assumption | (unfold gW at *; omega) | (unfold gW; split <;> omega)) ?_
      refine g_bipush dL_law_182 (by decide) ?_
      refine g_lshl dL_law_184 ?_
      refine g_aload_n 3 dL_law_185 rfl ?_
      refine g_iload_n 0 dL_law_186 rfl ?_
      refine g_iconst dL_law_187 ?_
      refine g_iadd dL_law_188 ?_
      refine g_sld dL_law_189 rfl hb hLn (by omega) (by omega) (by omega) ?_
      refine g_i2l dL_law_190 (by first | exact gW_t _ | assumption | (unfold gW at *; omega) | (unfold gW; split <;> omega)) ?_
      refine g_ldc2 dL_law_191 vL_18 ?_
      refine g_land dL_law_194 ?_
      refine g_lor dL_law_195 ?_
      refine g_callV (nc2 := 0) (ns2 := 0) (ci := 10) (As := [.long (gJ (gOrL (gShlL (gs N ((i) + (1))) (32)) (gAndL (gs N ((i) + (2))) (4294967295))))]) (st := [.int (gI (w1007))]) rfl dL_law_196 okX10_constant lL_24 itX10_constant seX10_constant rfl hm1007 (by decide) (by decide) rfl (Nat.le_of_ble_eq_true rfl) (sm1007) (by omega) (by omega) (fun v1008 hc1008 q1008 => ?_)
      obtain ⟨rfl, hJhc1008⟩ := q1008
      refine Go.nf (h' := hc1008) (st' := [.int (gI (w1007)), .int (gI (w1007))]) rfl rfl (Nat.le_refl _) (Nat.le_refl _) ?_
      refine g_icmp_eq (tgt := 958) dL_law_199 rfl (by first | exact gW_t _ | assumption | (unfold gW at *; omega) | (unfold gW; split <;> omega)) (by first | exact gW_t _ | assumption | (unfold gW at *; omega) | (unfold gW; split <;> omega)) (fun c1009 => ?_) (fun c1009 => absurd c1009 (by simp))
      refine g_iinc 0 (ls2 := [(3, .int (gI (i + 6))), (2, .ref (B + 35)), (1, .ref (B)), (0, .ref (b))]) dL_law_958 rfl (by decide) rfl ?_
      refine g_goto (tgt := 18) dL_law_961 rfl ?_
      exact Go.imp (by omega) (by omega) (ih _ (by omega) (i + 6) hc1008 rfl (by omega) (by omega) hJhc1008)
    · refine g_tabIn (tgt := 204) dL_law_33 (by unfold gW; omega) (by omega) (by omega) rfl rfl ?_
      refine g_aload_n 2 dL_law_204 rfl ?_
      refine g_aload_n 3 dL_law_205 rfl ?_
      refine g_iload_n 0 dL_law_206 rfl ?_
      refine g_iconst dL_law_207 ?_
      refine g_iadd dL_law_208 ?_
      refine g_sld dL_law_209 rfl hb hLn (by omega) (by omega) (by omega) ?_
      refine Go.wf (fun wf1011 => ?_)
      obtain ⟨⟨fs1011, ho1011⟩, nc1011, ns1011, bn1011, bs1011, sp1011⟩ := jp_variable N B h hJ wf1011 (gs N ((i) + (1))) (gW_t _)
      refine g_callV (nc2 := nc1011) (ns2 := ns1011) (ci := 9) (As := [.int (gI (gs N ((i) + (1))))]) (st := []) rfl dL_law_210 okX9_variable lL_25 itX9_variable seX9_variable rfl ho1011 (by decide) (by decide) rfl (Nat.le_of_ble_eq_true rfl) (sp1011) (by omega) (by omega) (fun v1010 hc1010 q1010 => ?_)
      obtain ⟨⟨fm1011, hm1011⟩, w1011, gw1011, rfl, sm1011⟩ := q1010
      refine Go.nf (h' := hc1010) (st' := [.int (gI (w1011))]) rfl rfl (Nat.le_refl _) (Nat.le_refl _) ?_
      refine g_aload_n 1 dL_law_213 rfl ?_
      refine g_aload_n 3 dL_law_214 rfl ?_
      refine g_iload_n 0 dL_law_215 rfl ?_
      refine g_iconst dL_law_216 ?_
      refine g_iadd dL_law_217 ?_
      refine g_sld dL_law_218 rfl hb hLn (by omega) (by omega) (by omega) ?_
      refine g_callV (nc2 := 0) (ns2 := 0) (ci := 10) (As := [.int (gI (gs N ((i) + (1))))]) (st := [.int (gI (w1011))]) rfl dL_law_219 okX10_variable lL_29 itX10_variable seX10_variable rfl hm1011 (by decide) (by decide) rfl (Nat.le_of_ble_eq_true rfl) (sm1011) (by omega) (by omega) (fun v1012 hc1012 q1012 => ?_)
      obtain ⟨rfl, hJhc1012⟩ := q1012
      refine Go.nf (h' := hc1012) (st' := [.int (gI (w1011)), .int (gI (w1011))]) rfl rfl (Nat.le_refl _) (Nat.le_refl _) ?_
      refine g_icmp_eq (tgt := 958) dL_law_222 rfl (by first | exact gW_t _ | assumption | (unfold gW at *; omega) | (unfold gW; split <;> omega)) (by first | exact gW_t _ | assumption | (unfold gW at *; omega) | (unfold gW; split <;> omega)) (fun c1013 => ?_) (fun c1013 => absurd c1013 (by simp))
      refine g_iinc 0 (ls2 := [(3, .int (gI (i + 6))), (2, .ref (B + 35)), (1, .ref (B)), (0, .ref (b))]) dL_law_958 rfl (by decide) rfl ?_
      refine g_goto (tgt := 18) dL_law_961 rfl ?_
      exact Go.imp (by omega) (by omega) (ih _ (by omega) (i + 6) hc1012 rfl (by omega) (by omega) hJhc1012)
    · refine g_tabIn (tgt := 227) dL_law_33 (by unfold gW; omega) (by omega) (by omega) rfl rfl ?_
      refine g_aload_n 2 dL_law_227 rfl ?_
      refine g_aload_n 3 dL_law_228 rfl ?_
      refine g_iload_n 0 dL_law_229 rfl ?_
      refine g_iconst dL_law_230 ?_
      refine g_iadd dL_law_231 ?_
      refine g_sld dL_law_232 rfl hb hLn (by omega) (by omega) (by omega) ?_
      refine g_aload_n 3 dL_law_233 rfl ?_
      refine g_iload_n 0 dL_law_234 rfl ?_
      refine g_iconst dL_law_235 ?_
      refine g_iadd dL_law_236 ?_
      refine g_sld dL_law_237 rfl hb hLn (by omega) (by omega) (by omega) ?_
      refine g_aload_n 3 dL_law_238 rfl ?_
      refine g_iload_n 0 dL_law_239 rfl ?_
      refine g_iconst dL_law_240 ?_
      refine g_iadd dL_law_241 ?_
      refine g_sld dL_law_242 rfl hb hLn (by omega) (by omega) (by omega) ?_
      refine Go.wf (fun wf1015 => ?_)
      obtain ⟨⟨fs1015, ho1015⟩, nc1015, ns1015, bn1015, bs1015, sp1015⟩ := jp_apply N B h hJ wf1015 (gs N ((i) + (1))) (gW_t _) (gs N ((i) + (2))) (gW_t _) (gs N ((i) + (3))) (gW_t _)
      refine g_callV (nc2 := nc1015) (ns2 := ns1015) (ci := 9) (As := [.int (gI (gs N ((i) + (1)))), .int (gI (gs N ((i) + (2)))), .int (gI (gs N ((i) + (3))))]) (st := []) rfl dL_law_243 okX9_apply lL_30 itX9_apply seX9_apply rfl ho1015 (by decide) (by decide) rfl (Nat.le_of_ble_eq_true rfl) (sp1015) (by omega) (by omega) (fun v1014 hc1014 q1014 => ?_)
      obtain ⟨⟨fm1015, hm1015⟩, w1015, gw1015, rfl, sm1015⟩ := q1014
      refine Go.nf (h' := hc1014) (st' := [.int (gI (w1015))]) rfl rfl (Nat.le_refl _) (Nat.le_refl _) ?_
      refine g_aload_n 1 dL_law_246 rfl ?_
      refine g_aload_n 3 dL_law_247 rfl ?_
      refine g_iload_n 0 dL_law_248 rfl ?_
      refine g_iconst dL_law_249 ?_
      refine g_iadd dL_law_250 ?_
      refine g_sld dL_law_251 rfl hb hLn (by omega) (by omega) (by omega) ?_
      refine g_aload_n 3 dL_law_252 rfl ?_
      refine g_iload_n 0 dL_law_253 rfl ?_
      refine g_iconst dL_law_254 ?_
      refine g_iadd dL_law_255 ?_
      refine g_sld dL_law_256 rfl hb hLn (by omega) (by omega) (by omega) ?_
      refine g_aload_n 3 dL_law_257 rfl ?_
      refine g_iload_n 0 dL_law_258 rfl ?_
      refine g_iconst dL_law_259 ?_
      refine g_iadd dL_law_260 ?_
      refine g_sld dL_law_261 rfl hb hLn (by omega) (by omega) (by omega) ?_
      refine g_callV (nc2 := 0) (ns2 := 0) (ci := 10) (As := [.int (gI (gs N ((i) + (1)))), .int (gI (gs N ((i) + (2)))), .int (gI (gs N ((i) + (3))))]) (st := [.int (gI (w1015))]) rfl dL_law_262 okX10_apply lL_34 itX10_apply seX10_apply rfl hm1015 (by decide) (by decide) rfl (Nat.le_of_ble_eq_true rfl) (sm1015) (by omega) (by omega) (fun v1016 hc1016 q1016 => ?_)
      obtain ⟨rfl, hJhc1016⟩ := q1016
      refine Go.nf (h' := hc1016) (st' := [.int (gI (w1015)), .int (gI (w1015))]) rfl rfl (Nat.le_refl _) (Nat.le_refl _) ?_
      refine g_icmp_eq (tgt := 958) dL_law_265 rfl (by first | exact gW_t _ | assumption | (unfold gW at *; omega) | (unfold gW; split <;> omega)) (by first | exact gW_t _ | assumption | (unfold gW at *; omega) | (unfold gW; split <;> omega)) (fun c1017 => ?_) (fun c1017 => absurd c1017 (by simp))
      refine g_iinc 0 (ls2 := [(3, .int (gI (i + 6))), (2, .ref (B + 35)), (1, .ref (B)), (0, .ref (b))]) dL_law_958 rfl (by decide) rfl ?_
      refine g_goto (tgt := 18) dL_law_961 rfl ?_
      exact Go.imp (by omega) (by omega) (ih _ (by omega) (i + 6) hc1016 rfl (by omega) (by omega) hJhc1016)
    · refine g_tabIn (tgt := 270) dL_law_33 (by unfold gW; omega) (by omega) (by omega) rfl rfl ?_
      refine g_aload_n 2 dL_law_270 rfl ?_
      refine g_aload_n 3 dL_law_271 rfl ?_
      refine g_iload_n 0 dL_law_272 rfl ?_
      refine g_iconst dL_law_273 ?_
      refine g_iadd dL_law_274 ?_
      refine g_sld dL_law_275 rfl hb hLn (by omega) (by omega) (by omega) ?_
      refine g_aload_n 3 dL_law_276 rfl ?_
      refine g_iload_n 0 dL_law_277 rfl ?_
      refine g_iconst dL_law_278 ?_
      refine g_iadd dL_law_279 ?_
      refine g_sld dL_law_280 rfl hb hLn (by omega) (by omega) (by omega) ?_
      refine g_i2l dL_law_281 (by first | exact gW_t _ | assumption | (unfold gW at *; omega) | (unfold gW; split <;> omega)) ?_
      refine g_bipush dL_law_282 (by decide) ?_
      refine g_lshl dL_law_284 ?_
      refine g_aload_n 3 dL_law_285 rfl ?_
      refine g_iload_n 0 dL_law_286 rfl ?_
      refine g_iconst dL_law_287 ?_
      refine g_iadd dL_law_288 ?_
      refine g_sld dL_law_289 rfl hb hLn (by omega) (by omega) (by omega) ?_
      refine g_i2l dL_law_290 (by first | exact gW_t _ | assumption | (unfold gW at *; omega) | (unfold gW; split <;> omega)) ?_
      refine g_ldc2 dL_law_291 vL_18 ?_
      refine g_land dL_law_294 ?_
      refine g_lor dL_law_295 ?_
      refine g_aload_n 3 dL_law_296 rfl ?_
      refine g_iload_n 0 dL_law_297 rfl ?_
      refine g_iconst dL_law_298 ?_
      refine g_iadd dL_law_299 ?_
      refine g_sld dL_law_300 rfl hb hLn (by omega) (by omega) (by omega) ?_
      refine g_aload_n 3 dL_law_301 rfl ?_
      refine g_iload_n 0 dL_law_302 rfl ?_
      refine g_iconst dL_law_303 ?_
      refine g_iadd dL_law_304 ?_
      refine g_sld dL_law_305 rfl hb hLn (by omega) (by omega) (by omega) ?_
      refine Go.wf (fun wf1019 => ?_)
      obtain ⟨⟨fs1019, ho1019⟩, nc1019, ns1019, bn1019, bs1019, sp1019⟩ := jp_plus N B h hJ wf1019 (gs N ((i) + (1))) (gW_t _) (gOrL (gShlL (gs N ((i) + (2))) (32)) (gAndL (gs N ((i) + (3))) (4294967295))) (gX_t _) (gs N ((i) + (4))) (gW_t _) (gs N ((i) + (5))) (gW_t _)
      refine g_callV (nc2 := nc1019) (ns2 := ns1019) (ci := 9) (As := [.int (gI (gs N ((i) + (1)))), .long (gJ (gOrL (gShlL (gs N ((i) + (2))) (32)) (gAndL (gs N ((i) + (3))) (4294967295)))), .int (gI (gs N ((i) + (4)))), .int (gI (gs N ((i) + (5))))]) (st := []) rfl dL_law_306 okX9_plus lL_35 itX9_plus seX9_plus rfl ho1019 (by decide) (by decide) rfl (Nat.le_of_ble_eq_true rfl) (sp1019) (by omega) (by omega) (fun v1018 hc1018 q1018 => ?_)
      obtain ⟨⟨fm1019, hm1019⟩, w1019, gw1019, rfl, sm1019⟩ := q1018
      refine Go.nf (h' := hc1018) (st' := [.int (gI (w1019))]) rfl rfl (Nat.le_refl _) (Nat.le_refl _) ?_
      refine g_aload_n 1 dL_law_309 rfl ?_
      refine g_aload_n 3 dL_law_310 rfl ?_
      refine g_iload_n 0 dL_law_311 rfl ?_
      refine g_iconst dL_law_312 ?_
      refine g_iadd dL_law_313 ?_
      refine g_sld dL_law_314 rfl hb hLn (by omega) (by omega) (by omega) ?_
      refine g_aload_n 3 dL_law_315 rfl ?_
      refine g_iload_n 0 dL_law_316 rfl ?_
      refine g_iconst dL_law_317 ?_
      refine g_iadd dL_law_318 ?_
      refine g_sld dL_law_319 rfl hb hLn (by omega) (by omega) (by omega) ?_
      refine g_i2l dL_law_320 (by first | exact gW_t _ | assumption | (unfold gW at *; omega) | (unfold gW; split <;> omega)) ?_
      refine g_bipush dL_law_321 (by decide) ?_
      refine g_lshl dL_law_323 ?_
      refine g_aload_n 3 dL_law_324 rfl ?_
      refine g_iload_n 0 dL_law_325 rfl ?_
      refine g_iconst dL_law_326 ?_
      refine g_iadd dL_law_327 ?_
      refine g_sld dL_law_328 rfl hb hLn (by omega) (by omega) (by omega) ?_
      refine g_i2l dL_law_329 (by first | exact gW_t _ | assumption | (unfold gW at *; omega) | (unfold gW; split <;> omega)) ?_
      refine g_ldc2 dL_law_330 vL_18 ?_
      refine g_land dL_law_333 ?_
      refine g_lor dL_law_334 ?_
      refine g_aload_n 3 dL_law_335 rfl ?_
      refine g_iload_n 0 dL_law_336 rfl ?_
      refine g_iconst dL_law_337 ?_
      refine g_iadd dL_law_338 ?_
      refine g_sld dL_law_339 rfl hb hLn (by omega) (by omega) (by omega) ?_
      refine g_aload_n 3 dL_law_340 rfl ?_
      refine g_iload_n 0 dL_law_341 rfl ?_
      refine g_iconst dL_law_342 ?_
      refine g_iadd dL_law_343 ?_
      refine g_sld dL_law_344 rfl hb hLn (by omega) (by omega) (by omega) ?_
      refine g_callV (nc2 := 0) (ns2 := 0) (ci := 10) (As := [.int (gI (gs N ((i) + (1)))), .long (gJ (gOrL (gShlL (gs N ((i) + (2))) (32)) (gAndL (gs N ((i) + (3))) (4294967295)))), .int (gI (gs N ((i) + (4)))), .int (gI (gs N ((i) + (5))))]) (st := [.int (gI (w1019))]) rfl dL_law_345 okX10_plus lL_39 itX10_plus seX10_plus rfl hm1019 (by decide) (by decide) rfl (Nat.le_of_ble_eq_true rfl) (sm1019) (by omega) (by omega) (fun v1020 hc1020 q1020 => ?_)
      obtain ⟨rfl, hJhc1020⟩ := q1020
      refine Go.nf (h' := hc1020) (st' := [.int (gI (w1019)), .int (gI (w1019))]) rfl rfl (Nat.le_refl _) (Nat.le_refl _) ?_
      refine g_icmp_eq (tgt := 958) dL_law_348 rfl (by first | exact gW_t _ | assumption | (unfold gW at *; omega) | (unfold gW; split <;> omega)) (by first | exact gW_t _ | assumption | (unfold gW at *; omega) | (unfold gW; split <;> omega)) (fun c1021 => ?_) (fun c1021 => absurd c1021 (by simp))
      refine g_iinc 0 (ls2 := [(3, .int (gI (i + 6))), (2, .ref (B + 35)), (1, .ref (B)), (0, .ref (b))]) dL_law_958 rfl (by decide) rfl ?_
      refine g_goto (tgt := 18) dL_law_961 rfl ?_
      exact Go.imp (by omega) (by omega) (ih _ (by omega) (i + 6) hc1020 rfl (by omega) (by omega) hJhc1020)
    · refine g_tabIn (tgt := 353) dL_law_33 (by unfold gW; omega) (by omega) (by omega) rfl rfl ?_
      refine g_aload_n 2 dL_law_353 rfl ?_
      refine g_aload_n 3 dL_law_354 rfl ?_
      refine g_iload_n 0 dL_law_355 rfl ?_
      refine g_iconst dL_law_356 ?_
      refine g_iadd dL_law_357 ?_
      refine g_sld dL_law_358 rfl hb hLn (by omega) (by omega) (by omega) ?_
      refine g_aload_n 3 dL_law_359 rfl ?_
      refine g_iload_n 0 dL_law_360 rfl ?_
      refine g_iconst dL_law_361 ?_
      refine g_iadd dL_law_362 ?_
      refine g_sld dL_law_363 rfl hb hLn (by omega) (by omega) (by omega) ?_
      refine g_i2l dL_law_364 (by first | exact gW_t _ | assumption | (unfold gW at *; omega) | (unfold gW; split <;> omega)) ?_
      refine g_bipush dL_law_365 (by decide) ?_
      refine g_lshl dL_law_367 ?_
      refine g_aload_n 3 dL_law_368 rfl ?_
      refine g_iload_n 0 dL_law_369 rfl ?_
      refine g_iconst dL_law_370 ?_
      refine g_iadd dL_law_371 ?_
      refine g_sld dL_law_372 rfl hb hLn (by omega) (by omega) (by omega) ?_
      refine g_i2l dL_law_373 (by first | exact gW_t _ | assumption | (unfold gW at *; omega) | (unfold gW; split <;> omega)) ?_
      refine g_ldc2 dL_law_374 vL_18 ?_
      refine g_land dL_law_377 ?_
      refine g_lor dL_law_378 ?_
      refine g_aload_n 3 dL_law_379 rfl ?_
      refine g_iload_n 0 dL_law_380 rfl ?_
      refine g_iconst dL_law_381 ?_
      refine g_iadd dL_law_382 ?_
      refine g_sld dL_law_383 rfl hb hLn (by omega) (by omega) (by omega) ?_
      refine Go.wf (fun wf1023 => ?_)
      obtain ⟨⟨fs1023, ho1023⟩, nc1023, ns1023, bn1023, bs1023, sp1023⟩ := jp_power N B h hJ wf1023 (gs N ((i) + (1))) (gW_t _) (gOrL (gShlL (gs N ((i) + (2))) (32)) (gAndL (gs N ((i) + (3))) (4294967295))) (gX_t _) (gs N ((i) + (4))) (gW_t _)
      refine g_callV (nc2 := nc1023) (ns2 := ns1023) (ci := 9) (As := [.int (gI (gs N ((i) + (1)))), .long (gJ (gOrL (gShlL (gs N ((i) + (2))) (32)) (gAndL (gs N ((i) + (3))) (4294967295)))), .int (gI (gs N ((i) + (4))))]) (st := []) rfl dL_law_384 okX9_power lL_40 itX9_power seX9_power rfl ho1023 (by decide) (by decide) rfl (Nat.le_of_ble_eq_true rfl) (sp1023) (by omega) (by omega) (fun v1022 hc1022 q1022 => ?_)
      obtain ⟨⟨fm1023, hm1023⟩, w1023, gw1023, rfl, sm1023⟩ := q1022
      refine Go.nf (h' := hc1022) (st' := [.int (gI (w1023))]) rfl rfl (Nat.le_refl _) (Nat.le_refl _) ?_
      refine g_aload_n 1 dL_law_387 rfl ?_
      refine g_aload_n 3 dL_law_388 rfl ?_
      refine g_iload_n 0 dL_law_389 rfl ?_
      refine g_iconst dL_law_390 ?_
      refine g_iadd dL_law_391 ?_
      refine g_sld dL_law_392 rfl hb hLn (by omega) (by omega) (by omega) ?_
      refine g_aload_n 3 dL_law_393 rfl ?_
      refine g_iload_n 0 dL_law_394 rfl ?_
      refine g_iconst dL_law_395 ?_
      refine g_iadd dL_law_396 ?_
      refine g_sld dL_law_397 rfl hb hLn (by omega) (by omega) (by omega) ?_
      refine g_i2l dL_law_398 (by first | exact gW_t _ | assumption | (unfold gW at *; omega) | (unfold gW; split <;> omega)) ?_
      refine g_bipush dL_law_399 (by decide) ?_
      refine g_lshl dL_law_401 ?_
      refine g_aload_n 3 dL_law_402 rfl ?_
      refine g_iload_n 0 dL_law_403 rfl ?_
      refine g_iconst dL_law_404 ?_
      refine g_iadd dL_law_405 ?_
      refine g_sld dL_law_406 rfl hb hLn (by omega) (by omega) (by omega) ?_
      refine g_i2l dL_law_407 (by first | exact gW_t _ | assumption | (unfold gW at *; omega) | (unfold gW; split <;> omega)) ?_
      refine g_ldc2 dL_law_408 vL_18 ?_
      refine g_land dL_law_411 ?_
      refine g_lor dL_law_412 ?_
      refine g_aload_n 3 dL_law_413 rfl ?_
      refine g_iload_n 0 dL_law_414 rfl ?_
      refine g_iconst dL_law_415 ?_
      refine g_iadd dL_law_416 ?_
      refine g_sld dL_law_417 rfl hb hLn (by omega) (by omega) (by omega) ?_
      refine g_callV (nc2 := 0) (ns2 := 0) (ci := 10) (As := [.int (gI (gs N ((i) + (1)))), .long (gJ (gOrL (gShlL (gs N ((i) + (2))) (32)) (gAndL (gs N ((i) + (3))) (4294967295)))), .int (gI (gs N ((i) + (4))))]) (st := [.int (gI (w1023))]) rfl dL_law_418 okX10_power lL_44 itX10_power seX10_power rfl hm1023 (by decide) (by decide) rfl (Nat.le_of_ble_eq_true rfl) (sm1023) (by omega) (by omega) (fun v1024 hc1024 q1024 => ?_)
      obtain ⟨rfl, hJhc1024⟩ := q1024
      refine Go.nf (h' := hc1024) (st' := [.int (gI (w1023)), .int (gI (w1023))]) rfl rfl (Nat.le_refl _) (Nat.le_refl _) ?_
      refine g_icmp_eq (tgt := 958) dL_law_421 rfl (by first | exact gW_t _ | assumption | (unfold gW at *; omega) | (unfold gW; split <;> omega)) (by first | exact gW_t _ | assumption | (unfold gW at *; omega) | (unfold gW; split <;> omega)) (fun c1025 => ?_) (fun c1025 => absurd c1025 (by simp))
      refine g_iinc 0 (ls2 := [(3, .int (gI (i + 6))), (2, .ref (B + 35)), (1, .ref (B)), (0, .ref (b))]) dL_law_958 rfl (by decide) rfl ?_
      refine g_goto (tgt := 18) dL_law_961 rfl ?_
      exact Go.imp (by omega) (by omega) (ih _ (by omega) (i + 6) hc1024 rfl (by omega) (by omega) hJhc1024)
    · refine g_tabIn (tgt := 426) dL_law_33 (by unfold gW; omega) (by omega) (by omega) rfl rfl ?_
      refine g_aload_n 2 dL_law_426 rfl ?_
      refine g_aload_n 3 dL_law_427 rfl ?_
      refine g_iload_n 0 dL_law_428 rfl ?_
      refine g_iconst dL_law_429 ?_
      refine g_iadd dL_law_430 ?_
      refine g_sld dL_law_431 rfl hb hLn (by omega) (by omega) (by omega) ?_
      refine g_aload_n 3 dL_law_432 rfl ?_
      refine g_iload_n 0 dL_law_433 rfl ?_
      refine g_iconst dL_law_434 ?_
      refine g_iadd dL_law_435 ?_
      refine g_sld dL_law_436 rfl hb hLn (by omega) (by omega) (by omega) ?_
      refine g_aload_n 3 dL_law_437 rfl ?_
      refine g_iload_n 0 dL_law_438 rfl ?_
      refine g_iconst dL_law_439 ?_
      refine g_iadd dL_law_440 ?_
      refine g_sld dL_law_441 rfl hb hLn (by omega) (by omega) (by omega) ?_
      refine Go.wf (fun wf1027 => ?_)
      obtain ⟨⟨fs1027, ho1027⟩, nc1027, ns1027, bn1027, bs1027, sp1027⟩ := jp_at N B h hJ wf1027 (gs N ((i) + (1))) (gW_t _) (gs N ((i) + (2))) (gW_t _) (gs N ((i) + (3))) (gW_t _)
      refine g_callV (nc2 := nc1027) (ns2 := ns1027) (ci := 9) (As := [.int (gI (gs N ((i) + (1)))), .int (gI (gs N ((i) + (2)))), .int (gI (gs N ((i) + (3))))]) (st := []) rfl dL_law_442 okX9_at lL_45 itX9_at seX9_at rfl ho1027 (by decide) (by decide) rfl (Nat.le_of_ble_eq_true rfl) (sp1027) (by omega) (by omega) (fun v1026 hc1026 q1026 => ?_)
      obtain ⟨⟨fm1027, hm1027⟩, w1027, gw1027, rfl, sm1027⟩ := q1026
      refine Go.nf (h' := hc1026) (st' := [.int (gI (w1027))]) rfl rfl (Nat.le_refl _) (Nat.le_refl _) ?_
      refine g_aload_n 1 dL_law_445 rfl ?_
      refine g_aload_n 3 dL_law_446 rfl ?_
      refine g_iload_n 0 dL_law_447 rfl ?_
      refine g_iconst dL_law_448 ?_
      refine g_iadd dL_law_449 ?_
      refine g_sld dL_law_450 rfl hb hLn (by omega) (by omega) (by omega) ?_
      refine g_aload_n 3 dL_law_451 rfl ?_
      refine g_iload_n 0 dL_law_452 rfl ?_
      refine g_iconst dL_law_453 ?_
      refine g_iadd dL_law_454 ?_
      refine g_sld dL_law_455 rfl hb hLn (by omega) (by omega) (by omega) ?_
      refine g_aload_n 3 dL_law_456 rfl ?_
      refine g_iload_n 0 dL_law_457 rfl ?_
      refine g_iconst dL_law_458 ?_
      refine g_iadd dL_law_459 ?_
      refine g_sld dL_law_460 rfl hb hLn (by omega) (by omega) (by omega) ?_
      refine g_callV (nc2 := 0) (ns2 := 0) (ci := 10) (As := [.int (gI (gs N ((i) + (1)))), .int (gI (gs N ((i) + (2)))), .int (gI (gs N ((i) + (3))))]) (st := [.int (gI (w1027))]) rfl dL_law_461 okX10_at lL_48 itX10_at seX10_at rfl hm1027 (by decide) (by decide) rfl (Nat.le_of_ble_eq_true rfl) (sm1027) (by omega) (by omega) (fun v1028 hc1028 q1028 => ?_)
      obtain ⟨rfl, hJhc1028⟩ := q1028
      refine Go.nf (h' := hc1028) (st' := [.int (gI (w1027)), .int (gI (w1027))]) rfl rfl (Nat.le_refl _) (Nat.le_refl _) ?_
      refine g_icmp_eq (tgt := 958) dL_law_464 rfl (by first | exact gW_t _ | assumption | (unfold gW at *; omega) | (unfold gW; split <;> omega)) (by first | exact gW_t _ | assumption | (unfold gW at *; omega) | (unfold gW; split <;> omega)) (fun c1029 => ?_) (fun c1029 => absurd c1029 (by simp))
      refine g_iinc 0 (ls2 := [(3, .int (gI (i + 6))), (2, .ref (B + 35)), (1, .ref (B)), (0, .ref (b))]) dL_law_958 rfl (by decide) rfl ?_
      refine g_goto (tgt := 18) dL_law_961 rfl ?_
      exact Go.imp (by omega) (by omega) (ih _ (by omega) (i + 6) hc1028 rfl (by omega) (by omega) hJhc1028)
    · refine g_tabIn (tgt := 469) dL_law_33 (by unfold gW; omega) (by omega) (by omega) rfl rfl ?_
      refine g_aload_n 2 dL_law_469 rfl ?_
      refine g_aload_n 3 dL_law_470 rfl ?_
      refine g_iload_n 0 dL_law_471 rfl ?_
      refine g_iconst dL_law_472 ?_
      refine g_iadd dL_law_473 ?_
      refine g_sld dL_law_474 rfl hb hLn (by omega) (by omega) (by omega) ?_
      refine g_aload_n 3 dL_law_475 rfl ?_
      refine g_iload_n 0 dL_law_476 rfl ?_
      refine g_iconst dL_law_477 ?_
      refine g_iadd dL_law_478 ?_
      refine g_sld dL_law_479 rfl hb hLn (by omega) (by omega) (by omega) ?_
      refine Go.wf (fun wf1031 => ?_)
      obtain ⟨⟨fs1031, ho1031⟩, nc1031, ns1031, bn1031, bs1031, sp1031⟩ := jp_degree N B h hJ wf1031 (gs N ((i) + (1))) (gW_t _) (gs N ((i) + (2))) (gW_t _)
      refine g_callV (nc2 := nc1031) (ns2 := ns1031) (ci := 9) (As := [.int (gI (gs N ((i) + (1)))), .int (gI (gs N ((i) + (2))))]) (st := []) rfl dL_law_480 okX9_degree lL_49 itX9_degree seX9_degree rfl ho1031 (by decide) (by decide) rfl (Nat.le_of_ble_eq_true rfl) (sp1031) (by omega) (by omega) (fun v1030 hc1030 q1030 => ?_)
      obtain ⟨⟨fm1031, hm1031⟩, w1031, gw1031, rfl, sm1031⟩ := q1030
      refine Go.nf (h' := hc1030) (st' := [.int (gI (w1031))]) rfl rfl (Nat.le_refl _) (Nat.le_refl _) ?_
      refine g_aload_n 1 dL_law_483 rfl ?_
      refine g_aload_n 3 dL_law_484 rfl ?_
      refine g_iload_n 0 dL_law_485 rfl ?_
      refine g_iconst dL_law_486 ?_
      refine g_iadd dL_law_487 ?_
      refine g_sld dL_law_488 rfl hb hLn (by omega) (by omega) (by omega) ?_
      refine g_aload_n 3 dL_law_489 rfl ?_
      refine g_iload_n 0 dL_law_490 rfl ?_
      refine g_iconst dL_law_491 ?_
      refine g_iadd dL_law_492 ?_
      refine g_sld dL_law_493 rfl hb hLn (by omega) (by omega) (by omega) ?_
      refine g_callV (nc2 := 0) (ns2 := 0) (ci := 10) (As := [.int (gI (gs N ((i) + (1)))), .int (gI (gs N ((i) + (2))))]) (st := [.int (gI (w1031))]) rfl dL_law_494 okX10_degree lL_53 itX10_degree seX10_degree rfl hm1031 (by decide) (by decide) rfl (Nat.le_of_ble_eq_true rfl) (sm1031) (by omega) (by omega) (fun v1032 hc1032 q1032 => ?_)
      obtain ⟨rfl, hJhc1032⟩ := q1032
      refine Go.nf (h' := hc1032) (st' := [.int (gI (w1031)), .int (gI (w1031))]) rfl rfl (Nat.le_refl _) (Nat.le_refl _) ?_
      refine g_icmp_eq (tgt := 958) dL_law_497 rfl (by first | exact gW_t _ | assumption | (unfold gW at *; omega) | (unfold gW; split <;> omega)) (by first | exact gW_t _ | assumption | (unfold gW at *; omega) | (unfold gW; split <;> omega)) (fun c1033 => ?_) (fun c1033 => absurd c1033 (by simp))
      refine g_iinc 0 (ls2 := [(3, .int (gI (i + 6))), (2, .ref (B + 35)), (1, .ref (B)), (0, .ref (b))]) dL_law_958 rfl (by decide) rfl ?_
      refine g_goto (tgt := 18) dL_law_961 rfl ?_
      exact Go.imp (by omega) (by omega) (ih _ (by omega) (i + 6) hc1032 rfl (by omega) (by omega) hJhc1032)
    · refine g_tabIn (tgt := 502) dL_law_33 (by unfold gW; omega) (by omega) (by omega) rfl rfl ?_
      refine g_aload_n 2 dL_law_502 rfl ?_
      refine g_aload_n 3 dL_law_503 rfl ?_
      refine g_iload_n 0 dL_law_504 rfl ?_
      refine g_iconst dL_law_505 ?_
      refine g_iadd dL_law_506 ?_
      refine g_sld dL_law_507 rfl hb hLn (by omega) (by omega) (by omega) ?_
      refine g_aload_n 3 dL_law_508 rfl ?_
      refine g_iload_n 0 dL_law_509 rfl ?_
      refine g_iconst dL_law_510 ?_
      refine g_iadd dL_law_511 ?_
      refine g_sld dL_law_512 rfl hb hLn (by omega) (by omega) (by omega) ?_
      refine g_i2l dL_law_513 (by first | exact gW_t _ | assumption | (unfold gW at *; omega) | (unfold gW; split <;> omega)) ?_
      refine g_bipush dL_law_514 (by decide) ?_
      refine g_lshl dL_law_516 ?_
      refine g_aload_n 3 dL_law_517 rfl ?_
      refine g_iload_n 0 dL_law_518 rfl ?_
      refine g_iconst dL_law_519 ?_
      refine g_iadd dL_law_520 ?_
      refine g_sld dL_law_521 rfl hb hLn (by omega) (by omega) (by omega) ?_
      refine g_i2l dL_law_522 (by first | exact gW_t _ | assumption | (unfold gW at *; omega) | (unfold gW; split <;> omega)) ?_
      refine g_ldc2 dL_law_523 vL_18 ?_
      refine g_land dL_law_526 ?_
      refine g_lor dL_law_527 ?_
      refine g_aload_n 3 dL_law_528 rfl ?_
      refine g_iload_n 0 dL_law_529 rfl ?_
      refine g_iconst dL_law_530 ?_
      refine g_iadd dL_law_531 ?_
      refine g_sld dL_law_532 rfl hb hLn (by omega) (by omega) (by omega) ?_
      refine g_i2l dL_law_533 (by first | exact gW_t _ | assumption | (unfold gW at *; omega) | (unfold gW; split <;> omega)) ?_
      refine g_bipush dL_law_534 (by decide) ?_
      refine g_lshl dL_law_536 ?_
      refine g_aload_n 3 dL_law_537 rfl ?_
      refine g_iload_n 0 dL_law_538 rfl ?_
      refine g_iconst dL_law_539 ?_
      refine g_iadd dL_law_540 ?_
      refine g_sld dL_law_541 rfl hb hLn (by omega) (by omega) (by omega) ?_
      refine g_i2l dL_law_542 (by first | exact gW_t _ | assumption | (unfold gW at *; omega) | (unfold gW; split <;> omega)) ?_
      refine g_ldc2 dL_law_543 vL_18 ?_
      refine g_land dL_law_546 ?_
      refine g_lor dL_law_547 ?_
      refine Go.wf (fun wf1035 => ?_)
      obtain ⟨⟨fs1035, ho1035⟩, nc1035, ns1035, bn1035, bs1035, sp1035⟩ := jp_value N B h hJ wf1035 (gs N ((i) + (1))) (gW_t _) (gOrL (gShlL (gs N ((i) + (2))) (32)) (gAndL (gs N ((i) + (3))) (4294967295))) (gX_t _) (gOrL (gShlL (gs N ((i) + (4))) (32)) (gAndL (gs N ((i) + (5))) (4294967295))) (gX_t _)
      refine g_callV (nc2 := nc1035) (ns2 := ns1035) (ci := 9) (As := [.int (gI (gs N ((i) + (1)))), .long (gJ (gOrL (gShlL (gs N ((i) + (2))) (32)) (gAndL (gs N ((i) + (3))) (4294967295)))), .long (gJ (gOrL (gShlL (gs N ((i) + (4))) (32)) (gAndL (gs N ((i) + (5))) (4294967295))))]) (st := []) rfl dL_law_548 okX9_value lL_54 itX9_value seX9_value rfl ho1035 (by decide) (by decide) rfl (Nat.le_of_ble_eq_true rfl) (sp1035) (by omega) (by omega) (fun v1034 hc1034 q1034 => ?_)
      obtain ⟨⟨fm1035, hm1035⟩, w1035, gw1035, rfl, sm1035⟩ := q1034
      refine Go.nf (h' := hc1034) (st' := [.int (gI (w1035))]) rfl rfl (Nat.le_refl _) (Nat.le_refl _) ?_
      refine g_aload_n 1 dL_law_551 rfl ?_
      refine g_aload_n 3 dL_law_552 rfl ?_
      refine g_iload_n 0 dL_law_553 rfl ?_
      refine g_iconst dL_law_554 ?_
      refine g_iadd dL_law_555 ?_
      refine g_sld dL_law_556 rfl hb hLn (by omega) (by omega) (by omega) ?_
      refine g_aload_n 3 dL_law_557 rfl ?_
      refine g_iload_n 0 dL_law_558 rfl ?_
      refine g_iconst dL_law_559 ?_
      refine g_iadd dL_law_560 ?_
      refine g_sld dL_law_561 rfl hb hLn (by omega) (by omega) (by omega) ?_
      refine g_i2l dL_law_562 (by first | exact gW_t _ | assumption | (unfold gW at *; omega) | (unfold gW; split <;> omega)) ?_
      refine g_bipush dL_law_563 (by decide) ?_
      refine g_lshl dL_law_565 ?_
      refine g_aload_n 3 dL_law_566 rfl ?_
      refine g_iload_n 0 dL_law_567 rfl ?_
      refine g_iconst dL_law_568 ?_
      refine g_iadd dL_law_569 ?_
      refine g_sld dL_law_570 rfl hb hLn (by omega) (by omega) (by omega) ?_
      refine g_i2l dL_law_571 (by first | exact gW_t _ | assumption | (unfold gW at *; omega) | (unfold gW; split <;> omega)) ?_
      refine g_ldc2 dL_law_572 vL_18 ?_
      refine g_land dL_law_575 ?_
      refine g_lor dL_law_576 ?_
      refine g_aload_n 3 dL_law_577 rfl ?_
      refine g_iload_n 0 dL_law_578 rfl ?_
      refine g_iconst dL_law_579 ?_
      refine g_iadd dL_law_580 ?_
      refine g_sld dL_law_581 rfl hb hLn (by omega) (by omega) (by omega) ?_
      refine g_i2l dL_law_582 (by first | exact gW_t _ | assumption | (unfold gW at *; omega) | (unfold gW; split <;> omega)) ?_
      refine g_bipush dL_law_583 (by decide) ?_
      refine g_lshl dL_law_585 ?_
      refine g_aload_n 3 dL_law_586 rfl ?_
      refine g_iload_n 0 dL_law_587 rfl ?_
      refine g_iconst dL_law_588 ?_
      refine g_iadd dL_law_589 ?_
      refine g_sld dL_law_590 rfl hb hLn (by omega) (by omega) (by omega) ?_
      refine g_i2l dL_law_591 (by first | exact gW_t _ | assumption | (unfold gW at *; omega) | (unfold gW; split <;> omega)) ?_
      refine g_ldc2 dL_law_592 vL_18 ?_
      refine g_land dL_law_595 ?_
      refine g_lor dL_law_596 ?_
      refine g_callV (nc2 := 0) (ns2 := 0) (ci := 10) (As := [.int (gI (gs N ((i) + (1)))), .long (gJ (gOrL (gShlL (gs N ((i) + (2))) (32)) (gAndL (gs N ((i) + (3))) (4294967295)))), .long (gJ (gOrL (gShlL (gs N ((i) + (4))) (32)) (gAndL (gs N ((i) + (5))) (4294967295))))]) (st := [.int (gI (w1035))]) rfl dL_law_597 okX10_value lL_58 itX10_value seX10_value rfl hm1035 (by decide) (by decide) rfl (Nat.le_of_ble_eq_true rfl) (sm1035) (by omega) (by omega) (fun v1036 hc1036 q1036 => ?_)
      obtain ⟨rfl, hJhc1036⟩ := q1036
      refine Go.nf (h' := hc1036) (st' := [.int (gI (w1035)), .int (gI (w1035))]) rfl rfl (Nat.le_refl _) (Nat.le_refl _) ?_
      refine g_icmp_eq (tgt := 958) dL_law_600 rfl (by first | exact gW_t _ | assumption | (unfold gW at *; omega) | (unfold gW; split <;> omega)) (by first | exact gW_t _ | assumption | (unfold gW at *; omega) | (unfold gW; split <;> omega)) (fun c1037 => ?_) (fun c1037 => absurd c1037 (by simp))
      refine g_iinc 0 (ls2 := [(3, .int (gI (i + 6))), (2, .ref (B + 35)), (1, .ref (B)), (0, .ref (b))]) dL_law_958 rfl (by decide) rfl ?_
      refine g_goto (tgt := 18) dL_law_961 rfl ?_
      exact Go.imp (by omega) (by omega) (ih _ (by omega) (i + 6) hc1036 rfl (by omega) (by omega) hJhc1036)
    · refine g_tabIn (tgt := 605) dL_law_33 (by unfold gW; omega) (by omega) (by omega) rfl rfl ?_
      refine g_aload_n 2 dL_law_605 rfl ?_
      refine g_aload_n 3 dL_law_606 rfl ?_
      refine g_iload_n 0 dL_law_607 rfl ?_
      refine g_iconst dL_law_608 ?_
      refine g_iadd dL_law_609 ?_
      refine g_sld dL_law_610 rfl hb hLn (by omega) (by omega) (by omega) ?_
      refine g_aload_n 3 dL_law_611 rfl ?_
      refine g_iload_n 0 dL_law_612 rfl ?_
      refine g_iconst dL_law_613 ?_
      refine g_iadd dL_law_614 ?_
      refine g_sld dL_law_615 rfl hb hLn (by omega) (by omega) (by omega) ?_
      refine Go.wf (fun wf1039 => ?_)
      obtain ⟨⟨fs1039, ho1039⟩, nc1039, ns1039, bn1039, bs1039, sp1039⟩ := jp_same N B h hJ wf1039 (gs N ((i) + (1))) (gW_t _) (gs N ((i) + (2))) (gW_t _)
      refine g_callV (nc2 := nc1039) (ns2 := ns1039) (ci := 9) (As := [.int (gI (gs N ((i) + (1)))), .int (gI (gs N ((i) + (2))))]) (st := []) rfl dL_law_616 okX9_same lL_59 itX9_same seX9_same rfl ho1039 (by decide) (by decide) rfl (Nat.le_of_ble_eq_true rfl) (sp1039) (by omega) (by omega) (fun v1038 hc1038 q1038 => ?_)
      obtain ⟨⟨fm1039, hm1039⟩, w1039, gw1039, rfl, sm1039⟩ := q1038
      refine Go.nf (h' := hc1038) (st' := [.int (gI (w1039))]) rfl rfl (Nat.le_refl _) (Nat.le_refl _) ?_
      refine g_aload_n 1 dL_law_619 rfl ?_
      refine g_aload_n 3 dL_law_620 rfl ?_
      refine g_iload_n 0 dL_law_621 rfl ?_
      refine g_iconst dL_law_622 ?_
      refine g_iadd dL_law_623 ?_
      refine g_sld dL_law_624 rfl hb hLn (by omega) (by omega) (by omega) ?_
      refine g_aload_n 3 dL_law_625 rfl ?_
      refine g_iload_n 0 dL_law_626 rfl ?_
      refine g_iconst dL_law_627 ?_
      refine g_iadd dL_law_628 ?_
      refine g_sld dL_law_629 rfl hb hLn (by omega) (by omega) (by omega) ?_
      refine g_callV (nc2 := 0) (ns2 := 0) (ci := 10) (As := [.int (gI (gs N ((i) + (1)))), .int (gI (gs N ((i) + (2))))]) (st := [.int (gI (w1039))]) rfl dL_law_630 okX10_same lL_63 itX10_same seX10_same rfl hm1039 (by decide) (by decide) rfl (Nat.le_of_ble_eq_true rfl) (sm1039) (by omega) (by omega) (fun v1040 hc1040 q1040 => ?_)
      obtain ⟨rfl, hJhc1040⟩ := q1040
      refine Go.nf (h' := hc1040) (st' := [.int (gI (w1039)), .int (gI (w1039))]) rfl rfl (Nat.le_refl _) (Nat.le_refl _) ?_
      refine g_icmp_eq (tgt := 958) dL_law_633 rfl (by first | exact gW_t _ | assumption | (unfold gW at *; omega) | (unfold gW; split <;> omega)) (by first | exact gW_t _ | assumption | (unfold gW at *; omega) | (unfold gW; split <;> omega)) (fun c1041 => ?_) (fun c1041 => absurd c1041 (by simp))
      refine g_iinc 0 (ls2 := [(3, .int (gI (i + 6))), (2, .ref (B + 35)), (1, .ref (B)), (0, .ref (b))]) dL_law_958 rfl (by decide) rfl ?_
      refine g_goto (tgt := 18) dL_law_961 rfl ?_
      exact Go.imp (by omega) (by omega) (ih _ (by omega) (i + 6) hc1040 rfl (by omega) (by omega) hJhc1040)
    · refine g_tabIn (tgt := 638) dL_law_33 (by unfold gW; omega) (by omega) (by omega) rfl rfl ?_
      refine g_aload_n 2 dL_law_638 rfl ?_
      refine g_aload_n 3 dL_law_639 rfl ?_
      refine g_iload_n 0 dL_law_640 rfl ?_
      refine g_iconst dL_law_641 ?_
      refine g_iadd dL_law_642 ?_
      refine g_sld dL_law_643 rfl hb hLn (by omega) (by omega) (by omega) ?_
      refine Go.wf (fun wf1043 => ?_)
      obtain ⟨⟨fs1043, ho1043⟩, nc1043, ns1043, bn1043, bs1043, sp1043⟩ := jp_drop N B h hJ wf1043 (gs N ((i) + (1))) (gW_t _)
      refine g_callV (nc2 := nc1043) (ns2 := ns1043) (ci := 9) (As := [.int (gI (gs N ((i) + (1))))]) (st := []) rfl dL_law_644 okX9_drop lL_64 itX9_drop seX9_drop rfl ho1043 (by decide) (by decide) rfl (Nat.le_of_ble_eq_true rfl) (sp1043) (by omega) (by omega) (fun v1042 hc1042 q1042 => ?_)
      obtain ⟨⟨fm1043, hm1043⟩, w1043, gw1043, rfl, sm1043⟩ := q1042
      refine Go.nf (h' := hc1042) (st' := [.int (gI (w1043))]) rfl rfl (Nat.le_refl _) (Nat.le_refl _) ?_
      refine g_aload_n 1 dL_law_647 rfl ?_
      refine g_aload_n 3 dL_law_648 rfl ?_
      refine g_iload_n 0 dL_law_649 rfl ?_
      refine g_iconst dL_law_650 ?_
      refine g_iadd dL_law_651 ?_
      refine g_sld dL_law_652 rfl hb hLn (by omega) (by omega) (by omega) ?_
      refine g_callV (nc2 := 0) (ns2 := 0) (ci := 10) (As := [.int (gI (gs N ((i) + (1))))]) (st := [.int (gI (w1043))]) rfl dL_law_653 okX10_drop lL_67 itX10_drop seX10_drop rfl hm1043 (by decide) (by decide) rfl (Nat.le_of_ble_eq_true rfl) (sm1043) (by omega) (by omega) (fun v1044 hc1044 q1044 => ?_)
      obtain ⟨rfl, hJhc1044⟩ := q1044
      refine Go.nf (h' := hc1044) (st' := [.int (gI (w1043)), .int (gI (w1043))]) rfl rfl (Nat.le_refl _) (Nat.le_refl _) ?_
      refine g_icmp_eq (tgt := 958) dL_law_656 rfl (by first | exact gW_t _ | assumption | (unfold gW at *; omega) | (unfold gW; split <;> omega)) (by first | exact gW_t _ | assumption | (unfold gW at *; omega) | (unfold gW; split <;> omega)) (fun c1045 => ?_) (fun c1045 => absurd c1045 (by simp))
      refine g_iinc 0 (ls2 := [(3, .int (gI (i + 6))), (2, .ref (B + 35)), (1, .ref (B)), (0, .ref (b))]) dL_law_958 rfl (by decide) rfl ?_
      refine g_goto (tgt := 18) dL_law_961 rfl ?_
      exact Go.imp (by omega) (by omega) (ih _ (by omega) (i + 6) hc1044 rfl (by omega) (by omega) hJhc1044)
    · refine g_tabIn (tgt := 661) dL_law_33 (by unfold gW; omega) (by omega) (by omega) rfl rfl ?_
      refine g_aload_n 2 dL_law_661 rfl ?_
      refine g_aload_n 3 dL_law_662 rfl ?_
      refine g_iload_n 0 dL_law_663 rfl ?_
      refine g_iconst dL_law_664 ?_
      refine g_iadd dL_law_665 ?_
      refine g_sld dL_law_666 rfl hb hLn (by omega) (by omega) (by omega) ?_
      refine Go.wf (fun wf1047 => ?_)
      obtain ⟨⟨fs1047, ho1047⟩, nc1047, ns1047, bn1047, bs1047, sp1047⟩ := jp_factor N B h hJ wf1047 (gs N ((i) + (1))) (gW_t _)
      refine g_callV (nc2 := nc1047) (ns2 := ns1047) (ci := 9) (As := [.int (gI (gs N ((i) + (1))))]) (st := []) rfl dL_law_667 okX9_factor lL_68 itX9_factor seX9_factor rfl ho1047 (by decide) (by decide) rfl (Nat.le_of_ble_eq_true rfl) (sp1047) (by omega) (by omega) (fun v1046 hc1046 q1046 => ?_)
      obtain ⟨⟨fm1047, hm1047⟩, w1047, gw1047, rfl, sm1047⟩ := q1046
      refine Go.nf (h' := hc1046) (st' := [.int (gI (w1047))]) rfl rfl (Nat.le_refl _) (Nat.le_refl _) ?_
      refine g_aload_n 1 dL_law_670 rfl ?_
      refine g_aload_n 3 dL_law_671 rfl ?_
      refine g_iload_n 0 dL_law_672 rfl ?_
      refine g_iconst dL_law_673 ?_
      refine g_iadd dL_law_674 ?_
      refine g_sld dL_law_675 rfl hb hLn (by omega) (by omega) (by omega) ?_
      refine g_callV (nc2 := 0) (ns2 := 0) (ci := 10) (As := [.int (gI (gs N ((i) + (1))))]) (st := [.int (gI (w1047))]) rfl dL_law_676 okX10_factor lL_71 itX10_factor seX10_factor rfl hm1047 (by decide) (by decide) rfl (Nat.le_of_ble_eq_true rfl) (sm1047) (by omega) (by omega) (fun v1048 hc1048 q1048 => ?_)
      obtain ⟨rfl, hJhc1048⟩ := q1048
      refine Go.nf (h' := hc1048) (st' := [.int (gI (w1047)), .int (gI (w1047))]) rfl rfl (Nat.le_refl _) (Nat.le_refl _) ?_
      refine g_icmp_eq (tgt := 958) dL_law_679 rfl (by first | exact gW_t _ | assumption | (unfold gW at *; omega) | (unfold gW; split <;> omega)) (by first | exact gW_t _ | assumption | (unfold gW at *; omega) | (unfold gW; split <;> omega)) (fun c1049 => ?_) (fun c1049 => absurd c1049 (by simp))
      refine g_iinc 0 (ls2 := [(3, .int (gI (i + 6))), (2, .ref (B + 35)), (1, .ref (B)), (0, .ref (b))]) dL_law_958 rfl (by decide) rfl ?_
      refine g_goto (tgt := 18) dL_law_961 rfl ?_
      exact Go.imp (by omega) (by omega) (ih _ (by omega) (i + 6) hc1048 rfl (by omega) (by omega) hJhc1048)
    · refine g_tabIn (tgt := 684) dL_law_33 (by unfold gW; omega) (by omega) (by omega) rfl rfl ?_
      refine g_aload_n 2 dL_law_684 rfl ?_
      refine g_aload_n 3 dL_law_685 rfl ?_
      refine g_iload_n 0 dL_law_686 rfl ?_
      refine g_iconst dL_law_687 ?_
      refine g_iadd dL_law_688 ?_
      refine g_sld dL_law_689 rfl hb hLn (by omega) (by omega) (by omega) ?_
      refine g_aload_n 3 dL_law_690 rfl ?_
      refine g_iload_n 0 dL_law_691 rfl ?_
      refine g_iconst dL_law_692 ?_
      refine g_iadd dL_law_693 ?_
      refine g_sld dL_law_694 rfl hb hLn (by omega) (by omega) (by omega) ?_
      refine Go.wf (fun wf1051 => ?_)
      obtain ⟨⟨fs1051, ho1051⟩, nc1051, ns1051, bn1051, bs1051, sp1051⟩ := jp_factorOf N B h hJ wf1051 (gs N ((i) + (1))) (gW_t _) (gs N ((i) + (2))) (gW_t _)
      refine g_callV (nc2 := nc1051) (ns2 := ns1051) (ci := 9) (As := [.int (gI (gs N ((i) + (1)))), .int (gI (gs N ((i) + (2))))]) (st := []) rfl dL_law_695 okX9_factorOf lL_72 itX9_factorOf seX9_factorOf rfl ho1051 (by decide) (by decide) rfl (Nat.le_of_ble_eq_true rfl) (sp1051) (by omega) (by omega) (fun v1050 hc1050 q1050 => ?_)
      obtain ⟨⟨fm1051, hm1051⟩, w1051, gw1051, rfl, sm1051⟩ := q1050
      refine Go.nf (h' := hc1050) (st' := [.int (gI (w1051))]) rfl rfl (Nat.le_refl _) (Nat.le_refl _) ?_
      refine g_aload_n 1 dL_law_698 rfl ?_
      refine g_aload_n 3 dL_law_699 rfl ?_
      refine g_iload_n 0 dL_law_700 rfl ?_
      refine g_iconst dL_law_701 ?_
      refine g_iadd dL_law_702 ?_
      refine g_sld dL_law_703 rfl hb hLn (by omega) (by omega) (by omega) ?_
      refine g_aload_n 3 dL_law_704 rfl ?_
      refine g_iload_n 0 dL_law_705 rfl ?_
      refine g_iconst dL_law_706 ?_
      refine g_iadd dL_law_707 ?_
      refine g_sld dL_law_708 rfl hb hLn (by omega) (by omega) (by omega) ?_
      refine g_callV (nc2 := 0) (ns2 := 0) (ci := 10) (As := [.int (gI (gs N ((i) + (1)))), .int (gI (gs N ((i) + (2))))]) (st := [.int (gI (w1051))]) rfl dL_law_709 okX10_factorOf lL_75 itX10_factorOf seX10_factorOf rfl hm1051 (by decide) (by decide) rfl (Nat.le_of_ble_eq_true rfl) (sm1051) (by omega) (by omega) (fun v1052 hc1052 q1052 => ?_)
      obtain ⟨rfl, hJhc1052⟩ := q1052
      refine Go.nf (h' := hc1052) (st' := [.int (gI (w1051)), .int (gI (w1051))]) rfl rfl (Nat.le_refl _) (Nat.le_refl _) ?_
      refine g_icmp_eq (tgt := 958) dL_law_712 rfl (by first | exact gW_t _ | assumption | (unfold gW at *; omega) | (unfold gW; split <;> omega)) (by first | exact gW_t _ | assumption | (unfold gW at *; omega) | (unfold gW; split <;> omega)) (fun c1053 => ?_) (fun c1053 => absurd c1053 (by simp))
      refine g_iinc 0 (ls2 := [(3, .int (gI (i + 6))), (2, .ref (B + 35)), (1, .ref (B)), (0, .ref (b))]) dL_law_958 rfl (by decide) rfl ?_
      refine g_goto (tgt := 18) dL_law_961 rfl ?_
      exact Go.imp (by omega) (by omega) (ih _ (by omega) (i + 6) hc1052 rfl (by omega) (by omega) hJhc1052)
    · refine g_tabIn (tgt := 717) dL_law_33 (by unfold gW; omega) (by omega) (by omega) rfl rfl ?_
      refine g_aload_n 2 dL_law_717 rfl ?_
      refine g_aload_n 3 dL_law_718 rfl ?_
      refine g_iload_n 0 dL_law_719 rfl ?_
      refine g_iconst dL_law_720 ?_
      refine g_iadd dL_law_721 ?_
      refine g_sld dL_law_722 rfl hb hLn (by omega) (by omega) (by omega) ?_
      refine g_aload_n 3 dL_law_723 rfl ?_
      refine g_iload_n 0 dL_law_724 rfl ?_
      refine g_iconst dL_law_725 ?_
      refine g_iadd dL_law_726 ?_
      refine g_sld dL_law_727 rfl hb hLn (by omega) (by omega) (by omega) ?_
      refine Go.wf (fun wf1055 => ?_)
      obtain ⟨⟨fs1055, ho1055⟩, nc1055, ns1055, bn1055, bs1055, sp1055⟩ := jp_factorAt N B h hJ wf1055 (gs N ((i) + (1))) (gW_t _) (gs N ((i) + (2))) (gW_t _)
      refine g_callV (nc2 := nc1055) (ns2 := ns1055) (ci := 9) (As := [.int (gI (gs N ((i) + (1)))), .int (gI (gs N ((i) + (2))))]) (st := []) rfl dL_law_728 okX9_factorAt lL_76 itX9_factorAt seX9_factorAt rfl ho1055 (by decide) (by decide) rfl (Nat.le_of_ble_eq_true rfl) (sp1055) (by omega) (by omega) (fun v1054 hc1054 q1054 => ?_)
      obtain ⟨⟨fm1055, hm1055⟩, w1055, gw1055, rfl, sm1055⟩ := q1054
      refine Go.nf (h' := hc1054) (st' := [.int (gI (w1055))]) rfl rfl (Nat.le_refl _) (Nat.le_refl _) ?_
      refine g_aload_n 1 dL_law_731 rfl ?_
      refine g_aload_n 3 dL_law_732 rfl ?_
      refine g_iload_n 0 dL_law_733 rfl ?_
      refine g_iconst dL_law_734 ?_
      refine g_iadd dL_law_735 ?_
      refine g_sld dL_law_736 rfl hb hLn (by omega) (by omega) (by omega) ?_
      refine g_aload_n 3 dL_law_737 rfl ?_
      refine g_iload_n 0 dL_law_738 rfl ?_
      refine g_iconst dL_law_739 ?_
      refine g_iadd dL_law_740 ?_
      refine g_sld dL_law_741 rfl hb hLn (by omega) (by omega) (by omega) ?_
      refine g_callV (nc2 := 0) (ns2 := 0) (ci := 10) (As := [.int (gI (gs N ((i) + (1)))), .int (gI (gs N ((i) + (2))))]) (st := [.int (gI (w1055))]) rfl dL_law_742 okX10_factorAt lL_79 itX10_factorAt seX10_factorAt rfl hm1055 (by decide) (by decide) rfl (Nat.le_of_ble_eq_true rfl) (sm1055) (by omega) (by omega) (fun v1056 hc1056 q1056 => ?_)
      obtain ⟨rfl, hJhc1056⟩ := q1056
      refine Go.nf (h' := hc1056) (st' := [.int (gI (w1055)), .int (gI (w1055))]) rfl rfl (Nat.le_refl _) (Nat.le_refl _) ?_
      refine g_icmp_eq (tgt := 958) dL_law_745 rfl (by first | exact gW_t _ | assumption | (unfold gW at *; omega) | (unfold gW; split <;> omega)) (by first | exact gW_t _ | assumption | (unfold gW at *; omega) | (unfold gW; split <;> omega)) (fun c1057 => ?_) (fun c1057 => absurd c1057 (by simp))
      refine g_iinc 0 (ls2 := [(3, .int (gI (i + 6))), (2, .ref (B + 35)), (1, .ref (B)), (0, .ref (b))]) dL_law_958 rfl (by decide) rfl ?_
      refine g_goto (tgt := 18) dL_law_961 rfl ?_
      exact Go.imp (by omega) (by omega) (ih _ (by omega) (i + 6) hc1056 rfl (by omega) (by omega) hJhc1056)
    · refine g_tabIn (tgt := 750) dL_law_33 (by unfold gW; omega) (by omega) (by omega) rfl rfl ?_
      refine g_aload_n 2 dL_law_750 rfl ?_
      refine g_aload_n 3 dL_law_751 rfl ?_
      refine g_iload_n 0 dL_law_752 rfl ?_
      refine g_iconst dL_law_753 ?_
      refine g_iadd dL_law_754 ?_
      refine g_sld dL_law_755 rfl hb hLn (by omega) (by omega) (by omega) ?_
      refine Go.wf (fun wf1059 => ?_)
      obtain ⟨⟨fs1059, ho1059⟩, nc1059, ns1059, bn1059, bs1059, sp1059⟩ := jp_take N B h hJ wf1059 (gs N ((i) + (1))) (gW_t _)
      refine g_callV (nc2 := nc1059) (ns2 := ns1059) (ci := 9) (As := [.int (gI (gs N ((i) + (1))))]) (st := []) rfl dL_law_756 okX9_take lL_80 itX9_take seX9_take rfl ho1059 (by decide) (by decide) rfl (Nat.le_of_ble_eq_true rfl) (sp1059) (by omega) (by omega) (fun v1058 hc1058 q1058 => ?_)
      obtain ⟨⟨fm1059, hm1059⟩, w1059, gw1059, rfl, sm1059⟩ := q1058
      refine Go.nf (h' := hc1058) (st' := [.int (gI (w1059))]) rfl rfl (Nat.le_refl _) (Nat.le_refl _) ?_
      refine g_aload_n 1 dL_law_759 rfl ?_
      refine g_aload_n 3 dL_law_760 rfl ?_
      refine g_iload_n 0 dL_law_761 rfl ?_
      refine g_iconst dL_law_762 ?_
      refine g_iadd dL_law_763 ?_
      refine g_sld dL_law_764 rfl hb hLn (by omega) (by omega) (by omega) ?_
      refine g_callV (nc2 := 0) (ns2 := 0) (ci := 10) (As := [.int (gI (gs N ((i) + (1))))]) (st := [.int (gI (w1059))]) rfl dL_law_765 okX10_take lL_83 itX10_take seX10_take rfl hm1059 (by decide) (by decide) rfl (Nat.le_of_ble_eq_true rfl) (sm1059) (by omega) (by omega) (fun v1060 hc1060 q1060 => ?_)
      obtain ⟨rfl, hJhc1060⟩ := q1060
      refine Go.nf (h' := hc1060) (st' := [.int (gI (w1059)), .int (gI (w1059))]) rfl rfl (Nat.le_refl _) (Nat.le_refl _) ?_
      refine g_icmp_eq (tgt := 958) dL_law_768 rfl (by first | exact gW_t _ | assumption | (unfold gW at *; omega) | (unfold gW; split <;> omega)) (by first | exact gW_t _ | assumption | (unfold gW at *; omega) | (unfold gW; split <;> omega)) (fun c1061 => ?_) (fun c1061 => absurd c1061 (by simp))
      refine g_iinc 0 (ls2 := [(3, .int (gI (i + 6))), (2, .ref (B + 35)), (1, .ref (B)), (0, .ref (b))]) dL_law_958 rfl (by decide) rfl ?_
      refine g_goto (tgt := 18) dL_law_961 rfl ?_
      exact Go.imp (by omega) (by omega) (ih _ (by omega) (i + 6) hc1060 rfl (by omega) (by omega) hJhc1060)
    · refine g_tabIn (tgt := 773) dL_law_33 (by unfold gW; omega) (by omega) (by omega) rfl rfl ?_
      refine g_aload_n 2 dL_law_773 rfl ?_
      refine g_aload_n 3 dL_law_774 rfl ?_
      refine g_iload_n 0 dL_law_775 rfl ?_
      refine g_iconst dL_law_776 ?_
      refine g_iadd dL_law_777 ?_
      refine g_sld dL_law_778 rfl hb hLn (by omega) (by omega) (by omega) ?_
      refine Go.wf (fun wf1063 => ?_)
      obtain ⟨⟨fs1063, ho1063⟩, nc1063, ns1063, bn1063, bs1063, sp1063⟩ := jp_told N B h hJ wf1063 (gs N ((i) + (1))) (gW_t _)
      refine g_callV (nc2 := nc1063) (ns2 := ns1063) (ci := 9) (As := [.int (gI (gs N ((i) + (1))))]) (st := []) rfl dL_law_779 okX9_told lL_84 itX9_told seX9_told rfl ho1063 (by decide) (by decide) rfl (Nat.le_of_ble_eq_true rfl) (sp1063) (by omega) (by omega) (fun v1062 hc1062 q1062 => ?_)
      obtain ⟨⟨fm1063, hm1063⟩, w1063, gw1063, rfl, sm1063⟩ := q1062
      refine Go.nf (h' := hc1062) (st' := [.int (gI (w1063))]) rfl rfl (Nat.le_refl _) (Nat.le_refl _) ?_
      refine g_aload_n 1 dL_law_782 rfl ?_
      refine g_aload_n 3 dL_law_783 rfl ?_
      refine g_iload_n 0 dL_law_784 rfl ?_
      refine g_iconst dL_law_785 ?_
      refine g_iadd dL_law_786 ?_
      refine g_sld dL_law_787 rfl hb hLn (by omega) (by omega) (by omega) ?_
      refine g_callV (nc2 := 0) (ns2 := 0) (ci := 10) (As := [.int (gI (gs N ((i) + (1))))]) (st := [.int (gI (w1063))]) rfl dL_law_788 okX10_told lL_87 itX10_told seX10_told rfl hm1063 (by decide) (by decide) rfl (Nat.le_of_ble_eq_true rfl) (sm1063) (by omega) (by omega) (fun v1064 hc1064 q1064 => ?_)
      obtain ⟨rfl, hJhc1064⟩ := q1064
      refine Go.nf (h' := hc1064) (st' := [.int (gI (w1063)), .int (gI (w1063))]) rfl rfl (Nat.le_refl _) (Nat.le_refl _) ?_
      refine g_icmp_eq (tgt := 958) dL_law_791 rfl (by first | exact gW_t _ | assumption | (unfold gW at *; omega) | (unfold gW; split <;> omega)) (by first | exact gW_t _ | assumption | (unfold gW at *; omega) | (unfold gW; split <;> omega)) (fun c1065 => ?_) (fun c1065 => absurd c1065 (by simp))
      refine g_iinc 0 (ls2 := [(3, .int (gI (i + 6))), (2, .ref (B + 35)), (1, .ref (B)), (0, .ref (b))]) dL_law_958 rfl (by decide) rfl ?_
      refine g_goto (tgt := 18) dL_law_961 rfl ?_
      exact Go.imp (by omega) (by omega) (ih _ (by omega) (i + 6) hc1064 rfl (by omega) (by omega) hJhc1064)
    · refine g_tabIn (tgt := 796) dL_law_33 (by unfold gW; omega) (by omega) (by omega) rfl rfl ?_
      refine g_aload_n 2 dL_law_796 rfl ?_
      refine g_aload_n 3 dL_law_797 rfl ?_
      refine g_iload_n 0 dL_law_798 rfl ?_
      refine g_iconst dL_law_799 ?_
      refine g_iadd dL_law_800 ?_
      refine g_sld dL_law_801 rfl hb hLn (by omega) (by omega) (by omega) ?_
      refine g_aload_n 3 dL_law_802 rfl ?_
      refine g_iload_n 0 dL_law_803 rfl ?_
      refine g_iconst dL_law_804 ?_
      refine g_iadd dL_law_805 ?_
      refine g_sld dL_law_806 rfl hb hLn (by omega) (by omega) (by omega) ?_
      refine Go.wf (fun wf1067 => ?_)
      obtain ⟨⟨fs1067, ho1067⟩, nc1067, ns1067, bn1067, bs1067, sp1067⟩ := jp_part N B h hJ wf1067 (gs N ((i) + (1))) (gW_t _) (gs N ((i) + (2))) (gW_t _)
      refine g_callV (nc2 := nc1067) (ns2 := ns1067) (ci := 9) (As := [.int (gI (gs N ((i) + (1)))), .int (gI (gs N ((i) + (2))))]) (st := []) rfl dL_law_807 okX9_part lL_88 itX9_part seX9_part rfl ho1067 (by decide) (by decide) rfl (Nat.le_of_ble_eq_true rfl) (sp1067) (by omega) (by omega) (fun v1066 hc1066 q1066 => ?_)
      obtain ⟨⟨fm1067, hm1067⟩, w1067, gw1067, rfl, sm1067⟩ := q1066
      refine Go.nf (h' := hc1066) (st' := [.int (gI (w1067))]) rfl rfl (Nat.le_refl _) (Nat.le_refl _) ?_
      refine g_aload_n 1 dL_law_810 rfl ?_
      refine g_aload_n 3 dL_law_811 rfl ?_
      refine g_iload_n 0 dL_law_812 rfl ?_
      refine g_iconst dL_law_813 ?_
      refine g_iadd dL_law_814 ?_
      refine g_sld dL_law_815 rfl hb hLn (by omega) (by omega) (by omega) ?_
      refine g_aload_n 3 dL_law_816 rfl ?_
      refine g_iload_n 0 dL_law_817 rfl ?_
      refine g_iconst dL_law_818 ?_
      refine g_iadd dL_law_819 ?_
      refine g_sld dL_law_820 rfl hb hLn (by omega) (by omega) (by omega) ?_
      refine g_callV (nc2 := 0) (ns2 := 0) (ci := 10) (As := [.int (gI (gs N ((i) + (1)))), .int (gI (gs N ((i) + (2))))]) (st := [.int (gI (w1067))]) rfl dL_law_821 okX10_part_ lL_91 itX10_part_ seX10_part_ rfl hm1067 (by decide) (by decide) rfl (Nat.le_of_ble_eq_true rfl) (sm1067) (by omega) (by omega) (fun v1068 hc1068 q1068 => ?_)
      obtain ⟨rfl, hJhc1068⟩ := q1068
      refine Go.nf (h' := hc1068) (st' := [.int (gI (w1067)), .int (gI (w1067))]) rfl rfl (Nat.le_refl _) (Nat.le_refl _) ?_
      refine g_icmp_eq (tgt := 958) dL_law_824 rfl (by first | exact gW_t _ | assumption | (unfold gW at *; omega) | (unfold gW; split <;> omega)) (by first | exact gW_t _ | assumption | (unfold gW at *; omega) | (unfold gW; split <;> omega)) (fun c1069 => ?_) (fun c1069 => absurd c1069 (by simp))
      refine g_iinc 0 (ls2 := [(3, .int (gI (i + 6))), (2, .ref (B + 35)), (1, .ref (B)), (0, .ref (b))]) dL_law_958 rfl (by decide) rfl ?_
      refine g_goto (tgt := 18) dL_law_961 rfl ?_
      exact Go.imp (by omega) (by omega) (ih _ (by omega) (i + 6) hc1068 rfl (by omega) (by omega) hJhc1068)
    · refine g_tabIn (tgt := 829) dL_law_33 (by unfold gW; omega) (by omega) (by omega) rfl rfl ?_
      refine g_aload_n 2 dL_law_829 rfl ?_
      refine g_aload_n 3 dL_law_830 rfl ?_
      refine g_iload_n 0 dL_law_831 rfl ?_
      refine g_iconst dL_law_832 ?_
      refine g_iadd dL_law_833 ?_
      refine g_sld dL_law_834 rfl hb hLn (by omega) (by omega) (by omega) ?_
      refine Go.wf (fun wf1071 => ?_)
      obtain ⟨⟨fs1071, ho1071⟩, nc1071, ns1071, bn1071, bs1071, sp1071⟩ := jp_root N B h hJ wf1071 (gs N ((i) + (1))) (gW_t _)
      refine g_callV (nc2 := nc1071) (ns2 := ns1071) (ci := 9) (As := [.int (gI (gs N ((i) + (1))))]) (st := []) rfl dL_law_835 okX9_root lL_92 itX9_root seX9_root rfl ho1071 (by decide) (by decide) rfl (Nat.le_of_ble_eq_true rfl) (sp1071) (by omega) (by omega) (fun v1070 hc1070 q1070 => ?_)
      obtain ⟨⟨fm1071, hm1071⟩, w1071, gw1071, rfl, sm1071⟩ := q1070
      refine Go.nf (h' := hc1070) (st' := [.int (gI (w1071))]) rfl rfl (Nat.le_refl _) (Nat.le_refl _) ?_
      refine g_aload_n 1 dL_law_838 rfl ?_
      refine g_aload_n 3 dL_law_839 rfl ?_
      refine g_iload_n 0 dL_law_840 rfl ?_
      refine g_iconst dL_law_841 ?_
      refine g_iadd dL_law_842 ?_
      refine g_sld dL_law_843 rfl hb hLn (by omega) (by omega) (by omega) ?_
      refine g_callV (nc2 := 0) (ns2 := 0) (ci := 10) (As := [.int (gI (gs N ((i) + (1))))]) (st := [.int (gI (w1071))]) rfl dL_law_844 okX10_root lL_95 itX10_root seX10_root rfl hm1071 (by decide) (by decide) rfl (Nat.le_of_ble_eq_true rfl) (sm1071) (by omega) (by omega) (fun v1072 hc1072 q1072 => ?_)
      obtain ⟨rfl, hJhc1072⟩ := q1072
      refine Go.nf (h' := hc1072) (st' := [.int (gI (w1071)), .int (gI (w1071))]) rfl rfl (Nat.le_refl _) (Nat.le_refl _) ?_
      refine g_icmp_eq (tgt := 958) dL_law_847 rfl (by first | exact gW_t _ | assumption | (unfold gW at *; omega) | (unfold gW; split <;> omega)) (by first | exact gW_t _ | assumption | (unfold gW at *; omega) | (unfold gW; split <;> omega)) (fun c1073 => ?_) (fun c1073 => absurd c1073 (by simp))
      refine g_iinc 0 (ls2 := [(3, .int (gI (i + 6))), (2, .ref (B + 35)), (1, .ref (B)), (0, .ref (b))]) dL_law_958 rfl (by decide) rfl ?_
      refine g_goto (tgt := 18) dL_law_961 rfl ?_
      exact Go.imp (by omega) (by omega) (ih _ (by omega) (i + 6) hc1072 rfl (by omega) (by omega) hJhc1072)
    · refine g_tabIn (tgt := 852) dL_law_33 (by unfold gW; omega) (by omega) (by omega) rfl rfl ?_
      refine g_aload_n 2 dL_law_852 rfl ?_
      refine g_aload_n 3 dL_law_853 rfl ?_
      refine g_iload_n 0 dL_law_854 rfl ?_
      refine g_iconst dL_law_855 ?_
      refine g_iadd dL_law_856 ?_
      refine g_sld dL_law_857 rfl hb hLn (by omega) (by omega) (by omega) ?_
      refine g_i2l dL_law_858 (by first | exact gW_t _ | assumption | (unfold gW at *; omega) | (unfold gW; split <;> omega)) ?_
      refine g_bipush dL_law_859 (by decide) ?_
      refine g_lshl dL_law_861 ?_
      refine g_aload_n 3 dL_law_862 rfl ?_
      refine g_iload_n 0 dL_law_863 rfl ?_
      refine g_iconst dL_law_864 ?_
      refine g_iadd dL_law_865 ?_
      refine g_sld dL_law_866 rfl hb hLn (by omega) (by omega) (by omega) ?_
      refine g_i2l dL_law_867 (by first | exact gW_t _ | assumption | (unfold gW at *; omega) | (unfold gW; split <;> omega)) ?_
      refine g_ldc2 dL_law_868 vL_18 ?_
      refine g_land dL_law_871 ?_
      refine g_lor dL_law_872 ?_
      refine g_aload_n 3 dL_law_873 rfl ?_
      refine g_iload_n 0 dL_law_874 rfl ?_
      refine g_iconst dL_law_875 ?_
      refine g_iadd dL_law_876 ?_
      refine g_sld dL_law_877 rfl hb hLn (by omega) (by omega) (by omega) ?_
      refine g_i2l dL_law_878 (by first | exact gW_t _ | assumption | (unfold gW at *; omega) | (unfold gW; split <;> omega)) ?_
      refine g_bipush dL_law_879 (by decide) ?_
      refine g_lshl dL_law_881 ?_
      refine g_aload_n 3 dL_law_882 rfl ?_
      refine g_iload_n 0 dL_law_883 rfl ?_
      refine g_iconst dL_law_884 ?_
      refine g_iadd dL_law_885 ?_
      refine g_sld dL_law_886 rfl hb hLn (by omega) (by omega) (by omega) ?_
      refine g_i2l dL_law_887 (by first | exact gW_t _ | assumption | (unfold gW at *; omega) | (unfold gW; split <;> omega)) ?_
      refine g_ldc2 dL_law_888 vL_18 ?_
      refine g_land dL_law_891 ?_
      refine g_lor dL_law_892 ?_
      refine Go.wf (fun wf1075 => ?_)
      obtain ⟨⟨fs1075, ho1075⟩, nc1075, ns1075, bn1075, bs1075, sp1075⟩ := jp_point N B h hJ wf1075 (gOrL (gShlL (gs N ((i) + (1))) (32)) (gAndL (gs N ((i) + (2))) (4294967295))) (gX_t _) (gOrL (gShlL (gs N ((i) + (3))) (32)) (gAndL (gs N ((i) + (4))) (4294967295))) (gX_t _)
      refine g_callV (nc2 := nc1075) (ns2 := ns1075) (ci := 9) (As := [.long (gJ (gOrL (gShlL (gs N ((i) + (1))) (32)) (gAndL (gs N ((i) + (2))) (4294967295)))), .long (gJ (gOrL (gShlL (gs N ((i) + (3))) (32)) (gAndL (gs N ((i) + (4))) (4294967295))))]) (st := []) rfl dL_law_893 okX9_point lL_96 itX9_point seX9_point rfl ho1075 (by decide) (by decide) rfl (Nat.le_of_ble_eq_true rfl) (sp1075) (by omega) (by omega) (fun v1074 hc1074 q1074 => ?_)
      obtain ⟨⟨fm1075, hm1075⟩, w1075, gw1075, rfl, sm1075⟩ := q1074
      refine Go.nf (h' := hc1074) (st' := [.int (gI (w1075))]) rfl rfl (Nat.le_refl _) (Nat.le_refl _) ?_
      refine g_aload_n 1 dL_law_896 rfl ?_
      refine g_aload_n 3 dL_law_897 rfl ?_
      refine g_iload_n 0 dL_law_898 rfl ?_
      refine g_iconst dL_law_899 ?_
      refine g_iadd dL_law_900 ?_
      refine g_sld dL_law_901 rfl hb hLn (by omega) (by omega) (by omega) ?_
      refine g_i2l dL_law_902 (by first | exact gW_t _ | assumption | (unfold gW at *; omega) | (unfold gW; split <;> omega)) ?_
      refine g_bipush dL_law_903 (by decide) ?_
      refine g_lshl dL_law_905 ?_
      refine g_aload_n 3 dL_law_906 rfl ?_
      refine g_iload_n 0 dL_law_907 rfl ?_
      refine g_iconst dL_law_908 ?_
      refine g_iadd dL_law_909 ?_
      refine g_sld dL_law_910 rfl hb hLn (by omega) (by omega) (by omega) ?_
      refine g_i2l dL_law_911 (by first | exact gW_t _ | assumption | (unfold gW at *; omega) | (unfold gW; split <;> omega)) ?_
      refine g_ldc2 dL_law_912 vL_18 ?_
      refine g_land dL_law_915 ?_
      refine g_lor dL_law_916 ?_
      refine g_aload_n 3 dL_law_917 rfl ?_
      refine g_iload_n 0 dL_law_918 rfl ?_
      refine g_iconst dL_law_919 ?_
      refine g_iadd dL_law_920 ?_
      refine g_sld dL_law_921 rfl hb hLn (by omega) (by omega) (by omega) ?_
      refine g_i2l dL_law_922 (by first | exact gW_t _ | assumption | (unfold gW at *; omega) | (unfold gW; split <;> omega)) ?_
      refine g_bipush dL_law_923 (by decide) ?_
      refine g_lshl dL_law_925 ?_
      refine g_aload_n 3 dL_law_926 rfl ?_
      refine g_iload_n 0 dL_law_927 rfl ?_
      refine g_iconst dL_law_928 ?_
      refine g_iadd dL_law_929 ?_
      refine g_sld dL_law_930 rfl hb hLn (by omega) (by omega) (by omega) ?_
      refine g_i2l dL_law_931 (by first | exact gW_t _ | assumption | (unfold gW at *; omega) | (unfold gW; split <;> omega)) ?_
      refine g_ldc2 dL_law_932 vL_18 ?_
      refine g_land dL_law_935 ?_
      refine g_lor dL_law_936 ?_
      refine g_callV (nc2 := 0) (ns2 := 0) (ci := 10) (As := [.long (gJ (gOrL (gShlL (gs N ((i) + (1))) (32)) (gAndL (gs N ((i) + (2))) (4294967295)))), .long (gJ (gOrL (gShlL (gs N ((i) + (3))) (32)) (gAndL (gs N ((i) + (4))) (4294967295))))]) (st := [.int (gI (w1075))]) rfl dL_law_937 okX10_point lL_100 itX10_point seX10_point rfl hm1075 (by decide) (by decide) rfl (Nat.le_of_ble_eq_true rfl) (sm1075) (by omega) (by omega) (fun v1076 hc1076 q1076 => ?_)
      obtain ⟨rfl, hJhc1076⟩ := q1076
      refine Go.nf (h' := hc1076) (st' := [.int (gI (w1075)), .int (gI (w1075))]) rfl rfl (Nat.le_refl _) (Nat.le_refl _) ?_
      refine g_icmp_eq (tgt := 958) dL_law_940 rfl (by first | exact gW_t _ | assumption | (unfold gW at *; omega) | (unfold gW; split <;> omega)) (by first | exact gW_t _ | assumption | (unfold gW at *; omega) | (unfold gW; split <;> omega)) (fun c1077 => ?_) (fun c1077 => absurd c1077 (by simp))
      refine g_iinc 0 (ls2 := [(3, .int (gI (i + 6))), (2, .ref (B + 35)), (1, .ref (B)), (0, .ref (b))]) dL_law_958 rfl (by decide) rfl ?_
      refine g_goto (tgt := 18) dL_law_961 rfl ?_
      exact Go.imp (by omega) (by omega) (ih _ (by omega) (i + 6) hc1076 rfl (by omega) (by omega) hJhc1076)
    · refine g_tabIn (tgt := 945) dL_law_33 (by unfold gW; omega) (by omega) (by omega) rfl rfl ?_
      refine g_aload_n 2 dL_law_945 rfl ?_
      refine Go.wf (fun wf1079 => ?_)
      obtain ⟨⟨fs1079, ho1079⟩, nc1079, ns1079, bn1079, bs1079, sp1079⟩ := jp_interpolate N B h hJ wf1079 
      refine g_callV (nc2 := nc1079) (ns2 := ns1079) (ci := 9) (As := []) (st := []) rfl dL_law_946 okX9_interpolate lL_101 itX9_interpolate seX9_interpolate rfl ho1079 (by decide) (by decide) rfl (Nat.le_of_ble_eq_true rfl) (sp1079) (by omega) (by omega) (fun v1078 hc1078 q1078 => ?_)
      obtain ⟨⟨fm1079, hm1079⟩, w1079, gw1079, rfl, sm1079⟩ := q1078
      refine Go.nf (h' := hc1078) (st' := [.int (gI (w1079))]) rfl rfl (Nat.le_refl _) (Nat.le_refl _) ?_
      refine g_aload_n 1 dL_law_949 rfl ?_
      refine g_callV (nc2 := 0) (ns2 := 0) (ci := 10) (As := []) (st := [.int (gI (w1079))]) rfl dL_law_950 okX10_interpolate lL_105 itX10_interpolate seX10_interpolate rfl hm1079 (by decide) (by decide) rfl (Nat.le_of_ble_eq_true rfl) (sm1079) (by omega) (by omega) (fun v1080 hc1080 q1080 => ?_)
      obtain ⟨rfl, hJhc1080⟩ := q1080
      refine Go.nf (h' := hc1080) (st' := [.int (gI (w1079)), .int (gI (w1079))]) rfl rfl (Nat.le_refl _) (Nat.le_refl _) ?_
      refine g_icmp_eq (tgt := 958) dL_law_953 rfl (by first | exact gW_t _ | assumption | (unfold gW at *; omega) | (unfold gW; split <;> omega)) (by first | exact gW_t _ | assumption | (unfold gW at *; omega) | (unfold gW; split <;> omega)) (fun c1081 => ?_) (fun c1081 => absurd c1081 (by simp))
      refine g_iinc 0 (ls2 := [(3, .int (gI (i + 6))), (2, .ref (B + 35)), (1, .ref (B)), (0, .ref (b))]) dL_law_958 rfl (by decide) rfl ?_
      refine g_goto (tgt := 18) dL_law_961 rfl ?_
      exact Go.imp (by omega) (by omega) (ih _ (by omega) (i + 6) hc1080 rfl (by omega) (by omega) hJhc1080)
    · refine g_tabOut (tgt := 958) dL_law_33 (by unfold gW; omega) (by omega) rfl ?_
      refine g_iinc 0 (ls2 := [(3, .int (gI (i + 6))), (2, .ref (B + 35)), (1, .ref (B)), (0, .ref (b))]) dL_law_958 rfl (by decide) rfl ?_
      refine g_goto (tgt := 18) dL_law_961 rfl ?_
      exact Go.imp (by omega) (by omega) (ih _ (by omega) (i + 6) h rfl (by omega) (by omega) hJ)
set_option maxHeartbeats 4000000 in
set_option maxRecDepth 100000 in
theorem law_goW (N : GN) (B b L : Nat) (hb : N.2.2.2.2.1 = b) (hLn : N.2.2.2.2.2.1 = L) (hlen : L ≤ 384) : Go N mL_law (fun v _ => v = some (.int (gI 1))) 111000 5000000 (hL B []) 0 [(0, .ref b)] [] := by
  refine L_new (q := 0) [.null, .null, .null, .null, .null, .null, .null, .null, .null, .null, .null, .null] dL_law_0 kX9 cL_7 niX9 nzX9 (by decide) (by decide) (by decide) rfl (cs2 := [oB 9 [.null, .null, .null, .null, .null, .null, .null, .null, .null, .null, .null, .null]]) rfl ?_
  refine g_dup dL_law_3 rfl ?_
  refine g_callI (nc2 := 34) (ns2 := 1824) (As := []) (st := [.ref (B + 0)]) rfl dL_law_4 okX9_init rfl lL_9 itX9_init rfl (by decide) (by decide) rfl (Nat.le_of_ble_eq_true rfl) (eX9_init N B) (by omega) (by omega) (fun v h1 q => ?_)
  obtain ⟨rfl, rfl⟩ := q
  refine Go.nf (h' := hL B [oB 9 [.ref (B + 1), .ref (B + 2), .ref (B + 3), .ref (B + 4), .ref (B + 7), .ref (B + 24), .ref (B + 27), .ref (B + 29), .ref (B + 31), .ref (B + 33), .null, .null], oB 1 [.int (gI (2))], aR "PolyWork$Poly" 100 (fun _ => none), aZ 100 (fun _ => 0), oB 8 [.ref (B + 1), .ref (B + 5)], oB 4 [.ref (B + 6), .int (gI (-1)), .int (gI (-1))], aJ 287 (fun _ => 0), oB 2 [.ref (B + 1), .ref (B + 8), .ref (B + 10), .ref (B + 12), .ref (B + 14), .ref (B + 16), .ref (B + 18), .ref (B + 20), .ref (B + 22)], oB 5 [.ref (B + 9), .int (gI (-1))], aJ 84 (fun _ => 0), oB 5 [.ref (B + 11), .int (gI (-1))], aJ 84 (fun _ => 0), oB 5 [.ref (B + 13), .int (gI (-1))], aJ 84 (fun _ => 0), oB 5 [.ref (B + 15), .int (gI (-1))], aJ 84 (fun _ => 0), oB 5 [.ref (B + 17), .int (gI (-1))], aJ 84 (fun _ => 0), oB 5 [.ref (B + 19), .int (gI (-1))], aJ 84 (fun _ => 0), oB 5 [.ref (B + 21), .int (gI (-1))], aJ 84 (fun _ => 0), oB 5 [.ref (B + 23), .int (gI (-1))], aJ 84 (fun _ => 0), oB 3 [.ref (B + 1), .ref (B + 25), .ref (B + 26), .int (gI (0))], aJ 41 (fun _ => 0), aJ 41 (fun _ => 0), oB 4 [.ref (B + 28), .int (gI (-1)), .int (gI (-1))], aJ 287 (fun _ => 0), oB 5 [.ref (B + 30), .int (gI (-1))], aJ 84 (fun _ => 0), oB 5 [.ref (B + 32), .int (gI (-1))], aJ 84 (fun _ => 0), oB 5 [.ref (B + 34), .int (gI (-1))], aJ 84 (fun _ => 0)]) (st' := [.ref (B + 0)]) (nc' := 110965) (ns' := 4998164) rfl rfl (by omega) (by omega) ?_
  refine g_astore_n (ls2 := [(1, .ref (B + 0)), (0, .ref (b))]) dL_law_7 rfl (by decide) rfl ?_
  refine L_new (q := 35) [.int (gI (0)), .null, .null, .null, .null, .null, .null, .null, .null, .int (gI (0)), .int (gI (0)), .int (gI (0)), .null, .null, .null, .int (gI (0)), .null, .null, .null, .int (gI (0)), .null, .int (gI (0)), .null, .null, .null, .null, .null, .int (gI (0)), .null, .null] dL_law_8 kX10 cL_10 niX10 nzX10 (by decide) (by decide) (by decide) rfl (cs2 := [oB 9 [.ref (B + 1), .ref (B + 2), .ref (B + 3), .ref (B + 4), .ref (B + 7), .ref (B + 24), .ref (B + 27), .ref (B + 29), .ref (B + 31), .ref (B + 33), .null, .null], oB 1 [.int (gI (2))], aR "PolyWork$Poly" 100 (fun _ => none), aZ 100 (fun _ => 0), oB 8 [.ref (B + 1), .ref (B + 5)], oB 4 [.ref (B + 6), .int (gI (-1)), .int (gI (-1))], aJ 287 (fun _ => 0), oB 2 [.ref (B + 1), .ref (B + 8), .ref (B + 10), .ref (B + 12), .ref (B + 14), .ref (B + 16), .ref (B + 18), .ref (B + 20), .ref (B + 22)], oB 5 [.ref (B + 9), .int (gI (-1))], aJ 84 (fun _ => 0), oB 5 [.ref (B + 11), .int (gI (-1))], aJ 84 (fun _ => 0), oB 5 [.ref (B + 13), .int (gI (-1))], aJ 84 (fun _ => 0), oB 5 [.ref (B + 15), .int (gI (-1))], aJ 84 (fun _ => 0), oB 5 [.ref (B + 17), .int (gI (-1))], aJ 84 (fun _ => 0), oB 5 [.ref (B + 19), .int (gI (-1))], aJ 84 (fun _ => 0), oB 5 [.ref (B + 21), .int (gI (-1))], aJ 84 (fun _ => 0), oB 5 [.ref (B + 23), .int (gI (-1))], aJ 84 (fun _ => 0), oB 3 [.ref (B + 1), .ref (B + 25), .ref (B + 26), .int (gI (0))], aJ 41 (fun _ => 0), aJ 41 (fun _ => 0), oB 4 [.ref (B + 28), .int (gI (-1)), .int (gI (-1))], aJ 287 (fun _ => 0), oB 5 [.ref (B + 30), .int (gI (-1))], aJ 84 (fun _ => 0), oB 5 [.ref (B + 32), .int (gI (-1))], aJ 84 (fun _ => 0), oB 5 [.ref (B + 34), .int (gI (-1))], aJ 84 (fun _ => 0), oB 10 [.int (gI (0)), .null, .null, .null, .null, .null, .null, .null, .null, .int (gI (0)), .int (gI (0)), .int (gI (0)), .null, .null, .null, .int (gI (0)), .null, .null, .null, .int (gI (0)), .null, .int (gI (0)), .null, .null, .null, .null, .null, .int (gI (0)), .null, .null]]) rfl ?_
  refine g_dup dL_law_11 rfl ?_
  refine g_callI (nc2 := 22) (ns2 := 69012) (As := []) (st := [.ref (B + 35)]) rfl dL_law_12 okX10_init rfl lL_12 itX10_init rfl (by decide) (by decide) rfl (Nat.le_of_ble_eq_true rfl) (eX10_init N B) (by omega) (by omega) (fun v h1 q => ?_)
  obtain ⟨rfl, rfl⟩ := q
  refine Go.nf (h' := hL B [oB 9 [.ref (B + 1), .ref (B + 2), .ref (B + 3), .ref (B + 4), .ref (B + 7), .ref (B + 24), .ref (B + 27), .ref (B + 29), .ref (B + 31), .ref (B + 33), .null, .null], oB 1 [.int (gI (2))], aR "PolyWork$Poly" 100 (fun _ => none), aZ 100 (fun _ => 0), oB 8 [.ref (B + 1), .ref (B + 5)], oB 4 [.ref (B + 6), .int (gI (-1)), .int (gI (-1))], aJ 287 (fun _ => 0), oB 2 [.ref (B + 1), .ref (B + 8), .ref (B + 10), .ref (B + 12), .ref (B + 14), .ref (B + 16), .ref (B + 18), .ref (B + 20), .ref (B + 22)], oB 5 [.ref (B + 9), .int (gI (-1))], aJ 84 (fun _ => 0), oB 5 [.ref (B + 11), .int (gI (-1))], aJ 84 (fun _ => 0), oB 5 [.ref (B + 13), .int (gI (-1))], aJ 84 (fun _ => 0), oB 5 [.ref (B + 15), .int (gI (-1))], aJ 84 (fun _ => 0), oB 5 [.ref (B + 17), .int (gI (-1))], aJ 84 (fun _ => 0), oB 5 [.ref (B + 19), .int (gI (-1))], aJ 84 (fun _ => 0), oB 5 [.ref (B + 21), .int (gI (-1))], aJ 84 (fun _ => 0), oB 5 [.ref (B + 23), .int (gI (-1))], aJ 84 (fun _ => 0), oB 3 [.ref (B + 1), .ref (B + 25), .ref (B + 26), .int (gI (0))], aJ 41 (fun _ => 0), aJ 41 (fun _ => 0), oB 4 [.ref (B + 28), .int (gI (-1)), .int (gI (-1))], aJ 287 (fun _ => 0), oB 5 [.ref (B + 30), .int (gI (-1))], aJ 84 (fun _ => 0), oB 5 [.ref (B + 32), .int (gI (-1))], aJ 84 (fun _ => 0), oB 5 [.ref (B + 34), .int (gI (-1))], aJ 84 (fun _ => 0), oB 10 [.int (gI (2)), .ref (B + 36), .ref (B + 37), .ref (B + 38), .ref (B + 39), .ref (B + 40), .ref (B + 41), .ref (B + 42), .ref (B + 43), .int (gI (0)), .int (gI (0)), .int (gI (0)), .ref (B + 44), .ref (B + 45), .ref (B + 46), .int (gI (0)), .ref (B + 47), .ref (B + 48), .ref (B + 49), .int (gI (0)), .ref (B + 50), .int (gI (0)), .ref (B + 51), .ref (B + 52), .ref (B + 53), .ref (B + 54), .ref (B + 55), .int (gI (0)), .ref (B + 56), .ref (B + 57)], aZ 100 (fun _ => 0), aI 28700 (fun _ => 0), aI 1500 (fun _ => 0), aI 1500 (fun _ => 0), aI 8000 (fun _ => 0), aI 40 (fun _ => 0), aJ 6400 (fun _ => 0), aI 11520 (fun _ => 0), aI 41 (fun _ => 0), aI 41 (fun _ => 0), aI 1681 (fun _ => 0), aI 41 (fun _ => 0), aI 41 (fun _ => 0), aI 1681 (fun _ => 0), aI 41 (fun _ => 0), aI 100 (fun _ => 0), aI 4100 (fun _ => 0), aI 1681 (fun _ => 0), aI 41 (fun _ => 0), aI 1681 (fun _ => 0), aI 41 (fun _ => 0), aI 41 (fun _ => 0)]) (st' := [.ref (B + 35)]) (nc' := 110942) (ns' := 4929122) rfl rfl (by omega) (by omega) ?_
  refine g_astore_n (ls2 := [(2, .ref (B + 35)), (1, .ref (B + 0)), (0, .ref (b))]) dL_law_15 rfl (by decide) rfl ?_
  refine g_iconst dL_law_16 ?_
  refine g_istore_n (ls2 := [(3, .int (gI (0))), (2, .ref (B + 35)), (1, .ref (B + 0)), (0, .ref (b))]) dL_law_17 rfl (by decide) rfl ?_
  exact Go.imp (by omega) (by omega) (law_loop N B b L hb hLn hlen _ 0 _ rfl (by omega) (by omega) (JJ_start B))
