def g_ok (y : MethodName) (M : GM) (n : Nat) : Prop := Cond.code y (gm_cc M) (gm_L M) (gm_ret M) ∈ g_tbl ∧ Cond.initialized y.cls ∈ g_tbl ∧ (y.cls ≠ "java/lang/invoke/MethodHandle" ∧ y.cls ≠ "java/lang/invoke/VarHandle" ∧ (parseMethodDescriptor y.desc).map (fun d => d.parameters.length) = some n)
theorem g_ok.good {y : MethodName} {M : GM} {n : Nat} (ok : g_ok y M n) : GoodIn g_tbl (.code y (gm_cc M) (gm_L M) (gm_ret M) :: g_tbl) := fun w hw => by
  rcases List.mem_cons.mp hw with rfl | hw
  · exact g_goodIn _ ok.1
  · exact g_goodIn w hw
theorem g_blind {N : GN} {vs : List Value} {h : GH} : FrameBlind (fun a U => a = vs.toArray ∧ g_R N h U.heap ∧ g_K N U) := fun a U g mk q => ⟨q.1, q.2.1, q.2.2.calling⟩
theorem g_back {N : GN} {p : Program} {e : Env} {R : Room} {s : State} {m : MethodId} {args a : Array Value} {below : List Frame} {meth : Method} {c : Code} {H : Heap} {locs : List Loc} {cells slots mc ms pc : Nat} {la : Array Slot} {st0 rest : List Value} {Z : State → Prop} {Q : Option Value → GH → Prop}
    (hr : va_Run p N.1 e R s m args below meth c H locs cells slots mc ms (F0 m pc la st0) rest (g_Q N Q a) (g_A N)) (hS : va_S (g_A N) s.heap H locs)
    (kk : ∀ (v : Option Value) (h1 : GH) (H1 : Heap) (locs1 : List Loc), Q v h1 → g_R N h1 H1 → va_S (g_A N) s.heap H1 locs1 → W p N.1 e R s m args below meth c H1 locs1 (cells + mc) (slots + ms) Z (F0 m (pc + 3) la (v.toList ++ rest))) : W p N.1 e R s m args below meth c H locs cells slots Z (F0 m pc la st0) := by
  intro T hT X
  obtain ⟨v, st₀, t, T', L, h0, X', hL, e1, e2, ⟨v2, h1, hv, hq, hr1, hz, hk⟩, st⟩ := hr T hT X
  cases hv
  rw [h0] at hz hk
  obtain ⟨t2, b1, b2⟩ := kk v h1 T'.heap (locs ++ L) hq (by rw [e1]; exact hr1)
    ⟨Nat.le_trans hS.1 (by rw [e1]; exact hz), fun q g1 g2 => by rw [e1, hk q (Nat.lt_of_lt_of_le g1 hS.1) g2]; exact hS.2.1 q g1 g2, fun q hq => by
      rcases List.mem_append.mp hq with z | z
      · exact hS.2.2 q z
      · exact hL q z⟩ T' rfl X'
  exact ⟨t2, st t2 b1, b2⟩
theorem g_callV {N : GN} {M : GM} {Q : Option Value → GH → Prop} {nc ns : Nat} {h : GH} {pc : Nat} {ls : List (Nat × Value)} {st : List Value} {y : MethodName} {M2 : GM} {n idx b nc2 ns2 ci n2 : Nat} {T : u_T} {fs As stk : List Value} {Q2 : Option Value → GH → Prop} (hst : stk = As.reverse ++ .ref b :: st) (hd : decode (gm_cc M) pc = .ok (.invokevirtual idx, 3)) (ok : g_ok y M2 n) (hm : Cond.methodLink (gm_own M) idx y ∈ g_tbl) (hi : Cond.instanceMethod y ∈ g_tbl) (hs : Cond.selects y.cls y y ∈ g_tbl) (hcl : vwCl[ci]? = some (y.cls, T, n2)) (ho : h.2 b = some (oB ci fs)) (hfr : gm_fr M2 + 1 ≤ gm_fr M) (hlo : 8 + (gm_L M2 + 11) + gm_lo M2 ≤ gm_lo M) (hn : As.length = n) (hw : (st.map fun v => v.category).sum ≤ 8) (hS2 : Sp N y M2 nc2 ns2 (.ref b :: As) h Q2) (hnc : nc2 ≤ nc) (hns : ns2 ≤ ns) (kk : ∀ (v : Option Value) (h1 : GH), Q2 v h1 → Go N M Q (nc - nc2) (ns - ns2) h1 (pc + 3) ls (v.toList ++ st)) : Go N M Q nc ns h pc ls stk := by
  subst hst
  intro p e R s m args below meth c H locs cells slots mc ms la C hR hl hS a1 a2 a3 a4
  have c10 := C.2.2.2.2.2.2.2.2.2.1
  have c11 := C.2.2.2.2.2.2.2.2.2.2.1
  have hcell : ∃ cellB : Cell, H[b]? = some cellB ∧ cellB.vm.isStatics = false ∧ s.vm.findClass y.cls = some cellB.cls := by
    obtain ⟨r, h1, cell, q1, q2, q3, q4⟩ := (hR.2.2 b _ ho).2.2
    have hr : r = (y.cls, T, n2) := Option.some.inj (h1.symm.trans hcl)
    subst hr
    exact ⟨cell, q1, by rw [q3]; rfl, by rw [q2]; exact (C.2.2.2.2.2.2.2.2.1.1 ci _ hcl).2.1⟩
  have hcw : CallB R s args (gm_own M) idx y (gm_cc M2) (gm_L M2) (gm_ret M2) (.code y (gm_cc M2) (gm_L M2) (gm_ret M2) :: g_tbl) { frames := gm_fr M2, cells := nc2, slots := ns2, locals := gm_lo M2 } nc2 ns2 n := callB_of n C.2.2.2.2.1 ok.good rfl rfl rfl (C.2.2.2.2.1 _ ok.2.1) (C.2.2.2.2.1 _ hm) ok.2.2 ⟨Nat.le_trans hfr c10, Nat.le_trans hlo c11⟩
  refine g_back (va_runV (As := As) (rest := st) ⟨C.1, C.2.1, C.2.2.1, C.2.2.2.1, C.2.2.2.2.1⟩ hS2 ⟨hcw, C.2.2.2.2.1 _ hi, C.2.2.2.2.1 _ hs⟩ ⟨g_blind, hcell, fun U hU hW => ⟨rfl, by rw [hU]; exact hR, C.2.2.2.2.2.2.2.2.1.warm hW⟩⟩ rfl hn hl.1 rfl (lv_room hw) hd ⟨by omega, by omega⟩) hS fun v h1 H1 locs1 hq hr1 hS1 => ?_
  exact kk v h1 hq p e R s m args below meth c H1 locs1 _ _ mc ms la C hr1 hl hS1 (by omega) (by omega) a3 a4
theorem g_callS {N : GN} {M : GM} {Q : Option Value → GH → Prop} {nc ns : Nat} {h : GH} {pc : Nat} {ls : List (Nat × Value)} {st : List Value} {y : MethodName} {M2 : GM} {n idx nc2 ns2 : Nat} {As stk : List Value} {Q2 : Option Value → GH → Prop} (hst : stk = As.reverse ++ st) (hd : decode (gm_cc M) pc = .ok (.invokestatic idx, 3)) (ok : g_ok y M2 n) (hm : Cond.methodLink (gm_own M) idx y ∈ g_tbl) (hi : Cond.static y ∈ g_tbl) (hfr : gm_fr M2 + 1 ≤ gm_fr M) (hlo : 8 + (gm_L M2 + 11) + gm_lo M2 ≤ gm_lo M) (hn : As.length = n) (hw : (st.map fun v => v.category).sum ≤ 8) (hS2 : Sp N y M2 nc2 ns2 As h Q2) (hnc : nc2 ≤ nc) (hns : ns2 ≤ ns) (kk : ∀ (v : Option Value) (h1 : GH), Q2 v h1 → Go N M Q (nc - nc2) (ns - ns2) h1 (pc + 3) ls (v.toList ++ st)) : Go N M Q nc ns h pc ls stk := by
  subst hst
  intro p e R s m args below meth c H locs cells slots mc ms la C hR hl hS a1 a2 a3 a4
  have c10 := C.2.2.2.2.2.2.2.2.2.1
  have c11 := C.2.2.2.2.2.2.2.2.2.2.1
  have hcw : CallB R s args (gm_own M) idx y (gm_cc M2) (gm_L M2) (gm_ret M2) (.code y (gm_cc M2) (gm_L M2) (gm_ret M2) :: g_tbl) { frames := gm_fr M2, cells := nc2, slots := ns2, locals := gm_lo M2 } nc2 ns2 n := callB_of n C.2.2.2.2.1 ok.good rfl rfl rfl (C.2.2.2.2.1 _ ok.2.1) (C.2.2.2.2.1 _ hm) ok.2.2 ⟨Nat.le_trans hfr c10, Nat.le_trans hlo c11⟩
  refine g_back (va_runS (As := As) (rest := st) ⟨C.1, C.2.1, C.2.2.1, C.2.2.2.1, C.2.2.2.2.1⟩ hS2 ⟨hcw, C.2.2.2.2.1 _ hi⟩ ⟨g_blind, fun U hU hW => ⟨rfl, by rw [hU]; exact hR, C.2.2.2.2.2.2.2.2.1.warm hW⟩⟩ rfl hn hl.1 rfl (lv_room hw) hd ⟨by omega, by omega⟩) hS fun v h1 H1 locs1 hq hr1 hS1 => ?_
  exact kk v h1 hq p e R s m args below meth c H1 locs1 _ _ mc ms la C hr1 hl hS1 (by omega) (by omega) a3 a4
theorem g_callI {N : GN} {M : GM} {Q : Option Value → GH → Prop} {nc ns : Nat} {h : GH} {pc : Nat} {ls : List (Nat × Value)} {st : List Value} {y : MethodName} {M2 : GM} {n idx b nc2 ns2 : Nat} {As stk : List Value} {Q2 : Option Value → GH → Prop} (hst : stk = As.reverse ++ .ref b :: st) (hd : decode (gm_cc M) pc = .ok (.invokespecial idx, 3)) (ok : g_ok y M2 n) (hret : gm_ret M2 = none) (hm : Cond.methodLink (gm_own M) idx y ∈ g_tbl) (hi : Cond.instanceMethod y ∈ g_tbl) (hy : y.name = "<init>") (hfr : gm_fr M2 + 1 ≤ gm_fr M) (hlo : 8 + (gm_L M2 + 11) + gm_lo M2 ≤ gm_lo M) (hn : As.length = n) (hw : (st.map fun v => v.category).sum ≤ 8) (hS2 : Sp N y M2 nc2 ns2 (.ref b :: As) h Q2) (hnc : nc2 ≤ nc) (hns : ns2 ≤ ns) (kk : ∀ (v : Option Value) (h1 : GH), Q2 v h1 → Go N M Q (nc - nc2) (ns - ns2) h1 (pc + 3) ls (v.toList ++ st)) : Go N M Q nc ns h pc ls stk := by
  subst hst
  intro p e R s m args below meth c H locs cells slots mc ms la C hR hl hS a1 a2 a3 a4
  have c10 := C.2.2.2.2.2.2.2.2.2.1
  have c11 := C.2.2.2.2.2.2.2.2.2.2.1
  have hgd := ok.good
  have ok2 := ok.2
  unfold Sp at hS2
  rw [hret] at hS2 hgd
  have hcw : CallB R s args (gm_own M) idx y (gm_cc M2) (gm_L M2) none (.code y (gm_cc M2) (gm_L M2) none :: g_tbl) { frames := gm_fr M2, cells := nc2, slots := ns2, locals := gm_lo M2 } nc2 ns2 n := callB_of n C.2.2.2.2.1 hgd rfl rfl rfl (C.2.2.2.2.1 _ ok2.1) (C.2.2.2.2.1 _ hm) ok2.2 ⟨Nat.le_trans hfr c10, Nat.le_trans hlo c11⟩
  refine g_back (va_runI (As := As) (rest := st) ⟨C.1, C.2.1, C.2.2.1, C.2.2.2.1, C.2.2.2.2.1⟩ hS2 ⟨hcw, hy, C.2.2.2.2.1 _ hi⟩ ⟨g_blind, fun U hU hW => ⟨rfl, by rw [hU]; exact hR, C.2.2.2.2.2.2.2.2.1.warm hW⟩⟩ rfl hn hl.1 rfl (lv_room hw) hd ⟨by omega, by omega⟩) hS fun v h1 H1 locs1 hq hr1 hS1 => ?_
  exact kk v h1 hq p e R s m args below meth c H1 locs1 _ _ mc ms la C hr1 hl hS1 (by omega) (by omega) a3 a4
theorem g_callIN {N : GN} {M : GM} {Q : Option Value → GH → Prop} {nc ns : Nat} {h : GH} {pc : Nat} {ls : List (Nat × Value)} {st : List Value} {y : MethodName} {M2 : GM} {n idx b nc2 ns2 : Nat} {host : String} {As stk : List Value} {Q2 : Option Value → GH → Prop} (hst : stk = As.reverse ++ .ref b :: st) (hd : decode (gm_cc M) pc = .ok (.invokespecial idx, 3)) (ok : g_ok y M2 n) (hret : gm_ret M2 = none) (hm : (gm_own M, idx, y, host) ∈ g_nl) (hi : Cond.instanceMethod y ∈ g_tbl) (hy : y.name = "<init>") (hfr : gm_fr M2 + 1 ≤ gm_fr M) (hlo : 8 + (gm_L M2 + 11) + gm_lo M2 ≤ gm_lo M) (hn : As.length = n) (hw : (st.map fun v => v.category).sum ≤ 8) (hS2 : Sp N y M2 nc2 ns2 (.ref b :: As) h Q2) (hnc : nc2 ≤ nc) (hns : ns2 ≤ ns) (kk : ∀ (v : Option Value) (h1 : GH), Q2 v h1 → Go N M Q (nc - nc2) (ns - ns2) h1 (pc + 3) ls (v.toList ++ st)) : Go N M Q nc ns h pc ls stk := by
  subst hst
  intro p e R s m args below meth c H locs cells slots mc ms la C hR hl hS a1 a2 a3 a4
  have c10 := C.2.2.2.2.2.2.2.2.2.1
  have c11 := C.2.2.2.2.2.2.2.2.2.2.1
  have hgd := ok.good
  have ok2 := ok.2
  unfold Sp at hS2
  rw [hret] at hS2 hgd
  have hcw : va_CN R s args (gm_own M) idx y host (gm_cc M2) (gm_L M2) none (.code y (gm_cc M2) (gm_L M2) none :: g_tbl) { frames := gm_fr M2, cells := nc2, slots := ns2, locals := gm_lo M2 } nc2 ns2 n := va_cnB n C.2.2.2.2.1 hgd rfl rfl rfl (C.2.2.2.2.2.2.2.2.1.2.2.1 _ hm) (C.2.2.2.2.1 _ ok2.1) ok2.2 ⟨Nat.le_trans hfr c10, Nat.le_trans hlo c11⟩
  refine g_back (va_runIN (As := As) (rest := st) ⟨C.1, C.2.1, C.2.2.1, C.2.2.2.1, C.2.2.2.2.1⟩ hS2 ⟨hcw, hy, C.2.2.2.2.1 _ hi⟩ ⟨g_blind, fun U hU hW => ⟨rfl, by rw [hU]; exact hR, C.2.2.2.2.2.2.2.2.1.warm hW⟩⟩ rfl hn hl.1 rfl (lv_room hw) hd ⟨by omega, by omega⟩) hS fun v h1 H1 locs1 hq hr1 hS1 => ?_
  exact kk v h1 hq p e R s m args below meth c H1 locs1 _ _ mc ms la C hr1 hl hS1 (by omega) (by omega) a3 a4
theorem g_vret {N : GN} {M : GM} {Q : Option Value → GH → Prop} {nc ns : Nat} {h : GH} {pc : Nat} {ls : List (Nat × Value)}  (hd : decode (gm_cc M) pc = .ok (.return_, 1)) (hr : gm_ret M = none) (hq : Q (none) h) : Go N M Q nc ns h pc ls ([]) := by
  intro p e R s m args below meth c H locs cells slots mc ms la C hR hl hS a1 a2 a3 a4
  refine W.widen (k := mc) (n := ms) (by omega) (by omega) ?_
  have hlk := C.2.2.2.2.2.1
  exact W.vret C.1 C.2.1 (C.2.2.2.2.2.2.1.trans hr) (fun t ht hW => ⟨_, h, rfl, hq, by rw [ht]; exact hR, hS.F ht⟩) hS.2.2 hd
theorem g_iret {N : GN} {M : GM} {Q : Option Value → GH → Prop} {nc ns : Nat} {h : GH} {pc : Nat} {ls : List (Nat × Value)} {a : Int32} (hd : decode (gm_cc M) pc = .ok (.ireturn, 1)) (hr : gm_ret M = some .int) (hq : Q (some (.int a)) h) : Go N M Q nc ns h pc ls ([.int a]) := by
  intro p e R s m args below meth c H locs cells slots mc ms la C hR hl hS a1 a2 a3 a4
  refine W.widen (k := mc) (n := ms) (by omega) (by omega) ?_
  have hlk := C.2.2.2.2.2.1
  exact W.iret C.1 C.2.1 (C.2.2.2.2.2.2.1.trans hr) (fun t ht hW => ⟨_, h, rfl, hq, by rw [ht]; exact hR, hS.F ht⟩) hS.2.2 hd
theorem g_lret {N : GN} {M : GM} {Q : Option Value → GH → Prop} {nc ns : Nat} {h : GH} {pc : Nat} {ls : List (Nat × Value)} {a : Int64} (hd : decode (gm_cc M) pc = .ok (.lreturn, 1)) (hr : gm_ret M = some .long) (hq : Q (some (.long a)) h) : Go N M Q nc ns h pc ls ([.long a]) := by
  intro p e R s m args below meth c H locs cells slots mc ms la C hR hl hS a1 a2 a3 a4
  refine W.widen (k := mc) (n := ms) (by omega) (by omega) ?_
  have hlk := C.2.2.2.2.2.1
  exact W.lret C.1 C.2.1 (C.2.2.2.2.2.2.1.trans hr) (fun t ht hW => ⟨_, h, rfl, hq, by rw [ht]; exact hR, hS.F ht⟩) hS.2.2 hd
theorem g_zret {N : GN} {M : GM} {Q : Option Value → GH → Prop} {nc ns : Nat} {h : GH} {pc : Nat} {ls : List (Nat × Value)} {a : Int} (hd : decode (gm_cc M) pc = .ok (.ireturn, 1)) (hr : gm_ret M = some .boolean) (hx : a = 0 ∨ a = 1) (hq : Q (some (.int (gI a))) h) : Go N M Q nc ns h pc ls ([.int (gI a)]) := by
  intro p e R s m args below meth c H locs cells slots mc ms la C hR hl hS a1 a2 a3 a4
  refine W.widen (k := mc) (n := ms) (by omega) (by omega) ?_
  have hlk := C.2.2.2.2.2.1
  exact W.zret C.1 C.2.1 (C.2.2.2.2.2.2.1.trans hr) (by rcases hx with rfl | rfl <;> rfl) (fun t ht hW => ⟨_, h, rfl, hq, by rw [ht]; exact hR, hS.F ht⟩) hS.2.2 hd
theorem g_aret {N : GN} {M : GM} {Q : Option Value → GH → Prop} {nc ns : Nat} {h : GH} {pc : Nat} {ls : List (Nat × Value)} {a : Option Nat} {C2 : String} (hd : decode (gm_cc M) pc = .ok (.areturn, 1)) (hr : gm_ret M = some (.object C2)) (hq : Q (some (va_rf a)) h) : Go N M Q nc ns h pc ls ([va_rf a]) := by
  intro p e R s m args below meth c H locs cells slots mc ms la C hR hl hS a1 a2 a3 a4
  refine W.widen (k := mc) (n := ms) (by omega) (by omega) ?_
  have hlk := C.2.2.2.2.2.1
  exact W.aret C.1 C.2.1 (C.2.2.2.2.2.2.1.trans hr) (Or.inl ⟨_, rfl⟩) (by cases a; exact Or.inl rfl; exact Or.inr ⟨_, rfl⟩) (fun t ht hW => ⟨_, h, rfl, hq, by rw [ht]; exact hR, hS.F ht⟩) hS.2.2 hd
theorem g_mx1 : Cond.static Lib.Math.max.name ∈ g_tbl := g_in 211 (by decide +kernel) rfl
theorem g_mx2 : Cond.initialized "java/lang/Math" ∈ g_tbl := g_in 9 (by decide +kernel) rfl
theorem g_mx3 : Cond.code Lib.Math.max.name Lib.Math.max.code 2 (some .int) ∈ g_tbl := g_in 212 (by decide +kernel) rfl
theorem g_mn1 : Cond.static Lib.Math.min.name ∈ g_tbl := g_in 340 (by decide +kernel) rfl
theorem g_mn3 : Cond.code Lib.Math.min.name Lib.Math.min.code 2 (some .int) ∈ g_tbl := g_in 341 (by decide +kernel) rfl
theorem g_ac1 : Cond.native arraycopyName ∈ g_tbl := g_in 244 (by decide +kernel) rfl
theorem g_ac2 : Cond.static arraycopyName ∈ g_tbl := g_in 243 (by decide +kernel) rfl
theorem g_ac3 : Cond.initialized "java/lang/System" ∈ g_tbl := g_in 10 (by decide +kernel) rfl
theorem g_max {N : GN} {M : GM} {Q : Option Value → GH → Prop} {nc ns : Nat} {h : GH} {pc : Nat} {ls : List (Nat × Value)} {st : List Value} {idx : Nat} {a b : Int} (hd : decode (gm_cc M) pc = .ok (.invokestatic idx, 3)) (hm : Cond.methodLink (gm_own M) idx Lib.Math.max.name ∈ g_tbl) (ha : gW a) (hb : gW b) (hf : 1 ≤ gm_fr M) (hlo : (st.map fun v => v.category).sum + 13 ≤ gm_lo M) (k : Go N M Q nc ns h (pc + 3) ls (.int (gI (if a < b then b else a)) :: st)) : Go N M Q nc ns h pc ls (.int (gI b) :: .int (gI a) :: st) := by
  intro p e R s m args below meth c H locs cells slots mc ms la C hR hl hS a1 a2 a3 a4
  have c10 := C.2.2.2.2.2.2.2.2.2.1
  have c11 := C.2.2.2.2.2.2.2.2.2.2.1
  refine va_mmax C.1 C.2.1 (by rw [C.2.2.1]; exact hl.1.symm) C.2.2.2.1 (C.2.2.2.2.1 _ hm) (C.2.2.2.2.1 _ g_mx1) (C.2.2.2.2.1 _ g_mx2) (C.2.2.2.2.1 _ g_mx3) (by omega) (by omega) (by omega) (by omega) hd ?_
  have e9 : (if gI a < gI b then gI b else gI a) = gI (if a < b then b else a) := by
    by_cases z : a < b
    · rw [if_pos z, if_pos ((gI_lt ha hb).mpr z)]
    · rw [if_neg z, if_neg (fun w => z ((gI_lt ha hb).mp w))]
  rw [e9]
  exact k p e R s m args below meth c H locs cells slots mc ms la C hR hl hS a1 a2 a3 a4
theorem g_min {N : GN} {M : GM} {Q : Option Value → GH → Prop} {nc ns : Nat} {h : GH} {pc : Nat} {ls : List (Nat × Value)} {st : List Value} {idx : Nat} {a b : Int} (hd : decode (gm_cc M) pc = .ok (.invokestatic idx, 3)) (hm : Cond.methodLink (gm_own M) idx Lib.Math.min.name ∈ g_tbl) (ha : gW a) (hb : gW b) (hf : 1 ≤ gm_fr M) (hlo : (st.map fun v => v.category).sum + 13 ≤ gm_lo M) (k : Go N M Q nc ns h (pc + 3) ls (.int (gI (if b < a then b else a)) :: st)) : Go N M Q nc ns h pc ls (.int (gI b) :: .int (gI a) :: st) := by
  intro p e R s m args below meth c H locs cells slots mc ms la C hR hl hS a1 a2 a3 a4
  have c10 := C.2.2.2.2.2.2.2.2.2.1
  have c11 := C.2.2.2.2.2.2.2.2.2.2.1
  refine va_mmin C.1 C.2.1 (by rw [C.2.2.1]; exact hl.1.symm) C.2.2.2.1 (C.2.2.2.2.1 _ hm) (C.2.2.2.2.1 _ g_mn1) (C.2.2.2.2.1 _ g_mx2) (C.2.2.2.2.1 _ g_mn3) (by omega) (by omega) (by omega) (by omega) hd ?_
  have e9 : (if gI b < gI a then gI b else gI a) = gI (if b < a then b else a) := by
    by_cases z : b < a
    · rw [if_pos z, if_pos ((gI_lt hb ha).mpr z)]
    · rw [if_neg z, if_neg (fun w => z ((gI_lt hb ha).mp w))]
  first | (rw [e9]; exact k p e R s m args below meth c H locs cells slots mc ms la C hR hl hS a1 a2 a3 a4) | (simp only [gt_iff_lt] at *; rw [e9]; exact k p e R s m args below meth c H locs cells slots mc ms la C hR hl hS a1 a2 a3 a4)
theorem g_copyJ {N : GN} {M : GM} {Q : Option Value → GH → Prop} {nc ns : Nat} {h : GH} {pc : Nat} {ls : List (Nat × Value)} {st : List Value} {idx a0 a n0 n1 : Nat} {f g : Int → Int} {k : Int} (hd : decode (gm_cc M) pc = .ok (.invokestatic idx, 3)) (hm : Cond.methodLink (gm_own M) idx arraycopyName ∈ g_tbl) (ha0 : h.2 a0 = some (aJ n0 f)) (ha : h.2 a = some (aJ n1 g)) (k0 : 0 ≤ k) (k1 : k ≤ n0) (k2 : k ≤ n1) (k3 : k < 2147483648) (hf : 1 ≤ gm_fr M) (hlo : (st.map fun v => v.category).sum + 18 ≤ gm_lo M)
    (kk : Go N M Q nc ns (hset h a (aJ n1 (fun j => if j < k then f j else g j))) (pc + 3) ls st) : Go N M Q nc ns h pc ls (.int (gI k) :: .int (gI 0) :: .ref a :: .int (gI 0) :: .ref a0 :: st) := by
  intro p e R s m args below meth c H locs cells slots mc ms la C hR hl hS a1 a2 a3 a4
  have c10 := C.2.2.2.2.2.2.2.2.2.1
  have c11 := C.2.2.2.2.2.2.2.2.2.2.1
  have hw : gW k := by unfold gW; omega
  obtain ⟨b1, b2, hc1⟩ := hR.2.2 a _ ha
  have hc0 : H[a0]? = some (arrV (N.2.2.1 .long) n0 (fun j : Nat => .long (gJ (f (j : Int))))) := (hR.2.2 a0 _ ha0).2.2
  have hc1 : H[a]? = some (arrV (N.2.2.1 .long) n1 (fun j : Nat => .long (gJ (g (j : Int))))) := hc1
  have hA := (C.2.2.2.2.2.2.2.2.1.2.1 .long (by decide)).1
  have z0 : (gI 0).toInt = 0 := rfl
  have zk : (gI k).toInt = k := gI_to hw
  have n0' : (gI 0).toNatClampNeg = 0 := rfl
  have nk' : (gI k).toNatClampNeg = k.toNat := gI_cl hw
  have e7 : nativeFrameWords "java/lang/System" "arraycopy" 5 = 7 := by decide
  intro T hT X
  obtain ⟨-, kk0, hk0, cm0, hkk0⟩ := hA n0 (fun j : Nat => .long (gJ (f (j : Int))))
  obtain ⟨-, kk1, hk1, cm1, hkk1⟩ := hA n1 (fun j : Nat => .long (gJ (g (j : Int))))
  obtain ⟨vm', X', step⟩ := X.arraycopy C.1 C.2.2.2.1 (C.2.2.2.2.1 _ hm) (C.2.2.2.2.1 _ g_ac1) (C.2.2.2.2.1 _ g_ac2) (C.2.2.2.2.1 _ g_ac3) (src := a0) (dst := a) (cs := arrV (N.2.2.1 .long) n0 (fun j : Nat => .long (gJ (f (j : Int))))) (cd := arrV (N.2.2.1 .long) n1 (fun j : Nat => .long (gJ (g (j : Int))))) (srcPos := gI 0) (destPos := gI 0) (n := gI k) (by rw [hT]; exact hc0) (by rw [hT]; exact hc1)
    (fun _ h => by cases h) (fun _ h => by cases h) (fun h => by cases h) (fun h => by cases h) hk0 hk1 hkk0 hkk1 (by simp [refKind]) (by decide) (by decide) (fun z => by have := (gI_lt hw gW_0).mp z; omega)
    (by rw [z0, zk, arrV_size]; omega)
    (by rw [z0, zk, arrV_size]; omega)
    (fun vm₁ _ i hi => by
      rw [nk'] at hi
      have e : (arrV (N.2.2.1 .long) n0 (fun j : Nat => .long (gJ (f (j : Int))))).slots.getD ((gI 0).toNatClampNeg + i) .null = .long (gJ (f (((gI 0).toNatClampNeg + i : Nat) : Int))) := by
        rw [Array.getD_eq_getD_getElem?, arrV_read _ _ (by rw [n0']; omega)]
        rfl
      refine ⟨?_, ?_⟩
      · rw [e]
        rfl
      · rw [e]
        exact trivial)
    (g := F0 m pc la (.int (gI k) :: .int (gI 0) :: .ref a :: .int (gI 0) :: .ref a0 :: st)) rfl (by rw [C.2.2.1]; exact hl.1) (rest := st) rfl (by rw [C.2.1]; exact hd) (by omega) (by show 2 * 0 + _ + (nativeFrameWords "java/lang/System" "arraycopy" 5 + 11) ≤ _; rw [e7]; omega)
  have e1 : copied (arrV (N.2.2.1 .long) n0 (fun j : Nat => .long (gJ (f (j : Int))))) (arrV (N.2.2.1 .long) n1 (fun j : Nat => .long (gJ (g (j : Int))))) (gI 0) (gI 0) (gI k) = arrV (N.2.2.1 .long) n1 (fun j : Nat => .long (gJ ((fun j : Int => if j < k then f j else g j) (j : Int)))) := by
    have e3 := va_copied (sp := (gI 0).toNatClampNeg) (dp := (gI 0).toNatClampNeg) (n := (gI k).toNatClampNeg) (n0 := n0) (n1 := n1) (fun z => Value.long z) (N.2.2.1 .long) (N.2.2.1 .long) (fun j : Nat => gJ (f (j : Int))) (fun j : Nat => gJ (g (j : Int))) (by rw [n0', nk']; omega)
    refine Eq.trans e3 ?_
    congr 1
    funext j
    unfold va_cpy
    rw [n0', nk']
    by_cases z : (j : Int) < k
    · rw [if_pos (by omega)]
      simp only [if_pos z]
      rw [show (0 + (j - 0)) = j by omega]
    · rw [if_neg (by omega)]
      simp only [if_neg z]
  rw [e1] at X' step
  have hlt : a < H.size := (Array.getElem?_eq_some_iff.mp hc1).1
  have oq : ∀ q : Nat, q ≠ a → (H.setIfInBounds a (arrV (N.2.2.1 .long) n1 (fun j : Nat => .long (gJ ((fun j : Int => if j < k then f j else g j) (j : Int))))))[q]? = H[q]? := fun q hq => by simp [Array.getElem?_setIfInBounds, Ne.symm hq]
  obtain ⟨t, d1, d2⟩ := kk p e R s m args below meth c (H.setIfInBounds a (arrV (N.2.2.1 .long) n1 (fun j : Nat => .long (gJ ((fun j : Int => if j < k then f j else g j) (j : Int)))))) _ cells slots mc ms la C (hR.set ha (e := aJ n1 (fun j => if j < k then f j else g j)) (show (H.setIfInBounds a _)[a]? = some _ by simp [Array.getElem?_setIfInBounds, hlt]) (by simp) oq) hl ⟨by simp; exact hS.1, fun q g1 g2 => by
      rw [oq q (fun e => g2 (by rw [e]; exact b1))]
      exact hS.2.1 q g1 g2, fun q hq => by
      rcases List.mem_append.mp hq with z | z
      · exact hS.2.2 q z
      · obtain ⟨w, -, hw2⟩ := List.mem_map.mp z
        rw [← hw2]
        exact b1⟩ a1 a2 a3 a4 _ (by rw [← hT]; rfl) X'
  exact ⟨t, step t d1, d2⟩
def gAnd (a b : Int) : Int := (gI a &&& gI b).toInt
def gAndL (a b : Int) : Int := (gJ a &&& gJ b).toInt
def gOrL (a b : Int) : Int := (gJ a ||| gJ b).toInt
def gShlL (a b : Int) : Int := (gJ a <<< ((gI b).toInt64 &&& 63)).toInt
def gShr (a b : Int) : Int := (gI a >>> (gI b &&& 31)).toInt
def gShrL (a b : Int) : Int := (gJ a >>> ((gI b).toInt64 &&& 63)).toInt
theorem gI_rt (x : Int32) : gI x.toInt = x := Int32.ofInt_toInt x
theorem gJ_rt (x : Int64) : gJ x.toInt = x := Int64.ofInt_toInt x
theorem gW_t (x : Int32) : gW x.toInt := ⟨x.le_toInt, x.toInt_lt⟩
theorem gX_t (x : Int64) : gX x.toInt := ⟨x.le_toInt, x.toInt_lt⟩
theorem g_iand {N : GN} {M : GM} {Q : Option Value → GH → Prop} {nc ns : Nat} {h : GH} {pc : Nat} {ls : List (Nat × Value)} {st : List Value} {a b : Int} (hd : decode (gm_cc M) pc = .ok (.iand, 1)) (k : Go N M Q nc ns h (pc + 1) ls (.int (gI (gAnd a b)) :: st)) : Go N M Q nc ns h pc ls (.int (gI b) :: .int (gI a) :: st) := by
  intro p e R s m args below meth c H locs cells slots mc ms la C hR hl hS a1 a2 a3 a4
  refine lv_iand C.1 C.2.1 hd ?_
  have k2 := k p e R s m args below meth c H locs cells slots mc ms la C hR hl hS a1 a2 a3 a4
  rw [show gI (gAnd a b) = _ from gI_rt _] at k2
  exact k2
theorem g_land {N : GN} {M : GM} {Q : Option Value → GH → Prop} {nc ns : Nat} {h : GH} {pc : Nat} {ls : List (Nat × Value)} {st : List Value} {a b : Int} (hd : decode (gm_cc M) pc = .ok (.land, 1)) (k : Go N M Q nc ns h (pc + 1) ls (.long (gJ (gAndL a b)) :: st)) : Go N M Q nc ns h pc ls (.long (gJ b) :: .long (gJ a) :: st) := by
  intro p e R s m args below meth c H locs cells slots mc ms la C hR hl hS a1 a2 a3 a4
  refine lv_land C.1 C.2.1 hd ?_
  have k2 := k p e R s m args below meth c H locs cells slots mc ms la C hR hl hS a1 a2 a3 a4
  rw [show gJ (gAndL a b) = _ from gJ_rt _] at k2
  exact k2
theorem g_lor {N : GN} {M : GM} {Q : Option Value → GH → Prop} {nc ns : Nat} {h : GH} {pc : Nat} {ls : List (Nat × Value)} {st : List Value} {a b : Int} (hd : decode (gm_cc M) pc = .ok (.lor, 1)) (k : Go N M Q nc ns h (pc + 1) ls (.long (gJ (gOrL a b)) :: st)) : Go N M Q nc ns h pc ls (.long (gJ b) :: .long (gJ a) :: st) := by
  intro p e R s m args below meth c H locs cells slots mc ms la C hR hl hS a1 a2 a3 a4
  refine lv_lor C.1 C.2.1 hd ?_
  have k2 := k p e R s m args below meth c H locs cells slots mc ms la C hR hl hS a1 a2 a3 a4
  rw [show gJ (gOrL a b) = _ from gJ_rt _] at k2
  exact k2
theorem g_lshl {N : GN} {M : GM} {Q : Option Value → GH → Prop} {nc ns : Nat} {h : GH} {pc : Nat} {ls : List (Nat × Value)} {st : List Value} {a b : Int} (hd : decode (gm_cc M) pc = .ok (.lshl, 1)) (k : Go N M Q nc ns h (pc + 1) ls (.long (gJ (gShlL a b)) :: st)) : Go N M Q nc ns h pc ls (.int (gI b) :: .long (gJ a) :: st) := by
  intro p e R s m args below meth c H locs cells slots mc ms la C hR hl hS a1 a2 a3 a4
  refine lv_lshl C.1 C.2.1 hd rfl ?_
  have k2 := k p e R s m args below meth c H locs cells slots mc ms la C hR hl hS a1 a2 a3 a4
  rw [show gJ (gShlL a b) = _ from gJ_rt _] at k2
  exact k2
theorem g_ishr {N : GN} {M : GM} {Q : Option Value → GH → Prop} {nc ns : Nat} {h : GH} {pc : Nat} {ls : List (Nat × Value)} {st : List Value} {a b : Int} (hd : decode (gm_cc M) pc = .ok (.ishr, 1)) (k : Go N M Q nc ns h (pc + 1) ls (.int (gI (gShr a b)) :: st)) : Go N M Q nc ns h pc ls (.int (gI b) :: .int (gI a) :: st) := by
  intro p e R s m args below meth c H locs cells slots mc ms la C hR hl hS a1 a2 a3 a4
  refine lv_ishr C.1 C.2.1 hd ?_
  have k2 := k p e R s m args below meth c H locs cells slots mc ms la C hR hl hS a1 a2 a3 a4
  rw [show gI (gShr a b) = _ from gI_rt _] at k2
  exact k2
theorem g_lshr {N : GN} {M : GM} {Q : Option Value → GH → Prop} {nc ns : Nat} {h : GH} {pc : Nat} {ls : List (Nat × Value)} {st : List Value} {a b : Int} (hd : decode (gm_cc M) pc = .ok (.lshr, 1)) (k : Go N M Q nc ns h (pc + 1) ls (.long (gJ (gShrL a b)) :: st)) : Go N M Q nc ns h pc ls (.int (gI b) :: .long (gJ a) :: st) := by
  intro p e R s m args below meth c H locs cells slots mc ms la C hR hl hS a1 a2 a3 a4
  refine lv_lshr C.1 C.2.1 hd rfl ?_
  have k2 := k p e R s m args below meth c H locs cells slots mc ms la C hR hl hS a1 a2 a3 a4
  rw [show gJ (gShrL a b) = _ from gJ_rt _] at k2
  exact k2
theorem g_tabIn {N : GN} {M : GM} {Q : Option Value → GH → Prop} {nc ns : Nat} {h : GH} {pc : Nat} {ls : List (Nat × Value)} {st : List Value} {a dflt lo hi off : Int} {offs : Array Int} {len tgt : Nat} (hd : decode (gm_cc M) pc = .ok (.tableswitch dflt lo hi offs, len)) (ha : gW a) (h1 : lo ≤ a) (h2 : a ≤ hi) (ho : offs[(a - lo).toNat]? = some off) (ht : (pc : Int) + off = (tgt : Int)) (k : Go N M Q nc ns h tgt ls st) : Go N M Q nc ns h pc ls (.int (gI a) :: st) := by
  intro p e R s m args below meth c H locs cells slots mc ms la C hR hl hS a1 a2 a3 a4
  refine lv_tableIn C.1 C.2.1 hd (by rw [gI_to ha]; omega) (by rw [gI_to ha]; omega) (by rw [gI_to ha]; exact ho) ht ?_
  exact k p e R s m args below meth c H locs cells slots mc ms la C hR hl hS a1 a2 a3 a4
theorem g_tabOut {N : GN} {M : GM} {Q : Option Value → GH → Prop} {nc ns : Nat} {h : GH} {pc : Nat} {ls : List (Nat × Value)} {st : List Value} {a dflt lo hi : Int} {offs : Array Int} {len tgt : Nat} (hd : decode (gm_cc M) pc = .ok (.tableswitch dflt lo hi offs, len)) (ha : gW a) (h1 : a < lo ∨ hi < a) (ht : (pc : Int) + dflt = (tgt : Int)) (k : Go N M Q nc ns h tgt ls st) : Go N M Q nc ns h pc ls (.int (gI a) :: st) := by
  intro p e R s m args below meth c H locs cells slots mc ms la C hR hl hS a1 a2 a3 a4
  refine lv_tableOut C.1 C.2.1 hd (by rw [gI_to ha]; exact h1) ht ?_
  exact k p e R s m args below meth c H locs cells slots mc ms la C hR hl hS a1 a2 a3 a4
