theorem g_all {args : Array Value} {s : State} (hts : ∀ w ∈ lw_tbl, w.before args s = true) : ∀ w ∈ g_tbl, w.before args s = true := fun w h => hts w (List.mem_filter.mp h).1
theorem t_1 {w : Cond} (i : Nat) (h : tables_1_1[i]? = some w) : w ∈ lw_tbl := List.mem_append_right _ (List.mem_append_left _ (List.mem_of_getElem? h))
theorem t_2 {w : Cond} (i : Nat) (h : tables_1_2[i]? = some w) : w ∈ lw_tbl := List.mem_append_right _ (List.mem_append_right _ (List.mem_append_left _ (List.mem_of_getElem? h)))
set_option maxHeartbeats 4000000 in
set_option maxRecDepth 100000 in
/-- the classes, slots and array classes at the law's start -/
theorem g_K_ex {args : Array Value} {s : State} (hts : ∀ w ∈ lw_tbl, w.before args s = true) : ∃ (D : va_G) (cA : FieldType → ClassId), ∀ (l : Launch) (B : Nat) (sc : Nat × Nat × (Nat → Int32)), g_K (l, D, cA, B, sc) s := by
  have hg := g_all hts
  obtain ⟨c0, i0, k0⟩ := u_known hg inTX0 (hg _ niX0)
  obtain ⟨c1, i1, k1⟩ := u_known hg inTX1 (hg _ niX1)
  obtain ⟨c2, i2, k2⟩ := u_known hg inTX2 (hg _ niX2)
  obtain ⟨c3, i3, k3⟩ := u_known hg inTX3 (hg _ niX3)
  obtain ⟨c4, i4, k4⟩ := u_known hg inTX4 (hg _ niX4)
  obtain ⟨c5, i5, k5⟩ := u_known hg inTX5 (hg _ niX5)
  obtain ⟨c6, i6, k6⟩ := u_known hg inTX6 (hg _ niX6)
  obtain ⟨c7, i7, k7⟩ := u_known hg inTX7 (hg _ niX7)
  obtain ⟨c8, i8, k8⟩ := u_known hg inTX8 (hg _ niX8)
  obtain ⟨c9, i9, k9⟩ := u_known hg inTX9 (hg _ niX9)
  obtain ⟨c10, i10, k10⟩ := u_known hg inTX10 (hg _ niX10)
  obtain ⟨a_int, ka_int, co_int, e1_int, e2_int, e3_int⟩ := Cond.arrayClass_spec (hg _ ac_int)
  obtain ⟨a_long, ka_long, co_long, e1_long, e2_long, e3_long⟩ := Cond.arrayClass_spec (hg _ ac_long)
  obtain ⟨a_boolean, ka_boolean, co_boolean, e1_boolean, e2_boolean, e3_boolean⟩ := Cond.arrayClass_spec (hg _ ac_boolean)
  have ho_r : (Cond.arrayOver (.object "PolyWork$Row")).before args s = true := hts _ (t_2 60 rfl)
  obtain ⟨co_r, a_r, ka_r, e1_r, -, e2_r, e3_r, e4_r⟩ := Cond.arrayOver_spec ho_r
  have ho_p : (Cond.arrayOver (.object "PolyWork$Poly")).before args s = true := hts _ (t_1 37 rfl)
  obtain ⟨co_p, a_p, ka_p, e1_p, -, e2_p, e3_p, e4_p⟩ := Cond.arrayOver_spec ho_p
  refine ⟨(fun c => [c0, c1, c2, c3, c4, c5, c6, c7, c8, c9, c10].getD c 0, fun c => [i0, i1, i2, i3, i4, i5, i6, i7, i8, i9, i10].getD c (fun _ => 0)), fun ty => if ty = .int then a_int else if ty = .long then a_long else if ty = .boolean then a_boolean else if ty = .object "PolyWork$Row" then a_r else a_p, fun l B sc => ⟨fun c q hq => ?_, fun ty hty => ?_, fun q hq => ?_, fun C hC => ?_⟩⟩
  · match c, hq with
    | 0, hq => have e := Option.some.inj (show some (RX0, TX0, 16) = some q from hq); subst e; exact k0
    | 1, hq => have e := Option.some.inj (show some (RX1, TX1, 1) = some q from hq); subst e; exact k1
    | 2, hq => have e := Option.some.inj (show some (RX2, TX2, 9) = some q from hq); subst e; exact k2
    | 3, hq => have e := Option.some.inj (show some (RX3, TX3, 4) = some q from hq); subst e; exact k3
    | 4, hq => have e := Option.some.inj (show some (RX4, TX4, 3) = some q from hq); subst e; exact k4
    | 5, hq => have e := Option.some.inj (show some (RX5, TX5, 2) = some q from hq); subst e; exact k5
    | 6, hq => have e := Option.some.inj (show some (RX6, TX6, 8) = some q from hq); subst e; exact k6
    | 7, hq => have e := Option.some.inj (show some (RX7, TX7, 7) = some q from hq); subst e; exact k7
    | 8, hq => have e := Option.some.inj (show some (RX8, TX8, 2) = some q from hq); subst e; exact k8
    | 9, hq => have e := Option.some.inj (show some (RX9, TX9, 12) = some q from hq); subst e; exact k9
    | 10, hq => have e := Option.some.inj (show some (RX10, TX10, 30) = some q from hq); subst e; exact k10
    | j + 11, hq => exact absurd (show (none : Option vw_C) = some q from hq) (by simp)
  · simp only [g_tys, List.mem_cons, List.not_mem_nil, or_false] at hty
    rcases hty with rfl | rfl | rfl | rfl | rfl
    · exact ⟨fun n z => ⟨fun k h => (by cases h), ka_int, e2_int, co_int, e3_int⟩, e1_int⟩
    · exact ⟨fun n z => ⟨fun k h => (by cases h), ka_long, e2_long, co_long, e3_long⟩, e1_long⟩
    · exact ⟨fun n z => ⟨fun k h => (by cases h), ka_boolean, e2_boolean, co_boolean, e3_boolean⟩, e1_boolean⟩
    · exact ⟨fun n z => ⟨fun k h => (by cases h), ka_r, e2_r, co_r, e3_r⟩, ka_r, co_r, e2_r, e3_r, e1_r, e4_r⟩
    · exact ⟨fun n z => ⟨fun k h => (by cases h), ka_p, e2_p, co_p, e3_p⟩, ka_p, co_p, e2_p, e3_p, e1_p, e4_p⟩
  · simp only [g_nl, List.mem_cons, List.not_mem_nil, or_false] at hq
    rcases hq with rfl | rfl | rfl
    · exact va_Nw.of rfl (hts _ (t_1 24 rfl))
    · exact va_Nw.of rfl (hts _ (t_1 46 rfl))
    · exact va_Nw.of rfl (hts _ (t_1 158 rfl))
  · simp only [g_ov, List.mem_cons, List.not_mem_nil, or_false] at hC
    rcases hC with rfl | rfl
    · exact va_AO.of ho_r
    · exact va_AO.of ho_p
theorem W.mono {p : Program} {l : Launch} {e : Env} {R : Room} {s : State} {m : MethodId} {args : Array Value} {below : List Frame} {meth : Method} {c : Code} {H : Heap} {locs : List Loc} {cells slots : Nat} {Q Q2 : State → Prop} {g : JFrame} (h : ∀ t, Q t → Q2 t) (k : W p l e R s m args below meth c H locs cells slots Q g) : W p l e R s m args below meth c H locs cells slots Q2 g := fun T hT X => by
  obtain ⟨t, a, b⟩ := k T hT X
  exact ⟨t, a, h t b⟩
