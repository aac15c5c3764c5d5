theorem g_aload_nN {N : GN} {M : GM} {Q : Option Value → GH → Prop} {nc ns : Nat} {h : GH} {pc : Nat} {ls : List (Nat × Value)} {st : List Value} {j : Fin 4} (q : Nat) (hd : decode (gm_cc M) pc = .ok (.aload_n j, 1)) (hq : ls[q]? = some ((j : Nat), .null)) (k : Go N M Q nc ns h (pc + 1) ls (.null :: st)) : Go N M Q nc ns h pc ls st := by
  intro p e R s m args below meth c H locs cells slots mc ms la C hR hl hS a1 a2 a3 a4
  refine lv_aload_nN C.1 C.2.1 hd rfl (lv_at hl q hq) ?_
  exact k p e R s m args below meth c H locs cells slots mc ms la C hR hl hS a1 a2 a3 a4
theorem g_aloadN {N : GN} {M : GM} {Q : Option Value → GH → Prop} {nc ns : Nat} {h : GH} {pc : Nat} {ls : List (Nat × Value)} {st : List Value} {j : Nat} (q : Nat) (hd : decode (gm_cc M) pc = .ok (.aload j, 2)) (hq : ls[q]? = some (j, .null)) (k : Go N M Q nc ns h (pc + 2) ls (.null :: st)) : Go N M Q nc ns h pc ls st := by
  intro p e R s m args below meth c H locs cells slots mc ms la C hR hl hS a1 a2 a3 a4
  refine lv_aloadN C.1 C.2.1 hd (lv_at hl q hq) ?_
  exact k p e R s m args below meth c H locs cells slots mc ms la C hR hl hS a1 a2 a3 a4
theorem g_astore_nN {N : GN} {M : GM} {Q : Option Value → GH → Prop} {nc ns : Nat} {h : GH} {pc : Nat} {ls : List (Nat × Value)} {st : List Value} {j : Fin 4} {i : Nat} {ls2 : List (Nat × Value)} (hd : decode (gm_cc M) pc = .ok (.astore_n j, 1)) (hi : (j : Nat) = i) (hn : i < gm_L M) (hq : (i, Value.null) :: ls.filter (fun q => !(q.1 == i) && !(q.1 + 1 == i && q.2.category == 2)) = ls2) (k : Go N M Q nc ns h (pc + 1) ls2 st) : Go N M Q nc ns h pc ls (.null :: st) := by
  intro p e R s m args below meth c H locs cells slots mc ms la C hR hl hS a1 a2 a3 a4
  refine lv_astore_nN C.1 C.2.1 hd hi hl hn hq (fun la hl => ?_)
  exact k p e R s m args below meth c H locs cells slots mc ms la C hR hl hS a1 a2 a3 a4
theorem g_astoreN {N : GN} {M : GM} {Q : Option Value → GH → Prop} {nc ns : Nat} {h : GH} {pc : Nat} {ls : List (Nat × Value)} {st : List Value} {i : Nat} {ls2 : List (Nat × Value)} (hd : decode (gm_cc M) pc = .ok (.astore i, 2)) (hn : i < gm_L M) (hq : (i, Value.null) :: ls.filter (fun q => !(q.1 == i) && !(q.1 + 1 == i && q.2.category == 2)) = ls2) (k : Go N M Q nc ns h (pc + 2) ls2 st) : Go N M Q nc ns h pc ls (.null :: st) := by
  intro p e R s m args below meth c H locs cells slots mc ms la C hR hl hS a1 a2 a3 a4
  refine lv_astoreN C.1 C.2.1 hd hl hn hq (fun la hl => ?_)
  exact k p e R s m args below meth c H locs cells slots mc ms la C hR hl hS a1 a2 a3 a4
/-- every cell lies below the next address -/
theorem Go.wf {N : GN} {M : GM} {Q : Option Value → GH → Prop} {nc ns : Nat} {h : GH} {pc : Nat} {ls : List (Nat × Value)} {st : List Value} (k : (∀ (a : Nat) (e : GE), h.2 a = some e → a < h.1) → Go N M Q nc ns h pc ls st) : Go N M Q nc ns h pc ls st := by
  intro p e R s m args below meth c H locs cells slots mc ms la C hR hl hS a1 a2 a3 a4
  exact k (fun a e ha => (hR.2.2 a e ha).2.1) p e R s m args below meth c H locs cells slots mc ms la C hR hl hS a1 a2 a3 a4
/-- the cells behind the two constructors, and those of the reference among them -/
abbrev cS (B : Nat) : List GE := [oB 9 [.ref (B + 1), .ref (B + 2), .ref (B + 3), .ref (B + 4), .ref (B + 7), .ref (B + 24), .ref (B + 27), .ref (B + 29), .ref (B + 31), .ref (B + 33), .null, .null], oB 1 [.int (gI (2))], aR "PolyWork$Poly" 100 (fun _ => none), aZ 100 (fun _ => 0), oB 8 [.ref (B + 1), .ref (B + 5)], oB 4 [.ref (B + 6), .int (gI (-1)), .int (gI (-1))], aJ 287 (fun _ => 0), oB 2 [.ref (B + 1), .ref (B + 8), .ref (B + 10), .ref (B + 12), .ref (B + 14), .ref (B + 16), .ref (B + 18), .ref (B + 20), .ref (B + 22)], oB 5 [.ref (B + 9), .int (gI (-1))], aJ 84 (fun _ => 0), oB 5 [.ref (B + 11), .int (gI (-1))], aJ 84 (fun _ => 0), oB 5 [.ref (B + 13), .int (gI (-1))], aJ 84 (fun _ => 0), oB 5 [.ref (B + 15), .int (gI (-1))], aJ 84 (fun _ => 0), oB 5 [.ref (B + 17), .int (gI (-1))], aJ 84 (fun _ => 0), oB 5 [.ref (B + 19), .int (gI (-1))], aJ 84 (fun _ => 0), oB 5 [.ref (B + 21), .int (gI (-1))], aJ 84 (fun _ => 0), oB 5 [.ref (B + 23), .int (gI (-1))], aJ 84 (fun _ => 0), oB 3 [.ref (B + 1), .ref (B + 25), .ref (B + 26), .int (gI (0))], aJ 41 (fun _ => 0), aJ 41 (fun _ => 0), oB 4 [.ref (B + 28), .int (gI (-1)), .int (gI (-1))], aJ 287 (fun _ => 0), oB 5 [.ref (B + 30), .int (gI (-1))], aJ 84 (fun _ => 0), oB 5 [.ref (B + 32), .int (gI (-1))], aJ 84 (fun _ => 0), oB 5 [.ref (B + 34), .int (gI (-1))], aJ 84 (fun _ => 0), oB 10 [.int (gI (2)), .ref (B + 36), .ref (B + 37), .ref (B + 38), .ref (B + 39), .ref (B + 40), .ref (B + 41), .ref (B + 42), .ref (B + 43), .int (gI (0)), .int (gI (0)), .int (gI (0)), .ref (B + 44), .ref (B + 45), .ref (B + 46), .int (gI (0)), .ref (B + 47), .ref (B + 48), .ref (B + 49), .int (gI (0)), .ref (B + 50), .int (gI (0)), .ref (B + 51), .ref (B + 52), .ref (B + 53), .ref (B + 54), .ref (B + 55), .int (gI (0)), .ref (B + 56), .ref (B + 57)], aZ 100 (fun _ => 0), aI 28700 (fun _ => 0), aI 1500 (fun _ => 0), aI 1500 (fun _ => 0), aI 8000 (fun _ => 0), aI 40 (fun _ => 0), aJ 6400 (fun _ => 0), aI 11520 (fun _ => 0), aI 41 (fun _ => 0), aI 41 (fun _ => 0), aI 1681 (fun _ => 0), aI 41 (fun _ => 0), aI 41 (fun _ => 0), aI 1681 (fun _ => 0), aI 41 (fun _ => 0), aI 100 (fun _ => 0), aI 4100 (fun _ => 0), aI 1681 (fun _ => 0), aI 41 (fun _ => 0), aI 1681 (fun _ => 0), aI 41 (fun _ => 0), aI 41 (fun _ => 0)]
def Mo (B : Nat) (h : GH) : Prop := ∀ (k : Nat) (e : GE), 35 ≤ k → (cS B)[k]? = some e → h.2 (B + k) = some e
theorem Mo_of {B : Nat} {cs : List GE} (h : (cs.drop 35).take 23 = (cS B).drop 35) : Mo B (hL B cs) := by
  intro k e hk he
  have h1 : ((cS B).drop 35)[k - 35]? = some e := by rw [List.getElem?_drop, show 35 + (k - 35) = k by omega]; exact he
  rw [← h] at h1
  have h2 := List.getElem?_eq_some_iff.mp h1
  obtain ⟨h3, h4⟩ := h2
  have h5 : k - 35 < 23 := by have := List.length_take_le 23 (cs.drop 35); omega
  rw [List.getElem?_take_of_lt h5, List.getElem?_drop, show 35 + (k - 35) = k by omega] at h1
  exact hL_get h1
theorem Mo_set {B k : Nat} {h : GH} {e : GE} (hk : k < 35) (hm : Mo B h) : Mo B (hset h (B + k) e) := fun j f hj hf => by
  rw [hset_n _ _ (by omega)]
  exact hm j f hj hf
