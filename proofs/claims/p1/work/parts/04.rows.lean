theorem g_iconst {N : GN} {M : GM} {Q : Option Value → GH → Prop} {nc ns : Nat} {h : GH} {pc : Nat} {ls : List (Nat × Value)} {st : List Value} {a : Int} (hd : decode (gm_cc M) pc = .ok (.iconst a, 1))  (k : Go N M Q nc ns h (pc + 1) ls (.int (gI a) :: st)) : Go N M Q nc ns h pc ls (st) := by
  intro p e R s m args below meth c H locs cells slots mc ms la C hR hl hS a1 a2 a3 a4
  refine lv_iconst (v := gI a) C.1 C.2.1 hd rfl ?_
  exact k p e R s m args below meth c H locs cells slots mc ms la C hR hl hS a1 a2 a3 a4
theorem g_bip {a : Int} (h1 : -128 ≤ a) (h2 : a < 128) : (Int8.ofInt a).toInt32 = gI a := by
  apply Int32.toInt_inj.1
  rw [Int8.toInt_toInt32, Int8.toInt_ofInt_of_le (by omega) (by omega), gI, Int32.toInt_ofInt_of_le (by omega) (by omega)]
theorem g_sip {a : Int} (h1 : -32768 ≤ a) (h2 : a < 32768) : (Int16.ofInt a).toInt32 = gI a := by
  apply Int32.toInt_inj.1
  rw [Int16.toInt_toInt32, Int16.toInt_ofInt_of_le (by omega) (by omega), gI, Int32.toInt_ofInt_of_le (by omega) (by omega)]
theorem g_bipush {N : GN} {M : GM} {Q : Option Value → GH → Prop} {nc ns : Nat} {h : GH} {pc : Nat} {ls : List (Nat × Value)} {st : List Value} {a : Int} (hd : decode (gm_cc M) pc = .ok (.bipush a, 2)) (hh : -128 ≤ a ∧ a < 128) (k : Go N M Q nc ns h (pc + 2) ls (.int (gI a) :: st)) : Go N M Q nc ns h pc ls (st) := by
  intro p e R s m args below meth c H locs cells slots mc ms la C hR hl hS a1 a2 a3 a4
  refine lv_bipush (v := gI a) C.1 C.2.1 hd (g_bip hh.1 hh.2) ?_
  exact k p e R s m args below meth c H locs cells slots mc ms la C hR hl hS a1 a2 a3 a4
theorem g_sipush {N : GN} {M : GM} {Q : Option Value → GH → Prop} {nc ns : Nat} {h : GH} {pc : Nat} {ls : List (Nat × Value)} {st : List Value} {a : Int} (hd : decode (gm_cc M) pc = .ok (.sipush a, 3)) (hh : -32768 ≤ a ∧ a < 32768) (k : Go N M Q nc ns h (pc + 3) ls (.int (gI a) :: st)) : Go N M Q nc ns h pc ls (st) := by
  intro p e R s m args below meth c H locs cells slots mc ms la C hR hl hS a1 a2 a3 a4
  refine lv_sipush (v := gI a) C.1 C.2.1 hd (g_sip hh.1 hh.2) ?_
  exact k p e R s m args below meth c H locs cells slots mc ms la C hR hl hS a1 a2 a3 a4
theorem g_lconst0 {N : GN} {M : GM} {Q : Option Value → GH → Prop} {nc ns : Nat} {h : GH} {pc : Nat} {ls : List (Nat × Value)} {st : List Value}  (hd : decode (gm_cc M) pc = .ok (.lconst 0, 1))  (k : Go N M Q nc ns h (pc + 1) ls (.long (gJ 0) :: st)) : Go N M Q nc ns h pc ls (st) := by
  intro p e R s m args below meth c H locs cells slots mc ms la C hR hl hS a1 a2 a3 a4
  refine lv_lconst (v := gJ 0) C.1 C.2.1 hd rfl ?_
  exact k p e R s m args below meth c H locs cells slots mc ms la C hR hl hS a1 a2 a3 a4
theorem g_lconst1 {N : GN} {M : GM} {Q : Option Value → GH → Prop} {nc ns : Nat} {h : GH} {pc : Nat} {ls : List (Nat × Value)} {st : List Value}  (hd : decode (gm_cc M) pc = .ok (.lconst 1, 1))  (k : Go N M Q nc ns h (pc + 1) ls (.long (gJ 1) :: st)) : Go N M Q nc ns h pc ls (st) := by
  intro p e R s m args below meth c H locs cells slots mc ms la C hR hl hS a1 a2 a3 a4
  refine lv_lconst (v := gJ 1) C.1 C.2.1 hd rfl ?_
  exact k p e R s m args below meth c H locs cells slots mc ms la C hR hl hS a1 a2 a3 a4
theorem g_null {N : GN} {M : GM} {Q : Option Value → GH → Prop} {nc ns : Nat} {h : GH} {pc : Nat} {ls : List (Nat × Value)} {st : List Value}  (hd : decode (gm_cc M) pc = .ok (.aconst_null, 1))  (k : Go N M Q nc ns h (pc + 1) ls (.null :: st)) : Go N M Q nc ns h pc ls (st) := by
  intro p e R s m args below meth c H locs cells slots mc ms la C hR hl hS a1 a2 a3 a4
  refine lv_null C.1 C.2.1 hd ?_
  exact k p e R s m args below meth c H locs cells slots mc ms la C hR hl hS a1 a2 a3 a4
theorem g_ldc {N : GN} {M : GM} {Q : Option Value → GH → Prop} {nc ns : Nat} {h : GH} {pc : Nat} {ls : List (Nat × Value)} {st : List Value} {idx : Nat} {a : Int} (hd : decode (gm_cc M) pc = .ok (.ldc idx, 2)) (hm : Cond.constant (gm_own M) idx (gI a) ∈ g_tbl) (k : Go N M Q nc ns h (pc + 2) ls (.int (gI a) :: st)) : Go N M Q nc ns h pc ls (st) := by
  intro p e R s m args below meth c H locs cells slots mc ms la C hR hl hS a1 a2 a3 a4
  refine lv_ldc (v := gI a) C.1 C.2.1 C.2.2.2.1 (C.2.2.2.2.1 _ hm) hd ?_
  exact k p e R s m args below meth c H locs cells slots mc ms la C hR hl hS a1 a2 a3 a4
theorem g_ldc2 {N : GN} {M : GM} {Q : Option Value → GH → Prop} {nc ns : Nat} {h : GH} {pc : Nat} {ls : List (Nat × Value)} {st : List Value} {idx : Nat} {a : Int} (hd : decode (gm_cc M) pc = .ok (.ldc2_w idx, 3)) (hm : Cond.constantLong (gm_own M) idx (gJ a) ∈ g_tbl) (k : Go N M Q nc ns h (pc + 3) ls (.long (gJ a) :: st)) : Go N M Q nc ns h pc ls (st) := by
  intro p e R s m args below meth c H locs cells slots mc ms la C hR hl hS a1 a2 a3 a4
  refine lv_ldc2 (v := gJ a) C.1 C.2.1 C.2.2.2.1 (C.2.2.2.2.1 _ hm) hd ?_
  exact k p e R s m args below meth c H locs cells slots mc ms la C hR hl hS a1 a2 a3 a4
theorem g_iload_n {N : GN} {M : GM} {Q : Option Value → GH → Prop} {nc ns : Nat} {h : GH} {pc : Nat} {ls : List (Nat × Value)} {st : List Value} {j : Fin 4} {x : Int32} (q : Nat) (hd : decode (gm_cc M) pc = .ok (.iload_n j, 1)) (hq : ls[q]? = some ((j : Nat), .int x)) (k : Go N M Q nc ns h (pc + 1) ls (.int x :: st)) : Go N M Q nc ns h pc ls (st) := by
  intro p e R s m args below meth c H locs cells slots mc ms la C hR hl hS a1 a2 a3 a4
  refine lv_iload_n C.1 C.2.1 hd rfl (lv_at hl q hq) ?_
  exact k p e R s m args below meth c H locs cells slots mc ms la C hR hl hS a1 a2 a3 a4
theorem g_iload {N : GN} {M : GM} {Q : Option Value → GH → Prop} {nc ns : Nat} {h : GH} {pc : Nat} {ls : List (Nat × Value)} {st : List Value} {j : Nat} {x : Int32} (q : Nat) (hd : decode (gm_cc M) pc = .ok (.iload j, 2)) (hq : ls[q]? = some (j, .int x)) (k : Go N M Q nc ns h (pc + 2) ls (.int x :: st)) : Go N M Q nc ns h pc ls (st) := by
  intro p e R s m args below meth c H locs cells slots mc ms la C hR hl hS a1 a2 a3 a4
  refine lv_iload C.1 C.2.1 hd (lv_at hl q hq) ?_
  exact k p e R s m args below meth c H locs cells slots mc ms la C hR hl hS a1 a2 a3 a4
theorem g_lload_n {N : GN} {M : GM} {Q : Option Value → GH → Prop} {nc ns : Nat} {h : GH} {pc : Nat} {ls : List (Nat × Value)} {st : List Value} {j : Fin 4} {x : Int64} (q : Nat) (hd : decode (gm_cc M) pc = .ok (.lload_n j, 1)) (hq : ls[q]? = some ((j : Nat), .long x)) (k : Go N M Q nc ns h (pc + 1) ls (.long x :: st)) : Go N M Q nc ns h pc ls (st) := by
  intro p e R s m args below meth c H locs cells slots mc ms la C hR hl hS a1 a2 a3 a4
  refine lv_lload_n C.1 C.2.1 hd rfl (lv_at hl q hq) ?_
  exact k p e R s m args below meth c H locs cells slots mc ms la C hR hl hS a1 a2 a3 a4
theorem g_lload {N : GN} {M : GM} {Q : Option Value → GH → Prop} {nc ns : Nat} {h : GH} {pc : Nat} {ls : List (Nat × Value)} {st : List Value} {j : Nat} {x : Int64} (q : Nat) (hd : decode (gm_cc M) pc = .ok (.lload j, 2)) (hq : ls[q]? = some (j, .long x)) (k : Go N M Q nc ns h (pc + 2) ls (.long x :: st)) : Go N M Q nc ns h pc ls (st) := by
  intro p e R s m args below meth c H locs cells slots mc ms la C hR hl hS a1 a2 a3 a4
  refine lv_lload C.1 C.2.1 hd (lv_at hl q hq) ?_
  exact k p e R s m args below meth c H locs cells slots mc ms la C hR hl hS a1 a2 a3 a4
theorem g_aload_n {N : GN} {M : GM} {Q : Option Value → GH → Prop} {nc ns : Nat} {h : GH} {pc : Nat} {ls : List (Nat × Value)} {st : List Value} {j : Fin 4} {x : Nat} (q : Nat) (hd : decode (gm_cc M) pc = .ok (.aload_n j, 1)) (hq : ls[q]? = some ((j : Nat), .ref x)) (k : Go N M Q nc ns h (pc + 1) ls (.ref x :: st)) : Go N M Q nc ns h pc ls (st) := by
  intro p e R s m args below meth c H locs cells slots mc ms la C hR hl hS a1 a2 a3 a4
  refine lv_aload_n C.1 C.2.1 hd rfl (lv_at hl q hq) ?_
  exact k p e R s m args below meth c H locs cells slots mc ms la C hR hl hS a1 a2 a3 a4
theorem g_aload {N : GN} {M : GM} {Q : Option Value → GH → Prop} {nc ns : Nat} {h : GH} {pc : Nat} {ls : List (Nat × Value)} {st : List Value} {j : Nat} {x : Nat} (q : Nat) (hd : decode (gm_cc M) pc = .ok (.aload j, 2)) (hq : ls[q]? = some (j, .ref x)) (k : Go N M Q nc ns h (pc + 2) ls (.ref x :: st)) : Go N M Q nc ns h pc ls (st) := by
  intro p e R s m args below meth c H locs cells slots mc ms la C hR hl hS a1 a2 a3 a4
  refine lv_aload C.1 C.2.1 hd (lv_at hl q hq) ?_
  exact k p e R s m args below meth c H locs cells slots mc ms la C hR hl hS a1 a2 a3 a4
theorem g_istore_n {N : GN} {M : GM} {Q : Option Value → GH → Prop} {nc ns : Nat} {h : GH} {pc : Nat} {ls : List (Nat × Value)} {st : List Value} {j : Fin 4} {i : Nat} {x : Int32} {ls2 : List (Nat × Value)} (hd : decode (gm_cc M) pc = .ok (.istore_n j, 1)) (hi : (j : Nat) = i) (hn : i < gm_L M) (hq : (i, Value.int x) :: ls.filter (fun q => !(q.1 == i) && !(q.1 + 1 == i && q.2.category == 2)) = ls2) (k : Go N M Q nc ns h (pc + 1) ls2 st) : Go N M Q nc ns h pc ls (.int x :: st) := by
  intro p e R s m args below meth c H locs cells slots mc ms la C hR hl hS a1 a2 a3 a4
  refine lv_istore_n C.1 C.2.1 hd hi hl hn hq (fun la hl => ?_)
  exact k p e R s m args below meth c H locs cells slots mc ms la C hR hl hS a1 a2 a3 a4
theorem g_istore {N : GN} {M : GM} {Q : Option Value → GH → Prop} {nc ns : Nat} {h : GH} {pc : Nat} {ls : List (Nat × Value)} {st : List Value} {i : Nat} {x : Int32} {ls2 : List (Nat × Value)} (hd : decode (gm_cc M) pc = .ok (.istore i, 2)) (hn : i < gm_L M) (hq : (i, Value.int x) :: ls.filter (fun q => !(q.1 == i) && !(q.1 + 1 == i && q.2.category == 2)) = ls2) (k : Go N M Q nc ns h (pc + 2) ls2 st) : Go N M Q nc ns h pc ls (.int x :: st) := by
  intro p e R s m args below meth c H locs cells slots mc ms la C hR hl hS a1 a2 a3 a4
  refine lv_istore C.1 C.2.1 hd hl hn hq (fun la hl => ?_)
  exact k p e R s m args below meth c H locs cells slots mc ms la C hR hl hS a1 a2 a3 a4
theorem g_lstore_n {N : GN} {M : GM} {Q : Option Value → GH → Prop} {nc ns : Nat} {h : GH} {pc : Nat} {ls : List (Nat × Value)} {st : List Value} {j : Fin 4} {i : Nat} {x : Int64} {ls2 : List (Nat × Value)} (hd : decode (gm_cc M) pc = .ok (.lstore_n j, 1)) (hi : (j : Nat) = i) (hn : i + 1 < gm_L M) (hq : (i, Value.long x) :: ls.filter (fun q => !(q.1 == i) && (!(q.1 == i + 1) && !(q.1 + 1 == i && q.2.category == 2))) = ls2) (k : Go N M Q nc ns h (pc + 1) ls2 st) : Go N M Q nc ns h pc ls (.long x :: st) := by
  intro p e R s m args below meth c H locs cells slots mc ms la C hR hl hS a1 a2 a3 a4
  refine lv_lstore_n C.1 C.2.1 hd hi hl hn hq (fun la hl => ?_)
  exact k p e R s m args below meth c H locs cells slots mc ms la C hR hl hS a1 a2 a3 a4
theorem g_lstore {N : GN} {M : GM} {Q : Option Value → GH → Prop} {nc ns : Nat} {h : GH} {pc : Nat} {ls : List (Nat × Value)} {st : List Value} {i : Nat} {x : Int64} {ls2 : List (Nat × Value)} (hd : decode (gm_cc M) pc = .ok (.lstore i, 2)) (hn : i + 1 < gm_L M) (hq : (i, Value.long x) :: ls.filter (fun q => !(q.1 == i) && (!(q.1 == i + 1) && !(q.1 + 1 == i && q.2.category == 2))) = ls2) (k : Go N M Q nc ns h (pc + 2) ls2 st) : Go N M Q nc ns h pc ls (.long x :: st) := by
  intro p e R s m args below meth c H locs cells slots mc ms la C hR hl hS a1 a2 a3 a4
  refine lv_lstore C.1 C.2.1 hd hl hn hq (fun la hl => ?_)
  exact k p e R s m args below meth c H locs cells slots mc ms la C hR hl hS a1 a2 a3 a4
theorem g_astore_n {N : GN} {M : GM} {Q : Option Value → GH → Prop} {nc ns : Nat} {h : GH} {pc : Nat} {ls : List (Nat × Value)} {st : List Value} {j : Fin 4} {i : Nat} {x : Nat} {ls2 : List (Nat × Value)} (hd : decode (gm_cc M) pc = .ok (.astore_n j, 1)) (hi : (j : Nat) = i) (hn : i < gm_L M) (hq : (i, Value.ref x) :: ls.filter (fun q => !(q.1 == i) && !(q.1 + 1 == i && q.2.category == 2)) = ls2) (k : Go N M Q nc ns h (pc + 1) ls2 st) : Go N M Q nc ns h pc ls (.ref x :: st) := by
  intro p e R s m args below meth c H locs cells slots mc ms la C hR hl hS a1 a2 a3 a4
  refine lv_astore_n C.1 C.2.1 hd hi hl hn hq (fun la hl => ?_)
  exact k p e R s m args below meth c H locs cells slots mc ms la C hR hl hS a1 a2 a3 a4
theorem g_astore {N : GN} {M : GM} {Q : Option Value → GH → Prop} {nc ns : Nat} {h : GH} {pc : Nat} {ls : List (Nat × Value)} {st : List Value} {i : Nat} {x : Nat} {ls2 : List (Nat × Value)} (hd : decode (gm_cc M) pc = .ok (.astore i, 2)) (hn : i < gm_L M) (hq : (i, Value.ref x) :: ls.filter (fun q => !(q.1 == i) && !(q.1 + 1 == i && q.2.category == 2)) = ls2) (k : Go N M Q nc ns h (pc + 2) ls2 st) : Go N M Q nc ns h pc ls (.ref x :: st) := by
  intro p e R s m args below meth c H locs cells slots mc ms la C hR hl hS a1 a2 a3 a4
  refine lv_astore C.1 C.2.1 hd hl hn hq (fun la hl => ?_)
  exact k p e R s m args below meth c H locs cells slots mc ms la C hR hl hS a1 a2 a3 a4
theorem g_iinc {N : GN} {M : GM} {Q : Option Value → GH → Prop} {nc ns : Nat} {h : GH} {pc : Nat} {ls : List (Nat × Value)} {st : List Value} {i : Nat} {n x : Int} (q : Nat) {ls2 : List (Nat × Value)} (hd : decode (gm_cc M) pc = .ok (.iinc i n, 3)) (hq : ls[q]? = some (i, .int (gI x))) (hn : i < gm_L M) (hl2 : (i, Value.int (gI (x + n))) :: ls.filter (fun q => !(q.1 == i) && !(q.1 + 1 == i && q.2.category == 2)) = ls2) (k : Go N M Q nc ns h (pc + 3) ls2 st) : Go N M Q nc ns h pc ls st := by
  intro p e R s m args below meth c H locs cells slots mc ms la C hR hl hS a1 a2 a3 a4
  refine lv_iinc (v := gI (x + n)) C.1 C.2.1 hd hl hq (Int32.ofInt_add x n).symm hn hl2 (fun la hl => ?_)
  exact k p e R s m args below meth c H locs cells slots mc ms la C hR hl hS a1 a2 a3 a4
theorem g_iadd {N : GN} {M : GM} {Q : Option Value → GH → Prop} {nc ns : Nat} {h : GH} {pc : Nat} {ls : List (Nat × Value)} {st : List Value} {a b : Int} (hd : decode (gm_cc M) pc = .ok (.iadd, 1))  (k : Go N M Q nc ns h (pc + 1) ls (.int (gI (a + b)) :: st)) : Go N M Q nc ns h pc ls (.int (gI b) :: .int (gI a) :: st) := by
  intro p e R s m args below meth c H locs cells slots mc ms la C hR hl hS a1 a2 a3 a4
  refine lv_iadd C.1 C.2.1 hd ?_
  rw [show gI a + gI b = gI (a + b) from (Int32.ofInt_add a b).symm]
  exact k p e R s m args below meth c H locs cells slots mc ms la C hR hl hS a1 a2 a3 a4
theorem g_isub {N : GN} {M : GM} {Q : Option Value → GH → Prop} {nc ns : Nat} {h : GH} {pc : Nat} {ls : List (Nat × Value)} {st : List Value} {a b : Int} (hd : decode (gm_cc M) pc = .ok (.isub, 1))  (k : Go N M Q nc ns h (pc + 1) ls (.int (gI (a - b)) :: st)) : Go N M Q nc ns h pc ls (.int (gI b) :: .int (gI a) :: st) := by
  intro p e R s m args below meth c H locs cells slots mc ms la C hR hl hS a1 a2 a3 a4
  refine lv_isub C.1 C.2.1 hd ?_
  rw [show gI a - gI b = gI (a - b) from (Int32.ofInt_sub a b).symm]
  exact k p e R s m args below meth c H locs cells slots mc ms la C hR hl hS a1 a2 a3 a4
theorem g_imul {N : GN} {M : GM} {Q : Option Value → GH → Prop} {nc ns : Nat} {h : GH} {pc : Nat} {ls : List (Nat × Value)} {st : List Value} {a b : Int} (hd : decode (gm_cc M) pc = .ok (.imul, 1))  (k : Go N M Q nc ns h (pc + 1) ls (.int (gI (a * b)) :: st)) : Go N M Q nc ns h pc ls (.int (gI b) :: .int (gI a) :: st) := by
  intro p e R s m args below meth c H locs cells slots mc ms la C hR hl hS a1 a2 a3 a4
  refine lv_imul C.1 C.2.1 hd ?_
  rw [show gI a * gI b = gI (a * b) from (Int32.ofInt_mul a b).symm]
  exact k p e R s m args below meth c H locs cells slots mc ms la C hR hl hS a1 a2 a3 a4
theorem g_ladd {N : GN} {M : GM} {Q : Option Value → GH → Prop} {nc ns : Nat} {h : GH} {pc : Nat} {ls : List (Nat × Value)} {st : List Value} {a b : Int} (hd : decode (gm_cc M) pc = .ok (.ladd, 1))  (k : Go N M Q nc ns h (pc + 1) ls (.long (gJ (a + b)) :: st)) : Go N M Q nc ns h pc ls (.long (gJ b) :: .long (gJ a) :: st) := by
  intro p e R s m args below meth c H locs cells slots mc ms la C hR hl hS a1 a2 a3 a4
  refine lv_ladd C.1 C.2.1 hd ?_
  rw [show gJ a + gJ b = gJ (a + b) from (Int64.ofInt_add a b).symm]
  exact k p e R s m args below meth c H locs cells slots mc ms la C hR hl hS a1 a2 a3 a4
theorem g_lsub {N : GN} {M : GM} {Q : Option Value → GH → Prop} {nc ns : Nat} {h : GH} {pc : Nat} {ls : List (Nat × Value)} {st : List Value} {a b : Int} (hd : decode (gm_cc M) pc = .ok (.lsub, 1))  (k : Go N M Q nc ns h (pc + 1) ls (.long (gJ (a - b)) :: st)) : Go N M Q nc ns h pc ls (.long (gJ b) :: .long (gJ a) :: st) := by
  intro p e R s m args below meth c H locs cells slots mc ms la C hR hl hS a1 a2 a3 a4
  refine lv_lsub C.1 C.2.1 hd ?_
  rw [show gJ a - gJ b = gJ (a - b) from (Int64.ofInt_sub a b).symm]
  exact k p e R s m args below meth c H locs cells slots mc ms la C hR hl hS a1 a2 a3 a4
theorem g_lmul {N : GN} {M : GM} {Q : Option Value → GH → Prop} {nc ns : Nat} {h : GH} {pc : Nat} {ls : List (Nat × Value)} {st : List Value} {a b : Int} (hd : decode (gm_cc M) pc = .ok (.lmul, 1))  (k : Go N M Q nc ns h (pc + 1) ls (.long (gJ (a * b)) :: st)) : Go N M Q nc ns h pc ls (.long (gJ b) :: .long (gJ a) :: st) := by
  intro p e R s m args below meth c H locs cells slots mc ms la C hR hl hS a1 a2 a3 a4
  refine lv_lmul C.1 C.2.1 hd ?_
  rw [show gJ a * gJ b = gJ (a * b) from (Int64.ofInt_mul a b).symm]
  exact k p e R s m args below meth c H locs cells slots mc ms la C hR hl hS a1 a2 a3 a4
theorem g_ineg {N : GN} {M : GM} {Q : Option Value → GH → Prop} {nc ns : Nat} {h : GH} {pc : Nat} {ls : List (Nat × Value)} {st : List Value} {a : Int} (hd : decode (gm_cc M) pc = .ok (.ineg, 1))  (k : Go N M Q nc ns h (pc + 1) ls (.int (gI (-a)) :: st)) : Go N M Q nc ns h pc ls (.int (gI a) :: st) := by
  intro p e R s m args below meth c H locs cells slots mc ms la C hR hl hS a1 a2 a3 a4
  refine lv_ineg C.1 C.2.1 hd ?_
  rw [show -gI a = gI (-a) from (Int32.ofInt_neg a).symm]
  exact k p e R s m args below meth c H locs cells slots mc ms la C hR hl hS a1 a2 a3 a4
theorem g_lneg {N : GN} {M : GM} {Q : Option Value → GH → Prop} {nc ns : Nat} {h : GH} {pc : Nat} {ls : List (Nat × Value)} {st : List Value} {a : Int} (hd : decode (gm_cc M) pc = .ok (.lneg, 1))  (k : Go N M Q nc ns h (pc + 1) ls (.long (gJ (-a)) :: st)) : Go N M Q nc ns h pc ls (.long (gJ a) :: st) := by
  intro p e R s m args below meth c H locs cells slots mc ms la C hR hl hS a1 a2 a3 a4
  refine lv_lneg C.1 C.2.1 hd ?_
  rw [show -gJ a = gJ (-a) from (Int64.ofInt_neg a).symm]
  exact k p e R s m args below meth c H locs cells slots mc ms la C hR hl hS a1 a2 a3 a4
def gW (a : Int) : Prop := -2147483648 ≤ a ∧ a < 2147483648
def gX (a : Int) : Prop := -9223372036854775808 ≤ a ∧ a < 9223372036854775808
theorem gI_to {a : Int} (h : gW a) : (gI a).toInt = a := Int32.toInt_ofInt_of_le h.1 h.2
theorem gJ_to {a : Int} (h : gX a) : (gJ a).toInt = a := Int64.toInt_ofInt_of_le h.1 h.2
theorem gI_of (x : Int32) : ∃ a : Int, gW a ∧ x = gI a := ⟨x.toInt, ⟨x.le_toInt, x.toInt_lt⟩, (Int32.ofInt_toInt x).symm⟩
theorem gJ_of (x : Int64) : ∃ a : Int, gX a ∧ x = gJ a := ⟨x.toInt, ⟨x.le_toInt, x.toInt_lt⟩, (Int64.ofInt_toInt x).symm⟩
theorem gI_lt {a b : Int} (ha : gW a) (hb : gW b) : gI a < gI b ↔ a < b := by rw [Int32.lt_iff_toInt_lt, gI_to ha, gI_to hb]
theorem gI_le {a b : Int} (ha : gW a) (hb : gW b) : gI a ≤ gI b ↔ a ≤ b := by rw [Int32.le_iff_toInt_le, gI_to ha, gI_to hb]
theorem gI_eq {a b : Int} (ha : gW a) (hb : gW b) : gI a = gI b ↔ a = b := by rw [← Int32.toInt_inj, gI_to ha, gI_to hb]
theorem gJ_lt {a b : Int} (ha : gX a) (hb : gX b) : gJ a < gJ b ↔ a < b := by rw [Int64.lt_iff_toInt_lt, gJ_to ha, gJ_to hb]
theorem gJ_eq {a b : Int} (ha : gX a) (hb : gX b) : gJ a = gJ b ↔ a = b := by rw [← Int64.toInt_inj, gJ_to ha, gJ_to hb]
theorem gI_0 : gI 0 = 0 := rfl
theorem gJ_0 : gJ 0 = 0 := rfl
theorem gW_0 : gW 0 := by unfold gW; omega
theorem gI_cl {a : Int} (h : gW a) : (gI a).toNatClampNeg = a.toNat := by
  show (gI a).toInt.toNat = a.toNat
  rw [gI_to h]
theorem gI_in {a : Int} {n : Nat} (h0 : 0 ≤ a) (h1 : a < n) (hn : n < 2147483648) : ¬ (gI a < 0 ∨ n ≤ (gI a).toNatClampNeg) := by
  have hw : gW a := by unfold gW; omega
  rw [gI_cl hw, ← gI_0, gI_lt hw gW_0]
  omega
theorem g_tm (a b : Int) : (a.tmod b).natAbs ≤ a.natAbs := by
  rw [Int.natAbs_tmod]
  exact Nat.mod_le _ _
theorem g_tms (a b : Int) : (0 ≤ a → 0 ≤ a.tmod b) ∧ (a ≤ 0 → a.tmod b ≤ 0) := by
  refine ⟨fun h => Int.tmod_nonneg b h, fun h => ?_⟩
  have := Int.tmod_nonneg b (show 0 ≤ -a by omega)
  rw [Int.neg_tmod] at this
  omega
theorem lrem_eq_mod (x y : Int64) : x - (x / y) * y = x % y := by
  apply Int64.toInt_inj.mp
  have h1 := Int64.le_toInt (x % y)
  have h2 := Int64.toInt_lt (x % y)
  rw [Int64.toInt_sub, Int64.toInt_mul, Int64.toInt_div, Int.bmod_mul_bmod, Int.sub_bmod_bmod, Int.mul_comm (x.toInt.tdiv y.toInt), ← Int.tmod_def, ← Int64.toInt_mod]
  exact Int.bmod_eq_of_le_mul_two (by omega) (by omega)
theorem gI_rem {a b : Int} (ha : gW a) (hb : gW b) : gI a - gI a / gI b * gI b = gI (a.tmod b) := by
  apply Int32.toInt_inj.1
  rw [rem_toInt, gI_to ha, gI_to hb]
  refine (gI_to ?_).symm
  have h1 := ha.1; have h2 := ha.2
  have h3 := g_tm a b
  have h4 := g_tms a b
  unfold gW
  omega
theorem g_remL (a m : Int64) : (a - (a / m) * m).toInt = a.toInt.tmod m.toInt := by
  rw [lrem_eq_mod]; exact Int64.toInt_mod a m
theorem gJ_rem {a b : Int} (ha : gX a) (hb : gX b) : gJ a - gJ a / gJ b * gJ b = gJ (a.tmod b) := by
  have hr : (gJ a - gJ a / gJ b * gJ b).toInt = a.tmod b := by
    have h9 : gJ a - gJ a / gJ b * gJ b = gJ a % gJ b := by
      exact (Int64.toInt_inj.1 (by rw [Int64.toInt_mod]; exact g_remL _ _))
    rw [h9, Int64.toInt_mod, gJ_to ha, gJ_to hb]
  apply Int64.toInt_inj.1
  rw [hr]
  refine (gJ_to ?_).symm
  have h3 := g_tm a b
  have h4 := g_tms a b
  have h1 := ha.1; have h2 := ha.2
  unfold gX
  omega
theorem g_irem {N : GN} {M : GM} {Q : Option Value → GH → Prop} {nc ns : Nat} {h : GH} {pc : Nat} {ls : List (Nat × Value)} {st : List Value} {a b : Int} (hd : decode (gm_cc M) pc = .ok (.irem, 1)) (ha : gW a) (hb : gW b) (hz : b ≠ 0) (k : Go N M Q nc ns h (pc + 1) ls (.int (gI (a.tmod b)) :: st)) : Go N M Q nc ns h pc ls (.int (gI b) :: .int (gI a) :: st) := by
  intro p e R s m args below meth c H locs cells slots mc ms la C hR hl hS a1 a2 a3 a4
  refine lv_irem C.1 C.2.1 hd (fun z => hz ((gI_eq hb gW_0).mp z)) ?_
  rw [gI_rem ha hb]
  exact k p e R s m args below meth c H locs cells slots mc ms la C hR hl hS a1 a2 a3 a4
theorem g_lrem {N : GN} {M : GM} {Q : Option Value → GH → Prop} {nc ns : Nat} {h : GH} {pc : Nat} {ls : List (Nat × Value)} {st : List Value} {a b : Int} (hd : decode (gm_cc M) pc = .ok (.lrem, 1)) (ha : gX a) (hb : gX b) (hz : b ≠ 0) (k : Go N M Q nc ns h (pc + 1) ls (.long (gJ (a.tmod b)) :: st)) : Go N M Q nc ns h pc ls (.long (gJ b) :: .long (gJ a) :: st) := by
  intro p e R s m args below meth c H locs cells slots mc ms la C hR hl hS a1 a2 a3 a4
  refine lv_lrem C.1 C.2.1 hd (fun z => hz ((gJ_eq hb (by unfold gX; omega)).mp z)) ?_
  rw [gJ_rem ha hb]
  exact k p e R s m args below meth c H locs cells slots mc ms la C hR hl hS a1 a2 a3 a4
theorem gI_wide {a : Int} (h : gW a) : (gI a).toInt64 = gJ a := by
  apply Int64.toInt_inj.1
  have h1 := h.1; have h2 := h.2
  rw [Int32.toInt_toInt64, gI_to h, gJ_to (by unfold gX; omega)]
theorem gJ_thin (a : Int) : (gJ a).toInt32 = gI a := Int64.toInt32_ofInt
theorem g_i2l {N : GN} {M : GM} {Q : Option Value → GH → Prop} {nc ns : Nat} {h : GH} {pc : Nat} {ls : List (Nat × Value)} {st : List Value} {a : Int} (hd : decode (gm_cc M) pc = .ok (.i2l, 1)) (ha : gW a) (k : Go N M Q nc ns h (pc + 1) ls (.long (gJ a) :: st)) : Go N M Q nc ns h pc ls (.int (gI a) :: st) := by
  intro p e R s m args below meth c H locs cells slots mc ms la C hR hl hS a1 a2 a3 a4
  refine lv_i2l (v := gJ a) C.1 C.2.1 hd (gI_wide ha) ?_
  exact k p e R s m args below meth c H locs cells slots mc ms la C hR hl hS a1 a2 a3 a4
theorem g_l2i {N : GN} {M : GM} {Q : Option Value → GH → Prop} {nc ns : Nat} {h : GH} {pc : Nat} {ls : List (Nat × Value)} {st : List Value} {a : Int} (hd : decode (gm_cc M) pc = .ok (.l2i, 1))  (k : Go N M Q nc ns h (pc + 1) ls (.int (gI a) :: st)) : Go N M Q nc ns h pc ls (.long (gJ a) :: st) := by
  intro p e R s m args below meth c H locs cells slots mc ms la C hR hl hS a1 a2 a3 a4
  refine lv_l2i (v := gI a) C.1 C.2.1 hd (gJ_thin a) ?_
  exact k p e R s m args below meth c H locs cells slots mc ms la C hR hl hS a1 a2 a3 a4
theorem g_dup {N : GN} {M : GM} {Q : Option Value → GH → Prop} {nc ns : Nat} {h : GH} {pc : Nat} {ls : List (Nat × Value)} {st : List Value} {v : Value} (hd : decode (gm_cc M) pc = .ok (.dup, 1)) (hv : v.category = 1) (k : Go N M Q nc ns h (pc + 1) ls (v :: v :: st)) : Go N M Q nc ns h pc ls (v :: st) := by
  intro p e R s m args below meth c H locs cells slots mc ms la C hR hl hS a1 a2 a3 a4
  refine lv_dup C.1 C.2.1 hd hv ?_
  exact k p e R s m args below meth c H locs cells slots mc ms la C hR hl hS a1 a2 a3 a4
theorem g_pop {N : GN} {M : GM} {Q : Option Value → GH → Prop} {nc ns : Nat} {h : GH} {pc : Nat} {ls : List (Nat × Value)} {st : List Value} {v : Value} (hd : decode (gm_cc M) pc = .ok (.pop, 1)) (hv : v.category = 1) (k : Go N M Q nc ns h (pc + 1) ls (st)) : Go N M Q nc ns h pc ls (v :: st) := by
  intro p e R s m args below meth c H locs cells slots mc ms la C hR hl hS a1 a2 a3 a4
  refine lv_pop C.1 C.2.1 hd hv ?_
  exact k p e R s m args below meth c H locs cells slots mc ms la C hR hl hS a1 a2 a3 a4
theorem g_dup_x1 {N : GN} {M : GM} {Q : Option Value → GH → Prop} {nc ns : Nat} {h : GH} {pc : Nat} {ls : List (Nat × Value)} {st : List Value} {v w : Value} (hd : decode (gm_cc M) pc = .ok (.dup_x1, 1)) (hv : v.category = 1) (hw : w.category = 1) (k : Go N M Q nc ns h (pc + 1) ls (v :: w :: v :: st)) : Go N M Q nc ns h pc ls (v :: w :: st) := by
  intro p e R s m args below meth c H locs cells slots mc ms la C hR hl hS a1 a2 a3 a4
  refine lv_dup_x1 C.1 C.2.1 hd hv hw ?_
  exact k p e R s m args below meth c H locs cells slots mc ms la C hR hl hS a1 a2 a3 a4
theorem g_dup2 {N : GN} {M : GM} {Q : Option Value → GH → Prop} {nc ns : Nat} {h : GH} {pc : Nat} {ls : List (Nat × Value)} {st : List Value} {v w : Value} (hd : decode (gm_cc M) pc = .ok (.dup2, 1)) (hv : v.category = 1) (hw : w.category = 1) (k : Go N M Q nc ns h (pc + 1) ls (v :: w :: v :: w :: st)) : Go N M Q nc ns h pc ls (v :: w :: st) := by
  intro p e R s m args below meth c H locs cells slots mc ms la C hR hl hS a1 a2 a3 a4
  refine lv_dup2_11 C.1 C.2.1 hd hv hw ?_
  exact k p e R s m args below meth c H locs cells slots mc ms la C hR hl hS a1 a2 a3 a4
theorem g_icmp_eq {N : GN} {M : GM} {Q : Option Value → GH → Prop} {nc ns : Nat} {h : GH} {pc : Nat} {ls : List (Nat × Value)} {st : List Value} {a b : Int} {off : Int} {tgt : Nat} (hd : decode (gm_cc M) pc = .ok (.if_icmp .eq off, 3)) (ht : (pc : Int) + off = (tgt : Int)) (ha : gW a) (hb : gW b) (kt : a = b → Go N M Q nc ns h tgt ls st) (kf : a ≠ b → Go N M Q nc ns h (pc + 3) ls st) : Go N M Q nc ns h pc ls (.int (gI b) :: .int (gI a) :: st) := by
  intro p e R s m args below meth c H locs cells slots mc ms la C hR hl hS a1 a2 a3 a4
  refine lv_icmp_eq C.1 C.2.1 hd ht (fun z => ?_) (fun z => ?_)
  · have z2 := (gI_eq ha hb).mp z
    exact kt (by omega) p e R s m args below meth c H locs cells slots mc ms la C hR hl hS a1 a2 a3 a4
  · have z2 : ¬ (a = b) := fun w => z ((gI_eq ha hb).mpr w)
    exact kf (by omega) p e R s m args below meth c H locs cells slots mc ms la C hR hl hS a1 a2 a3 a4
theorem g_if_eq {N : GN} {M : GM} {Q : Option Value → GH → Prop} {nc ns : Nat} {h : GH} {pc : Nat} {ls : List (Nat × Value)} {st : List Value} {a : Int} {off : Int} {tgt : Nat} (hd : decode (gm_cc M) pc = .ok (.ifCond .eq off, 3)) (ht : (pc : Int) + off = (tgt : Int)) (ha : gW a) (kt : a = 0 → Go N M Q nc ns h tgt ls st) (kf : a ≠ 0 → Go N M Q nc ns h (pc + 3) ls st) : Go N M Q nc ns h pc ls (.int (gI a) :: st) := by
  intro p e R s m args below meth c H locs cells slots mc ms la C hR hl hS a1 a2 a3 a4
  refine lv_if_eq C.1 C.2.1 hd ht (fun z => ?_) (fun z => ?_)
  · have z2 := (gI_eq ha gW_0).mp z
    exact kt (by omega) p e R s m args below meth c H locs cells slots mc ms la C hR hl hS a1 a2 a3 a4
  · have z2 : ¬ (a = 0) := fun w => z ((gI_eq ha gW_0).mpr w)
    exact kf (by omega) p e R s m args below meth c H locs cells slots mc ms la C hR hl hS a1 a2 a3 a4
theorem g_icmp_lt {N : GN} {M : GM} {Q : Option Value → GH → Prop} {nc ns : Nat} {h : GH} {pc : Nat} {ls : List (Nat × Value)} {st : List Value} {a b : Int} {off : Int} {tgt : Nat} (hd : decode (gm_cc M) pc = .ok (.if_icmp .lt off, 3)) (ht : (pc : Int) + off = (tgt : Int)) (ha : gW a) (hb : gW b) (kt : a < b → Go N M Q nc ns h tgt ls st) (kf : b ≤ a → Go N M Q nc ns h (pc + 3) ls st) : Go N M Q nc ns h pc ls (.int (gI b) :: .int (gI a) :: st) := by
  intro p e R s m args below meth c H locs cells slots mc ms la C hR hl hS a1 a2 a3 a4
  refine lv_icmp_lt C.1 C.2.1 hd ht (fun z => ?_) (fun z => ?_)
  · have z2 := (gI_lt ha hb).mp z
    exact kt (by omega) p e R s m args below meth c H locs cells slots mc ms la C hR hl hS a1 a2 a3 a4
  · have z2 : ¬ (a < b) := fun w => z ((gI_lt ha hb).mpr w)
    exact kf (by omega) p e R s m args below meth c H locs cells slots mc ms la C hR hl hS a1 a2 a3 a4
theorem g_if_lt {N : GN} {M : GM} {Q : Option Value → GH → Prop} {nc ns : Nat} {h : GH} {pc : Nat} {ls : List (Nat × Value)} {st : List Value} {a : Int} {off : Int} {tgt : Nat} (hd : decode (gm_cc M) pc = .ok (.ifCond .lt off, 3)) (ht : (pc : Int) + off = (tgt : Int)) (ha : gW a) (kt : a < 0 → Go N M Q nc ns h tgt ls st) (kf : 0 ≤ a → Go N M Q nc ns h (pc + 3) ls st) : Go N M Q nc ns h pc ls (.int (gI a) :: st) := by
  intro p e R s m args below meth c H locs cells slots mc ms la C hR hl hS a1 a2 a3 a4
  refine lv_if_lt C.1 C.2.1 hd ht (fun z => ?_) (fun z => ?_)
  · have z2 := (gI_lt ha gW_0).mp z
    exact kt (by omega) p e R s m args below meth c H locs cells slots mc ms la C hR hl hS a1 a2 a3 a4
  · have z2 : ¬ (a < 0) := fun w => z ((gI_lt ha gW_0).mpr w)
    exact kf (by omega) p e R s m args below meth c H locs cells slots mc ms la C hR hl hS a1 a2 a3 a4
theorem g_icmp_le {N : GN} {M : GM} {Q : Option Value → GH → Prop} {nc ns : Nat} {h : GH} {pc : Nat} {ls : List (Nat × Value)} {st : List Value} {a b : Int} {off : Int} {tgt : Nat} (hd : decode (gm_cc M) pc = .ok (.if_icmp .le off, 3)) (ht : (pc : Int) + off = (tgt : Int)) (ha : gW a) (hb : gW b) (kt : a ≤ b → Go N M Q nc ns h tgt ls st) (kf : b < a → Go N M Q nc ns h (pc + 3) ls st) : Go N M Q nc ns h pc ls (.int (gI b) :: .int (gI a) :: st) := by
  intro p e R s m args below meth c H locs cells slots mc ms la C hR hl hS a1 a2 a3 a4
  refine lv_icmp_le C.1 C.2.1 hd ht (fun z => ?_) (fun z => ?_)
  · have z2 := (gI_le ha hb).mp z
    exact kt (by omega) p e R s m args below meth c H locs cells slots mc ms la C hR hl hS a1 a2 a3 a4
  · have z2 : ¬ (a ≤ b) := fun w => z ((gI_le ha hb).mpr w)
    exact kf (by omega) p e R s m args below meth c H locs cells slots mc ms la C hR hl hS a1 a2 a3 a4
theorem g_if_le {N : GN} {M : GM} {Q : Option Value → GH → Prop} {nc ns : Nat} {h : GH} {pc : Nat} {ls : List (Nat × Value)} {st : List Value} {a : Int} {off : Int} {tgt : Nat} (hd : decode (gm_cc M) pc = .ok (.ifCond .le off, 3)) (ht : (pc : Int) + off = (tgt : Int)) (ha : gW a) (kt : a ≤ 0 → Go N M Q nc ns h tgt ls st) (kf : 0 < a → Go N M Q nc ns h (pc + 3) ls st) : Go N M Q nc ns h pc ls (.int (gI a) :: st) := by
  intro p e R s m args below meth c H locs cells slots mc ms la C hR hl hS a1 a2 a3 a4
  refine lv_if_le C.1 C.2.1 hd ht (fun z => ?_) (fun z => ?_)
  · have z2 := (gI_le ha gW_0).mp z
    exact kt (by omega) p e R s m args below meth c H locs cells slots mc ms la C hR hl hS a1 a2 a3 a4
  · have z2 : ¬ (a ≤ 0) := fun w => z ((gI_le ha gW_0).mpr w)
    exact kf (by omega) p e R s m args below meth c H locs cells slots mc ms la C hR hl hS a1 a2 a3 a4
theorem g_icmp_ge {N : GN} {M : GM} {Q : Option Value → GH → Prop} {nc ns : Nat} {h : GH} {pc : Nat} {ls : List (Nat × Value)} {st : List Value} {a b : Int} {off : Int} {tgt : Nat} (hd : decode (gm_cc M) pc = .ok (.if_icmp .ge off, 3)) (ht : (pc : Int) + off = (tgt : Int)) (ha : gW a) (hb : gW b) (kt : b ≤ a → Go N M Q nc ns h tgt ls st) (kf : a < b → Go N M Q nc ns h (pc + 3) ls st) : Go N M Q nc ns h pc ls (.int (gI b) :: .int (gI a) :: st) := by
  intro p e R s m args below meth c H locs cells slots mc ms la C hR hl hS a1 a2 a3 a4
  refine lv_icmp_ge C.1 C.2.1 hd ht (fun z => ?_) (fun z => ?_)
  · have z2 := (gI_le hb ha).mp z
    exact kt (by omega) p e R s m args below meth c H locs cells slots mc ms la C hR hl hS a1 a2 a3 a4
  · have z2 : ¬ (b ≤ a) := fun w => z ((gI_le hb ha).mpr w)
    exact kf (by omega) p e R s m args below meth c H locs cells slots mc ms la C hR hl hS a1 a2 a3 a4
theorem g_if_ge {N : GN} {M : GM} {Q : Option Value → GH → Prop} {nc ns : Nat} {h : GH} {pc : Nat} {ls : List (Nat × Value)} {st : List Value} {a : Int} {off : Int} {tgt : Nat} (hd : decode (gm_cc M) pc = .ok (.ifCond .ge off, 3)) (ht : (pc : Int) + off = (tgt : Int)) (ha : gW a) (kt : 0 ≤ a → Go N M Q nc ns h tgt ls st) (kf : a < 0 → Go N M Q nc ns h (pc + 3) ls st) : Go N M Q nc ns h pc ls (.int (gI a) :: st) := by
  intro p e R s m args below meth c H locs cells slots mc ms la C hR hl hS a1 a2 a3 a4
  refine lv_if_ge C.1 C.2.1 hd ht (fun z => ?_) (fun z => ?_)
  · have z2 := (gI_le gW_0 ha).mp z
    exact kt (by omega) p e R s m args below meth c H locs cells slots mc ms la C hR hl hS a1 a2 a3 a4
  · have z2 : ¬ (0 ≤ a) := fun w => z ((gI_le gW_0 ha).mpr w)
    exact kf (by omega) p e R s m args below meth c H locs cells slots mc ms la C hR hl hS a1 a2 a3 a4
theorem g_icmp_gt {N : GN} {M : GM} {Q : Option Value → GH → Prop} {nc ns : Nat} {h : GH} {pc : Nat} {ls : List (Nat × Value)} {st : List Value} {a b : Int} {off : Int} {tgt : Nat} (hd : decode (gm_cc M) pc = .ok (.if_icmp .gt off, 3)) (ht : (pc : Int) + off = (tgt : Int)) (ha : gW a) (hb : gW b) (kt : b < a → Go N M Q nc ns h tgt ls st) (kf : a ≤ b → Go N M Q nc ns h (pc + 3) ls st) : Go N M Q nc ns h pc ls (.int (gI b) :: .int (gI a) :: st) := by
  intro p e R s m args below meth c H locs cells slots mc ms la C hR hl hS a1 a2 a3 a4
  refine lv_icmp_gt C.1 C.2.1 hd ht (fun z => ?_) (fun z => ?_)
  · have z2 := (gI_lt hb ha).mp z
    exact kt (by omega) p e R s m args below meth c H locs cells slots mc ms la C hR hl hS a1 a2 a3 a4
  · have z2 : ¬ (b < a) := fun w => z ((gI_lt hb ha).mpr w)
    exact kf (by omega) p e R s m args below meth c H locs cells slots mc ms la C hR hl hS a1 a2 a3 a4
theorem g_if_gt {N : GN} {M : GM} {Q : Option Value → GH → Prop} {nc ns : Nat} {h : GH} {pc : Nat} {ls : List (Nat × Value)} {st : List Value} {a : Int} {off : Int} {tgt : Nat} (hd : decode (gm_cc M) pc = .ok (.ifCond .gt off, 3)) (ht : (pc : Int) + off = (tgt : Int)) (ha : gW a) (kt : 0 < a → Go N M Q nc ns h tgt ls st) (kf : a ≤ 0 → Go N M Q nc ns h (pc + 3) ls st) : Go N M Q nc ns h pc ls (.int (gI a) :: st) := by
  intro p e R s m args below meth c H locs cells slots mc ms la C hR hl hS a1 a2 a3 a4
  refine lv_if_gt C.1 C.2.1 hd ht (fun z => ?_) (fun z => ?_)
  · have z2 := (gI_lt gW_0 ha).mp z
    exact kt (by omega) p e R s m args below meth c H locs cells slots mc ms la C hR hl hS a1 a2 a3 a4
  · have z2 : ¬ (0 < a) := fun w => z ((gI_lt gW_0 ha).mpr w)
    exact kf (by omega) p e R s m args below meth c H locs cells slots mc ms la C hR hl hS a1 a2 a3 a4
theorem g_icmp_ne {N : GN} {M : GM} {Q : Option Value → GH → Prop} {nc ns : Nat} {h : GH} {pc : Nat} {ls : List (Nat × Value)} {st : List Value} {a b : Int} {off : Int} {tgt : Nat} (hd : decode (gm_cc M) pc = .ok (.if_icmp .ne off, 3)) (ht : (pc : Int) + off = (tgt : Int)) (ha : gW a) (hb : gW b) (kt : a ≠ b → Go N M Q nc ns h tgt ls st) (kf : a = b → Go N M Q nc ns h (pc + 3) ls st) : Go N M Q nc ns h pc ls (.int (gI b) :: .int (gI a) :: st) := by
  intro p e R s m args below meth c H locs cells slots mc ms la C hR hl hS a1 a2 a3 a4
  refine lv_icmp_ne C.1 C.2.1 hd ht (fun z => ?_) (fun z => ?_)
  · exact kt (fun w => z ((gI_eq ha hb).mpr w)) p e R s m args below meth c H locs cells slots mc ms la C hR hl hS a1 a2 a3 a4
  · exact kf ((gI_eq ha hb).mp z) p e R s m args below meth c H locs cells slots mc ms la C hR hl hS a1 a2 a3 a4
theorem g_if_ne {N : GN} {M : GM} {Q : Option Value → GH → Prop} {nc ns : Nat} {h : GH} {pc : Nat} {ls : List (Nat × Value)} {st : List Value} {a : Int} {off : Int} {tgt : Nat} (hd : decode (gm_cc M) pc = .ok (.ifCond .ne off, 3)) (ht : (pc : Int) + off = (tgt : Int)) (ha : gW a) (kt : a ≠ 0 → Go N M Q nc ns h tgt ls st) (kf : a = 0 → Go N M Q nc ns h (pc + 3) ls st) : Go N M Q nc ns h pc ls (.int (gI a) :: st) := by
  intro p e R s m args below meth c H locs cells slots mc ms la C hR hl hS a1 a2 a3 a4
  refine lv_if_ne C.1 C.2.1 hd ht (fun z => ?_) (fun z => ?_)
  · exact kt (fun w => z ((gI_eq ha gW_0).mpr w)) p e R s m args below meth c H locs cells slots mc ms la C hR hl hS a1 a2 a3 a4
  · exact kf ((gI_eq ha gW_0).mp z) p e R s m args below meth c H locs cells slots mc ms la C hR hl hS a1 a2 a3 a4
theorem g_goto {N : GN} {M : GM} {Q : Option Value → GH → Prop} {nc ns : Nat} {h : GH} {pc : Nat} {ls : List (Nat × Value)} {st : List Value} {off : Int} {tgt : Nat} (hd : decode (gm_cc M) pc = .ok (.goto off, 3)) (ht : (pc : Int) + off = (tgt : Int)) (k : Go N M Q nc ns h tgt ls st) : Go N M Q nc ns h pc ls st := by
  intro p e R s m args below meth c H locs cells slots mc ms la C hR hl hS a1 a2 a3 a4
  refine lv_goto C.1 C.2.1 hd ht ?_
  exact k p e R s m args below meth c H locs cells slots mc ms la C hR hl hS a1 a2 a3 a4
theorem g_ifnull {N : GN} {M : GM} {Q : Option Value → GH → Prop} {nc ns : Nat} {h : GH} {pc : Nat} {ls : List (Nat × Value)} {st : List Value} {x : Nat} {off : Int} {tgt : Nat} (hd : decode (gm_cc M) pc = .ok (.ifnull off, 3)) (ht : (pc : Int) + off = (tgt : Int)) (k : Go N M Q nc ns h (pc + 3) ls st) : Go N M Q nc ns h pc ls (.ref x :: st) := by
  intro p e R s m args below meth c H locs cells slots mc ms la C hR hl hS a1 a2 a3 a4
  refine lv_ifnull C.1 C.2.1 hd ?_
  exact k p e R s m args below meth c H locs cells slots mc ms la C hR hl hS a1 a2 a3 a4
theorem g_ifnullN {N : GN} {M : GM} {Q : Option Value → GH → Prop} {nc ns : Nat} {h : GH} {pc : Nat} {ls : List (Nat × Value)} {st : List Value} {x : Nat} {off : Int} {tgt : Nat} (hd : decode (gm_cc M) pc = .ok (.ifnull off, 3)) (ht : (pc : Int) + off = (tgt : Int)) (k : Go N M Q nc ns h tgt ls st) : Go N M Q nc ns h pc ls (.null :: st) := by
  intro p e R s m args below meth c H locs cells slots mc ms la C hR hl hS a1 a2 a3 a4
  refine lv_ifnullN C.1 C.2.1 hd ht ?_
  exact k p e R s m args below meth c H locs cells slots mc ms la C hR hl hS a1 a2 a3 a4
theorem g_ifnn {N : GN} {M : GM} {Q : Option Value → GH → Prop} {nc ns : Nat} {h : GH} {pc : Nat} {ls : List (Nat × Value)} {st : List Value} {x : Nat} {off : Int} {tgt : Nat} (hd : decode (gm_cc M) pc = .ok (.ifnonnull off, 3)) (ht : (pc : Int) + off = (tgt : Int)) (k : Go N M Q nc ns h tgt ls st) : Go N M Q nc ns h pc ls (.ref x :: st) := by
  intro p e R s m args below meth c H locs cells slots mc ms la C hR hl hS a1 a2 a3 a4
  refine lv_ifnonnull C.1 C.2.1 hd ht ?_
  exact k p e R s m args below meth c H locs cells slots mc ms la C hR hl hS a1 a2 a3 a4
theorem g_ifnnN {N : GN} {M : GM} {Q : Option Value → GH → Prop} {nc ns : Nat} {h : GH} {pc : Nat} {ls : List (Nat × Value)} {st : List Value} {x : Nat} {off : Int} {tgt : Nat} (hd : decode (gm_cc M) pc = .ok (.ifnonnull off, 3)) (ht : (pc : Int) + off = (tgt : Int)) (k : Go N M Q nc ns h (pc + 3) ls st) : Go N M Q nc ns h pc ls (.null :: st) := by
  intro p e R s m args below meth c H locs cells slots mc ms la C hR hl hS a1 a2 a3 a4
  refine lv_ifnonnullN C.1 C.2.1 hd ?_
  exact k p e R s m args below meth c H locs cells slots mc ms la C hR hl hS a1 a2 a3 a4
def gcmp (a b : Int) : Int := if b < a then 1 else if a = b then 0 else -1
theorem gW_cmp (a b : Int) : gW (gcmp a b) := by unfold gcmp gW; split <;> (try split) <;> omega
theorem gcmp_lt {a b : Int} : gcmp a b < 0 ↔ a < b := by unfold gcmp; split <;> (try split) <;> omega
theorem gcmp_le {a b : Int} : gcmp a b ≤ 0 ↔ a ≤ b := by unfold gcmp; split <;> (try split) <;> omega
theorem gcmp_eq {a b : Int} : gcmp a b = 0 ↔ a = b := by unfold gcmp; split <;> (try split) <;> omega
theorem gcmp_gt {a b : Int} : 0 < gcmp a b ↔ b < a := by unfold gcmp; split <;> (try split) <;> omega
theorem gcmp_ge {a b : Int} : 0 ≤ gcmp a b ↔ b ≤ a := by unfold gcmp; split <;> (try split) <;> omega
theorem g_cmp {a b : Int} (ha : gX a) (hb : gX b) : lg_cmp (gJ a) (gJ b) = gI (gcmp a b) := by
  unfold lg_cmp gcmp
  simp only [gt_iff_lt, gJ_lt hb ha, gJ_eq ha hb]
  split <;> (try split) <;> rfl
theorem g_lcmp {N : GN} {M : GM} {Q : Option Value → GH → Prop} {nc ns : Nat} {h : GH} {pc : Nat} {ls : List (Nat × Value)} {st : List Value} {a b : Int} (hd : decode (gm_cc M) pc = .ok (.lcmp, 1)) (ha : gX a) (hb : gX b) (k : Go N M Q nc ns h (pc + 1) ls (.int (gI (gcmp a b)) :: st)) : Go N M Q nc ns h pc ls (.long (gJ b) :: .long (gJ a) :: st) := by
  intro p e R s m args below meth c H locs cells slots mc ms la C hR hl hS a1 a2 a3 a4
  refine W.lcmp C.1 C.2.1 hd ?_
  rw [g_cmp ha hb]
  exact k p e R s m args below meth c H locs cells slots mc ms la C hR hl hS a1 a2 a3 a4
