/-! a heap as the list of its cells, from the address B on -/
def hL (B : Nat) (cs : List GE) : GH := (B + cs.length, fun a => if B ≤ a then cs[a - B]? else none)
theorem hL_get {B k : Nat} {cs : List GE} {e : GE} (h : cs[k]? = some e) : (hL B cs).2 (B + k) = some e := by
  show (if B ≤ B + k then cs[B + k - B]? else none) = some e
  rw [if_pos (by omega), show B + k - B = k by omega, h]
theorem hL_set {B k : Nat} {cs : List GE} {e0 e : GE} (h : cs[k]? = some e0) : hset (hL B cs) (B + k) e = hL B (cs.set k e) := by
  have hk : k < cs.length := (List.getElem?_eq_some_iff.mp h).1
  unfold hset hL
  refine Prod.ext (by simp) (funext fun a => ?_)
  by_cases z : a = B + k
  · subst z
    simp only [if_true]
    rw [if_pos (by omega), show B + k - B = k by omega, List.getElem?_set_self hk]
  · simp only [if_neg z]
    by_cases w : B ≤ a
    · rw [if_pos w, if_pos w, List.getElem?_set_ne (by omega)]
    · rw [if_neg w, if_neg w]
theorem hL_new {B : Nat} {cs : List GE} {e : GE} : hnew (hL B cs) e = hL B (cs ++ [e]) := by
  unfold hnew hL
  refine Prod.ext (by simp; omega) (funext fun a => ?_)
  by_cases z : a = B + cs.length
  · subst z
    simp only [if_true]
    rw [if_pos (by omega), show B + cs.length - B = cs.length by omega, List.getElem?_append_right (by omega)]
    simp
  · simp only [if_neg z]
    by_cases w : B ≤ a
    · rw [if_pos w, if_pos w]
      by_cases y : a - B < cs.length
      · rw [List.getElem?_append_left y]
      · rw [List.getElem?_eq_none (by omega), List.getElem?_eq_none (by simp; omega)]
    · rw [if_neg w, if_neg w]
theorem Go.hp {N : GN} {M : GM} {Q : Option Value → GH → Prop} {nc ns : Nat} {h h' : GH} {pc : Nat} {ls : List (Nat × Value)} {st : List Value} (e : h = h') (k : Go N M Q nc ns h' pc ls st) : Go N M Q nc ns h pc ls st := e ▸ k
theorem hset_hset (h : GH) (a : Nat) (e e' : GE) : hset (hset h a e) a e' = hset h a e' := by
  unfold hset
  refine Prod.ext rfl (funext fun b => ?_)
  by_cases z : b = a
  · simp only [if_pos z]
  · simp only [if_neg z]
theorem hset_id {h : GH} {a : Nat} {e : GE} (ha : h.2 a = some e) : hset h a e = h := by
  unfold hset
  refine Prod.ext rfl (funext fun b => ?_)
  by_cases z : b = a
  · subst z; simp [ha]
  · simp only [if_neg z]
theorem hset_comm (h : GH) {a b : Nat} (n : a ≠ b) (e e' : GE) : hset (hset h a e) b e' = hset (hset h b e') a e := by
  unfold hset
  refine Prod.ext rfl (funext fun c => ?_)
  by_cases z : c = b
  · by_cases w : c = a
    · exact absurd (w.symm.trans z) n
    · simp only [if_pos z, if_neg w]
  · simp only [if_neg z]
section
variable {N : GN} {M : GM} {Q : Option Value → GH → Prop} {nc ns : Nat} {pc : Nat} {ls : List (Nat × Value)} {st : List Value} {B : Nat} {cs cs2 : List GE}
theorem L_putf {ci n idx i : Nat} {C' : String} {T : u_T} {ty : Nat → FieldType} {fs : List Value} {v : Value} (k : Nat) (hd : decode (gm_cc M) pc = .ok (.putfield idx, 3)) (hc : g_cl ci C' T n ty) (hk : k < n) (hm : Cond.fieldLink (gm_own M) idx C' (T k).2.1 (T k).2.2.1 ∈ g_tbl) (hfin : (T k).2.2.2 = false) (ha : cs[i]? = some (oB ci fs)) (hlen : k < fs.length) (hn : narrow (ty k) v = v) (hfit : fits (ty k) v = true) (h2 : cs.set i (oB ci (fs.set k v)) = cs2) (kk : Go N M Q nc ns (hL B cs2) (pc + 3) ls st) : Go N M Q nc ns (hL B cs) pc ls (v :: .ref (B + i) :: st) := by
  refine g_putf k hd hc hk hm hfin (hL_get ha) hlen hn hfit ?_
  rw [hL_set ha, h2]
  exact kk
theorem L_putF {ci n idx i : Nat} {C' : String} {T : u_T} {ty : Nat → FieldType} {fs : List Value} {v : Value} (k : Nat) (hd : decode (gm_cc M) pc = .ok (.putfield idx, 3)) (hc : g_cl ci C' T n ty) (hk : k < n) (hm : Cond.fieldLink (gm_own M) idx C' (T k).2.1 (T k).2.2.1 ∈ g_tbl) (hfin : (T k).2.2.2 = true) (hin2 : gm_nm M = "<init>") (hdecl : C' = gm_own M) (ha : cs[i]? = some (oB ci fs)) (hlen : k < fs.length) (hn : narrow (ty k) v = v) (hfit : fits (ty k) v = true) (h2 : cs.set i (oB ci (fs.set k v)) = cs2) (kk : Go N M Q nc ns (hL B cs2) (pc + 3) ls st) : Go N M Q nc ns (hL B cs) pc ls (v :: .ref (B + i) :: st) := by
  refine g_putF k hd hc hk hm hfin hin2 hdecl (hL_get ha) hlen hn hfit ?_
  rw [hL_set ha, h2]
  exact kk
theorem L_new {ci n idx q : Nat} {C' : String} {T : u_T} {ty : Nat → FieldType} (fs : List Value) (hd : decode (gm_cc M) pc = .ok (.new idx, 3)) (hc : g_cl ci C' T n ty) (hm : Cond.classLink (gm_own M) idx C' ∈ g_tbl) (hi : Cond.instantiable C' n ∈ g_tbl) (hini : Cond.initialized C' ∈ g_tbl) (hfs : ∀ j, j < n → defaultValue (ty j) = vp_V fs j) (hnc : 1 ≤ nc) (hns : n ≤ ns) (hq : cs.length = q) (h2 : cs ++ [oB ci fs] = cs2) (kk : Go N M Q (nc - 1) (ns - n) (hL B cs2) (pc + 3) ls (.ref (B + q) :: st)) : Go N M Q nc ns (hL B cs) pc ls st := by
  subst hq
  refine g_new (fs := fs) hd hc hm hi hini hfs hnc hns ?_
  rw [hL_new, h2]
  exact kk
theorem L_newJ {n q : Nat} (hd : decode (gm_cc M) pc = .ok (.newarray .long, 2)) (hn : n ≤ 60000) (hnc : 1 ≤ nc) (hns : n ≤ ns) (hq : cs.length = q) (h2 : cs ++ [aJ n (fun _ => 0)] = cs2) (kk : Go N M Q (nc - 1) (ns - n) (hL B cs2) (pc + 2) ls (.ref (B + q) :: st)) : Go N M Q nc ns (hL B cs) pc ls (.int (gI n) :: st) := by
  subst hq
  refine g_newarr (ty := .long) hd rfl rfl (by decide) ac_long (by show n * 8 ≤ _; omega) (by omega) hnc hns ?_
  rw [hL_new]
  subst h2
  exact kk
theorem L_newI {n q : Nat} (hd : decode (gm_cc M) pc = .ok (.newarray .int, 2)) (hn : n ≤ 60000) (hnc : 1 ≤ nc) (hns : n ≤ ns) (hq : cs.length = q) (h2 : cs ++ [aI n (fun _ => 0)] = cs2) (kk : Go N M Q (nc - 1) (ns - n) (hL B cs2) (pc + 2) ls (.ref (B + q) :: st)) : Go N M Q nc ns (hL B cs) pc ls (.int (gI n) :: st) := by
  subst hq
  refine g_newarr (ty := .int) hd rfl rfl (by decide) ac_int (by show n * 4 ≤ _; omega) (by omega) hnc hns ?_
  rw [hL_new]
  subst h2
  exact kk
theorem L_newZ {n q : Nat} (hd : decode (gm_cc M) pc = .ok (.newarray .boolean, 2)) (hn : n ≤ 60000) (hnc : 1 ≤ nc) (hns : n ≤ ns) (hq : cs.length = q) (h2 : cs ++ [aZ n (fun _ => 0)] = cs2) (kk : Go N M Q (nc - 1) (ns - n) (hL B cs2) (pc + 2) ls (.ref (B + q) :: st)) : Go N M Q nc ns (hL B cs) pc ls (.int (gI n) :: st) := by
  subst hq
  refine g_newarr (ty := .boolean) hd rfl rfl (by decide) ac_boolean (by show n * 1 ≤ _; omega) (by omega) hnc hns ?_
  rw [hL_new]
  subst h2
  exact kk
theorem L_newR {idx n q : Nat} {C' : String} (hd : decode (gm_cc M) pc = .ok (.anewarray idx, 3)) (hin : FieldType.object C' ∈ g_tys) (hov : C' ∈ g_ov) (hm : Cond.classLink (gm_own M) idx C' ∈ g_tbl) (hn : n ≤ 60000) (hnc : 1 ≤ nc) (hns : n ≤ ns) (hq : cs.length = q) (h2 : cs ++ [aR C' n (fun _ => none)] = cs2) (kk : Go N M Q (nc - 1) (ns - n) (hL B cs2) (pc + 3) ls (.ref (B + q) :: st)) : Go N M Q nc ns (hL B cs) pc ls (.int (gI n) :: st) := by
  subst hq
  refine g_anewarr hd hin hov hm (by omega) hnc hns ?_
  rw [hL_new, h2]
  exact kk
end
theorem Go.nf {N : GN} {M : GM} {Q : Option Value → GH → Prop} {nc ns nc' ns' : Nat} {h h' : GH} {pc : Nat} {ls : List (Nat × Value)} {st st' : List Value} (e : h = h') (e2 : st = st') (e3 : nc' ≤ nc) (e4 : ns' ≤ ns) (k : Go N M Q nc' ns' h' pc ls st') : Go N M Q nc ns h pc ls st := by
  subst e; subst e2; exact k.imp e3 e4
