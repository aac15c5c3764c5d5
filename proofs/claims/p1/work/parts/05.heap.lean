theorem g_oi1 : Cond.instanceMethod Lib.objectInit ∈ g_tbl := g_in 20 (by decide +kernel) rfl
theorem g_oi2 : Cond.code Lib.objectInit ⟨#[0xb1]⟩ 1 none ∈ g_tbl := g_in 21 (by decide +kernel) rfl
/-- objects and arrays by their numbers -/
def oB (ci : Nat) (fs : List Value) : GE := .inr (ci, vp_V fs)
def aJ (n : Nat) (g : Int → Int) : GE := .inl (.long, n, fun j => .long (gJ (g j)))
def aI (n : Nat) (g : Int → Int) : GE := .inl (.int, n, fun j => .int (gI (g j)))
def aZ (n : Nat) (g : Int → Int) : GE := .inl (.boolean, n, fun j => .int (gI (g j)))
def aR (C : String) (n : Nat) (g : Int → Option Nat) : GE := .inl (.object C, n, fun j => va_rf (g j))
def gup {α : Type} (g : Int → α) (i : Int) (x : α) : Int → α := fun j => if j = i then x else g j
theorem gup_s {α : Type} (g : Int → α) (i : Int) (x : α) : gup g i x i = x := by simp [gup]
theorem gup_n {α : Type} (g : Int → α) {i j : Int} (x : α) (h : j ≠ i) : gup g i x j = g j := by simp [gup, h]
theorem gup_V {α : Type} (g : Int → α) (mk : α → Value) {i : Int} (h0 : 0 ≤ i) (x : α) : updV (fun j : Nat => mk (g (j : Int))) i.toNat (mk x) = fun j : Nat => mk (gup g i x (j : Int)) := by
  funext j
  unfold updV gup
  by_cases hj : j = i.toNat
  · rw [if_pos hj, if_pos (by omega)]
  · rw [if_neg hj, if_neg (by omega)]
theorem hset_s (h : GH) (a : Nat) (e : GE) : (hset h a e).2 a = some e := by simp [hset]
theorem hset_n (h : GH) {a b : Nat} (e : GE) (n : b ≠ a) : (hset h a e).2 b = h.2 b := by simp [hset, n]
theorem hnew_s (h : GH) (e : GE) : (hnew h e).2 h.1 = some e := by simp [hnew]
theorem hnew_n (h : GH) {b : Nat} (e : GE) (n : b ≠ h.1) : (hnew h e).2 b = h.2 b := by simp [hnew, n]
theorem g_at.kept {D : va_G} {cA : FieldType → ClassId} {H H1 : Heap} {a : Nat} {e : GE} (h : g_at D cA H a e) (hq : H1[a]? = H[a]?) : g_at D cA H1 a e := by
  cases e with
  | inl x => exact hq.trans h
  | inr x =>
    obtain ⟨r, h1, h2⟩ := h
    exact ⟨r, h1, h2.kept hq⟩
theorem g_R.set {N : GN} {h : GH} {H H1 : Heap} {a : Nat} {e0 e : GE} (hR : g_R N h H) (ha : h.2 a = some e0) (he : g_at N.2.1 N.2.2.1 H1 a e) (z : H1.size = H.size) (oq : ∀ q : Nat, q ≠ a → H1[q]? = H[q]?) : g_R N (hset h a e) H1 := by
  obtain ⟨r1, r2, r3⟩ := hR
  refine ⟨z.trans r1, r2, fun b e' hb => ?_⟩
  by_cases hq : b = a
  · subst hq
    rw [hset_s] at hb
    cases hb
    exact ⟨(r3 b _ ha).1, (r3 b _ ha).2.1, he⟩
  · rw [hset_n h e hq] at hb
    obtain ⟨q1, q2, q3⟩ := r3 b e' hb
    exact ⟨q1, q2, q3.kept (oq b hq)⟩
theorem g_R.new {N : GN} {h : GH} {H H1 : Heap} {e : GE} (hR : g_R N h H) (he : g_at N.2.1 N.2.2.1 H1 H.size e) (z : H1.size = H.size + 1) (oq : ∀ q : Nat, q < H.size → H1[q]? = H[q]?) : g_R N (hnew h e) H1 := by
  obtain ⟨r1, r2, r3⟩ := hR
  refine ⟨by rw [z, r1]; rfl, Nat.le_succ_of_le r2, fun b e' hb => ?_⟩
  by_cases hq : b = h.1
  · subst hq
    rw [hnew_s] at hb
    cases hb
    exact ⟨r2, Nat.lt_succ_self _, by rw [← r1]; exact he⟩
  · rw [hnew_n h e hq] at hb
    obtain ⟨q1, q2, q3⟩ := r3 b e' hb
    exact ⟨q1, Nat.lt_succ_of_lt q2, q3.kept (oq b (by omega))⟩
theorem g_S.put {N : GN} {H0 H H1 : Heap} {locs : List Loc} {a k : Nat} (h : va_S (g_A N) H0 H locs) (z : H1.size = H.size) (oq : ∀ q : Nat, q ≠ a → H1[q]? = H[q]?) (ha : N.2.2.2.1 ≤ a) : va_S (g_A N) H0 H1 (locs ++ [⟨a, k⟩]) := h.put z oq ha
theorem g_S.new {N : GN} {H0 H H1 : Heap} {locs : List Loc} (h : va_S (g_A N) H0 H locs) (z : H1.size = H.size + 1) (o1 : ∀ q : Nat, q < H.size → H1[q]? = H[q]?) : va_S (g_A N) H0 H1 locs := ⟨Nat.le_trans h.1 (by omega), fun x h1 h2 => (o1 x (Nat.lt_of_lt_of_le h1 h.1)).trans (h.2.1 x h1 h2), h.2.2⟩
/-- a class's facts -/
def g_cl (ci : Nat) (C : String) (T : u_T) (n : Nat) (ty : Nat → FieldType) : Prop := vwCl[ci]? = some (C, T, n) ∧ (∀ w ∈ u_ws C T n, w ∈ g_tbl) ∧ (∀ k, k < n → parseFieldDescriptor (T k).2.2.1 = some (ty k)) ∧ (∀ a, a < n → ∀ b, b < n → a ≠ b → (T a).2.1 ≠ (T b).2.1) ∧ ∀ k, k < n → (T k).1 = C
theorem g_getf {N : GN} {M : GM} {Q : Option Value → GH → Prop} {nc ns : Nat} {h : GH} {pc : Nat} {ls : List (Nat × Value)} {st : List Value} {ci n idx a : Nat} {C' : String} {T : u_T} {ty : Nat → FieldType} {fs : List Value} {v : Value} (k : Nat) (hd : decode (gm_cc M) pc = .ok (.getfield idx, 3)) (hc : g_cl ci C' T n ty) (hk : k < n) (hm : Cond.fieldLink (gm_own M) idx C' (T k).2.1 (T k).2.2.1 ∈ g_tbl) (ha : h.2 a = some (oB ci fs)) (hv : fs[k]? = some v) (kk : Go N M Q nc ns h (pc + 3) ls (v :: st)) : Go N M Q nc ns h pc ls (.ref a :: st) := by
  intro p e R s m args below meth c H locs cells slots mc ms la C hR hl hS a1 a2 a3 a4
  obtain ⟨c1, c2, c3, c4, c5⟩ := hc
  obtain ⟨r, h1, cell, q1, q2, q3, q4⟩ := (hR.2.2 a _ ha).2.2
  have hr : r = (C', T, n) := Option.some.inj (h1.symm.trans c1)
  subst hr
  obtain ⟨hSl, hfc, kC, hkC, hkind⟩ := C.2.2.2.2.2.2.2.2.1.1 ci _ c1
  obtain ⟨cf, kf, fi, f, hi, hsl⟩ := hSl k hk
  have hi2 : s.fieldFound? C' (T k).2.1 (T k).2.2.1 = some (cf, kf, fi, f) := by
    have := c5 k hk
    dsimp only at hi
    rw [this] at hi
    exact hi
  refine W.getf C.1 C.2.1 C.2.2.2.1 (C.2.2.2.2.1 _ hm) hi2 (u_facts hfc hkC (u_lays C.2.2.2.2.1 c2 hk) hi).1 q1 (by rw [q3]; exact fun h => by cases h) (v := v) ?_ rfl rfl hd (kk p e R s m args below meth c H locs cells slots mc ms la C hR hl hS a1 a2 a3 a4)
  rw [hsl, q4 k hk]
  simp [vp_V, hv]
theorem g_ap {N : GN} {s : State} {args : Array Value} {ci n : Nat} {C' : String} {T : u_T} {ty : Nat → FieldType} (hK : g_K N s) (hts : ∀ w ∈ g_tbl, w.before args s = true) (hc : g_cl ci C' T n ty) : ∀ x y, x < n → y < n → x ≠ y → (N.2.1.2 ci) x ≠ (N.2.1.2 ci) y := by
  intro x y hx hy hne
  obtain ⟨c1, c2, c3, c4, c5⟩ := hc
  obtain ⟨hSl, -⟩ := hK.1 ci _ c1
  obtain ⟨_, _, _, fa, hia, ea⟩ := hSl x hx
  obtain ⟨_, _, _, fb, hib, eb⟩ := hSl y hy
  rw [← ea, ← eb]
  refine u_apart (u_lays hts c2 hx) (u_lays hts c2 hy) hia hib ?_
  rw [(State.fieldFound?_type hia (c3 x hx)).1, (State.fieldFound?_type hib (c3 y hy)).1]
  exact c4 x hx y hy hne
theorem g_putf {N : GN} {M : GM} {Q : Option Value → GH → Prop} {nc ns : Nat} {h : GH} {pc : Nat} {ls : List (Nat × Value)} {st : List Value} {ci n idx a : Nat} {C' : String} {T : u_T} {ty : Nat → FieldType} {fs : List Value} {v : Value} (k : Nat) (hd : decode (gm_cc M) pc = .ok (.putfield idx, 3)) (hc : g_cl ci C' T n ty) (hk : k < n) (hm : Cond.fieldLink (gm_own M) idx C' (T k).2.1 (T k).2.2.1 ∈ g_tbl) (hfin : (T k).2.2.2 = false) (ha : h.2 a = some (oB ci fs)) (hlen : k < fs.length) (hn : narrow (ty k) v = v) (hfit : fits (ty k) v = true) (kk : Go N M Q nc ns (hset h a (oB ci (fs.set k v))) (pc + 3) ls st) : Go N M Q nc ns h pc ls (v :: .ref a :: st) := by
  intro p e R s m args below meth c H locs cells slots mc ms la C hR hl hS a1 a2 a3 a4
  have hap := g_ap C.2.2.2.2.2.2.2.2.1 C.2.2.2.2.1 hc
  obtain ⟨c1, c2, c3, c4, c5⟩ := hc
  obtain ⟨b1, b2, r, h1, cell, q1, q2, q3, q4⟩ := hR.2.2 a _ ha
  have hr : r = (C', T, n) := Option.some.inj (h1.symm.trans c1)
  subst hr
  obtain ⟨hSl, hfc, kC, hkC, hkind⟩ := C.2.2.2.2.2.2.2.2.1.1 ci _ c1
  obtain ⟨cf, kf, fi, f, hi, hsl⟩ := hSl k hk
  have hi2 : s.fieldFound? C' (T k).2.1 (T k).2.2.1 = some (cf, kf, fi, f) := by
    have := c5 k hk
    dsimp only at hi
    rw [this] at hi
    exact hi
  have hlay := C.2.2.2.2.1 _ (c2 _ (u_in_lay hk))
  unfold u_lay at hlay
  rw [if_neg (by rw [hfin]; decide)] at hlay
  have hst := (u_facts hfc hkC (u_lays C.2.2.2.2.1 c2 hk) hi).1
  have h6 := u_store hfc hkC hkind hlay hi (c3 k hk) hn hfit
  refine W.putK C.1 C.2.1 (f := f) ⟨C.2.2.2.1, C.2.2.2.2.1 _ hm, ⟨_, _, _, hi2⟩, hst⟩ (by rw [q2]; exact h6) q1 q3 (by rw [hsl]; exact k2_hasslot (q4 k hk)) rfl rfl hd fun H' e1 e2 e3 => ?_
  rw [hsl] at e1 ⊢
  refine kk p e R s m args below meth c H' _ cells slots mc ms la C (hR.set ha (e := oB ci (fs.set k v)) ⟨_, c1, t_OB.to (V := updV (vp_V fs) k v) ⟨_, e1, q2, q3, t_set q4 hap hk v⟩ (fun j _ => vp_updV_set hlen v j)⟩ e2 e3) hl (g_S.put hS e2 e3 b1) a1 a2 a3 a4
theorem g_putF {N : GN} {M : GM} {Q : Option Value → GH → Prop} {nc ns : Nat} {h : GH} {pc : Nat} {ls : List (Nat × Value)} {st : List Value} {ci n idx a : Nat} {C' : String} {T : u_T} {ty : Nat → FieldType} {fs : List Value} {v : Value} (k : Nat) (hd : decode (gm_cc M) pc = .ok (.putfield idx, 3)) (hc : g_cl ci C' T n ty) (hk : k < n) (hm : Cond.fieldLink (gm_own M) idx C' (T k).2.1 (T k).2.2.1 ∈ g_tbl) (hfin : (T k).2.2.2 = true) (hin2 : gm_nm M = "<init>") (hdecl : C' = gm_own M) (ha : h.2 a = some (oB ci fs)) (hlen : k < fs.length) (hn : narrow (ty k) v = v) (hfit : fits (ty k) v = true) (kk : Go N M Q nc ns (hset h a (oB ci (fs.set k v))) (pc + 3) ls st) : Go N M Q nc ns h pc ls (v :: .ref a :: st) := by
  intro p e R s m args below meth c H locs cells slots mc ms la C hR hl hS a1 a2 a3 a4
  have hap := g_ap C.2.2.2.2.2.2.2.2.1 C.2.2.2.2.1 hc
  obtain ⟨c1, c2, c3, c4, c5⟩ := hc
  obtain ⟨b1, b2, r, h1, cell, q1, q2, q3, q4⟩ := hR.2.2 a _ ha
  have hr : r = (C', T, n) := Option.some.inj (h1.symm.trans c1)
  subst hr
  obtain ⟨hSl, hfc, kC, hkC, hkind⟩ := C.2.2.2.2.2.2.2.2.1.1 ci _ c1
  obtain ⟨cf, kf, fi, f, hi, hsl⟩ := hSl k hk
  have hi2 : s.fieldFound? C' (T k).2.1 (T k).2.2.1 = some (cf, kf, fi, f) := by
    have := c5 k hk
    dsimp only at hi
    rw [this] at hi
    exact hi
  have hlay := C.2.2.2.2.1 _ (c2 _ (u_in_lay hk))
  unfold u_lay at hlay
  rw [if_pos hfin] at hlay
  have hst := (u_facts hfc hkC (u_lays C.2.2.2.2.1 c2 hk) hi).1
  have hcf : m.cls = cf := by
    obtain ⟨_, _, c', _, _, _, -, -, hf', -, -, -, hown2, -⟩ := Cond.laysFinal_spec hlay
    have e1 : c' = cf := by have := hi.symm.trans hf'; simp at this; exact this.1.symm
    rw [c5 k hk, hdecl] at hown2
    rw [← e1]; exact Option.some.inj (C.2.2.2.1.symm.trans hown2)
  have h6 := u_fits hfc hkC hkind (Or.inr hlay) hi (c3 k hk) hn hfit
  refine W.putFinK C.1 C.2.1 C.2.2.2.1 (C.2.2.2.2.1 _ hm) hi2 hst hcf (C.2.2.2.2.2.2.2.1 hin2) (by rw [q2]; exact h6) q1 q3 (by rw [hsl]; exact k2_hasslot (q4 k hk)) rfl rfl hd fun H' e1 e2 e3 => ?_
  rw [hsl] at e1 ⊢
  refine kk p e R s m args below meth c H' _ cells slots mc ms la C (hR.set ha (e := oB ci (fs.set k v)) ⟨_, c1, t_OB.to (V := updV (vp_V fs) k v) ⟨_, e1, q2, q3, t_set q4 hap hk v⟩ (fun j _ => vp_updV_set hlen v j)⟩ e2 e3) hl (g_S.put hS e2 e3 b1) a1 a2 a3 a4
theorem g_laload {N : GN} {M : GM} {Q : Option Value → GH → Prop} {nc ns : Nat} {h : GH} {pc : Nat} {ls : List (Nat × Value)} {st : List Value} {a n : Nat} {g : Int → Int} {i : Int} (hd : decode (gm_cc M) pc = .ok (.laload, 1)) (ha : h.2 a = some (aJ n g)) (h0 : 0 ≤ i) (h1 : i < n) (hn : n < 2147483648) (kk : Go N M Q nc ns h (pc + 1) ls (.long (gJ (g i)) :: st)) : Go N M Q nc ns h pc ls (.int (gI i) :: .ref a :: st) := by
  intro p e R s m args below meth c H locs cells slots mc ms la C hR hl hS a1 a2 a3 a4
  have hw : gW i := by unfold gW; omega
  have hc : H[a]? = some (arrV (N.2.2.1 .long) n (fun j : Nat => .long (gJ (g (j : Int))))) := (hR.2.2 a _ ha).2.2
  refine W.lald C.1 C.2.1 (v := .long (gJ (g i))) hc ((C.2.2.2.2.2.2.2.2.1.2.1 .long (by decide)).1 n _) (fun q => by cases q) (by rw [arrV_size]; exact gI_in h0 h1 hn) ?_ rfl rfl hd (kk p e R s m args below meth c H locs cells slots mc ms la C hR hl hS a1 a2 a3 a4)
  rw [gI_cl hw, arrV_read _ _ (by omega)]
  have : ((i.toNat : Nat) : Int) = i := by omega
  rw [this]
theorem g_iaload {N : GN} {M : GM} {Q : Option Value → GH → Prop} {nc ns : Nat} {h : GH} {pc : Nat} {ls : List (Nat × Value)} {st : List Value} {a n : Nat} {g : Int → Int} {i : Int} (hd : decode (gm_cc M) pc = .ok (.iaload, 1)) (ha : h.2 a = some (aI n g)) (h0 : 0 ≤ i) (h1 : i < n) (hn : n < 2147483648) (kk : Go N M Q nc ns h (pc + 1) ls (.int (gI (g i)) :: st)) : Go N M Q nc ns h pc ls (.int (gI i) :: .ref a :: st) := by
  intro p e R s m args below meth c H locs cells slots mc ms la C hR hl hS a1 a2 a3 a4
  have hw : gW i := by unfold gW; omega
  have hc : H[a]? = some (arrV (N.2.2.1 .int) n (fun j : Nat => .int (gI (g (j : Int))))) := (hR.2.2 a _ ha).2.2
  refine W.iald C.1 C.2.1 (v := .int (gI (g i))) hc ((C.2.2.2.2.2.2.2.2.1.2.1 .int (by decide)).1 n _) (fun q => by cases q) (by rw [arrV_size]; exact gI_in h0 h1 hn) ?_ rfl rfl hd (kk p e R s m args below meth c H locs cells slots mc ms la C hR hl hS a1 a2 a3 a4)
  rw [gI_cl hw, arrV_read _ _ (by omega)]
  have : ((i.toNat : Nat) : Int) = i := by omega
  rw [this]
theorem g_baload {N : GN} {M : GM} {Q : Option Value → GH → Prop} {nc ns : Nat} {h : GH} {pc : Nat} {ls : List (Nat × Value)} {st : List Value} {a n : Nat} {g : Int → Int} {i : Int} (hd : decode (gm_cc M) pc = .ok (.baload, 1)) (ha : h.2 a = some (aZ n g)) (h0 : 0 ≤ i) (h1 : i < n) (hn : n < 2147483648) (kk : Go N M Q nc ns h (pc + 1) ls (.int (gI (g i)) :: st)) : Go N M Q nc ns h pc ls (.int (gI i) :: .ref a :: st) := by
  intro p e R s m args below meth c H locs cells slots mc ms la C hR hl hS a1 a2 a3 a4
  have hw : gW i := by unfold gW; omega
  have hc : H[a]? = some (arrV (N.2.2.1 .boolean) n (fun j : Nat => .int (gI (g (j : Int))))) := (hR.2.2 a _ ha).2.2
  refine W.zald C.1 C.2.1 (v := .int (gI (g i))) hc ((C.2.2.2.2.2.2.2.2.1.2.1 .boolean (by decide)).1 n _) (fun q => by cases q) (by rw [arrV_size]; exact gI_in h0 h1 hn) ?_ rfl rfl hd (kk p e R s m args below meth c H locs cells slots mc ms la C hR hl hS a1 a2 a3 a4)
  rw [gI_cl hw, arrV_read _ _ (by omega)]
  have : ((i.toNat : Nat) : Int) = i := by omega
  rw [this]
theorem g_aaload {N : GN} {M : GM} {Q : Option Value → GH → Prop} {nc ns : Nat} {h : GH} {pc : Nat} {ls : List (Nat × Value)} {st : List Value} {a n : Nat} {C' : String} {g : Int → Option Nat} {i : Int} (hd : decode (gm_cc M) pc = .ok (.aaload, 1)) (hC : FieldType.object C' ∈ g_tys) (ha : h.2 a = some (aR C' n g)) (h0 : 0 ≤ i) (h1 : i < n) (hn : n < 2147483648) (kk : Go N M Q nc ns h (pc + 1) ls (va_rf (g i) :: st)) : Go N M Q nc ns h pc ls (.int (gI i) :: .ref a :: st) := by
  intro p e R s m args below meth c H locs cells slots mc ms la C hR hl hS a1 a2 a3 a4
  have hw : gW i := by unfold gW; omega
  have hc : H[a]? = some (arrV (N.2.2.1 (.object C')) n (fun j : Nat => va_rf (g (j : Int)))) := (hR.2.2 a _ ha).2.2
  refine W.aald C.1 C.2.1 (v := va_rf (g i)) hc ((C.2.2.2.2.2.2.2.2.1.2.1 (.object C') hC).1 n _) rfl (fun q => by cases q) (by rw [arrV_size]; exact gI_in h0 h1 hn) ?_ rfl rfl hd (kk p e R s m args below meth c H locs cells slots mc ms la C hR hl hS a1 a2 a3 a4)
  rw [gI_cl hw, arrV_read _ _ (by omega)]
  have : ((i.toNat : Nat) : Int) = i := by omega
  rw [this]
theorem g_lastore {N : GN} {M : GM} {Q : Option Value → GH → Prop} {nc ns : Nat} {h : GH} {pc : Nat} {ls : List (Nat × Value)} {st : List Value} {a n : Nat} {g : Int → Int} {i x : Int} (hd : decode (gm_cc M) pc = .ok (.lastore, 1)) (ha : h.2 a = some (aJ n g)) (h0 : 0 ≤ i) (h1 : i < n) (hn : n < 2147483648) (kk : Go N M Q nc ns (hset h a (aJ n (gup g i x))) (pc + 1) ls st) : Go N M Q nc ns h pc ls (.long (gJ x) :: .int (gI i) :: .ref a :: st) := by
  intro p e R s m args below meth c H locs cells slots mc ms la C hR hl hS a1 a2 a3 a4
  have hw : gW i := by unfold gW; omega
  obtain ⟨b1, b2, hc⟩ := hR.2.2 a _ ha
  have hc : H[a]? = some (arrV (N.2.2.1 .long) n (fun j : Nat => (fun z => .long (gJ z)) (g (j : Int)))) := hc
  refine W.last C.1 C.2.1 hc ((C.2.2.2.2.2.2.2.2.1.2.1 .long (by decide)).1 n _) (fun q => by cases q) (by rw [arrV_size]; exact gI_in h0 h1 hn) rfl rfl hd fun H' e1 e2 e3 => ?_
  refine kk p e R s m args below meth c H' _ cells slots mc ms la C (hR.set ha (e := aJ n (gup g i x)) ?_ e2 e3) hl (g_S.put hS e2 e3 b1) a1 a2 a3 a4
  rw [gI_cl hw, arrV_store, gup_V g (fun z => .long (gJ z)) h0 x] at e1
  exact e1
theorem g_iastore {N : GN} {M : GM} {Q : Option Value → GH → Prop} {nc ns : Nat} {h : GH} {pc : Nat} {ls : List (Nat × Value)} {st : List Value} {a n : Nat} {g : Int → Int} {i x : Int} (hd : decode (gm_cc M) pc = .ok (.iastore, 1)) (ha : h.2 a = some (aI n g)) (h0 : 0 ≤ i) (h1 : i < n) (hn : n < 2147483648) (kk : Go N M Q nc ns (hset h a (aI n (gup g i x))) (pc + 1) ls st) : Go N M Q nc ns h pc ls (.int (gI x) :: .int (gI i) :: .ref a :: st) := by
  intro p e R s m args below meth c H locs cells slots mc ms la C hR hl hS a1 a2 a3 a4
  have hw : gW i := by unfold gW; omega
  obtain ⟨b1, b2, hc⟩ := hR.2.2 a _ ha
  have hc : H[a]? = some (arrV (N.2.2.1 .int) n (fun j : Nat => (fun z => .int (gI z)) (g (j : Int)))) := hc
  refine W.iast C.1 C.2.1 hc ((C.2.2.2.2.2.2.2.2.1.2.1 .int (by decide)).1 n _) (fun q => by cases q) (by rw [arrV_size]; exact gI_in h0 h1 hn) rfl rfl hd fun H' e1 e2 e3 => ?_
  refine kk p e R s m args below meth c H' _ cells slots mc ms la C (hR.set ha (e := aI n (gup g i x)) ?_ e2 e3) hl (g_S.put hS e2 e3 b1) a1 a2 a3 a4
  rw [gI_cl hw, arrV_store, gup_V g (fun z => .int (gI z)) h0 x] at e1
  exact e1
theorem g_bastore {N : GN} {M : GM} {Q : Option Value → GH → Prop} {nc ns : Nat} {h : GH} {pc : Nat} {ls : List (Nat × Value)} {st : List Value} {a n : Nat} {g : Int → Int} {i x : Int} (hd : decode (gm_cc M) pc = .ok (.bastore, 1)) (ha : h.2 a = some (aZ n g)) (h0 : 0 ≤ i) (h1 : i < n) (hn : n < 2147483648) (hx : x = 0 ∨ x = 1) (kk : Go N M Q nc ns (hset h a (aZ n (gup g i x))) (pc + 1) ls st) : Go N M Q nc ns h pc ls (.int (gI x) :: .int (gI i) :: .ref a :: st) := by
  intro p e R s m args below meth c H locs cells slots mc ms la C hR hl hS a1 a2 a3 a4
  have hw : gW i := by unfold gW; omega
  obtain ⟨b1, b2, hc⟩ := hR.2.2 a _ ha
  have hc : H[a]? = some (arrV (N.2.2.1 .boolean) n (fun j : Nat => (fun z => .int (gI z)) (g (j : Int)))) := hc
  refine W.zast C.1 C.2.1 hc ((C.2.2.2.2.2.2.2.2.1.2.1 .boolean (by decide)).1 n _) (fun q => by cases q) (by rw [arrV_size]; exact gI_in h0 h1 hn) rfl rfl hd fun H' e1 e2 e3 => ?_
  have hb : narrow .boolean (.int (gI x)) = .int (gI x) := by rcases hx with rfl | rfl <;> rfl
  rw [hb] at e1
  refine kk p e R s m args below meth c H' _ cells slots mc ms la C (hR.set ha (e := aZ n (gup g i x)) ?_ e2 e3) hl (g_S.put hS e2 e3 b1) a1 a2 a3 a4
  rw [gI_cl hw, arrV_store, gup_V g (fun z => .int (gI z)) h0 x] at e1
  exact e1
theorem g_aastore {N : GN} {M : GM} {Q : Option Value → GH → Prop} {nc ns : Nat} {h : GH} {pc : Nat} {ls : List (Nat × Value)} {st : List Value} {a n v ci n2 : Nat} {C' : String} {T : u_T} {ty : Nat → FieldType} {fs : List Value} {g : Int → Option Nat} {i : Int} (hd : decode (gm_cc M) pc = .ok (.aastore, 1)) (hC : FieldType.object C' ∈ g_tys) (hcl : g_cl ci C' T n2 ty) (ha : h.2 a = some (aR C' n g)) (hv : h.2 v = some (oB ci fs)) (h0 : 0 ≤ i) (h1 : i < n) (hn : n < 2147483648) (kk : Go N M Q nc ns (hset h a (aR C' n (gup g i (some v)))) (pc + 1) ls st) : Go N M Q nc ns h pc ls (.ref v :: .int (gI i) :: .ref a :: st) := by
  intro p e R s m args below meth c H locs cells slots mc ms la C hR hl hS a1 a2 a3 a4
  have hw : gW i := by unfold gW; omega
  obtain ⟨b1, b2, hc⟩ := hR.2.2 a _ ha
  have hc : H[a]? = some (arrV (N.2.2.1 (.object C')) n (fun j : Nat => va_rf (g (j : Int)))) := hc
  obtain ⟨r', hr', cellV, g1, g2, g3, -⟩ := (hR.2.2 v _ hv).2.2
  have hcls := (C.2.2.2.2.2.2.2.2.1.1 ci _ hcl.1).2
  obtain ⟨kA, comp, k1, k2, k3, -⟩ := (C.2.2.2.2.2.2.2.2.1.2.1 (.object C') hC).2
  have hcomp : comp = N.2.1.1 ci := Option.some.inj (k3.symm.trans hcls.1)
  subst hcomp
  obtain ⟨kC, hkC, -⟩ := hcls.2
  have hlt : (gI i).toNatClampNeg < n := by rw [gI_cl hw]; omega
  refine W.aast C.1 C.2.1 hc (fun q h => by cases h) (fun h => by cases h) k1 k2 rfl hkC ⟨fun z => gI_in h0 h1 hn (Or.inl z), by rw [arrV_size]; exact hlt⟩ g1 (fun q h => by rw [g3] at h; cases h) (by rw [g2]; exact hkC) (by rw [g2]; exact va_assign hcls) rfl rfl hd fun H' e1 e2 e3 => ?_
  refine kk p e R s m args below meth c H' _ cells slots mc ms la C (hR.set ha (e := aR C' n (gup g i (some v))) ?_ e2 e3) hl (g_S.put hS e2 e3 b1) a1 a2 a3 a4
  rw [gI_cl hw, arrV_store] at e1
  have e5 := gup_V g va_rf h0 (some v)
  rw [show va_rf (some v) = .ref v from rfl] at e5
  rw [e5] at e1
  exact e1
theorem g_alen {N : GN} {M : GM} {Q : Option Value → GH → Prop} {nc ns : Nat} {h : GH} {pc : Nat} {ls : List (Nat × Value)} {st : List Value} {a n : Nat} {ty : FieldType} {f : Nat → Value} (hd : decode (gm_cc M) pc = .ok (.arraylength, 1)) (hty : ty ∈ g_tys) (ha : h.2 a = some (.inl (ty, n, f))) (kk : Go N M Q nc ns h (pc + 1) ls (.int (gI n) :: st)) : Go N M Q nc ns h pc ls (.ref a :: st) := by
  intro p e R s m args below meth c H locs cells slots mc ms la C hR hl hS a1 a2 a3 a4
  have hc : H[a]? = some (arrV (N.2.2.1 ty) n f) := (hR.2.2 a _ ha).2.2
  refine W.alen C.1 C.2.1 (n := gI n) hc ((C.2.2.2.2.2.2.2.2.1.2.1 ty hty).1 n _) ?_ rfl rfl hd (kk p e R s m args below meth c H locs cells slots mc ms la C hR hl hS a1 a2 a3 a4)
  rw [arrV_size]
  exact (Int32.ofInt_eq_ofNat).symm
theorem g_new {N : GN} {M : GM} {Q : Option Value → GH → Prop} {nc ns : Nat} {h : GH} {pc : Nat} {ls : List (Nat × Value)} {st : List Value} {ci n idx : Nat} {C' : String} {T : u_T} {ty : Nat → FieldType} {fs : List Value} (hd : decode (gm_cc M) pc = .ok (.new idx, 3)) (hc : g_cl ci C' T n ty) (hm : Cond.classLink (gm_own M) idx C' ∈ g_tbl) (hi : Cond.instantiable C' n ∈ g_tbl) (hini : Cond.initialized C' ∈ g_tbl) (hfs : ∀ j, j < n → defaultValue (ty j) = vp_V fs j) (hnc : 1 ≤ nc) (hns : n ≤ ns) (kk : Go N M Q (nc - 1) (ns - n) (hnew h (oB ci fs)) (pc + 3) ls (.ref h.1 :: st)) : Go N M Q nc ns h pc ls st := by
  intro p e R s m args below meth c H locs cells slots mc ms la C hR hl hS a1 a2 a3 a4
  obtain ⟨c1, c2, c3, c4, c5⟩ := hc
  have hKn := C.2.2.2.2.2.2.2.2.1.1 ci _ c1
  refine W.newcK C.1 C.2.1 C.2.2.2.1 (C.2.2.2.2.1 _ hm) (C.2.2.2.2.1 _ hi) (C.2.2.2.2.1 _ hini) rfl hd (by omega) (by omega) hKn.2.1 rfl fun H1 kC hkC e1 z1 o1 => ?_
  have k2 := kk p e R s m args below meth c H1 locs (cells + 1) (slots + n) mc ms la C (hR.new (e := oB ci fs) ⟨_, c1, (u_born ty C.2.2.2.2.1 c2 hKn hkC e1 c3).to hfs⟩ z1 o1) hl (g_S.new hS z1 o1) (by omega) (by omega) a3 a4
  rw [← hR.1] at k2
  exact k2
theorem g_newarr {N : GN} {M : GM} {Q : Option Value → GH → Prop} {nc ns : Nat} {h : GH} {pc : Nat} {ls : List (Nat × Value)} {st : List Value} {atype : ArrayType} {n : Nat} {ty : FieldType} (hd : decode (gm_cc M) pc = .ok (.newarray atype, 2)) (hty : newarray.typeOf atype = ty) (hr : ty.isReference = false) (hin : ty ∈ g_tys) (hm : Cond.arrayClass (newarray.typeOf atype) ∈ g_tbl) (hn : n * componentBytes ty ≤ 536870912) (hn2 : n < 2147483647) (hnc : 1 ≤ nc) (hns : n ≤ ns) (kk : Go N M Q (nc - 1) (ns - n) (hnew h (.inl (ty, n, fun _ => defaultValue ty))) (pc + 2) ls (.ref h.1 :: st)) : Go N M Q nc ns h pc ls (.int (gI n) :: st) := by
  intro p e R s m args below meth c H locs cells slots mc ms la C hR hl hS a1 a2 a3 a4
  subst hty
  have hw : gW (n : Int) := by unfold gW; omega
  refine va_newaK C.1 C.2.1 (C.2.2.2.2.1 _ hm) rfl hd rfl (fun z => gI_in (n := n + 1) (by omega) (by omega) (by omega) (Or.inl z)) (by rw [gI_cl hw]; exact Int.toNat_natCast n) hn (by omega) (by omega) rfl fun H1 cA e1 z1 o1 hAr hNm => ?_
  have hcA : N.2.2.1 (newarray.typeOf atype) = cA := by
    have h9 := (C.2.2.2.2.2.2.2.2.1.2.1 _ hin).2
    cases atype <;> exact Option.some.inj (h9.symm.trans hNm)
  have k2 := kk p e R s m args below meth c H1 locs (cells + 1) (slots + n) mc ms la C (hR.new (e := .inl (newarray.typeOf atype, n, fun _ => defaultValue (newarray.typeOf atype))) (by show H1[H.size]? = _; rw [hcA]; exact e1) z1 o1) hl (g_S.new hS z1 o1) (by omega) (by omega) a3 a4
  rw [← hR.1] at k2
  exact k2
theorem g_anewarr {N : GN} {M : GM} {Q : Option Value → GH → Prop} {nc ns : Nat} {h : GH} {pc : Nat} {ls : List (Nat × Value)} {st : List Value} {idx n : Nat} {C' : String} (hd : decode (gm_cc M) pc = .ok (.anewarray idx, 3)) (hin : FieldType.object C' ∈ g_tys) (hov : C' ∈ g_ov) (hm : Cond.classLink (gm_own M) idx C' ∈ g_tbl) (hn : n * 4 ≤ 536870912) (hnc : 1 ≤ nc) (hns : n ≤ ns) (kk : Go N M Q (nc - 1) (ns - n) (hnew h (aR C' n (fun _ => none))) (pc + 3) ls (.ref h.1 :: st)) : Go N M Q nc ns h pc ls (.int (gI n) :: st) := by
  intro p e R s m args below meth c H locs cells slots mc ms la C hR hl hS a1 a2 a3 a4
  have hw : gW (n : Int) := by unfold gW; omega
  have hcl : (gI (n : Int)).toNatClampNeg = n := by rw [gI_cl hw]; exact Int.toNat_natCast n
  refine W.anew C.1 C.2.1 C.2.2.2.1 (C.2.2.2.2.1 _ hm) (va_AO.use (C.2.2.2.2.2.2.2.2.1.2.2.2 C' hov)) rfl hd rfl (fun z => gI_in (n := n + 1) (by omega) (by omega) (by omega) (Or.inl z)) (by rw [hcl]; exact hn) (by omega) (by rw [hcl]; omega) fun cA kA comp f1 f2 f3 f4 => ?_
  rw [hcl]
  generalize hH1 : H.push ({ cls := cA, slots := Array.replicate n .null, vm := .none } : Cell) = H1
  have z1 : H1.size = H.size + 1 := by rw [← hH1, Array.size_push]
  have e1 : H1[H.size]? = some (arrV cA n (fun _ => .null)) := by rw [← hH1, Array.getElem?_push_size, ← arrV_new]
  have o1 : ∀ q : Nat, q < H.size → H1[q]? = H[q]? := fun q hq => by rw [← hH1, Array.getElem?_push, if_neg (Nat.ne_of_lt hq)]
  obtain ⟨kA2, comp2, g1, g2, g3, g4⟩ := (C.2.2.2.2.2.2.2.2.1.2.1 _ hin).2
  have hcA : N.2.2.1 (.object C') = cA := Option.some.inj (g4.symm.trans f1)
  have k2 := kk p e R s m args below meth c H1 locs (cells + 1) (slots + n) mc ms la C (hR.new (e := aR C' n (fun _ => none)) (by show H1[H.size]? = _; rw [hcA]; exact e1) z1 o1) hl (g_S.new hS z1 o1) (by omega) (by omega) a3 a4
  rw [← hR.1] at k2
  exact k2
theorem g_objInit {N : GN} {M : GM} {Q : Option Value → GH → Prop} {nc ns : Nat} {h : GH} {pc : Nat} {ls : List (Nat × Value)} {st : List Value} {idx a : Nat} (hd : decode (gm_cc M) pc = .ok (.invokespecial idx, 3)) (hm : Cond.methodLink (gm_own M) idx Lib.objectInit ∈ g_tbl) (hf : 1 ≤ gm_fr M) (hlo : (st.map fun v => v.category).sum + 12 ≤ gm_lo M) (kk : Go N M Q nc ns h (pc + 3) ls st) : Go N M Q nc ns h pc ls (.ref a :: st) := by
  intro p e R s m args below meth c H locs cells slots mc ms la C hR hl hS a1 a2 a3 a4
  have c10 := C.2.2.2.2.2.2.2.2.2.1
  have c11 := C.2.2.2.2.2.2.2.2.2.2.1
  refine W.objInit C.1 C.2.1 C.2.2.2.1 (C.2.2.2.2.1 _ hm) (C.2.2.2.2.1 _ g_oi1) (C.2.2.2.2.1 _ g_oi2) rfl (by rw [C.2.2.1]; exact hl.1) rfl hd (by omega) (by show 2 * 0 + _ + 12 ≤ _; omega) (kk p e R s m args below meth c H locs cells slots mc ms la C hR hl hS a1 a2 a3 a4)
