/-! the Go logic: a method's walk over an abstract heap; every row below is one instruction -/
/-- an int, a long by its number -/
def gI (n : Int) : Int32 := Int32.ofInt n
def gJ (n : Int) : Int64 := Int64.ofInt n
/-- a cell: an array (type, length, contents) or an object (class by its place in vwCl, fields) -/
abbrev GE : Type := (FieldType × Nat × (Nat → Value)) ⊕ (Nat × (Nat → Value))
/-- a heap: the next address, and the cells -/
abbrev GH : Type := Nat × (Nat → Option GE)
/-- launch, classes and slots, array classes, the first address that may be written, the law's script (address, length, ints) -/
abbrev GN : Type := Launch × va_G × (FieldType → ClassId) × Nat × (Nat × Nat × (Nat → Int32))
/-- a method: class, name, code, locals, return type, frames and words of room -/
abbrev GM : Type := String × String × ByteArray × Nat × Option FieldType × Nat × Nat
abbrev gm_own (M : GM) : String := M.1
abbrev gm_nm (M : GM) : String := M.2.1
abbrev gm_cc (M : GM) : ByteArray := M.2.2.1
abbrev gm_L (M : GM) : Nat := M.2.2.2.1
abbrev gm_ret (M : GM) : Option FieldType := M.2.2.2.2.1
abbrev gm_fr (M : GM) : Nat := M.2.2.2.2.2.1
abbrev gm_lo (M : GM) : Nat := M.2.2.2.2.2.2
def g_at (D : va_G) (cA : FieldType → ClassId) (H : Heap) (a : Nat) (e : GE) : Prop := match e with
  | .inl x => H[a]? = some (arrV (cA x.1) x.2.1 x.2.2)
  | .inr x => ∃ r : vw_C, vwCl[x.1]? = some r ∧ t_OB a (D.1 x.1) r.2.2 (D.2 x.1) H x.2
def g_R (N : GN) (h : GH) (H : Heap) : Prop := H.size = h.1 ∧ N.2.2.2.1 ≤ h.1 ∧ ∀ (a : Nat) (e : GE), h.2 a = some e → N.2.2.2.1 ≤ a ∧ a < h.1 ∧ g_at N.2.1 N.2.2.1 H a e
def g_tys : List FieldType := [.int, .long, .boolean, .object "PolyWork$Row", .object "PolyWork$Poly"]
def g_nl : List (String × Nat × MethodName × String) := [("PolyWork", 9, yX1_init, "PolyWork"), ("PolyWork$Whole", 11, yX4_init, "PolyWork"), ("PolyWork", 49, yX4_init, "PolyWork")]
def g_ov : List String := ["PolyWork$Row", "PolyWork$Poly"]
def g_tbl : List Cond := lw_tbl.filter goodWord
def g_K (N : GN) (U : State) : Prop := (∀ (c : Nat) (q : vw_C), vwCl[c]? = some q → u_Kn U q.1 q.2.1 q.2.2 (N.2.1.1 c) (N.2.1.2 c)) ∧ (∀ ty ∈ g_tys, ArrOfT U (N.2.2.1 ty) ty ∧ va_RA U (N.2.2.1 ty) ty) ∧ (∀ q ∈ g_nl, va_Nw (.methodLinkNest q.1 q.2.1 q.2.2.1 q.2.2.2) U) ∧ ∀ C ∈ g_ov, va_AO C U
theorem g_K.warm {N : GN} {u U : State} (hW : u.WarmedH U.vm) (h : g_K N u) : g_K N U := ⟨fun c q hq => u_Kn_moved hW.alike (h.1 c q hq), fun ty hty => ⟨arrOfT_moved hW.alike (h.2.1 ty hty).1, (h.2.1 ty hty).2.moved hW.alike⟩, fun q hq => va_Nw.warmM hW (h.2.2.1 q hq), fun C hC => (h.2.2.2 C hC).moved hW.alike⟩
theorem g_K.calling {N : GN} {U : State} {g : JFrame} {mk : MethodId} {a : Array Value} (h : g_K N U) : g_K N (U.calling g mk a) := ⟨fun c q hq => u_Kn_moved (u := U) (U := U.calling g mk a) (Vm.Alike.refl U.vm) (h.1 c q hq), fun ty hty => ⟨arrOfT_moved (u := U) (E := U.calling g mk a) (Vm.Alike.refl U.vm) (h.2.1 ty hty).1, (h.2.1 ty hty).2.moved (U := U.calling g mk a) (Vm.Alike.refl U.vm)⟩, fun q hq => va_Nw.same (U := U.calling g mk a) rfl rfl (h.2.2.1 q hq), fun C hC => (h.2.2.2 C hC).moved (U := U.calling g mk a) (Vm.Alike.refl U.vm)⟩
def g_A (N : GN) : Nat → Prop := fun q => N.2.2.2.1 ≤ q
/-- what holds in a method's walk whatever it has done -/
def g_C (N : GN) (M : GM) (p : Program) (R : Room) (s : State) (m : MethodId) (args : Array Value) (meth : Method) (c : Code) : Prop :=
  p.tables.exec = Jvm.exec ∧ c.code = gm_cc M ∧ c.maxLocals = gm_L M ∧ s.vm.findClass (gm_own M) = some m.cls ∧ (∀ w ∈ g_tbl, w.before args s = true) ∧ meth.locks = false ∧ meth.sig.returnType = gm_ret M ∧ (gm_nm M = "<init>" → meth.name = "<init>") ∧ g_K N s ∧ gm_fr M ≤ R.frames ∧ gm_lo M ≤ R.locals ∧ (gm_nm M = "law" → va_X N.2.2.2.2.1 N.2.2.2.2.2.1 N.2.2.2.2.2.2 s s.heap ∧ N.2.2.2.2.1 < s.heap.size ∧ N.2.2.2.2.1 < N.2.2.2.1)
def g_Q (N : GN) (Q : Option Value → GH → Prop) : Array Value → State → Outcome → State → Prop := fun _ st o t => ∃ (v : Option Value) (h : GH), o = .returned v ∧ Q v h ∧ g_R N h t.heap ∧ va_F (g_A N) st t
def Go (N : GN) (M : GM) (Q : Option Value → GH → Prop) (nc ns : Nat) (h : GH) (pc : Nat) (ls : List (Nat × Value)) (st : List Value) : Prop :=
  ∀ (p : Program) (e : Env) (R : Room) (s : State) (m : MethodId) (args : Array Value) (below : List Frame) (meth : Method) (c : Code) (H : Heap) (locs : List Loc) (cells slots mc ms : Nat) (la : Array Slot),
    g_C N M p R s m args meth c → g_R N h H → lv_has la (gm_L M) ls → va_S (g_A N) s.heap H locs → cells + nc ≤ mc → slots + ns ≤ ms → mc ≤ R.cells → ms ≤ R.slots →
    W p N.1 e R s m args below meth c H locs cells slots (MQ below (g_Q N Q) args s mc ms (g_A N)) (F0 m pc la st)
/-- a method, called with these values over this heap, returns with Q -/
def Sp (N : GN) (y : MethodName) (M : GM) (nc ns : Nat) (vs : List Value) (h : GH) (Q : Option Value → GH → Prop) : Prop :=
  Met N.1 y (.code y (gm_cc M) (gm_L M) (gm_ret M) :: g_tbl) { frames := gm_fr M, cells := nc, slots := ns, locals := gm_lo M } (fun a U => a = vs.toArray ∧ g_R N h U.heap ∧ g_K N U) (g_Q N Q) nc ns (g_A N)
def hset (h : GH) (a : Nat) (e : GE) : GH := (h.1, fun b => if b = a then some e else h.2 b)
def hnew (h : GH) (e : GE) : GH := (h.1 + 1, fun b => if b = h.1 then some e else h.2 b)
theorem g_goodIn : GoodIn g_tbl g_tbl := fun w h => ⟨h, good_of_word (List.mem_filter.mp h).2⟩
theorem g_in {w : Cond} (i : Nat) (h : tables_1[i]? = some w) (hg : goodWord w = true) : w ∈ g_tbl := List.mem_filter.mpr ⟨List.mem_append_right _ (List.mem_of_getElem? h), hg⟩
theorem Sp.of {N : GN} {y : MethodName} {M : GM} {nc ns : Nat} {vs : List Value} {h : GH} {Q : Option Value → GH → Prop} (hy : plainName y.cls = true) (ho : gm_own M = y.cls) (hn : gm_nm M = y.name) (hl : (lg_sl vs).length ≤ gm_L M)
    (k : Go N M Q nc ns h 0 (lv_args 0 vs) []) (hlaw : gm_nm M ≠ "law" := by decide) : Sp N y M nc ns vs h Q := by
  refine Met.ofW (cc := gm_cc M) (maxL := gm_L M) (ret := gm_ret M) hy rfl ?_
  intro p e s m args below meth c s₁ B hml hv
  obtain ⟨rfl, hR, hK⟩ := hv
  have hts := atoms_spec (ws := .code y (gm_cc M) (gm_L M) (gm_ret M) :: g_tbl) B.pre
  have hown : s.vm.findClass y.cls = some m.cls := findClass_of_methodNamed B.named
  have hin : meth.name = y.name := (name_of_methodNamed B.named B.method).1
  rw [lg_entry_eq]
  exact k p e _ s m vs.toArray below meth c s.heap [] 0 0 nc ns _ ⟨B.exec, B.bytes, hml, by rw [ho]; exact hown, fun w hw => hts w (List.mem_cons_of_mem _ hw), B.notSynchronized, B.returns, fun z => hin.trans (hn.symm.trans z), hK, Nat.le_refl _, Nat.le_refl _, fun z => absurd z hlaw⟩ hR (lv_entry vs hl) va_S.rf (by omega) (by omega) (Nat.le_refl _) (Nat.le_refl _)
theorem Go.imp {N : GN} {M : GM} {Q : Option Value → GH → Prop} {nc ns nc' ns' : Nat} {h : GH} {pc : Nat} {ls : List (Nat × Value)} {st : List Value} (h1 : nc' ≤ nc) (h2 : ns' ≤ ns) (k : Go N M Q nc' ns' h pc ls st) : Go N M Q nc ns h pc ls st := by
  intro p e R s m args below meth c H locs cells slots mc ms la C hR hl hS a1 a2 a3 a4
  exact k p e R s m args below meth c H locs cells slots mc ms la C hR hl hS (by omega) (by omega) a3 a4
/-- fewer locals -/
theorem Go.sub {N : GN} {M : GM} {Q : Option Value → GH → Prop} {nc ns : Nat} {h : GH} {pc : Nat} {ls ls' : List (Nat × Value)} {st : List Value} (ks : List Nat) (hp : lv_pick ls ks = ls') (k : Go N M Q nc ns h pc ls' st) : Go N M Q nc ns h pc ls st := by
  intro p e R s m args below meth c H locs cells slots mc ms la C hR hl hS a1 a2 a3 a4
  exact k p e R s m args below meth c H locs cells slots mc ms la C hR (lv_sub hl ks hp) hS a1 a2 a3 a4
/-- a loop: a measure falls -/
theorem Go.loop {S : Type} (I : S → Prop) (F : S → Prop) (mu : S → Nat) (hs : ∀ x, I x → (∀ y, I y → mu y < mu x → F y) → F x) : ∀ x, I x → F x := by
  have key : ∀ (n : Nat) (x : S), mu x < n → I x → F x := by
    intro n
    induction n with
    | zero => intro x h; omega
    | succ n ih => intro x h hx; exact hs x hx (fun y hy hlt => ih y (by omega) hy)
  exact fun x hx => key (mu x + 1) x (by omega) hx
