/-! the places -/
section
variable {p : Nat}
/-- what stands at the places -/
abbrev PT (p : Nat) : Type := Nat → Option (Pxy p)
/-- a table in the reference's order -/
def NW (F : Pxy p) (g : Int → Int) : Prop := ∀ j i : Int, 0 ≤ j → j ≤ 6 → 0 ≤ i → i ≤ 40 → g (7 * i + j) = cy F j i
theorem NW.bd {F : Pxy p} {g : Int → Int} (w : NW F g) (hp : prm p) {k : Int} (h0 : 0 ≤ k) (h1 : k < 287) : 0 ≤ g k ∧ g k < p := by
  have e : k = 7 * (k / 7) + k % 7 := by omega
  rw [e, w (k % 7) (k / 7) (by omega) (by omega) (by omega) (by omega)]
  exact cy_in hp F _ _
theorem NW.zi {F : Pxy p} {g : Int → Int} (w : NW F g) (h : prm p) {j i : Nat} (hj : j ≤ 6) (hi : i ≤ 40) : zi h (g (7 * (i : Int) + j)) = F j i := by
  rw [w j i (by omega) (by omega) (by omega) (by omega), cy_zi]
theorem NW_of (h : prm p) {F : Pxy p} {g : Int → Int} (hb : ∀ k, 0 ≤ k → k < 287 → 0 ≤ g k ∧ g k < p) (hz : ∀ j i : Nat, j ≤ 6 → i ≤ 40 → zi h (g (7 * (i : Int) + j)) = F j i) : NW F g := fun j i j0 j1 i0 i1 => by
  obtain ⟨j, rfl⟩ := Int.eq_ofNat_of_zero_le j0
  obtain ⟨i, rfl⟩ := Int.eq_ofNat_of_zero_le i0
  have := hb (7 * (i : Int) + j) (by omega) (by omega)
  unfold cy
  rw [if_pos j0, Int.toNat_natCast]
  refine cf_of h this i0 ?_
  rw [Int.toNat_natCast]
  exact hz j i (by omega) (by omega)
def MP (hp : prm p) (B : Nat) (h : GH) (T : PT p) : Prop := ∃ gt gn : Int → Int, h.2 (B + 1) = some (aZ 100 gt) ∧ h.2 (B + 2) = some (aI 28700 gn) ∧ ∀ k : Int, 0 ≤ k → k < 100 → (T k.toNat = none ∧ gt k = 0) ∨ (∃ F, T k.toNat = some F ∧ gt k = 1 ∧ PB hp F ∧ NW F (fun m => gn (287 * k + m)))
def MW (hp : prm p) (B : Nat) (h : GH) (F : Pxy p) : Prop := PB hp F ∧ ∃ g, h.2 (B + 3) = some (aI 1500 g) ∧ NW F g ∧ ∀ k, 0 ≤ k → k < 1500 → 0 ≤ g k ∧ g k < p
def MWA (B : Nat) (h : GH) : Prop := ∃ g, h.2 (B + 3) = some (aI 1500 g)
theorem MW.a {hp : prm p} {B : Nat} {h : GH} {F : Pxy p} (w : MW hp B h F) : MWA B h := by
  obtain ⟨_, g, a, _⟩ := w
  exact ⟨g, a⟩
/-- the place that a new one gets -/
def isK (T : PT p) (v : Int) : Prop := (v = -5 ∧ ∀ k : Nat, k < 100 → T k ≠ none) ∨ (0 ≤ v ∧ v < 100 ∧ T v.toNat = none ∧ ∀ k : Nat, (k : Int) < v → T k ≠ none)
theorem isK_un {T : PT p} {v w : Int} (a : isK T v) (b : isK T w) : v = w := by
  rcases a with ⟨a1, a2⟩ | ⟨a1, a2, a3, a4⟩ <;> rcases b with ⟨b1, b2⟩ | ⟨b1, b2, b3, b4⟩
  · omega
  · exact absurd b3 (a2 _ (by omega))
  · exact absurd a3 (b2 _ (by omega))
  · rcases Int.lt_trichotomy v w with z | z | z
    · exact absurd a3 (b4 _ (by omega))
    · exact z
    · exact absurd b3 (a4 _ (by omega))
/-- .. and what stands there then -/
noncomputable def putT (T : PT p) (v : Int) (F : Pxy p) : PT p := fun k => if (k : Int) = v then some F else T k
theorem MP.at {hp : prm p} {B : Nat} {h : GH} {T : PT p} (w : MP hp B h T) {a : Int} (h0 : 0 ≤ a) (h1 : a < 100) {F : Pxy p} (e : T a.toNat = some F) : PB hp F ∧ ∃ gn, h.2 (B + 2) = some (aI 28700 gn) ∧ NW F (fun m => gn (287 * a + m)) := by
  obtain ⟨gt, gn, w1, w2, w3⟩ := w
  rcases w3 a h0 h1 with ⟨z, _⟩ | ⟨G, z1, _, z2, z3⟩
  · rw [e] at z; exact absurd z (by simp)
  · rw [e] at z1
    have := Option.some.inj z1
    subst this
    exact ⟨z2, gn, w2, z3⟩
theorem MP.fr {hp : prm p} {B : Nat} {L : List Nat} {h h1 : GH} {T : PT p} (w : MP hp B h T) (f : Fr L h h1) (n1 : Ni (B + 1) L) (n2 : Ni (B + 2) L) : MP hp B h1 T := by
  obtain ⟨gt, gn, w1, w2, w3⟩ := w
  exact ⟨gt, gn, f.at0 n1 w1, f.at0 n2 w2, w3⟩
theorem MW.fr {hp : prm p} {B : Nat} {L : List Nat} {h h1 : GH} {F : Pxy p} (w : MW hp B h F) (f : Fr L h h1) (n : Ni (B + 3) L) : MW hp B h1 F := by
  obtain ⟨w1, g, w2, w3⟩ := w
  exact ⟨w1, g, f.at0 n w2, w3⟩
theorem MWA.fr {B : Nat} {L : List Nat} {h h1 : GH} (w : MWA B h) (f : Fr L h h1) (n : Ni (B + 3) L) : MWA B h1 := by
  obtain ⟨g, w2⟩ := w
  exact ⟨g, f.at0 n w2⟩
def cpy (gn gw : Int → Int) (k c : Int) : Int → Int := fun m => if 287 * k ≤ m ∧ m < 287 * k + c then gw (m - 287 * k) else gn m
theorem cpy_0 (gn gw : Int → Int) (k : Int) : cpy gn gw k 0 = gn := funext fun m => by unfold cpy; rw [if_neg (by omega)]
theorem cpy_s (gn gw : Int → Int) {k c : Int} (hc : 0 ≤ c) : gup (cpy gn gw k c) (287 * k + c) (gw c) = cpy gn gw k (c + 1) := funext fun m => by
  unfold gup cpy
  by_cases z : m = 287 * k + c
  · subst z; rw [if_pos rfl, if_pos (by omega), show 287 * k + c - 287 * k = c by omega]
  · rw [if_neg z]
    by_cases y : 287 * k ≤ m ∧ m < 287 * k + c
    · rw [if_pos y, if_pos (by omega)]
    · rw [if_neg y, if_neg (by omega)]
theorem MP.put {hp : prm p} {B : Nat} {h1 : GH} {T : PT p} {F : Pxy p} {gt gn gw : Int → Int} {k : Int} (w3 : ∀ k : Int, 0 ≤ k → k < 100 → (T k.toNat = none ∧ gt k = 0) ∨ (∃ F, T k.toNat = some F ∧ gt k = 1 ∧ PB hp F ∧ NW F (fun m => gn (287 * k + m)))) (k0 : 0 ≤ k) (k1 : k < 100) (hB : PB hp F) (hN : NW F gw) (a1 : h1.2 (B + 1) = some (aZ 100 (gup gt k 1))) (a2 : h1.2 (B + 2) = some (aI 28700 (cpy gn gw k 287))) : MP hp B h1 (putT T k F) := by
  refine ⟨_, _, a1, a2, fun l l0 l1 => ?_⟩
  by_cases z : l = k
  · refine Or.inr ⟨F, ?_, by rw [z, gup_s], hB, fun j i j0 j1 i0 i1 => ?_⟩
    · show (if ((l.toNat : Nat) : Int) = k then some F else _) = _
      rw [if_pos (by omega)]
    · show cpy gn gw k 287 (287 * l + (7 * i + j)) = _
      unfold cpy
      rw [if_pos (by omega), z, show 287 * k + (7 * i + j) - 287 * k = 7 * i + j by omega]
      exact hN j i j0 j1 i0 i1
  · have e : putT T k F l.toNat = T l.toNat := if_neg (by omega)
    rw [e, gup_n _ _ z]
    rcases w3 l l0 l1 with y | ⟨G, y1, y2, y3, y4⟩
    · exact Or.inl y
    · refine Or.inr ⟨G, y1, y2, y3, fun j i j0 j1 i0 i1 => ?_⟩
      show cpy gn gw k 287 (287 * l + (7 * i + j)) = _
      unfold cpy
      rw [if_neg (by omega)]
      exact y4 j i j0 j1 i0 i1
end
set_option maxHeartbeats 4000000 in
set_option maxRecDepth 100000 in
theorem sM_cellOf (N : GN) (h : GH) (a i j : Int) : Sp N yX10_cellOf mX10_cellOf 0 0 [.int (gI (a)), .int (gI (i)), .int (gI (j))] h (fun v h1 => h1 = h ∧ v = some (.int (gI (287 * a + 7 * i + j)))) := by
  refine Sp.of (by decide) rfl rfl (Nat.le_of_ble_eq_true rfl) ?_
  show Go N mX10_cellOf _ 0 0 h 0 [(0, .int (gI (a))), (1, .int (gI (i))), (2, .int (gI (j)))] []
  refine g_sipush dX10_cellOf_0 (by decide) ?_
  refine g_iload_n 0 dX10_cellOf_3 rfl ?_
  refine g_imul dX10_cellOf_4 ?_
  refine g_bipush dX10_cellOf_5 (by decide) ?_
  refine g_iload_n 1 dX10_cellOf_7 rfl ?_
  refine g_imul dX10_cellOf_8 ?_
  refine g_iadd dX10_cellOf_9 ?_
  refine g_iload_n 2 dX10_cellOf_10 rfl ?_
  refine g_iadd dX10_cellOf_11 ?_
  exact g_iret dX10_cellOf_12 rfl ⟨rfl, rfl⟩
set_option maxHeartbeats 4000000 in
set_option maxRecDepth 100000 in
theorem sM_clear (N : GN) (h : GH) (B p : Nat) (hp : prm p) (hp2 : p ≤ 65536) (hf le fc pn rn hn qn : Int) (gm : Int → Int) (hm : h.2 B = some (mO B p hf le fc pn rn hn qn)) (hw : MWA B h) (h4 : h.2 (B + 4) = some (aI 1500 gm)) : Sp N yX10_clear mX10_clear 0 0 [.ref (B)] h (fun v h1 => v = none ∧ Fr [B + 3] h h1 ∧ h1.2 (B + 4) = some (aI 1500 gm) ∧ MW hp B h1 (zF hp)) := by
  refine Sp.of (by decide) rfl rfl (Nat.le_of_ble_eq_true rfl) ?_
  show Go N mX10_clear _ 0 0 h 0 [(0, .ref (B))] []
  have hp1 := hp.1
  have neA : NE B (B + 3) := by unfold NE; omega
  have neB : NE B (B + 4) := by unfold NE; omega
  have neC : NE (B + 4) (B + 3) := by unfold NE; omega
  obtain ⟨g, hw3⟩ := hw
  refine g_iconst dX10_clear_0 ?_
  refine g_istore_n (ls2 := [(1, .int (gI (0))), (0, .ref (B))]) dX10_clear_1 rfl (by decide) rfl ?_
  have lo : ∀ (kk : Nat) (k : Int) (hlo : GH), kk = (1500 - k).toNat → Fr [B + 3] h hlo → hlo.2 (B + 3) = some (aI 1500 (gF g (fun _ => 0) k)) → hlo.2 (B + 4) = some (aI 1500 (gm)) → (0 ≤ k) → (k ≤ 1500) → Go N mX10_clear (fun v h1 => v = none ∧ Fr [B + 3] h h1 ∧ h1.2 (B + 4) = some (aI 1500 gm) ∧ MW hp B h1 (zF hp)) 0 0 hlo 2 [(1, .int (gI (k))), (0, .ref (B))] [] := by
    refine Go.ind (fun kk ih_lo => ?_)
    intro k hlo hkk_lo fr_lo cf_lo_0 cf_lo_1 hk0 hk1
    have cg_lo_0 : hlo.2 (B) = some (mO B ((p : Int)) (hf) (le) (fc) (pn) (rn) (hn) (qn)) := Fr.at0 fr_lo (Ni.c ⟨neA, neB⟩ (Ni.n _)) hm
    refine g_iload_n 0 dX10_clear_2 rfl ?_
    refine g_sipush dX10_clear_3 (by decide) ?_
    refine g_icmp_ge (tgt := 22) dX10_clear_6 rfl (by unfold gW; omega) (by unfold gW; omega) (fun c101 => ?_) (fun c101 => ?_)
    · skip
      exact g_vret dX10_clear_22 rfl ⟨rfl, fr_lo, cf_lo_1, zF_PB hp, _, cf_lo_0, fun j i j0 j1 i0 i1 => by unfold gF; rw [if_pos (by omega), zF_cy], fun m m0 m1 => by unfold gF; rw [if_pos (by omega)]; show (0 : Int) ≤ 0 ∧ (0 : Int) < p; omega⟩
    · skip
      refine g_aload_n 1 dX10_clear_9 rfl ?_
      refine g_getf 3 dX10_clear_10 kX10 (by decide) fX10_17 cg_lo_0 rfl ?_
      refine g_iload_n 0 dX10_clear_13 rfl ?_
      refine g_iconst dX10_clear_14 ?_
      refine g_iastore dX10_clear_15 cf_lo_0 (by omega) (by omega) (by omega) ?_
      obtain ⟨hh102, eh102⟩ : ∃ z : GH, z = hset hlo (B + 3) (aI 1500 (gup (gF g (fun _ => 0) k) (k) (0))) := ⟨_, rfl⟩
      refine Go.hp eh102.symm ?_
      have fh102_0 : hh102.2 (B) = some (mO B ((p : Int)) (hf) (le) (fc) (pn) (rn) (hn) (qn)) := hs_n eh102 neA cg_lo_0
      have fh102_1 : hh102.2 (B + 3) = some (aI 1500 (gup (gF g (fun _ => 0) k) (k) (0))) := hs_s eh102
      have fh102_2 : hh102.2 (B + 4) = some (aI 1500 (gm)) := hs_n eh102 neC cf_lo_1
      have fr102 : Fr [B + 3] h hh102 := Fr.w0 fr_lo (List.Mem.head _) eh102
      refine g_iinc 0 (ls2 := [(1, .int (gI (k + 1))), (0, .ref (B))]) dX10_clear_16 rfl (by decide) rfl ?_
      refine g_goto (tgt := 2) dX10_clear_19 rfl ?_
      exact ih_lo _ (by omega) (k + 1) hh102 rfl fr102 (by rw [← gF_s g (fun _ => 0) hk0]; exact fh102_1) fh102_2 (by omega) (by omega)
  exact lo _ (0) h rfl (Fr.rf [B + 3] h) (by rw [gF_0]; exact hw3) h4 (by omega) (by omega)
set_option maxHeartbeats 4000000 in
set_option maxRecDepth 100000 in
theorem sM_keep (N : GN) (h : GH) (B p : Nat) (hp : prm p) (hp2 : p ≤ 65536) (hf le fc pn rn hn qn : Int) (T : PT p) (F : Pxy p) (hm : h.2 B = some (mO B p hf le fc pn rn hn qn)) (hT : MP hp B h T) (hW : MW hp B h F) : Sp N yX10_keep mX10_keep 0 0 [.ref (B)] h (fun v h1 => Fr [B + 1] h h1 ∧ ∃ w : Int, isK T w ∧ v = some (.int (gI w)) ∧ MP hp B h1 (putT T w F)) := by
  refine Sp.of (by decide) rfl rfl (Nat.le_of_ble_eq_true rfl) ?_
  show Go N mX10_keep _ 0 0 h 0 [(0, .ref (B))] []
  have hp1 := hp.1
  have ne0 : NE (B) (B + 1) := by unfold NE; omega
  have ne1 : NE (B) (B + 2) := by unfold NE; omega
  have ne2 : NE (B) (B + 3) := by unfold NE; omega
  have ne3 : NE (B + 1) (B + 2) := by unfold NE; omega
  have ne4 : NE (B + 1) (B + 3) := by unfold NE; omega
  have ne5 : NE (B + 2) (B + 3) := by unfold NE; omega
  obtain ⟨gt, gn, w1, w2, w3⟩ := hT
  obtain ⟨hB, gw, hw3, hN, _⟩ := hW
  refine g_iconst dX10_keep_0 ?_
  refine g_istore_n (ls2 := [(1, .int (gI (0))), (0, .ref (B))]) dX10_keep_1 rfl (by decide) rfl ?_
  have lo : ∀ (kk : Nat) (k : Int) (hlo : GH), kk = (100 - k).toNat → Fr [B + 1] h hlo → hlo.2 (B + 1) = some (aZ 100 (gt)) → hlo.2 (B + 2) = some (aI 28700 (gn)) → (0 ≤ k) → (k ≤ 100) → (∀ j : Nat, (j : Int) < k → T j ≠ none) → Go N mX10_keep (fun v h1 => Fr [B + 1] h h1 ∧ ∃ w : Int, isK T w ∧ v = some (.int (gI w)) ∧ MP hp B h1 (putT T w F)) 0 0 hlo 2 [(1, .int (gI (k))), (0, .ref (B))] [] := by
    refine Go.ind (fun kk ih_lo => ?_)
    intro k hlo hkk_lo fr_lo cf_lo_0 cf_lo_1 hk0 hk1 hE
    have cg_lo_0 : hlo.2 (B) = some (mO B ((p : Int)) (hf) (le) (fc) (pn) (rn) (hn) (qn)) := Fr.at0 fr_lo (Ni.c ⟨ne0, ne1⟩ (Ni.n _)) hm
    have cg_lo_3 : hlo.2 (B + 3) = some (aI 1500 (gw)) := Fr.at0 fr_lo (Ni.c ⟨(ne4).s, (ne5).s⟩ (Ni.n _)) hw3
    refine g_iload_n 0 dX10_keep_2 rfl ?_
    refine g_bipush dX10_keep_3 (by decide) ?_
    refine g_icmp_ge (tgt := 23) dX10_keep_5 rfl (by unfold gW; omega) (by unfold gW; omega) (fun c101 => ?_) (fun c101 => ?_)
    · skip
      refine g_iload_n 0 dX10_keep_23 rfl ?_
      refine g_bipush dX10_keep_24 (by decide) ?_
      refine g_icmp_ne (tgt := 32) dX10_keep_26 rfl (by unfold gW; omega) (by unfold gW; omega) (fun c102 => ?_) (fun c102 => ?_)
      · skip
        have hTk : T k.toNat = none := by
          rcases w3 k hk0 (by omega) with ⟨y1, y2⟩ | ⟨F, y1, y2, y3⟩
          · exact y1
          · omega
        refine g_aload_n 1 dX10_keep_32 rfl ?_
        refine g_getf 1 dX10_keep_33 kX10 (by decide) fX10_7 cg_lo_0 rfl ?_
        refine g_iload_n 0 dX10_keep_36 rfl ?_
        refine g_iconst dX10_keep_37 ?_
        refine g_bastore dX10_keep_38 cf_lo_0 (by omega) (by omega) (by omega) (by omega) ?_
        obtain ⟨hh103, eh103⟩ : ∃ z : GH, z = hset hlo (B + 1) (aZ 100 (gup (gt) (k) (1))) := ⟨_, rfl⟩
        refine Go.hp eh103.symm ?_
        have fh103_0 : hh103.2 (B) = some (mO B ((p : Int)) (hf) (le) (fc) (pn) (rn) (hn) (qn)) := hs_n eh103 ne0 cg_lo_0
        have fh103_1 : hh103.2 (B + 3) = some (aI 1500 (gw)) := hs_n eh103 (ne4).s cg_lo_3
        have fh103_2 : hh103.2 (B + 1) = some (aZ 100 (gup (gt) (k) (1))) := hs_s eh103
        have fh103_3 : hh103.2 (B + 2) = some (aI 28700 (gn)) := hs_n eh103 (ne3).s cf_lo_1
        have fr103 : Fr [B + 1] h hh103 := Fr.w0 fr_lo (List.Mem.head _) eh103
        refine g_iconst dX10_keep_39 ?_
        refine g_istore_n (ls2 := [(2, .int (gI (0))), (1, .int (gI (k))), (0, .ref (B))]) dX10_keep_40 rfl (by decide) rfl ?_
        have lc : ∀ (kk : Nat) (c : Int) (hlc : GH), kk = (287 - c).toNat → Fr [B + 1] h hlc → hlc.2 (B + 1) = some (aZ 100 (gup (gt) (k) (1))) → hlc.2 (B + 2) = some (aI 28700 (cpy gn gw k c)) → (0 ≤ c) → (c ≤ 287) → Go N mX10_keep (fun v h1 => Fr [B + 1] h h1 ∧ ∃ w : Int, isK T w ∧ v = some (.int (gI w)) ∧ MP hp B h1 (putT T w F)) 0 0 hlc 41 [(2, .int (gI (c))), (1, .int (gI (k))), (0, .ref (B))] [] := by
          refine Go.ind (fun kk ih_lc => ?_)
          intro c hlc hkk_lc fr_lc cf_lc_0 cf_lc_1 hc0 hc1
          have cg_lc_0 : hlc.2 (B) = some (mO B ((p : Int)) (hf) (le) (fc) (pn) (rn) (hn) (qn)) := Fr.at0 fr_lc (Ni.c ⟨ne0, ne1⟩ (Ni.n _)) hm
          have cg_lc_3 : hlc.2 (B + 3) = some (aI 1500 (gw)) := Fr.at0 fr_lc (Ni.c ⟨(ne4).s, (ne5).s⟩ (Ni.n _)) hw3
          refine g_iload_n 0 dX10_keep_41 rfl ?_
          refine g_sipush dX10_keep_42 (by decide) ?_
          refine g_icmp_ge (tgt := 72) dX10_keep_45 rfl (by unfold gW; omega) (by unfold gW; omega) (fun c204 => ?_) (fun c204 => ?_)
          · skip
            refine g_iload_n 1 dX10_keep_72 rfl ?_
            exact g_iret dX10_keep_73 rfl ⟨fr_lc, k, Or.inr ⟨hk0, by omega, hTk, hE⟩, rfl, by
        have hc7 : c = 287 := by omega
        have e9 := cf_lc_1
        rw [hc7] at e9
        exact MP.put w3 hk0 (by omega) hB hN cf_lc_0 e9⟩
          · skip
            refine g_aload_n 2 dX10_keep_48 rfl ?_
            refine g_getf 2 dX10_keep_49 kX10 (by decide) fX10_13 cg_lc_0 rfl ?_
            refine g_sipush dX10_keep_52 (by decide) ?_
            refine g_iload_n 1 dX10_keep_55 rfl ?_
            refine g_imul dX10_keep_56 ?_
            refine g_iload_n 0 dX10_keep_57 rfl ?_
            refine g_iadd dX10_keep_58 ?_
            refine g_aload_n 2 dX10_keep_59 rfl ?_
            refine g_getf 3 dX10_keep_60 kX10 (by decide) fX10_17 cg_lc_0 rfl ?_
            refine g_iload_n 0 dX10_keep_63 rfl ?_
            refine g_iaload dX10_keep_64 cg_lc_3 (by omega) (by omega) (by omega) ?_
            refine g_iastore dX10_keep_65 cf_lc_1 (by omega) (by omega) (by omega) ?_
            obtain ⟨hh205, eh205⟩ : ∃ z : GH, z = hset hlc (B + 2) (aI 28700 (gup (cpy gn gw k c) (((287) * (k)) + (c)) ((gw) (c)))) := ⟨_, rfl⟩
            refine Go.hp eh205.symm ?_
            have fh205_0 : hh205.2 (B) = some (mO B ((p : Int)) (hf) (le) (fc) (pn) (rn) (hn) (qn)) := hs_n eh205 ne1 cg_lc_0
            have fh205_1 : hh205.2 (B + 3) = some (aI 1500 (gw)) := hs_n eh205 (ne5).s cg_lc_3
            have fh205_2 : hh205.2 (B + 1) = some (aZ 100 (gup (gt) (k) (1))) := hs_n eh205 ne3 cf_lc_0
            have fh205_3 : hh205.2 (B + 2) = some (aI 28700 (gup (cpy gn gw k c) (((287) * (k)) + (c)) ((gw) (c)))) := hs_s eh205
            have fr205 : Fr [B + 1] h hh205 := Fr.w1 fr_lc (List.Mem.head _) eh205
            refine g_iinc 0 (ls2 := [(2, .int (gI (c + 1))), (1, .int (gI (k))), (0, .ref (B))]) dX10_keep_66 rfl (by decide) rfl ?_
            refine g_goto (tgt := 41) dX10_keep_69 rfl ?_
            exact ih_lc _ (by omega) (c + 1) hh205 rfl fr205 fh205_2 (by rw [← cpy_s gn gw hc0]; exact fh205_3) (by omega) (by omega)
        exact lc _ (0) hh103 rfl fr103 fh103_2 (by rw [cpy_0]; exact fh103_3) (by omega) (by omega)
      · skip
        refine g_bipush dX10_keep_29 (by decide) ?_
        exact g_iret dX10_keep_31 rfl ⟨fr_lo, -5, Or.inl ⟨rfl, fun j j1 => hE j (by omega)⟩, rfl, gt, gn, cf_lo_0, cf_lo_1, fun l l0 l1 => by
      have e : putT T (-5) F l.toNat = T l.toNat := if_neg (by omega)
      rw [e]; exact w3 l l0 l1⟩
    · skip
      refine g_aload_n 1 dX10_keep_8 rfl ?_
      refine g_getf 1 dX10_keep_9 kX10 (by decide) fX10_7 cg_lo_0 rfl ?_
      refine g_iload_n 0 dX10_keep_12 rfl ?_
      have hgt : gt k = 0 ∨ gt k = 1 := by
        rcases w3 k hk0 (by omega) with ⟨y1, y2⟩ | ⟨F, y1, y2, y3⟩
        · exact Or.inl y2
        · exact Or.inr y2
      refine g_baload dX10_keep_13 cf_lo_0 (by omega) (by omega) (by omega) ?_
      refine g_if_eq (tgt := 23) dX10_keep_14 rfl (by unfold gW; omega) (fun c306 => ?_) (fun c306 => ?_)
      · skip
        refine g_iload_n 0 dX10_keep_23 rfl ?_
        refine g_bipush dX10_keep_24 (by decide) ?_
        refine g_icmp_ne (tgt := 32) dX10_keep_26 rfl (by unfold gW; omega) (by unfold gW; omega) (fun c307 => ?_) (fun c307 => ?_)
        · skip
          have hTk : T k.toNat = none := by
            rcases w3 k hk0 (by omega) with ⟨y1, y2⟩ | ⟨F, y1, y2, y3⟩
            · exact y1
            · omega
          refine g_aload_n 1 dX10_keep_32 rfl ?_
          refine g_getf 1 dX10_keep_33 kX10 (by decide) fX10_7 cg_lo_0 rfl ?_
          refine g_iload_n 0 dX10_keep_36 rfl ?_
          refine g_iconst dX10_keep_37 ?_
          refine g_bastore dX10_keep_38 cf_lo_0 (by omega) (by omega) (by omega) (by omega) ?_
          obtain ⟨hh308, eh308⟩ : ∃ z : GH, z = hset hlo (B + 1) (aZ 100 (gup (gt) (k) (1))) := ⟨_, rfl⟩
          refine Go.hp eh308.symm ?_
          have fh308_0 : hh308.2 (B) = some (mO B ((p : Int)) (hf) (le) (fc) (pn) (rn) (hn) (qn)) := hs_n eh308 ne0 cg_lo_0
          have fh308_1 : hh308.2 (B + 3) = some (aI 1500 (gw)) := hs_n eh308 (ne4).s cg_lo_3
          have fh308_2 : hh308.2 (B + 1) = some (aZ 100 (gup (gt) (k) (1))) := hs_s eh308
          have fh308_3 : hh308.2 (B + 2) = some (aI 28700 (gn)) := hs_n eh308 (ne3).s cf_lo_1
          have fr308 : Fr [B + 1] h hh308 := Fr.w0 fr_lo (List.Mem.head _) eh308
          refine g_iconst dX10_keep_39 ?_
          refine g_istore_n (ls2 := [(2, .int (gI (0))), (1, .int (gI (k))), (0, .ref (B))]) dX10_keep_40 rfl (by decide) rfl ?_
          have lc : ∀ (kk : Nat) (c : Int) (hlc : GH), kk = (287 - c).toNat → Fr [B + 1] h hlc → hlc.2 (B + 1) = some (aZ 100 (gup (gt) (k) (1))) → hlc.2 (B + 2) = some (aI 28700 (cpy gn gw k c)) → (0 ≤ c) → (c ≤ 287) → Go N mX10_keep (fun v h1 => Fr [B + 1] h h1 ∧ ∃ w : Int, isK T w ∧ v = some (.int (gI w)) ∧ MP hp B h1 (putT T w F)) 0 0 hlc 41 [(2, .int (gI (c))), (1, .int (gI (k))), (0, .ref (B))] [] := by
            refine Go.ind (fun kk ih_lc => ?_)
            intro c hlc hkk_lc fr_lc cf_lc_0 cf_lc_1 hc0 hc1
            have cg_lc_0 : hlc.2 (B) = some (mO B ((p : Int)) (hf) (le) (fc) (pn) (rn) (hn) (qn)) := Fr.at0 fr_lc (Ni.c ⟨ne0, ne1⟩ (Ni.n _)) hm
            have cg_lc_3 : hlc.2 (B + 3) = some (aI 1500 (gw)) := Fr.at0 fr_lc (Ni.c ⟨(ne4).s, (ne5).s⟩ (Ni.n _)) hw3
            refine g_iload_n 0 dX10_keep_41 rfl ?_
            refine g_sipush dX10_keep_42 (by decide) ?_
            refine g_icmp_ge (tgt := 72) dX10_keep_45 rfl (by unfold gW; omega) (by unfold gW; omega) (fun c409 => ?_) (fun c409 => ?_)
            · skip
              refine g_iload_n 1 dX10_keep_72 rfl ?_
              exact g_iret dX10_keep_73 rfl ⟨fr_lc, k, Or.inr ⟨hk0, by omega, hTk, hE⟩, rfl, by
        have hc7 : c = 287 := by omega
        have e9 := cf_lc_1
        rw [hc7] at e9
        exact MP.put w3 hk0 (by omega) hB hN cf_lc_0 e9⟩
            · skip
              refine g_aload_n 2 dX10_keep_48 rfl ?_
              refine g_getf 2 dX10_keep_49 kX10 (by decide) fX10_13 cg_lc_0 rfl ?_
              refine g_sipush dX10_keep_52 (by decide) ?_
              refine g_iload_n 1 dX10_keep_55 rfl ?_
              refine g_imul dX10_keep_56 ?_
              refine g_iload_n 0 dX10_keep_57 rfl ?_
              refine g_iadd dX10_keep_58 ?_
              refine g_aload_n 2 dX10_keep_59 rfl ?_
              refine g_getf 3 dX10_keep_60 kX10 (by decide) fX10_17 cg_lc_0 rfl ?_
              refine g_iload_n 0 dX10_keep_63 rfl ?_
              refine g_iaload dX10_keep_64 cg_lc_3 (by omega) (by omega) (by omega) ?_
              refine g_iastore dX10_keep_65 cf_lc_1 (by omega) (by omega) (by omega) ?_
              obtain ⟨hh410, eh410⟩ : ∃ z : GH, z = hset hlc (B + 2) (aI 28700 (gup (cpy gn gw k c) (((287) * (k)) + (c)) ((gw) (c)))) := ⟨_, rfl⟩
              refine Go.hp eh410.symm ?_
              have fh410_0 : hh410.2 (B) = some (mO B ((p : Int)) (hf) (le) (fc) (pn) (rn) (hn) (qn)) := hs_n eh410 ne1 cg_lc_0
              have fh410_1 : hh410.2 (B + 3) = some (aI 1500 (gw)) := hs_n eh410 (ne5).s cg_lc_3
              have fh410_2 : hh410.2 (B + 1) = some (aZ 100 (gup (gt) (k) (1))) := hs_n eh410 ne3 cf_lc_0
              have fh410_3 : hh410.2 (B + 2) = some (aI 28700 (gup (cpy gn gw k c) (((287) * (k)) + (c)) ((gw) (c)))) := hs_s eh410
              have fr410 : Fr [B + 1] h hh410 := Fr.w1 fr_lc (List.Mem.head _) eh410
              refine g_iinc 0 (ls2 := [(2, .int (gI (c + 1))), (1, .int (gI (k))), (0, .ref (B))]) dX10_keep_66 rfl (by decide) rfl ?_
              refine g_goto (tgt := 41) dX10_keep_69 rfl ?_
              exact ih_lc _ (by omega) (c + 1) hh410 rfl fr410 fh410_2 (by rw [← cpy_s gn gw hc0]; exact fh410_3) (by omega) (by omega)
          exact lc _ (0) hh308 rfl fr308 fh308_2 (by rw [cpy_0]; exact fh308_3) (by omega) (by omega)
        · skip
          refine g_bipush dX10_keep_29 (by decide) ?_
          exact g_iret dX10_keep_31 rfl ⟨fr_lo, -5, Or.inl ⟨rfl, fun j j1 => hE j (by omega)⟩, rfl, gt, gn, cf_lo_0, cf_lo_1, fun l l0 l1 => by
      have e : putT T (-5) F l.toNat = T l.toNat := if_neg (by omega)
      rw [e]; exact w3 l l0 l1⟩
      · skip
        refine g_iinc 0 (ls2 := [(1, .int (gI (k + 1))), (0, .ref (B))]) dX10_keep_17 rfl (by decide) rfl ?_
        refine g_goto (tgt := 2) dX10_keep_20 rfl ?_
        exact ih_lo _ (by omega) (k + 1) hlo rfl fr_lo cf_lo_0 cf_lo_1 (by omega) (by omega) (fun j j1 => by
        rcases Int.lt_or_le (j : Int) k with z | z
        · exact hE j z
        · rw [show j = k.toNat by omega]
          rcases w3 k hk0 (by omega) with ⟨y1, y2⟩ | ⟨F, y1, y2⟩
          · omega
          · rw [y1]; simp)
  exact lo _ (0) h rfl (Fr.rf [B + 1] h) w1 w2 (by omega) (by omega) (fun j j1 => by omega)
set_option maxHeartbeats 4000000 in
set_option maxRecDepth 100000 in
theorem sM_isPlace (N : GN) (h : GH) (B p : Nat) (hp : prm p) (hp2 : p ≤ 65536) (hf le fc pn rn hn qn : Int) (T : PT p) (a : Int) (ha : gW a) (hm : h.2 B = some (mO B p hf le fc pn rn hn qn)) (hT : MP hp B h T) : Sp N yX10_isPlace mX10_isPlace 0 0 [.ref (B), .int (gI (a))] h (fun v h1 => h1 = h ∧ ((v = some (.int (gI 1)) ∧ 0 ≤ a ∧ a < 100 ∧ ∃ F, T a.toNat = some F) ∨ (v = some (.int (gI 0)) ∧ ¬ (0 ≤ a ∧ a < 100 ∧ ∃ F, T a.toNat = some F)))) := by
  refine Sp.of (by decide) rfl rfl (Nat.le_of_ble_eq_true rfl) ?_
  show Go N mX10_isPlace _ 0 0 h 0 [(0, .ref (B)), (1, .int (gI (a)))] []
  have hp1 := hp.1
  obtain ⟨gt, gn, w1, w2, w3⟩ := hT
  refine g_iload_n 1 dX10_isPlace_0 rfl ?_
  refine g_if_lt (tgt := 23) dX10_isPlace_1 rfl (by first | exact ha | (unfold gW; omega)) (fun c1 => ?_) (fun c1 => ?_)
  · skip
    refine g_iconst dX10_isPlace_23 ?_
    exact g_zret dX10_isPlace_24 rfl (by omega) ⟨rfl, Or.inr ⟨rfl, fun ⟨z1, z2, F, z3⟩ => by omega⟩⟩
  · skip
    refine g_iload_n 1 dX10_isPlace_4 rfl ?_
    refine g_bipush dX10_isPlace_5 (by decide) ?_
    refine g_icmp_ge (tgt := 23) dX10_isPlace_7 rfl (by first | exact ha | (unfold gW; omega)) (by first | exact ha | (unfold gW; omega)) (fun c2 => ?_) (fun c2 => ?_)
    · skip
      refine g_iconst dX10_isPlace_23 ?_
      exact g_zret dX10_isPlace_24 rfl (by omega) ⟨rfl, Or.inr ⟨rfl, fun ⟨z1, z2, F, z3⟩ => by omega⟩⟩
    · skip
      refine g_aload_n 0 dX10_isPlace_10 rfl ?_
      refine g_getf 1 dX10_isPlace_11 kX10 (by decide) fX10_7 hm rfl ?_
      refine g_iload_n 1 dX10_isPlace_14 rfl ?_
      refine g_baload dX10_isPlace_15 w1 (by omega) (by omega) (by omega) ?_
      have hgt : gt a = 0 ∨ gt a = 1 := by
        rcases w3 a (by omega) (by omega) with ⟨y1, y2⟩ | ⟨F, y1, y2, y3⟩
        · exact Or.inl y2
        · exact Or.inr y2
      refine g_if_eq (tgt := 23) dX10_isPlace_16 rfl (by first | exact ha | (unfold gW; omega)) (fun c3 => ?_) (fun c3 => ?_)
      · skip
        refine g_iconst dX10_isPlace_23 ?_
        exact g_zret dX10_isPlace_24 rfl (by omega) ⟨rfl, Or.inr ⟨rfl, fun ⟨z1, z2, F, z3⟩ => by
      rcases w3 a (by omega) (by omega) with ⟨y1, y2⟩ | ⟨G, y1, y2, y3⟩
      · rw [z3] at y1; exact absurd y1 (by simp)
      · omega⟩⟩
      · skip
        refine g_iconst dX10_isPlace_19 ?_
        refine g_goto (tgt := 24) dX10_isPlace_20 rfl ?_
        exact g_zret dX10_isPlace_24 rfl (by omega) ⟨rfl, Or.inl ⟨rfl, by
      rcases w3 a (by omega) (by omega) with ⟨y1, y2⟩ | ⟨F, y1, y2, y3⟩
      · omega
      · exact ⟨by omega, by omega, F, y1⟩⟩⟩
set_option maxHeartbeats 4000000 in
set_option maxRecDepth 100000 in
theorem sM_degreeX (N : GN) (h : GH) (B p : Nat) (hp : prm p) (hp2 : p ≤ 65536) (hf le fc pn rn hn qn : Int) (T : PT p) (F : Pxy p) (a : Int) (a0 : 0 ≤ a) (a1 : a < 100) (ha : T a.toNat = some F) (hm : h.2 B = some (mO B p hf le fc pn rn hn qn)) (hT : MP hp B h T) : Sp N yX10_degreeX mX10_degreeX 0 0 [.ref (B), .int (gI (a))] h (fun v h1 => h1 = h ∧ v = some (.int (gI (dX hp F)))) := by
  refine Sp.of (by decide) rfl rfl (Nat.le_of_ble_eq_true rfl) ?_
  show Go N mX10_degreeX _ 0 0 h 0 [(0, .ref (B)), (1, .int (gI (a)))] []
  have hp1 := hp.1
  obtain ⟨hB, gn, w2, hN⟩ := hT.at a0 a1 ha
  refine g_bipush dX10_degreeX_0 (by decide) ?_
  refine g_istore_n (ls2 := [(2, .int (gI (40))), (0, .ref (B)), (1, .int (gI (a)))]) dX10_degreeX_2 rfl (by decide) rfl ?_
  have lo : ∀ (kk : Nat) (e : Int) (hlo : GH), kk = (e + 1).toNat → Fr [] h hlo → (-1 ≤ e ∧ e ≤ 40) → (∀ m k, e < m → m ≤ 40 → 0 ≤ k → k < 7 → cy F k m = 0) → Go N mX10_degreeX (fun v h1 => h1 = h ∧ v = some (.int (gI (dX hp F)))) 0 0 hlo 3 [(2, .int (gI (e))), (0, .ref (B)), (1, .int (gI (a)))] [] := by
    refine Go.ind (fun kk ih_lo => ?_)
    intro e hlo hkk_lo fr_lo he hZ
    have cg_lo_0 : hlo.2 (B) = some (mO B ((p : Int)) (hf) (le) (fc) (pn) (rn) (hn) (qn)) := Fr.at0 fr_lo (Ni.n _) hm
    have cg_lo_1 : hlo.2 (B + 2) = some (aI 28700 (gn)) := Fr.at0 fr_lo (Ni.n _) w2
    refine g_iload_n 0 dX10_degreeX_3 rfl ?_
    refine g_if_lt (tgt := 43) dX10_degreeX_4 rfl (by unfold gW; omega) (fun c101 => ?_) (fun c101 => ?_)
    · skip
      refine g_iconst dX10_degreeX_43 ?_
      exact g_iret dX10_degreeX_44 rfl ⟨Fr.e0 fr_lo, by
        rw [dX_un hp (d := -1) ⟨fun j i hji => by
          have hjb : j ≤ 6 := by
            rcases Nat.lt_or_ge 6 j with z | z
            · exact absurd (hB j i (Or.inl z)) hji
            · exact z
          have hib : i ≤ 40 := by
            rcases Nat.lt_or_ge 40 i with z | z
            · exact absurd (hB j i (Or.inr z)) hji
            · exact z
          rcases Int.lt_or_le (-1 : Int) (i : Int) with z | z
          · exfalso
            have e9 := hZ i j (by omega) (by omega) (by omega) (by omega)
            rw [cy_0 hp (by omega) (by omega)] at e9
            exact hji e9
          · exact z, Or.inl (by omega)⟩]⟩
    · skip
      refine g_iconst dX10_degreeX_7 ?_
      refine g_istore_n (ls2 := [(3, .int (gI (0))), (2, .int (gI (e))), (0, .ref (B)), (1, .int (gI (a)))]) dX10_degreeX_8 rfl (by decide) rfl ?_
      have li : ∀ (kk : Nat) (i : Int) (hli : GH), kk = (7 - i).toNat → Fr [] h hli → (0 ≤ i) → (i ≤ 7) → (∀ k, 0 ≤ k → k < i → cy F k e = 0) → Go N mX10_degreeX (fun v h1 => h1 = h ∧ v = some (.int (gI (dX hp F)))) 0 0 hli 9 [(3, .int (gI (i))), (2, .int (gI (e))), (0, .ref (B)), (1, .int (gI (a)))] [] := by
        refine Go.ind (fun kk ih_li => ?_)
        intro i hli hkk_li fr_li hi0 hi1 hK
        have cg_li_0 : hli.2 (B) = some (mO B ((p : Int)) (hf) (le) (fc) (pn) (rn) (hn) (qn)) := Fr.at0 fr_li (Ni.n _) hm
        have cg_li_1 : hli.2 (B + 2) = some (aI 28700 (gn)) := Fr.at0 fr_li (Ni.n _) w2
        refine g_iload_n 0 dX10_degreeX_9 rfl ?_
        refine g_bipush dX10_degreeX_10 (by decide) ?_
        refine g_icmp_ge (tgt := 37) dX10_degreeX_12 rfl (by unfold gW; omega) (by unfold gW; omega) (fun c202 => ?_) (fun c202 => ?_)
        · skip
          refine g_iinc 1 (ls2 := [(2, .int (gI (e + (-1)))), (3, .int (gI (i))), (0, .ref (B)), (1, .int (gI (a)))]) dX10_degreeX_37 rfl (by decide) rfl ?_
          refine g_goto (tgt := 3) dX10_degreeX_40 rfl ?_
          refine Go.sub [0, 2, 3] rfl ?_
          exact ih_lo _ (by omega) (e + (-1)) hli rfl fr_li (by omega) (fun m k m0 m1 k0 k1 => by
        rcases Int.lt_or_le e m with z | z
        · exact hZ m k z m1 k0 k1
        · rw [show m = e by omega]; exact hK k k0 (by omega))
        · skip
          refine g_aload_n 2 dX10_degreeX_15 rfl ?_
          refine g_getf 2 dX10_degreeX_16 kX10 (by decide) fX10_13 cg_li_0 rfl ?_
          refine g_iload_n 3 dX10_degreeX_19 rfl ?_
          refine g_iload_n 1 dX10_degreeX_20 rfl ?_
          refine g_iload_n 0 dX10_degreeX_21 rfl ?_
          refine g_callS (nc2 := 0) (ns2 := 0) (As := [.int (gI (a)), .int (gI (e)), .int (gI (i))]) (st := [.ref (B + 2)]) rfl dX10_degreeX_22 okX10_cellOf lX10_99 stX10_cellOf (by decide) (by decide) rfl (Nat.le_of_ble_eq_true rfl) (sM_cellOf N _ (a) (e) (i)) (by omega) (by omega) (fun v203 hc203 q203 => ?_)
          obtain ⟨hq204, rfl⟩ := q203
          refine Go.nf (h' := hli) (st' := [.int (gI (287 * (a) + 7 * (e) + (i))), .ref (B + 2)]) hq204 rfl (Nat.le_refl _) (Nat.le_refl _) ?_
          refine g_iaload dX10_degreeX_25 cg_li_1 (by omega) (by omega) (by omega) ?_
          have hgv : gn (287 * a + 7 * e + i) = cy F i e := by
            have e9 := hN i e (by omega) (by omega) (by omega) (by omega)
            show gn (287 * a + 7 * e + i) = _
            rw [show 287 * a + 7 * e + i = 287 * a + (7 * e + i) by omega]; exact e9
          rw [hgv]
          have hcb := cy_in hp F i e
          refine g_if_eq (tgt := 31) dX10_degreeX_26 rfl (by unfold gW; omega) (fun c205 => ?_) (fun c205 => ?_)
          · skip
            have hz0 : cy F i e = 0 := by omega
            refine g_iinc 0 (ls2 := [(3, .int (gI (i + 1))), (2, .int (gI (e))), (0, .ref (B)), (1, .int (gI (a)))]) dX10_degreeX_31 rfl (by decide) rfl ?_
            refine g_goto (tgt := 9) dX10_degreeX_34 rfl ?_
            exact ih_li _ (by omega) (i + 1) hli rfl fr_li (by omega) (by omega) (fun k k0 k1 => by
        rcases Int.lt_or_le k i with z | z
        · exact hK k k0 z
        · rw [show k = i by omega]; exact hz0)
          · skip
            refine g_iload_n 1 dX10_degreeX_29 rfl ?_
            exact g_iret dX10_degreeX_30 rfl ⟨Fr.e0 fr_li, by
        have c_ : cy F i e ≠ 0 := by omega
        rw [dX_un hp (d := e) ⟨fun j i hji => by
          have hjb : j ≤ 6 := by
            rcases Nat.lt_or_ge 6 j with z | z
            · exact absurd (hB j i (Or.inl z)) hji
            · exact z
          have hib : i ≤ 40 := by
            rcases Nat.lt_or_ge 40 i with z | z
            · exact absurd (hB j i (Or.inr z)) hji
            · exact z
          rcases Int.lt_or_le e (i : Int) with z | z
          · exfalso
            have e9 := hZ i j z (by omega) (by omega) (by omega)
            rw [cy_0 hp (by omega) (by omega)] at e9
            exact hji e9
          · exact z, Or.inr ⟨i.toNat, e.toNat, (fun z => c_ ((cy_0 hp (by omega) (by omega)).mpr z)), by omega⟩⟩]⟩
      exact li _ (0) hlo rfl fr_lo (by omega) (by omega) (fun k k0 k1 => by omega)
  exact lo _ (40) h rfl (Fr.rf [] h) (by omega) (fun m k m0 m1 => by omega)
set_option maxHeartbeats 4000000 in
set_option maxRecDepth 100000 in
theorem sM_degreeY (N : GN) (h : GH) (B p : Nat) (hp : prm p) (hp2 : p ≤ 65536) (hf le fc pn rn hn qn : Int) (T : PT p) (F : Pxy p) (a : Int) (a0 : 0 ≤ a) (a1 : a < 100) (ha : T a.toNat = some F) (hm : h.2 B = some (mO B p hf le fc pn rn hn qn)) (hT : MP hp B h T) : Sp N yX10_degreeY mX10_degreeY 0 0 [.ref (B), .int (gI (a))] h (fun v h1 => h1 = h ∧ v = some (.int (gI (dY hp F)))) := by
  refine Sp.of (by decide) rfl rfl (Nat.le_of_ble_eq_true rfl) ?_
  show Go N mX10_degreeY _ 0 0 h 0 [(0, .ref (B)), (1, .int (gI (a)))] []
  have hp1 := hp.1
  obtain ⟨hB, gn, w2, hN⟩ := hT.at a0 a1 ha
  refine g_bipush dX10_degreeY_0 (by decide) ?_
  refine g_istore_n (ls2 := [(2, .int (gI (6))), (0, .ref (B)), (1, .int (gI (a)))]) dX10_degreeY_2 rfl (by decide) rfl ?_
  have lo : ∀ (kk : Nat) (e : Int) (hlo : GH), kk = (e + 1).toNat → Fr [] h hlo → (-1 ≤ e ∧ e ≤ 6) → (∀ m k, e < m → m ≤ 6 → 0 ≤ k → k < 41 → cy F m k = 0) → Go N mX10_degreeY (fun v h1 => h1 = h ∧ v = some (.int (gI (dY hp F)))) 0 0 hlo 3 [(2, .int (gI (e))), (0, .ref (B)), (1, .int (gI (a)))] [] := by
    refine Go.ind (fun kk ih_lo => ?_)
    intro e hlo hkk_lo fr_lo he hZ
    have cg_lo_0 : hlo.2 (B) = some (mO B ((p : Int)) (hf) (le) (fc) (pn) (rn) (hn) (qn)) := Fr.at0 fr_lo (Ni.n _) hm
    have cg_lo_1 : hlo.2 (B + 2) = some (aI 28700 (gn)) := Fr.at0 fr_lo (Ni.n _) w2
    refine g_iload_n 0 dX10_degreeY_3 rfl ?_
    refine g_if_lt (tgt := 43) dX10_degreeY_4 rfl (by unfold gW; omega) (fun c101 => ?_) (fun c101 => ?_)
    · skip
      refine g_iconst dX10_degreeY_43 ?_
      exact g_iret dX10_degreeY_44 rfl ⟨Fr.e0 fr_lo, by
        rw [dY_un hp (d := -1) ⟨fun j i hji => by
          have hjb : j ≤ 6 := by
            rcases Nat.lt_or_ge 6 j with z | z
            · exact absurd (hB j i (Or.inl z)) hji
            · exact z
          have hib : i ≤ 40 := by
            rcases Nat.lt_or_ge 40 i with z | z
            · exact absurd (hB j i (Or.inr z)) hji
            · exact z
          rcases Int.lt_or_le (-1 : Int) (j : Int) with z | z
          · exfalso
            have e9 := hZ j i (by omega) (by omega) (by omega) (by omega)
            rw [cy_0 hp (by omega) (by omega)] at e9
            exact hji e9
          · exact z, Or.inl (by omega)⟩]⟩
    · skip
      refine g_iconst dX10_degreeY_7 ?_
      refine g_istore_n (ls2 := [(3, .int (gI (0))), (2, .int (gI (e))), (0, .ref (B)), (1, .int (gI (a)))]) dX10_degreeY_8 rfl (by decide) rfl ?_
      have li : ∀ (kk : Nat) (i : Int) (hli : GH), kk = (41 - i).toNat → Fr [] h hli → (0 ≤ i) → (i ≤ 41) → (∀ k, 0 ≤ k → k < i → cy F e k = 0) → Go N mX10_degreeY (fun v h1 => h1 = h ∧ v = some (.int (gI (dY hp F)))) 0 0 hli 9 [(3, .int (gI (i))), (2, .int (gI (e))), (0, .ref (B)), (1, .int (gI (a)))] [] := by
        refine Go.ind (fun kk ih_li => ?_)
        intro i hli hkk_li fr_li hi0 hi1 hK
        have cg_li_0 : hli.2 (B) = some (mO B ((p : Int)) (hf) (le) (fc) (pn) (rn) (hn) (qn)) := Fr.at0 fr_li (Ni.n _) hm
        have cg_li_1 : hli.2 (B + 2) = some (aI 28700 (gn)) := Fr.at0 fr_li (Ni.n _) w2
        refine g_iload_n 0 dX10_degreeY_9 rfl ?_
        refine g_bipush dX10_degreeY_10 (by decide) ?_
        refine g_icmp_gt (tgt := 37) dX10_degreeY_12 rfl (by unfold gW; omega) (by unfold gW; omega) (fun c202 => ?_) (fun c202 => ?_)
        · skip
          refine g_iinc 1 (ls2 := [(2, .int (gI (e + (-1)))), (3, .int (gI (i))), (0, .ref (B)), (1, .int (gI (a)))]) dX10_degreeY_37 rfl (by decide) rfl ?_
          refine g_goto (tgt := 3) dX10_degreeY_40 rfl ?_
          refine Go.sub [0, 2, 3] rfl ?_
          exact ih_lo _ (by omega) (e + (-1)) hli rfl fr_li (by omega) (fun m k m0 m1 k0 k1 => by
        rcases Int.lt_or_le e m with z | z
        · exact hZ m k z m1 k0 k1
        · rw [show m = e by omega]; exact hK k k0 (by omega))
        · skip
          refine g_aload_n 2 dX10_degreeY_15 rfl ?_
          refine g_getf 2 dX10_degreeY_16 kX10 (by decide) fX10_13 cg_li_0 rfl ?_
          refine g_iload_n 3 dX10_degreeY_19 rfl ?_
          refine g_iload_n 0 dX10_degreeY_20 rfl ?_
          refine g_iload_n 1 dX10_degreeY_21 rfl ?_
          refine g_callS (nc2 := 0) (ns2 := 0) (As := [.int (gI (a)), .int (gI (i)), .int (gI (e))]) (st := [.ref (B + 2)]) rfl dX10_degreeY_22 okX10_cellOf lX10_99 stX10_cellOf (by decide) (by decide) rfl (Nat.le_of_ble_eq_true rfl) (sM_cellOf N _ (a) (i) (e)) (by omega) (by omega) (fun v203 hc203 q203 => ?_)
          obtain ⟨hq204, rfl⟩ := q203
          refine Go.nf (h' := hli) (st' := [.int (gI (287 * (a) + 7 * (i) + (e))), .ref (B + 2)]) hq204 rfl (Nat.le_refl _) (Nat.le_refl _) ?_
          refine g_iaload dX10_degreeY_25 cg_li_1 (by omega) (by omega) (by omega) ?_
          have hgv : gn (287 * a + 7 * i + e) = cy F e i := by
            have e9 := hN e i (by omega) (by omega) (by omega) (by omega)
            show gn (287 * a + 7 * i + e) = _
            rw [show 287 * a + 7 * i + e = 287 * a + (7 * i + e) by omega]; exact e9
          rw [hgv]
          have hcb := cy_in hp F e i
          refine g_if_eq (tgt := 31) dX10_degreeY_26 rfl (by unfold gW; omega) (fun c205 => ?_) (fun c205 => ?_)
          · skip
            have hz0 : cy F e i = 0 := by omega
            refine g_iinc 0 (ls2 := [(3, .int (gI (i + 1))), (2, .int (gI (e))), (0, .ref (B)), (1, .int (gI (a)))]) dX10_degreeY_31 rfl (by decide) rfl ?_
            refine g_goto (tgt := 9) dX10_degreeY_34 rfl ?_
            exact ih_li _ (by omega) (i + 1) hli rfl fr_li (by omega) (by omega) (fun k k0 k1 => by
        rcases Int.lt_or_le k i with z | z
        · exact hK k k0 z
        · rw [show k = i by omega]; exact hz0)
          · skip
            refine g_iload_n 1 dX10_degreeY_29 rfl ?_
            exact g_iret dX10_degreeY_30 rfl ⟨Fr.e0 fr_li, by
        have c_ : cy F e i ≠ 0 := by omega
        rw [dY_un hp (d := e) ⟨fun j i hji => by
          have hjb : j ≤ 6 := by
            rcases Nat.lt_or_ge 6 j with z | z
            · exact absurd (hB j i (Or.inl z)) hji
            · exact z
          have hib : i ≤ 40 := by
            rcases Nat.lt_or_ge 40 i with z | z
            · exact absurd (hB j i (Or.inr z)) hji
            · exact z
          rcases Int.lt_or_le e (j : Int) with z | z
          · exfalso
            have e9 := hZ j i z (by omega) (by omega) (by omega)
            rw [cy_0 hp (by omega) (by omega)] at e9
            exact hji e9
          · exact z, Or.inr ⟨e.toNat, i.toNat, (fun z => c_ ((cy_0 hp (by omega) (by omega)).mpr z)), by omega⟩⟩]⟩
      exact li _ (0) hlo rfl fr_lo (by omega) (by omega) (fun k k0 k1 => by omega)
  exact lo _ (6) h rfl (Fr.rf [] h) (by omega) (fun m k m0 m1 => by omega)
