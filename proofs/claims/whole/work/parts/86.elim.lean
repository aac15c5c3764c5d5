section
variable {p : Nat}
/-- Sylvester's own addresses; what its methods leave alone -/
def SF (s : Nat) (g : Int → Option Nat) (x : Nat) : Prop := (s ≤ x ∧ x < s + 6) ∨ ∃ (t : Int) (r : Nat), g t = some r ∧ (x = r ∨ x = r + 1)
def FSq (B s : Nat) (h : GH) (g : Int → Option Nat) (h1 : GH) (g1 : Int → Option Nat) : Prop := h.1 ≤ h1.1 ∧ (∀ (x : Nat) (e : GE), h.2 x = some e → ¬ SF s g x → (x < B + 33 ∨ B + 35 ≤ x) → h1.2 x = some e) ∧ ∀ x, SF s g1 x → SF s g x ∨ h.1 ≤ x
theorem FSq.rf (B s : Nat) (h : GH) (g : Int → Option Nat) : FSq B s h g h g := ⟨Nat.le_refl _, fun _ _ a _ _ => a, fun _ a => Or.inl a⟩
theorem FSq.tr {B s : Nat} {h h1 h2 : GH} {g g1 g2 : Int → Option Nat} (wf : ∀ (a : Nat) (e : GE), h.2 a = some e → a < h.1) (a : FSq B s h g h1 g1) (b : FSq B s h1 g1 h2 g2) : FSq B s h g h2 g2 := by
  refine ⟨Nat.le_trans a.1 b.1, fun x e hx hn hb => b.2.1 x e (a.2.1 x e hx hn hb) (fun q => ?_) hb, fun x hx => ?_⟩
  · rcases a.2.2 x q with z | z
    · exact hn z
    · have := wf x e hx; omega
  · rcases b.2.2 x hx with z | z
    · exact a.2.2 x z
    · have := a.1; exact Or.inr (by omega)
theorem FSq.of {B s : Nat} {L : List Nat} {h h1 : GH} {g : Int → Option Nat} (f : Fr L h h1) (hL : ∀ x ∈ L, (SF s g x ∧ SF s g (x + 1)) ∨ x = B + 33) : FSq B s h g h1 g := by
  refine ⟨Nat.le_of_eq f.1.symm, fun x e hx hn hb => f.at0 (fun y hy => ?_) hx, fun _ a => Or.inl a⟩
  rcases hL y hy with ⟨z1, z2⟩ | z
  · exact ⟨fun e => hn (e ▸ z1), fun e => hn (e ▸ z2)⟩
  · unfold NE; omega
theorem sf_n {B s : Nat} {g : Int → Option Nat} : ∀ x ∈ ([] : List Nat), (SF s g x ∧ SF s g (x + 1)) ∨ x = B + 33 := fun _ h => absurd h (List.not_mem_nil)
theorem sf_s {B s a : Nat} {g : Int → Option Nat} {L : List Nat} (h : s ≤ a ∧ a + 2 ≤ s + 6) (t : ∀ x ∈ L, (SF s g x ∧ SF s g (x + 1)) ∨ x = B + 33) : ∀ x ∈ a :: L, (SF s g x ∧ SF s g (x + 1)) ∨ x = B + 33 := fun x hx => by
  rcases List.mem_cons.mp hx with z | z
  · rw [z]; exact Or.inl ⟨Or.inl (by omega), Or.inl (by omega)⟩
  · exact t x z
theorem sf_r {B s a : Nat} {i : Int} {g : Int → Option Nat} {L : List Nat} (h : g i = some a) (t : ∀ x ∈ L, (SF s g x ∧ SF s g (x + 1)) ∨ x = B + 33) : ∀ x ∈ a :: L, (SF s g x ∧ SF s g (x + 1)) ∨ x = B + 33 := fun x hx => by
  rcases List.mem_cons.mp hx with z | z
  · rw [z]; exact Or.inl ⟨Or.inr ⟨i, a, h, Or.inl rfl⟩, Or.inr ⟨i, a, h, Or.inr rfl⟩⟩
  · exact t x z
theorem sf_b {B s a : Nat} {g : Int → Option Nat} {L : List Nat} (h : a = B + 33) (t : ∀ x ∈ L, (SF s g x ∧ SF s g (x + 1)) ∨ x = B + 33) : ∀ x ∈ a :: L, (SF s g x ∧ SF s g (x + 1)) ∨ x = B + 33 := fun x hx => by
  rcases List.mem_cons.mp hx with z | z
  · rw [z]; exact Or.inr h
  · exact t x z
/-- rows i and j changed, as far as column c -/
def swG (g : Int → Option Nat) (sz i j c : Int) : Int → Option Nat := fun t => if t / sz = i ∧ t % sz < c then g (j * sz + t % sz) else if t / sz = j ∧ t % sz < c then g (i * sz + t % sz) else g t
theorem ix_div {i k sz : Int} (k0 : 0 ≤ k) (k1 : k < sz) : (i * sz + k) / sz = i ∧ (i * sz + k) % sz = k := by
  constructor
  · rw [Int.add_comm, Int.add_mul_ediv_right _ _ (by omega), Int.ediv_eq_zero_of_lt k0 k1, Int.zero_add]
  · rw [Int.add_comm, Int.add_mul_emod_self_right, Int.emod_eq_of_lt k0 k1]
theorem swG_0 (g : Int → Option Nat) {sz : Int} (hs : 0 < sz) (i j : Int) : swG g sz i j 0 = g := funext fun t => by
  have := Int.emod_nonneg t (show sz ≠ 0 by omega)
  unfold swG
  rw [if_neg (by omega), if_neg (by omega)]
theorem swG_at (g : Int → Option Nat) {sz i j c a : Int} (c0 : 0 ≤ c) (c1 : c < sz) : swG g sz i j c (a * sz + c) = g (a * sz + c) := by
  have := ix_div (i := a) c0 c1
  unfold swG
  rw [this.1, this.2, if_neg (by omega), if_neg (by omega)]
theorem swG_s (g : Int → Option Nat) {sz i j c : Int} (c0 : 0 ≤ c) (c1 : c < sz) (hij : i ≠ j) : gup (gup (swG g sz i j c) (i * sz + c) (g (j * sz + c))) (j * sz + c) (g (i * sz + c)) = swG g sz i j (c + 1) := funext fun t => by
  have hm := Int.emod_nonneg t (show sz ≠ 0 by omega)
  have ht : t / sz * sz + t % sz = t := by
    have := Int.mul_ediv_add_emod t sz
    rw [Int.mul_comm] at this
    exact this
  unfold gup
  by_cases z : t = j * sz + c
  · rw [if_pos z]
    have e := ix_div (i := j) c0 c1
    unfold swG
    rw [z, e.1, e.2, if_neg (by omega), if_pos (by omega)]
  · rw [if_neg z]
    by_cases y : t = i * sz + c
    · rw [if_pos y]
      have e := ix_div (i := i) c0 c1
      unfold swG
      rw [y, e.1, e.2, if_pos (by omega)]
    · rw [if_neg y]
      unfold swG
      have h1 : t / sz = i → t % sz ≠ c := fun e1 e2 => y (by rw [← ht, e1, e2])
      have h2 : t / sz = j → t % sz ≠ c := fun e1 e2 => z (by rw [← ht, e1, e2])
      by_cases x : t / sz = i ∧ t % sz < c
      · rw [if_pos x, if_pos (by omega)]
      · have x2 : ¬ (t / sz = i ∧ t % sz < c + 1) := fun q => x ⟨q.1, by have := h1 q.1; omega⟩
        rw [if_neg x, if_neg x2]
        by_cases u : t / sz = j ∧ t % sz < c
        · have u2 : t / sz = j ∧ t % sz < c + 1 := by omega
          rw [if_pos u, if_pos u2]
        · have u2 : ¬ (t / sz = j ∧ t % sz < c + 1) := fun q => u ⟨q.1, by have := h2 q.1; omega⟩
          rw [if_neg u, if_neg u2]
/-- the swapped rows' pictures -/
theorem LSq.sw {hp : prm p} {s : Nat} {h h1 : GH} {g : Int → Option Nat} {sz w c : Int} {C : Int → Int → Px p} (hs : 0 < sz) (hw : LSq hp s h g sz C) (w0 : 0 ≤ w ∧ w < sz) (c0 : 0 ≤ c ∧ c < sz) (hwc : w ≠ c) (f : Fr [s] h h1) (a1 : h1.2 (s + 1) = some (aR "PolyWork$Row" 144 (swG g sz w c sz))) : LSq hp s h1 (swG g sz w c sz) sz (swC C w c sz) ∧ ∀ x, SF s (swG g sz w c sz) x → SF s g x := by
  -- the index that a place's row comes from
  have src : ∀ t : Int, ∃ u : Int, swG g sz w c sz t = g u ∧ (u = if t / sz = w then c * sz + t % sz else if t / sz = c then w * sz + t % sz else t) := fun t => by
    have hm := Int.emod_lt_of_pos t hs
    unfold swG
    by_cases z : t / sz = w
    · exact ⟨c * sz + t % sz, by rw [if_pos ⟨z, hm⟩], by rw [if_pos z]⟩
    · by_cases y : t / sz = c
      · exact ⟨w * sz + t % sz, by rw [if_neg (fun q => z q.1), if_pos ⟨y, hm⟩], by rw [if_neg z, if_pos y]⟩
      · exact ⟨t, by rw [if_neg (fun q => z q.1), if_neg (fun q => y q.1)], by rw [if_neg z, if_neg y]⟩
  have inj : ∀ t u : Int, t ≠ u → (if t / sz = w then c * sz + t % sz else if t / sz = c then w * sz + t % sz else t) ≠ (if u / sz = w then c * sz + u % sz else if u / sz = c then w * sz + u % sz else u) := fun t u htu => by
    have hm := Int.emod_lt_of_pos t hs
    have hm0 := Int.emod_nonneg t (show sz ≠ 0 by omega)
    have hn := Int.emod_lt_of_pos u hs
    have hn0 := Int.emod_nonneg u (show sz ≠ 0 by omega)
    have ht : t / sz * sz + t % sz = t := by
      have := Int.mul_ediv_add_emod t sz
      rw [Int.mul_comm] at this
      exact this
    have hu : u / sz * sz + u % sz = u := by
      have := Int.mul_ediv_add_emod u sz
      rw [Int.mul_comm] at this
      exact this
    have key : ∀ x : Int, (x % sz = x % sz) → (if x / sz = w then c * sz + x % sz else if x / sz = c then w * sz + x % sz else x) = (if x / sz = w then c else if x / sz = c then w else x / sz) * sz + x % sz := fun x _ => by
      have hx : x / sz * sz + x % sz = x := by
        have := Int.mul_ediv_add_emod x sz
        rw [Int.mul_comm] at this
        exact this
      split
      · rfl
      · split
        · rfl
        · exact hx.symm
    rw [key t rfl, key u rfl]
    intro e
    have e2 := ix_inj hm0 hm hn0 hn e
    apply htu
    have e3 : t / sz = u / sz := by
      have e4 := e2.1
      by_cases a1 : t / sz = w
      · rw [if_pos a1] at e4
        by_cases b1 : u / sz = w
        · omega
        · rw [if_neg b1] at e4
          by_cases b2 : u / sz = c
          · rw [if_pos b2] at e4; omega
          · rw [if_neg b2] at e4; omega
      · rw [if_neg a1] at e4
        by_cases a2 : t / sz = c
        · rw [if_pos a2] at e4
          by_cases b1 : u / sz = w
          · rw [if_pos b1] at e4; omega
          · rw [if_neg b1] at e4
            by_cases b2 : u / sz = c
            · omega
            · rw [if_neg b2] at e4; omega
        · rw [if_neg a2] at e4
          by_cases b1 : u / sz = w
          · rw [if_pos b1] at e4; omega
          · rw [if_neg b1] at e4
            by_cases b2 : u / sz = c
            · rw [if_pos b2] at e4; omega
            · rw [if_neg b2] at e4; omega
    rw [← ht, ← hu, e3, e2.2]
  have apr : ∀ (t : Int) (r : Nat), g t = some r → Ai r [s] := fun t r hr => Ai.c (by have := (hw.1.2.1 t r hr).1; unfold AP; omega) (Ai.n _)
  refine ⟨⟨⟨a1, fun t r hr => ?_, fun t u r q htu hr hq => ?_⟩, fun i k i0 i1 k0 k1 => ?_⟩, fun x hx => ?_⟩
  · obtain ⟨u, e, _⟩ := src t
    rw [e] at hr
    exact ⟨(hw.1.2.1 u r hr).1, (hw.1.2.1 u r hr).2.fr f (apr u r hr)⟩
  · obtain ⟨v, e, ev⟩ := src t
    obtain ⟨v2, e2, ev2⟩ := src u
    rw [e] at hr
    rw [e2] at hq
    exact hw.1.2.2 v v2 r q (by rw [ev, ev2]; exact inj t u htu) hr hq
  · have e := ix_div (i := i) k0 k1
    unfold swG swC
    rw [e.1, e.2, if_pos k1]
    have key : ∀ x : Int, 0 ≤ x → x < sz → ∃ r, g (x * sz + k) = some r ∧ RP hp 84 h1 r (C x k) := fun x x0 x1 => by
      obtain ⟨r, hr, hR⟩ := hw.2 x k x0 x1 k0 k1
      exact ⟨r, hr, hR.fr f (apr _ r hr)⟩
    by_cases z : i = w
    · rw [if_pos ⟨z, k1⟩, if_pos z]; exact key c c0.1 c0.2
    · rw [if_neg (fun q => z q.1), if_neg z]
      by_cases y : i = c
      · rw [if_pos ⟨y, k1⟩, if_pos y]; exact key w w0.1 w0.2
      · rw [if_neg (fun q => y q.1), if_neg y]; exact key i i0 i1
  · rcases hx with z | ⟨t, r, hr, hx⟩
    · exact Or.inl z
    · obtain ⟨u, e, _⟩ := src t
      rw [e] at hr
      exact Or.inr ⟨u, r, hr, hx⟩
end
set_option maxHeartbeats 4000000 in
set_option maxRecDepth 100000 in
theorem sS_swapRows (N : GN) (h : GH) (B s p : Nat) (hp : prm p) (sz w c : Int) (hsz : 1 ≤ sz ∧ sz ≤ 12) (hw : 0 ≤ w ∧ w < sz) (hc : 0 ≤ c ∧ c < sz) (hwc : w ≠ c) (g : Int → Option Nat) (C : Int → Int → Px p) (hso : h.2 s = some (sO B s sz)) (hls : LSq hp s h g sz C) : Sp N yX7_swapRows mX7_swapRows 0 0 [.ref (s), .int (gI (w)), .int (gI (c))] h (fun v h1 => v = none ∧ Fr [s] h h1 ∧ h1.2 (s + 1) = some (aR "PolyWork$Row" 144 (swG g sz w c sz)) ∧ h1.2 s = some (sO B s sz)) := by
  refine Sp.of (by decide) rfl rfl (Nat.le_of_ble_eq_true rfl) ?_
  show Go N mX7_swapRows _ 0 0 h 0 [(0, .ref (s)), (1, .int (gI (w))), (2, .int (gI (c)))] []
  refine g_iconst dX7_swapRows_0 ?_
  refine g_istore_n (ls2 := [(3, .int (gI (0))), (0, .ref (s)), (1, .int (gI (w))), (2, .int (gI (c)))]) dX7_swapRows_1 rfl (by decide) rfl ?_
  have lo : ∀ (kk : Nat) (k : Int) (hlo : GH), kk = (12 - k).toNat → Fr [s] h hlo → hlo.2 (s) = some (oB 7 [.ref (B + 1), .ref (B + 7), .ref (s + 1), .ref (s + 2), .ref (s + 4), .ref (s + 6), .int (gI (sz))]) → hlo.2 (s + 1) = some (aR "PolyWork$Row" 144 (swG g sz w c k)) → (0 ≤ k ∧ k ≤ sz) → Go N mX7_swapRows (fun v h1 => v = none ∧ Fr [s] h h1 ∧ h1.2 (s + 1) = some (aR "PolyWork$Row" 144 (swG g sz w c sz)) ∧ h1.2 s = some (sO B s sz)) 0 0 hlo 2 [(3, .int (gI (k))), (0, .ref (s)), (1, .int (gI (w))), (2, .int (gI (c)))] [] := by
    refine Go.ind (fun kk ih_lo => ?_)
    intro k hlo hkk_lo fr_lo cf_lo_0 cf_lo_1 hk
    refine g_iload_n 0 dX7_swapRows_2 rfl ?_
    refine g_aload_n 1 dX7_swapRows_3 rfl ?_
    refine g_getf 6 dX7_swapRows_4 kX7 (by decide) fX7_42 cf_lo_0 rfl ?_
    refine g_icmp_ge (tgt := 68) dX7_swapRows_7 rfl (by first | assumption | (unfold gW; omega) | (unfold gW; split <;> omega)) (by first | assumption | (unfold gW; omega) | (unfold gW; split <;> omega)) (fun c101 => ?_) (fun c101 => ?_)
    · skip
      exact g_vret dX7_swapRows_68 rfl ⟨rfl, fr_lo, by
                                                                      have hk9 : k = sz := by omega
                                                                      have e9 := cf_lo_1
                                                                      rw [hk9] at e9
                                                                      exact e9, cf_lo_0⟩
    · skip
      obtain ⟨r1, hg1, hP1⟩ := hls.2 w k hw.1 hw.2 hk.1 (by omega)
      obtain ⟨r2, hg2, hP2⟩ := hls.2 c k hc.1 hc.2 hk.1 (by omega)
      have hb1 := ix_bd hw.1 hw.2 hk.1 (show k < sz by omega) hsz.2
      have hb2 := ix_bd hc.1 hc.2 hk.1 (show k < sz by omega) hsz.2
      have lr1 := (hls.1.2.1 _ r1 hg1).1
      have lr2 := (hls.1.2.1 _ r2 hg2).1
      have ho1 : hlo.2 r1 = some (oB 5 [.ref (r1 + 1), .int (gI (dgi hp (C w k)))]) := Fr.at0 fr_lo (Ni.c ⟨show NE r1 s by unfold NE; omega, show NE r1 (s + 1) by unfold NE; omega⟩ (Ni.n _)) hP1.o
      have ho2 : hlo.2 r2 = some (oB 5 [.ref (r2 + 1), .int (gI (dgi hp (C c k)))]) := Fr.at0 fr_lo (Ni.c ⟨show NE r2 s by unfold NE; omega, show NE r2 (s + 1) by unfold NE; omega⟩ (Ni.n _)) hP2.o
      refine g_iload_n 2 dX7_swapRows_10 rfl ?_
      refine g_aload_n 1 dX7_swapRows_11 rfl ?_
      refine g_getf 6 dX7_swapRows_12 kX7 (by decide) fX7_42 cf_lo_0 rfl ?_
      refine g_imul dX7_swapRows_15 ?_
      refine g_iload_n 0 dX7_swapRows_16 rfl ?_
      refine g_iadd dX7_swapRows_17 ?_
      refine g_istore (ls2 := [(4, .int (gI (((w) * (sz)) + (k)))), (3, .int (gI (k))), (0, .ref (s)), (1, .int (gI (w))), (2, .int (gI (c)))]) dX7_swapRows_18 (by decide) rfl ?_
      refine g_iload_n 4 dX7_swapRows_20 rfl ?_
      refine g_aload_n 2 dX7_swapRows_21 rfl ?_
      refine g_getf 6 dX7_swapRows_22 kX7 (by decide) fX7_42 cf_lo_0 rfl ?_
      refine g_imul dX7_swapRows_25 ?_
      refine g_iload_n 1 dX7_swapRows_26 rfl ?_
      refine g_iadd dX7_swapRows_27 ?_
      refine g_istore (ls2 := [(5, .int (gI (((c) * (sz)) + (k)))), (4, .int (gI (((w) * (sz)) + (k)))), (3, .int (gI (k))), (0, .ref (s)), (1, .int (gI (w))), (2, .int (gI (c)))]) dX7_swapRows_28 (by decide) rfl ?_
      refine g_aload_n 3 dX7_swapRows_30 rfl ?_
      refine g_getf 2 dX7_swapRows_31 kX7 (by decide) fX7_11 cf_lo_0 rfl ?_
      refine g_iload 1 dX7_swapRows_34 rfl ?_
      refine g_aaload dX7_swapRows_36 (by decide) cf_lo_1 (by omega) (by omega) (by first | decide | omega) ?_
      rw [swG_at g hk.1 (show k < sz by omega), hg1]
      refine g_astore (ls2 := [(6, .ref (r1)), (5, .int (gI (((c) * (sz)) + (k)))), (4, .int (gI (((w) * (sz)) + (k)))), (3, .int (gI (k))), (0, .ref (s)), (1, .int (gI (w))), (2, .int (gI (c)))]) dX7_swapRows_37 (by decide) rfl ?_
      refine g_aload_n 4 dX7_swapRows_39 rfl ?_
      refine g_getf 2 dX7_swapRows_40 kX7 (by decide) fX7_11 cf_lo_0 rfl ?_
      refine g_iload 2 dX7_swapRows_43 rfl ?_
      refine g_aload_n 4 dX7_swapRows_45 rfl ?_
      refine g_getf 2 dX7_swapRows_46 kX7 (by decide) fX7_11 cf_lo_0 rfl ?_
      refine g_iload 1 dX7_swapRows_49 rfl ?_
      refine g_aaload dX7_swapRows_51 (by decide) cf_lo_1 (by omega) (by omega) (by first | decide | omega) ?_
      rw [swG_at g hk.1 (show k < sz by omega), hg2]
      refine g_aastore dX7_swapRows_52 (by decide) kX5 cf_lo_1 ho2 (by omega) (by omega) (by first | decide | omega) ?_
      obtain ⟨hh102, eh102⟩ : ∃ z : GH, z = hset hlo (s + 1) (aR "PolyWork$Row" 144 (gup (swG g sz w c k) (((w) * (sz)) + (k)) (some (r2)))) := ⟨_, rfl⟩
      refine Go.hp eh102.symm ?_
      have fh102_0 : hh102.2 (s) = some (oB 7 [.ref (B + 1), .ref (B + 7), .ref (s + 1), .ref (s + 2), .ref (s + 4), .ref (s + 6), .int (gI (sz))]) := hs_n eh102 (show NE (s) (s + 1) by unfold NE; omega) cf_lo_0
      have fh102_1 : hh102.2 (s + 1) = some (aR "PolyWork$Row" 144 (gup (swG g sz w c k) (((w) * (sz)) + (k)) (some (r2)))) := hs_s eh102
      have fh102_2 : hh102.2 (r1) = some (oB 5 [.ref (r1 + 1), .int (gI (dgi hp (C w k)))]) := hs_n eh102 (show NE (r1) (s + 1) by unfold NE; omega) ho1
      have fh102_3 : hh102.2 (r2) = some (oB 5 [.ref (r2 + 1), .int (gI (dgi hp (C c k)))]) := hs_n eh102 (show NE (r2) (s + 1) by unfold NE; omega) ho2
      have fr102 : Fr [s] h hh102 := Fr.w1 fr_lo (List.Mem.head _) eh102
      refine g_aload_n 4 dX7_swapRows_53 rfl ?_
      refine g_getf 2 dX7_swapRows_54 kX7 (by decide) fX7_11 fh102_0 rfl ?_
      refine g_iload 1 dX7_swapRows_57 rfl ?_
      refine g_aload 0 dX7_swapRows_59 rfl ?_
      refine g_aastore dX7_swapRows_61 (by decide) kX5 fh102_1 fh102_2 (by omega) (by omega) (by first | decide | omega) ?_
      obtain ⟨hh103, eh103⟩ : ∃ z : GH, z = hset hh102 (s + 1) (aR "PolyWork$Row" 144 (gup (gup (swG g sz w c k) (((w) * (sz)) + (k)) (some (r2))) (((c) * (sz)) + (k)) (some (r1)))) := ⟨_, rfl⟩
      refine Go.hp eh103.symm ?_
      have fh103_0 : hh103.2 (s) = some (oB 7 [.ref (B + 1), .ref (B + 7), .ref (s + 1), .ref (s + 2), .ref (s + 4), .ref (s + 6), .int (gI (sz))]) := hs_n eh103 (show NE (s) (s + 1) by unfold NE; omega) fh102_0
      have fh103_1 : hh103.2 (s + 1) = some (aR "PolyWork$Row" 144 (gup (gup (swG g sz w c k) (((w) * (sz)) + (k)) (some (r2))) (((c) * (sz)) + (k)) (some (r1)))) := hs_s eh103
      have fh103_2 : hh103.2 (r1) = some (oB 5 [.ref (r1 + 1), .int (gI (dgi hp (C w k)))]) := hs_n eh103 (show NE (r1) (s + 1) by unfold NE; omega) fh102_2
      have fh103_3 : hh103.2 (r2) = some (oB 5 [.ref (r2 + 1), .int (gI (dgi hp (C c k)))]) := hs_n eh103 (show NE (r2) (s + 1) by unfold NE; omega) fh102_3
      have fr103 : Fr [s] h hh103 := Fr.w1 fr102 (List.Mem.head _) eh103
      refine g_iinc 3 (ls2 := [(3, .int (gI (k + 1))), (6, .ref (r1)), (5, .int (gI (((c) * (sz)) + (k)))), (4, .int (gI (((w) * (sz)) + (k)))), (0, .ref (s)), (1, .int (gI (w))), (2, .int (gI (c)))]) dX7_swapRows_62 rfl (by decide) rfl ?_
      refine g_goto (tgt := 2) dX7_swapRows_65 rfl ?_
      refine Go.sub [0, 4, 5, 6] rfl ?_
      exact ih_lo _ (by omega) (k + 1) hh103 rfl fr103 fh103_0 (by rw [← swG_s g hk.1 (by omega) hwc, hg1, hg2]; exact fh103_1) (by omega)
  exact lo _ (0) h rfl (Fr.rf [s] h) hso (by rw [swG_0 g (by omega)]; exact hls.1.1) (by omega)
set_option maxHeartbeats 4000000 in
set_option maxRecDepth 100000 in
theorem sS_eliminate (N : GN) (h : GH) (B s bA nb p : Nat) (hp : prm p) (hp2 : p ≤ 65536) (sz k : Int) (hsz : 1 ≤ sz ∧ sz ≤ 12) (hk : 0 ≤ k ∧ k + 1 < sz) (hBs : B + 58 ≤ s) (lb : s + 6 ≤ bA) (g : Int → Option Nat) (C : Int → Int → Px p) (A : Nat → Nat → Px p) (hI : barI hp sz.toNat k.toNat A) (hI3 : barI hp sz.toNat (k + 1).toNat A) (hC : ∀ x y, k ≤ x → x < sz → k ≤ y → y < sz → C x y = mqI hp A k x y) (hap : ∀ (i j : Int) (r : Nat), k < i → i < sz → k < j → j < sz → g (i * sz + j) = some r → AP bA r) (hso : h.2 s = some (sO B s sz)) (hth : h.2 (B + 7) = some (oB 2 [.ref (B + 1), .ref (B + 8), .ref (B + 10), .ref (B + 12), .ref (B + 14), .ref (B + 16), .ref (B + 18), .ref (B + 20), .ref (B + 22)])) (hfl : h.2 (B + 1) = some (oB 1 [.int (gI ((p : Int)))])) (hls : LSq hp s h g sz C) (h2 : RA 160 h (s + 2)) (h4 : RA 160 h (s + 4)) (hbA : RP hp nb h bA (pvt (pR hp) A k.toNat)) (h33 : RA 84 h (B + 33)) : Sp N yX7_eliminate mX7_eliminate 0 0 [.ref (s), .int (gI (k)), .ref (bA)] h (fun v h1 => v = none ∧ FSq B s h g h1 g ∧ ∃ C2, LSq hp s h1 g sz C2 ∧ (∀ x y, k ≤ x → x < sz → k ≤ y → y < sz → C2 x y = if k < x ∧ k < y then mqI hp A (k + 1) x y else mqI hp A k x y) ∧ RA 160 h1 (s + 2) ∧ RA 160 h1 (s + 4) ∧ RP hp nb h1 bA (pvt (pR hp) A k.toNat) ∧ h1.2 s = some (sO B s sz) ∧ h1.2 (B + 7) = some (oB 2 [.ref (B + 1), .ref (B + 8), .ref (B + 10), .ref (B + 12), .ref (B + 14), .ref (B + 16), .ref (B + 18), .ref (B + 20), .ref (B + 22)]) ∧ h1.2 (B + 1) = some (oB 1 [.int (gI ((p : Int)))]) ∧ RA 84 h1 (B + 33)) := by
  refine Sp.of (by decide) rfl rfl (Nat.le_of_ble_eq_true rfl) ?_
  show Go N mX7_eliminate _ 0 0 h 0 [(0, .ref (s)), (1, .int (gI (k))), (2, .ref (bA))] []
  refine Go.wf (fun wf => ?_)
  have hp1 := hp.1
  have hm2 : ∀ x y, k ≤ x → x < sz → k ≤ y → y < sz → po (fR hp) (mqI hp A k x y) ∧ dgi hp (mqI hp A k x y) < 80 := fun i q i0 i1 q0 q1 => mqI_po hp hI (by omega) hk.1 (by omega) i1 (by omega) q1
  have hm3 : ∀ x y, 0 ≤ x → x < sz → 0 ≤ y → y < sz → po (fR hp) (mqI hp A (k + 1) x y) ∧ dgi hp (mqI hp A (k + 1) x y) < 80 := fun i q i0 i1 q0 q1 => mqI_po hp hI3 (by omega) (by omega) i0 i1 q0 q1
  have hpk0 := dgi_nz hp (pvt_po hp hI.1 hI.2.1) hI.2.2.1
  refine g_iload_n 1 dX7_eliminate_0 rfl ?_
  refine g_iconst dX7_eliminate_1 ?_
  refine g_iadd dX7_eliminate_2 ?_
  refine g_istore_n (ls2 := [(3, .int (gI ((k) + (1)))), (0, .ref (s)), (1, .int (gI (k))), (2, .ref (bA))]) dX7_eliminate_3 rfl (by decide) rfl ?_
  have l1 : ∀ (kk : Nat) (i2 : Int) (C3a : Int → Int → Px p) (hl1 : GH), kk = (12 - i2).toNat → FSq B s h g hl1 g → hl1.2 (s) = some (oB 7 [.ref (B + 1), .ref (B + 7), .ref (s + 1), .ref (s + 2), .ref (s + 4), .ref (s + 6), .int (gI (sz))]) → hl1.2 (B + 7) = some (oB 2 [.ref (B + 1), .ref (B + 8), .ref (B + 10), .ref (B + 12), .ref (B + 14), .ref (B + 16), .ref (B + 18), .ref (B + 20), .ref (B + 22)]) → hl1.2 (B + 1) = some (oB 1 [.int (gI ((p : Int)))]) → LSq hp s hl1 (g) sz (C3a) → RA 160 hl1 (s + 2) → RA 160 hl1 (s + 4) → RP hp nb hl1 (bA) (pvt (pR hp) A k.toNat) → RA 84 hl1 (B + 33) → (k + 1 ≤ i2 ∧ i2 ≤ sz) → (∀ x y, k ≤ x → x < sz → k ≤ y → y < sz → C3a x y = if k < x ∧ k < y ∧ (x < i2 ) then mqI hp A (k + 1) x y else mqI hp A k x y) → Go N mX7_eliminate (fun v h1 => v = none ∧ FSq B s h g h1 g ∧ ∃ C2, LSq hp s h1 g sz C2 ∧ (∀ x y, k ≤ x → x < sz → k ≤ y → y < sz → C2 x y = if k < x ∧ k < y then mqI hp A (k + 1) x y else mqI hp A k x y) ∧ RA 160 h1 (s + 2) ∧ RA 160 h1 (s + 4) ∧ RP hp nb h1 bA (pvt (pR hp) A k.toNat) ∧ h1.2 s = some (sO B s sz) ∧ h1.2 (B + 7) = some (oB 2 [.ref (B + 1), .ref (B + 8), .ref (B + 10), .ref (B + 12), .ref (B + 14), .ref (B + 16), .ref (B + 18), .ref (B + 20), .ref (B + 22)]) ∧ h1.2 (B + 1) = some (oB 1 [.int (gI ((p : Int)))]) ∧ RA 84 h1 (B + 33)) 0 0 hl1 4 [(3, .int (gI (i2))), (0, .ref (s)), (1, .int (gI (k))), (2, .ref (bA))] [] := by
    refine Go.ind (fun kk ih_l1 => ?_)
    intro i2 C3a hl1 hkk_l1 fr_l1 cf_l1_0 cf_l1_1 cf_l1_2 cr_l1_0 cr_l1_1 cr_l1_2 cr_l1_3 cr_l1_4 hi2 hEa
    refine g_iload_n 0 dX7_eliminate_4 rfl ?_
    refine g_aload_n 1 dX7_eliminate_5 rfl ?_
    refine g_getf 6 dX7_eliminate_6 kX7 (by decide) fX7_42 cf_l1_0 rfl ?_
    refine g_icmp_ge (tgt := 108) dX7_eliminate_9 rfl (by first | assumption | (unfold gW; omega) | (unfold gW; split <;> omega)) (by first | assumption | (unfold gW; omega) | (unfold gW; split <;> omega)) (fun c101 => ?_) (fun c101 => ?_)
    · skip
      exact g_vret dX7_eliminate_108 rfl ⟨rfl, fr_l1, C3a, cr_l1_0, fun x y x0 x1 y0 y1 => by
                                                                      rw [hEa x y x0 x1 y0 y1]
                                                                      by_cases q : k < x ∧ k < y
                                                                      · rw [if_pos q, if_pos (by omega)]
                                                                      · rw [if_neg q, if_neg (by omega)], cr_l1_1, cr_l1_2, cr_l1_3, cf_l1_0, cf_l1_1, cf_l1_2, cr_l1_4⟩
    · skip
      refine g_iload_n 2 dX7_eliminate_12 rfl ?_
      refine g_iconst dX7_eliminate_13 ?_
      refine g_iadd dX7_eliminate_14 ?_
      refine g_istore (ls2 := [(4, .int (gI ((k) + (1)))), (3, .int (gI (i2))), (0, .ref (s)), (1, .int (gI (k))), (2, .ref (bA))]) dX7_eliminate_15 (by decide) rfl ?_
      have l2 : ∀ (kk : Nat) (k2 : Int) (C3 : Int → Int → Px p) (hl2 : GH), kk = (12 - k2).toNat → FSq B s h g hl2 g → hl2.2 (s) = some (oB 7 [.ref (B + 1), .ref (B + 7), .ref (s + 1), .ref (s + 2), .ref (s + 4), .ref (s + 6), .int (gI (sz))]) → hl2.2 (B + 7) = some (oB 2 [.ref (B + 1), .ref (B + 8), .ref (B + 10), .ref (B + 12), .ref (B + 14), .ref (B + 16), .ref (B + 18), .ref (B + 20), .ref (B + 22)]) → hl2.2 (B + 1) = some (oB 1 [.int (gI ((p : Int)))]) → LSq hp s hl2 (g) sz (C3) → RA 160 hl2 (s + 2) → RA 160 hl2 (s + 4) → RP hp nb hl2 (bA) (pvt (pR hp) A k.toNat) → RA 84 hl2 (B + 33) → (k + 1 ≤ k2 ∧ k2 ≤ sz) → (∀ x y, k ≤ x → x < sz → k ≤ y → y < sz → C3 x y = if k < x ∧ k < y ∧ (x < i2 ∨ (x = i2 ∧ y < k2)) then mqI hp A (k + 1) x y else mqI hp A k x y) → Go N mX7_eliminate (fun v h1 => v = none ∧ FSq B s h g h1 g ∧ ∃ C2, LSq hp s h1 g sz C2 ∧ (∀ x y, k ≤ x → x < sz → k ≤ y → y < sz → C2 x y = if k < x ∧ k < y then mqI hp A (k + 1) x y else mqI hp A k x y) ∧ RA 160 h1 (s + 2) ∧ RA 160 h1 (s + 4) ∧ RP hp nb h1 bA (pvt (pR hp) A k.toNat) ∧ h1.2 s = some (sO B s sz) ∧ h1.2 (B + 7) = some (oB 2 [.ref (B + 1), .ref (B + 8), .ref (B + 10), .ref (B + 12), .ref (B + 14), .ref (B + 16), .ref (B + 18), .ref (B + 20), .ref (B + 22)]) ∧ h1.2 (B + 1) = some (oB 1 [.int (gI ((p : Int)))]) ∧ RA 84 h1 (B + 33)) 0 0 hl2 17 [(4, .int (gI (k2))), (3, .int (gI (i2))), (0, .ref (s)), (1, .int (gI (k))), (2, .ref (bA))] [] := by
        refine Go.ind (fun kk ih_l2 => ?_)
        intro k2 C3 hl2 hkk_l2 fr_l2 cf_l2_0 cf_l2_1 cf_l2_2 cr_l2_0 cr_l2_1 cr_l2_2 cr_l2_3 cr_l2_4 hk2 hE
        refine g_iload 0 dX7_eliminate_17 rfl ?_
        refine g_aload_n 2 dX7_eliminate_19 rfl ?_
        refine g_getf 6 dX7_eliminate_20 kX7 (by decide) fX7_42 cf_l2_0 rfl ?_
        refine g_icmp_ge (tgt := 102) dX7_eliminate_23 rfl (by first | assumption | (unfold gW; omega) | (unfold gW; split <;> omega)) (by first | assumption | (unfold gW; omega) | (unfold gW; split <;> omega)) (fun c202 => ?_) (fun c202 => ?_)
        · skip
          refine g_iinc 1 (ls2 := [(3, .int (gI (i2 + 1))), (4, .int (gI (k2))), (0, .ref (s)), (1, .int (gI (k))), (2, .ref (bA))]) dX7_eliminate_102 rfl (by decide) rfl ?_
          refine g_goto (tgt := 4) dX7_eliminate_105 rfl ?_
          refine Go.sub [0, 2, 3, 4] rfl ?_
          exact ih_l1 _ (by omega) (i2 + 1) (C3) hl2 rfl fr_l2 cf_l2_0 cf_l2_1 cf_l2_2 cr_l2_0 cr_l2_1 cr_l2_2 cr_l2_3 cr_l2_4 (by omega) (fun x y x0 x1 y0 y1 => by
                                                                      rw [hE x y x0 x1 y0 y1]
                                                                      by_cases q : k < x ∧ k < y ∧ (x < i2 ∨ (x = i2 ∧ y < k2))
                                                                      · rw [if_pos q, if_pos (by omega)]
                                                                      · rw [if_neg q, if_neg (by omega)])
        · skip
          have hd80 : ∀ x y : Int, k ≤ x → x < sz → k ≤ y → y < sz → dgi hp (C3 x y) < 80 := fun x y x0 x1 y0 y1 => by
                                                                      rw [hE x y x0 x1 y0 y1]
                                                                      split
                                                                      · exact (hm3 x y (by omega) x1 (by omega) y1).2
                                                                      · exact (hm2 x y x0 x1 y0 y1).2
          refine g_aload_n 2 dX7_eliminate_26 rfl ?_
          refine g_iload_n 1 dX7_eliminate_27 rfl ?_
          refine g_iload 0 dX7_eliminate_28 rfl ?_
          obtain ⟨r204, hg204, hP204⟩ := (cr_l2_0).2 (i2) (k2) (by omega) (by omega) (by omega) (by omega)
          have hb204 := ix_bd (sz := sz) (show 0 ≤ i2 by omega) (show i2 < sz by omega) (show 0 ≤ k2 by omega) (show k2 < sz by omega) hsz.2
          have lr204 := ((cr_l2_0).1.2.1 _ r204 hg204).1
          refine g_callV (nc2 := 0) (ns2 := 0) (ci := 7) (As := [.int (gI (i2)), .int (gI (k2))]) (st := []) rfl dX7_eliminate_30 okX7_cell lX7_55 itX7_cell seX7_cell rfl cf_l2_0 (by decide) (by decide) rfl (Nat.le_of_ble_eq_true rfl) (sS_cell0 N _ B s r204 sz (i2) (k2) (g) hb204 cf_l2_0 (cr_l2_0).1.1 hg204) (by omega) (by omega) (fun v203 hc203 q203 => ?_)
          obtain ⟨hq204, rfl⟩ := q203
          refine Go.nf (h' := hl2) (st' := [.ref (r204)]) hq204 rfl (Nat.le_refl _) (Nat.le_refl _) ?_
          refine g_astore (ls2 := [(5, .ref (r204)), (4, .int (gI (k2))), (3, .int (gI (i2))), (0, .ref (s)), (1, .int (gI (k))), (2, .ref (bA))]) dX7_eliminate_33 (by decide) rfl ?_
          refine g_aload_n 3 dX7_eliminate_35 rfl ?_
          refine g_getf 1 dX7_eliminate_36 kX7 (by decide) fX7_34 cf_l2_0 rfl ?_
          refine g_aload 0 dX7_eliminate_39 rfl ?_
          refine g_aload_n 3 dX7_eliminate_41 rfl ?_
          refine g_iload_n 4 dX7_eliminate_42 rfl ?_
          refine g_iload_n 4 dX7_eliminate_43 rfl ?_
          obtain ⟨r206, hg206, hP206⟩ := (cr_l2_0).2 (k) (k) (by omega) (by omega) (by omega) (by omega)
          have hb206 := ix_bd (sz := sz) (show 0 ≤ k by omega) (show k < sz by omega) (show 0 ≤ k by omega) (show k < sz by omega) hsz.2
          have lr206 := ((cr_l2_0).1.2.1 _ r206 hg206).1
          refine g_callV (nc2 := 0) (ns2 := 0) (ci := 7) (As := [.int (gI (k)), .int (gI (k))]) (st := [.ref (r204), .ref (B + 7)]) rfl dX7_eliminate_44 okX7_cell lX7_55 itX7_cell seX7_cell rfl cf_l2_0 (by decide) (by decide) rfl (Nat.le_of_ble_eq_true rfl) (sS_cell0 N _ B s r206 sz (k) (k) (g) hb206 cf_l2_0 (cr_l2_0).1.1 hg206) (by omega) (by omega) (fun v205 hc205 q205 => ?_)
          obtain ⟨hq206, rfl⟩ := q205
          refine Go.nf (h' := hl2) (st' := [.ref (r206), .ref (r204), .ref (B + 7)]) hq206 rfl (Nat.le_refl _) (Nat.le_refl _) ?_
          refine g_aload_n 3 dX7_eliminate_47 rfl ?_
          refine g_getf 3 dX7_eliminate_48 kX7 (by decide) fX7_20 cf_l2_0 rfl ?_
          have hd_ : dgi hp ((C3) (i2) (k2)) + dgi hp ((C3) (k) (k)) < 160 := by have := hd80 i2 k2 (by omega) (by omega) (by omega) (by omega); have := hd80 k k (by omega) (by omega) (by omega) (by omega); omega
          refine g_callV (nc2 := 0) (ns2 := 0) (ci := 2) (As := [.ref (r204), .ref (r206), .ref (s + 2)]) (st := []) rfl dX7_eliminate_51 okX2_pile lX7_83 itX2_pile seX2_pile rfl cf_l2_1 (by decide) (by decide) rfl (Nat.le_of_ble_eq_true rfl) (sP_pile N _ (B + 7) (r204) (r206) (s + 2) 84 84 160 p hp hp2 ((C3) (i2) (k2)) ((C3) (k) (k)) hP204 hP206 cr_l2_1 hd_ (show AP (r204) (s + 2) by unfold AP; omega) (show AP (r206) (s + 2) by unfold AP; omega)) (by omega) (by omega) (fun v207 hc207 q207 => ?_)
          obtain ⟨rfl, frc208, rn208_0⟩ := q207
          have fk209_0 : hc207.2 (s) = some (oB 7 [.ref (B + 1), .ref (B + 7), .ref (s + 1), .ref (s + 2), .ref (s + 4), .ref (s + 6), .int (gI (sz))]) := Fr.at0 frc208 (Ni.c ⟨(show NE (s) (s + 2) by unfold NE; omega), (show NE (s) (s + 3) by unfold NE; omega)⟩ (Ni.n _)) cf_l2_0
          have fk209_1 : hc207.2 (B + 7) = some (oB 2 [.ref (B + 1), .ref (B + 8), .ref (B + 10), .ref (B + 12), .ref (B + 14), .ref (B + 16), .ref (B + 18), .ref (B + 20), .ref (B + 22)]) := Fr.at0 frc208 (Ni.c ⟨(show NE (B + 7) (s + 2) by unfold NE; omega), (show NE (B + 7) (s + 3) by unfold NE; omega)⟩ (Ni.n _)) cf_l2_1
          have fk209_2 : hc207.2 (B + 1) = some (oB 1 [.int (gI ((p : Int)))]) := Fr.at0 frc208 (Ni.c ⟨(show NE (B + 1) (s + 2) by unfold NE; omega), (show NE (B + 1) (s + 3) by unfold NE; omega)⟩ (Ni.n _)) cf_l2_2
          have ls209 : LSq hp s hc207 g sz (C3) := (cr_l2_0).lo frc208 (lsq_c (by omega) (fun _ h => absurd h (List.not_mem_nil)))
          have rk5209_1 : RA 160 hc207 (s + 4) := (cr_l2_2).fr frc208 (Ai.c (show AP (s + 4) (s + 2) by unfold AP; omega) (Ai.n _))
          have rk5209_2 : RP hp nb hc207 (bA) (pvt (pR hp) A k.toNat) := (cr_l2_3).fr frc208 (Ai.c (show AP (bA) (s + 2) by unfold AP; omega) (Ai.n _))
          have rk5209_3 : RA 84 hc207 (B + 33) := (cr_l2_4).fr frc208 (Ai.c (show AP (B + 33) (s + 2) by unfold AP; omega) (Ai.n _))
          have rk5209_4 : RP hp 84 hc207 (r204) ((C3) (i2) (k2)) := (hP204).fr frc208 (Ai.c (show AP (r204) (s + 2) by unfold AP; omega) (Ai.n _))
          have rk5209_5 : RP hp 84 hc207 (r206) ((C3) (k) (k)) := (hP206).fr frc208 (Ai.c (show AP (r206) (s + 2) by unfold AP; omega) (Ai.n _))
          have fr209 : FSq B s h g hc207 g := FSq.tr wf fr_l2 (FSq.of frc208 (sf_s (by omega) sf_n))
          refine Go.nf (h' := hc207) (st' := []) rfl rfl (Nat.le_refl _) (Nat.le_refl _) ?_
          refine g_aload_n 3 dX7_eliminate_54 rfl ?_
          refine g_aload_n 3 dX7_eliminate_55 rfl ?_
          refine g_iload_n 2 dX7_eliminate_56 rfl ?_
          refine g_iload_n 4 dX7_eliminate_57 rfl ?_
          obtain ⟨r211, hg211, hP211⟩ := (ls209).2 (i2) (k) (by omega) (by omega) (by omega) (by omega)
          have hb211 := ix_bd (sz := sz) (show 0 ≤ i2 by omega) (show i2 < sz by omega) (show 0 ≤ k by omega) (show k < sz by omega) hsz.2
          have lr211 := ((ls209).1.2.1 _ r211 hg211).1
          refine g_callV (nc2 := 0) (ns2 := 0) (ci := 7) (As := [.int (gI (i2)), .int (gI (k))]) (st := [.ref (s)]) rfl dX7_eliminate_58 okX7_cell lX7_55 itX7_cell seX7_cell rfl fk209_0 (by decide) (by decide) rfl (Nat.le_of_ble_eq_true rfl) (sS_cell0 N _ B s r211 sz (i2) (k) (g) hb211 fk209_0 (ls209).1.1 hg211) (by omega) (by omega) (fun v210 hc210 q210 => ?_)
          obtain ⟨hq211, rfl⟩ := q210
          refine Go.nf (h' := hc207) (st' := [.ref (r211), .ref (s)]) hq211 rfl (Nat.le_refl _) (Nat.le_refl _) ?_
          refine g_aload_n 3 dX7_eliminate_61 rfl ?_
          refine g_iload_n 4 dX7_eliminate_62 rfl ?_
          refine g_iload 1 dX7_eliminate_63 rfl ?_
          obtain ⟨r213, hg213, hP213⟩ := (ls209).2 (k) (k2) (by omega) (by omega) (by omega) (by omega)
          have hb213 := ix_bd (sz := sz) (show 0 ≤ k by omega) (show k < sz by omega) (show 0 ≤ k2 by omega) (show k2 < sz by omega) hsz.2
          have lr213 := ((ls209).1.2.1 _ r213 hg213).1
          refine g_callV (nc2 := 0) (ns2 := 0) (ci := 7) (As := [.int (gI (k)), .int (gI (k2))]) (st := [.ref (r211), .ref (s)]) rfl dX7_eliminate_65 okX7_cell lX7_55 itX7_cell seX7_cell rfl fk209_0 (by decide) (by decide) rfl (Nat.le_of_ble_eq_true rfl) (sS_cell0 N _ B s r213 sz (k) (k2) (g) hb213 fk209_0 (ls209).1.1 hg213) (by omega) (by omega) (fun v212 hc212 q212 => ?_)
          obtain ⟨hq213, rfl⟩ := q212
          refine Go.nf (h' := hc207) (st' := [.ref (r213), .ref (r211), .ref (s)]) hq213 rfl (Nat.le_refl _) (Nat.le_refl _) ?_
          have hdz215 : dgi hp ((C3) (i2) (k)) + dgi hp ((C3) (k) (k2)) < 160 := by have := hd80 i2 k (by omega) (by omega) (by omega) (by omega); have := hd80 k k2 (by omega) (by omega) (by omega) (by omega); omega
          refine g_callV (nc2 := 0) (ns2 := 0) (ci := 7) (As := [.ref (r211), .ref (r213)]) (st := []) rfl dX7_eliminate_68 okX7_pileLess lX7_87 itX7_pileLess seX7_pileLess rfl fk209_0 (by decide) (by decide) rfl (Nat.le_of_ble_eq_true rfl) (sS_pileLess N _ B s (r211) (r213) 84 84 p hp hp2 sz (dgi hp (pml hp ((C3) (i2) (k2)) ((C3) (k) (k)))) ((C3) (i2) (k)) ((C3) (k) (k2)) (pml hp ((C3) (i2) (k2)) ((C3) (k) (k))) fk209_0 fk209_2 rn208_0 hP211 hP213 hdz215 (by omega) (show AP (r211) (s + 2) by unfold AP; omega) (show AP (r213) (s + 2) by unfold AP; omega)) (by omega) (by omega) (fun v214 hc214 q214 => ?_)
          obtain ⟨rfl, frc216, D216, g216, rw216, ub216, ef216, hD1_216, hD2_216⟩ := q214
          have fk217_0 : hc214.2 (s) = some (oB 7 [.ref (B + 1), .ref (B + 7), .ref (s + 1), .ref (s + 2), .ref (s + 4), .ref (s + 6), .int (gI (sz))]) := Fr.at0 frc216 (Ni.c ⟨(show NE (s) (s + 2) by unfold NE; omega), (show NE (s) (s + 3) by unfold NE; omega)⟩ (Ni.n _)) fk209_0
          have fk217_1 : hc214.2 (B + 7) = some (oB 2 [.ref (B + 1), .ref (B + 8), .ref (B + 10), .ref (B + 12), .ref (B + 14), .ref (B + 16), .ref (B + 18), .ref (B + 20), .ref (B + 22)]) := Fr.at0 frc216 (Ni.c ⟨(show NE (B + 7) (s + 2) by unfold NE; omega), (show NE (B + 7) (s + 3) by unfold NE; omega)⟩ (Ni.n _)) fk209_1
          have fk217_2 : hc214.2 (B + 1) = some (oB 1 [.int (gI ((p : Int)))]) := Fr.at0 frc216 (Ni.c ⟨(show NE (B + 1) (s + 2) by unfold NE; omega), (show NE (B + 1) (s + 3) by unfold NE; omega)⟩ (Ni.n _)) fk209_2
          have ls217 : LSq hp s hc214 g sz (C3) := (ls209).lo frc216 (lsq_c (by omega) (fun _ h => absurd h (List.not_mem_nil)))
          have rk5217_0 : RA 160 hc214 (s + 4) := (rk5209_1).fr frc216 (Ai.c (show AP (s + 4) (s + 2) by unfold AP; omega) (Ai.n _))
          have rk5217_1 : RP hp nb hc214 (bA) (pvt (pR hp) A k.toNat) := (rk5209_2).fr frc216 (Ai.c (show AP (bA) (s + 2) by unfold AP; omega) (Ai.n _))
          have rk5217_2 : RA 84 hc214 (B + 33) := (rk5209_3).fr frc216 (Ai.c (show AP (B + 33) (s + 2) by unfold AP; omega) (Ai.n _))
          have rk5217_3 : RP hp 84 hc214 (r204) ((C3) (i2) (k2)) := (rk5209_4).fr frc216 (Ai.c (show AP (r204) (s + 2) by unfold AP; omega) (Ai.n _))
          have rk5217_4 : RP hp 84 hc214 (r206) ((C3) (k) (k)) := (rk5209_5).fr frc216 (Ai.c (show AP (r206) (s + 2) by unfold AP; omega) (Ai.n _))
          have rk5217_6 : RP hp 84 hc214 (r211) ((C3) (i2) (k)) := (hP211).fr frc216 (Ai.c (show AP (r211) (s + 2) by unfold AP; omega) (Ai.n _))
          have rk5217_7 : RP hp 84 hc214 (r213) ((C3) (k) (k2)) := (hP213).fr frc216 (Ai.c (show AP (r213) (s + 2) by unfold AP; omega) (Ai.n _))
          have fr217 : FSq B s h g hc214 g := FSq.tr wf fr209 (FSq.of frc216 (sf_s (by omega) sf_n))
          have ru216 : RU hp 160 hc214 (s + 2) D216 8598524526592 (psb hp (pml hp ((C3) (i2) (k2)) ((C3) (k) (k))) (pml hp ((C3) (i2) (k)) ((C3) (k) (k2)))) := ⟨g216, rw216, ub216, ef216⟩
          have hDb216 : D216 < 160 := rw216.2.2.2.2.1
          refine Go.nf (h' := hc214) (st' := []) rfl rfl (Nat.le_refl _) (Nat.le_refl _) ?_
          refine g_aload_n 3 dX7_eliminate_71 rfl ?_
          refine g_getf 1 dX7_eliminate_72 kX7 (by decide) fX7_34 fk217_0 rfl ?_
          refine g_aload_n 3 dX7_eliminate_75 rfl ?_
          refine g_getf 3 dX7_eliminate_76 kX7 (by decide) fX7_20 fk217_0 rfl ?_
          refine g_aload_n 5 dX7_eliminate_79 rfl ?_
          refine g_aload_n 3 dX7_eliminate_80 rfl ?_
          refine g_getf 4 dX7_eliminate_81 kX7 (by decide) fX7_24 fk217_0 rfl ?_
          refine g_callV (nc2 := 0) (ns2 := 0) (ci := 2) (As := [.ref (s + 2), .ref (bA), .ref (s + 4)]) (st := []) rfl dX7_eliminate_84 okX2_reduce lX7_91 itX2_reduce seX2_reduce rfl fk217_1 (by decide) (by decide) rfl (Nat.le_of_ble_eq_true rfl) (sP_reduce N _ B (s + 2) (bA) (s + 4) 160 nb 160 p hp hp2 (D216) (8598524526592) (psb hp (pml hp ((C3) (i2) (k2)) ((C3) (k) (k))) (pml hp ((C3) (i2) (k)) ((C3) (k) (k2)))) (pvt (pR hp) A k.toNat) (by omega) fk217_1 fk217_2 ru216 rk5217_1 rk5217_0 (by omega) (by omega) (show AP (s + 2) (bA) by unfold AP; omega) (show AP (s + 2) (s + 4) by unfold AP; omega) (show AP (bA) (s + 4) by unfold AP; omega) (by omega) (by omega) (by omega)) (by omega) (by omega) (fun v218 hc218 q218 => ?_)
          obtain ⟨rfl, frc219, rn219_0, rn219_1⟩ := q218
          have fk220_0 : hc218.2 (s) = some (oB 7 [.ref (B + 1), .ref (B + 7), .ref (s + 1), .ref (s + 2), .ref (s + 4), .ref (s + 6), .int (gI (sz))]) := Fr.at0 frc219 (Ni.c ⟨(show NE (s) (s + 2) by unfold NE; omega), (show NE (s) (s + 3) by unfold NE; omega)⟩ (Ni.c ⟨(show NE (s) (s + 4) by unfold NE; omega), (show NE (s) (s + 5) by unfold NE; omega)⟩ (Ni.n _))) fk217_0
          have fk220_1 : hc218.2 (B + 7) = some (oB 2 [.ref (B + 1), .ref (B + 8), .ref (B + 10), .ref (B + 12), .ref (B + 14), .ref (B + 16), .ref (B + 18), .ref (B + 20), .ref (B + 22)]) := Fr.at0 frc219 (Ni.c ⟨(show NE (B + 7) (s + 2) by unfold NE; omega), (show NE (B + 7) (s + 3) by unfold NE; omega)⟩ (Ni.c ⟨(show NE (B + 7) (s + 4) by unfold NE; omega), (show NE (B + 7) (s + 5) by unfold NE; omega)⟩ (Ni.n _))) fk217_1
          have fk220_2 : hc218.2 (B + 1) = some (oB 1 [.int (gI ((p : Int)))]) := Fr.at0 frc219 (Ni.c ⟨(show NE (B + 1) (s + 2) by unfold NE; omega), (show NE (B + 1) (s + 3) by unfold NE; omega)⟩ (Ni.c ⟨(show NE (B + 1) (s + 4) by unfold NE; omega), (show NE (B + 1) (s + 5) by unfold NE; omega)⟩ (Ni.n _))) fk217_2
          have ls220 : LSq hp s hc218 g sz (C3) := (ls217).lo frc219 (lsq_c (by omega) (lsq_c (by omega) (fun _ h => absurd h (List.not_mem_nil))))
          have rk5220_1 : RP hp nb hc218 (bA) (pvt (pR hp) A k.toNat) := (rk5217_1).fr frc219 (Ai.c (show AP (bA) (s + 2) by unfold AP; omega) (Ai.c (show AP (bA) (s + 4) by unfold AP; omega) (Ai.n _)))
          have rk5220_2 : RA 84 hc218 (B + 33) := (rk5217_2).fr frc219 (Ai.c (show AP (B + 33) (s + 2) by unfold AP; omega) (Ai.c (show AP (B + 33) (s + 4) by unfold AP; omega) (Ai.n _)))
          have rk5220_3 : RP hp 84 hc218 (r204) ((C3) (i2) (k2)) := (rk5217_3).fr frc219 (Ai.c (show AP (r204) (s + 2) by unfold AP; omega) (Ai.c (show AP (r204) (s + 4) by unfold AP; omega) (Ai.n _)))
          have rk5220_4 : RP hp 84 hc218 (r206) ((C3) (k) (k)) := (rk5217_4).fr frc219 (Ai.c (show AP (r206) (s + 2) by unfold AP; omega) (Ai.c (show AP (r206) (s + 4) by unfold AP; omega) (Ai.n _)))
          have rk5220_5 : RP hp 84 hc218 (r211) ((C3) (i2) (k)) := (rk5217_6).fr frc219 (Ai.c (show AP (r211) (s + 2) by unfold AP; omega) (Ai.c (show AP (r211) (s + 4) by unfold AP; omega) (Ai.n _)))
          have rk5220_6 : RP hp 84 hc218 (r213) ((C3) (k) (k2)) := (rk5217_7).fr frc219 (Ai.c (show AP (r213) (s + 2) by unfold AP; omega) (Ai.c (show AP (r213) (s + 4) by unfold AP; omega) (Ai.n _)))
          have fr220 : FSq B s h g hc218 g := FSq.tr wf fr217 (FSq.of frc219 (sf_s (by omega) (sf_s (by omega) sf_n)))
          refine Go.nf (h' := hc218) (st' := []) rfl rfl (Nat.le_refl _) (Nat.le_refl _) ?_
          have hq8 : qt hp (psb hp (pml hp ((C3) (i2) (k2)) ((C3) (k) (k))) (pml hp ((C3) (i2) (k)) ((C3) (k) (k2)))) (pvt (pR hp) A k.toNat) = mqI hp A (k + 1) i2 k2 := by
                                                                      rw [hE i2 k2 (by omega) (by omega) (by omega) (by omega), if_neg (by omega), hE k k (by omega) (by omega) (by omega) (by omega), if_neg (by omega), hE i2 k (by omega) (by omega) (by omega) (by omega), if_neg (by omega), hE k k2 (by omega) (by omega) (by omega) (by omega), if_neg (by omega), show pml hp (mqI hp A k i2 k2) (mqI hp A k k k) = pml hp (mqI hp A k k k) (mqI hp A k i2 k2) from zmul_comm (fR hp) _ _]
                                                                      exact bar_qI hp hI (by omega) (by omega) (by omega) (by omega) (by omega) (by omega)
          have hdz : dgi hp (qt hp (psb hp (pml hp ((C3) (i2) (k2)) ((C3) (k) (k))) (pml hp ((C3) (i2) (k)) ((C3) (k) (k2)))) (pvt (pR hp) A k.toNat)) < 84 := by rw [hq8]; have := (hm3 i2 k2 (by omega) (by omega) (by omega) (by omega)).2; omega
          refine g_aload 0 dX7_eliminate_87 rfl ?_
          refine g_aload_n 3 dX7_eliminate_89 rfl ?_
          refine g_getf 4 dX7_eliminate_90 kX7 (by decide) fX7_24 fk220_0 rfl ?_
          refine g_callV (nc2 := 0) (ns2 := 0) (ci := 5) (As := [.ref (s + 4)]) (st := []) rfl dX7_eliminate_93 okX5_copy lX7_94 itX5_copy seX5_copy rfl (rk5220_3).o (by decide) (by decide) rfl (Nat.le_of_ble_eq_true rfl) (sP_copy N _ (r204) (s + 4) 84 160 p hp hp2 (qt hp (psb hp (pml hp ((C3) (i2) (k2)) ((C3) (k) (k))) (pml hp ((C3) (i2) (k)) ((C3) (k) (k2)))) (pvt (pR hp) A k.toNat)) (rk5220_3).ra rn219_1 hdz (show AP (r204) (s + 4) by unfold AP; omega)) (by omega) (by omega) (fun v221 hc221 q221 => ?_)
          obtain ⟨rfl, frc222, rn222⟩ := q221
          have lsn222 : LSq hp s hc221 g sz (cup (C3) i2 k2 (qt hp (psb hp (pml hp ((C3) (i2) (k2)) ((C3) (k) (k))) (pml hp ((C3) (i2) (k)) ((C3) (k) (k2)))) (pvt (pR hp) A k.toNat))) := (ls220).put frc222 hg204 (by omega) (by omega) rn222
          have fk223_0 : hc221.2 (s) = some (oB 7 [.ref (B + 1), .ref (B + 7), .ref (s + 1), .ref (s + 2), .ref (s + 4), .ref (s + 6), .int (gI (sz))]) := Fr.at0 frc222 (Ni.c ⟨(show NE (s) (r204) by unfold NE; omega), (show NE (s) (r204 + 1) by unfold NE; omega)⟩ (Ni.n _)) fk220_0
          have fk223_1 : hc221.2 (B + 7) = some (oB 2 [.ref (B + 1), .ref (B + 8), .ref (B + 10), .ref (B + 12), .ref (B + 14), .ref (B + 16), .ref (B + 18), .ref (B + 20), .ref (B + 22)]) := Fr.at0 frc222 (Ni.c ⟨(show NE (B + 7) (r204) by unfold NE; omega), (show NE (B + 7) (r204 + 1) by unfold NE; omega)⟩ (Ni.n _)) fk220_1
          have fk223_2 : hc221.2 (B + 1) = some (oB 1 [.int (gI ((p : Int)))]) := Fr.at0 frc222 (Ni.c ⟨(show NE (B + 1) (r204) by unfold NE; omega), (show NE (B + 1) (r204 + 1) by unfold NE; omega)⟩ (Ni.n _)) fk220_2
          have rk5223_0 : RP hp nb hc221 (bA) (pvt (pR hp) A k.toNat) := (rk5220_1).fr frc222 (Ai.c (hap i2 k2 r204 (by omega) (by omega) (by omega) (by omega) hg204) (Ai.n _))
          have rk5223_1 : RA 84 hc221 (B + 33) := (rk5220_2).fr frc222 (Ai.c (show AP (B + 33) (r204) by unfold AP; omega) (Ai.n _))
          have rk5223_2 : RP hp 160 hc221 (s + 2) (rm hp (psb hp (pml hp ((C3) (i2) (k2)) ((C3) (k) (k))) (pml hp ((C3) (i2) (k)) ((C3) (k) (k2)))) (pvt (pR hp) A k.toNat)) := (rn219_0).fr frc222 (Ai.c (show AP (s + 2) (r204) by unfold AP; omega) (Ai.n _))
          have rk5223_3 : RP hp 160 hc221 (s + 4) (qt hp (psb hp (pml hp ((C3) (i2) (k2)) ((C3) (k) (k))) (pml hp ((C3) (i2) (k)) ((C3) (k) (k2)))) (pvt (pR hp) A k.toNat)) := (rn219_1).fr frc222 (Ai.c (show AP (s + 4) (r204) by unfold AP; omega) (Ai.n _))
          have fr223 : FSq B s h g hc221 g := FSq.tr wf fr220 (FSq.of frc222 (sf_r hg204 sf_n))
          refine Go.nf (h' := hc221) (st' := []) rfl rfl (Nat.le_refl _) (Nat.le_refl _) ?_
          refine g_iinc 1 (ls2 := [(4, .int (gI (k2 + 1))), (5, .ref (r204)), (3, .int (gI (i2))), (0, .ref (s)), (1, .int (gI (k))), (2, .ref (bA))]) dX7_eliminate_96 rfl (by decide) rfl ?_
          refine g_goto (tgt := 17) dX7_eliminate_99 rfl ?_
          refine Go.sub [0, 2, 3, 4, 5] rfl ?_
          exact ih_l2 _ (by omega) (k2 + 1) (cup (C3) i2 k2 (qt hp (psb hp (pml hp ((C3) (i2) (k2)) ((C3) (k) (k))) (pml hp ((C3) (i2) (k)) ((C3) (k) (k2)))) (pvt (pR hp) A k.toNat))) hc221 rfl fr223 fk223_0 fk223_1 fk223_2 lsn222 (rk5223_2).ra (rk5223_3).ra rk5223_0 rk5223_1 (by omega) (fun x y x0 x1 y0 y1 => by
                                                                      unfold cup
                                                                      by_cases z : x = i2 ∧ y = k2
                                                                      · rw [if_pos z, if_pos (by omega), hq8, z.1, z.2]
                                                                      · rw [if_neg z, hE x y x0 x1 y0 y1]
                                                                        by_cases q : k < x ∧ k < y ∧ (x < i2 ∨ (x = i2 ∧ y < k2))
                                                                        · rw [if_pos q, if_pos (by omega)]
                                                                        · rw [if_neg q, if_neg (by omega)])
      exact l2 _ (k + 1) (C3a) hl1 rfl fr_l1 cf_l1_0 cf_l1_1 cf_l1_2 cr_l1_0 cr_l1_1 cr_l1_2 cr_l1_3 cr_l1_4 (by omega) (fun x y x0 x1 y0 y1 => by
                                                                      rw [hEa x y x0 x1 y0 y1]
                                                                      by_cases q : k < x ∧ k < y ∧ (x < i2 )
                                                                      · rw [if_pos q, if_pos (by omega)]
                                                                      · rw [if_neg q, if_neg (by omega)])
  exact l1 _ (k + 1) (C) h rfl (FSq.rf B s h g) hso hth hfl hls h2 h4 hbA h33 (by omega) (fun x y x0 x1 y0 y1 => by rw [if_neg (by omega)]; exact hC x y x0 x1 y0 y1)
