/-! the world of Plain -/
abbrev pl (B : Nat) : List Nat := [B + 8, B + 10, B + 12, B + 14, B + 16, B + 18, B + 20, B + 22]
def PW (p B : Nat) (h : GH) : Prop := h.2 (B + 7) = some (oB 2 [.ref (B + 1), .ref (B + 8), .ref (B + 10), .ref (B + 12), .ref (B + 14), .ref (B + 16), .ref (B + 18), .ref (B + 20), .ref (B + 22)]) ∧ h.2 (B + 1) = some (oB 1 [.int (gI ((p : Int)))]) ∧ ∀ x ∈ pl B, RA 84 h x
theorem pl_all {B : Nat} {P : Nat → Prop} (h8 : P (B + 8)) (h10 : P (B + 10)) (h12 : P (B + 12)) (h14 : P (B + 14)) (h16 : P (B + 16)) (h18 : P (B + 18)) (h20 : P (B + 20)) (h22 : P (B + 22)) : ∀ x ∈ pl B, P x := fun x hx => by
  simp only [pl, List.mem_cons, List.not_mem_nil, or_false] at hx
  rcases hx with e | e | e | e | e | e | e | e <;> subst e <;> assumption
theorem pl_in {B x : Nat} (hx : x ∈ pl B) : B + 8 ≤ x ∧ x ≤ B + 22 := by
  simp only [pl, List.mem_cons, List.not_mem_nil, or_false] at hx
  omega
theorem out_n {B : Nat} : ∀ x ∈ ([] : List Nat), B + 24 ≤ x := fun _ h => absurd h (List.not_mem_nil)
theorem out_c {B a : Nat} {L : List Nat} (h : B + 24 ≤ a) (t : ∀ x ∈ L, B + 24 ≤ x) : ∀ x ∈ a :: L, B + 24 ≤ x := fun x hx => by
  rcases List.mem_cons.mp hx with z | z
  · subst z; exact h
  · exact t x z
theorem out8_n {B : Nat} : ∀ x ∈ ([] : List Nat), B + 8 ≤ x := fun _ h => absurd h (List.not_mem_nil)
theorem out8_c {B a : Nat} {L : List Nat} (h : B + 8 ≤ a) (t : ∀ x ∈ L, B + 8 ≤ x) : ∀ x ∈ a :: L, B + 8 ≤ x := fun x hx => by
  rcases List.mem_cons.mp hx with z | z
  · subst z; exact h
  · exact t x z
theorem Ni_pl {B a : Nat} (h : a < B + 8 ∨ B + 24 ≤ a) : Ni a (pl B) := fun x hx => by
  have := pl_in hx
  unfold NE
  omega
theorem Ai_pl {B a : Nat} (h : B + 24 ≤ a ∨ a + 2 ≤ B + 8) : Ai a (pl B) := fun x hx => by
  have := pl_in hx
  unfold AP
  omega
theorem PW.upd {p B : Nat} {L : List Nat} {h h1 : GH} (w : PW p B h) (f : Fr L h h1) (hb : ∀ x ∈ L, B + 8 ≤ x) (hr : ∀ x ∈ pl B, Ai x L ∨ RA 84 h1 x) : PW p B h1 := by
  refine ⟨f.at0 (fun x hx => ?_) w.1, f.at0 (fun x hx => ?_) w.2.1, fun x hx => ?_⟩
  · have := hb x hx; unfold NE; omega
  · have := hb x hx; unfold NE; omega
  · rcases hr x hx with z | z
    · exact (w.2.2 x hx).fr f z
    · exact z
theorem PW.out {p B : Nat} {L : List Nat} {h h1 : GH} (w : PW p B h) (f : Fr L h h1) (hb : ∀ x ∈ L, B + 24 ≤ x) : PW p B h1 :=
  w.upd f (fun x hx => by have := hb x hx; omega) (fun x hx => Or.inl (fun y hy => by have := hb y hy; have := pl_in hx; unfold AP; omega))
theorem PW.r8 {p B : Nat} {h : GH} (w : PW p B h) : RA 84 h (B + 8) := w.2.2 _ (List.Mem.head _)
theorem PW.r10 {p B : Nat} {h : GH} (w : PW p B h) : RA 84 h (B + 10) := w.2.2 _ (List.Mem.tail _ (List.Mem.head _))
theorem PW.r12 {p B : Nat} {h : GH} (w : PW p B h) : RA 84 h (B + 12) := w.2.2 _ (List.Mem.tail _ (List.Mem.tail _ (List.Mem.head _)))
theorem PW.r14 {p B : Nat} {h : GH} (w : PW p B h) : RA 84 h (B + 14) := w.2.2 _ (List.Mem.tail _ (List.Mem.tail _ (List.Mem.tail _ (List.Mem.head _))))
theorem PW.r16 {p B : Nat} {h : GH} (w : PW p B h) : RA 84 h (B + 16) := w.2.2 _ (List.Mem.tail _ (List.Mem.tail _ (List.Mem.tail _ (List.Mem.tail _ (List.Mem.head _)))))
theorem PW.r18 {p B : Nat} {h : GH} (w : PW p B h) : RA 84 h (B + 18) := w.2.2 _ (List.Mem.tail _ (List.Mem.tail _ (List.Mem.tail _ (List.Mem.tail _ (List.Mem.tail _ (List.Mem.head _))))))
theorem PW.r20 {p B : Nat} {h : GH} (w : PW p B h) : RA 84 h (B + 20) := w.2.2 _ (List.Mem.tail _ (List.Mem.tail _ (List.Mem.tail _ (List.Mem.tail _ (List.Mem.tail _ (List.Mem.tail _ (List.Mem.head _)))))))
theorem PW.r22 {p B : Nat} {h : GH} (w : PW p B h) : RA 84 h (B + 22) := w.2.2 _ (List.Mem.tail _ (List.Mem.tail _ (List.Mem.tail _ (List.Mem.tail _ (List.Mem.tail _ (List.Mem.tail _ (List.Mem.tail _ (List.Mem.head _))))))))
section
variable {p : Nat}
theorem PO_md {h : prm p} {g g2 : Int → Int} {f : Px p} {d : Int} (hd : dgi h f = d) (hf : f = ph h g d) (e : ∀ k, 0 ≤ k → k ≤ d → g2 k = g k % p) : PO h d g2 f := by
  have hp := h.1
  refine PO_of hd ?_ (fun k k0 k1 => ?_)
  · exact hf.trans (ph_cg h (fun k k0 k1 => by rw [e k k0 k1, zi_mod])).symm
  · rw [e k k0 k1]
    exact ⟨Int.emod_nonneg _ (by omega), Int.emod_lt_of_pos _ (by omega)⟩
theorem g_prod2 {a c p : Int} (ha : 0 ≤ a) (ha2 : a < p) (hc : -p < c) (hc2 : c < p) (hp : p ≤ 65536) : -4294967296 ≤ a * c ∧ a * c ≤ 4294967296 := by
  rcases Int.le_total 0 c with z | z
  · have := g_prod ha ha2 z hc2 hp; omega
  · have := g_prod ha ha2 (show 0 ≤ -c by omega) (by omega) hp
    rw [Int.mul_neg] at this
    omega
end
set_option maxHeartbeats 4000000 in
set_option maxRecDepth 100000 in
theorem sP_multiply (N : GN) (h : GH) (B a b o p : Nat) (hp : prm p) (hp2 : p ≤ 65536) (fa fb : Px p) (hw : PW p B h) (ha : RP hp 84 h a fa) (hb : RP hp 84 h b fb) (ho : RA 84 h o) (hd : dgi hp fa + dgi hp fb < 84) (oa : B + 24 ≤ a) (ob : B + 24 ≤ b) (oo : B + 24 ≤ o) : Sp N yX2_multiply mX2_multiply 0 0 [.ref (B + 7), .ref (a), .ref (b), .ref (o)] h (fun v h1 => v = none ∧ Fr (o :: pl B) h h1 ∧ RP hp 84 h1 o (pml hp fa fb) ∧ PW p B h1) := by
  refine Sp.of (by decide) rfl rfl (Nat.le_of_ble_eq_true rfl) ?_
  show Go N mX2_multiply _ 0 0 h 0 [(0, .ref (B + 7)), (1, .ref (a)), (2, .ref (b)), (3, .ref (o))] []
  have hp1 := hp.1
  have hda := ha.lt
  have hdb := hb.lt
  have hmd : dgi hp (pml hp fa fb) < 84 := by
    have : dgi hp (pml hp fa fb) = _ := mul_dgi hp ha.po hb.po
    rw [this]; split <;> omega
  have hmg : -1 ≤ dgi hp (pml hp fa fb) := dgi_ge hp (mul_po ha.po hb.po)
  refine g_aload_n 0 dX2_multiply_0 rfl ?_
  refine g_aload_n 1 dX2_multiply_1 rfl ?_
  refine g_aload_n 2 dX2_multiply_2 rfl ?_
  refine g_aload_n 0 dX2_multiply_3 rfl ?_
  refine g_getf 1 dX2_multiply_4 kX2 (by decide) fX2_14 hw.1 rfl ?_
  refine g_callV (nc2 := 0) (ns2 := 0) (ci := 2) (As := [.ref (a), .ref (b), .ref (B + 8)]) (st := []) rfl dX2_multiply_7 okX2_pile lX2_53 itX2_pile seX2_pile rfl hw.1 (by decide) (by decide) rfl (Nat.le_of_ble_eq_true rfl) (sP_pile N _ (B + 7) (a) (b) (B + 8) 84 84 84 p hp hp2 (fa) (fb) ha hb (hw.r8) hd (show AP (a) (B + 8) by unfold AP; omega) (show AP (b) (B + 8) by unfold AP; omega)) (by omega) (by omega) (fun v1 hc1 q1 => ?_)
  obtain ⟨rfl, frc2, rn2_0⟩ := q1
  have fk3_0 : hc1.2 (B + 7) = some (oB 2 [.ref (B + 1), .ref (B + 8), .ref (B + 10), .ref (B + 12), .ref (B + 14), .ref (B + 16), .ref (B + 18), .ref (B + 20), .ref (B + 22)]) := Fr.at0 frc2 (Ni.c ⟨(show NE (B + 7) (B + 8) by unfold NE; omega), (show NE (B + 7) (B + 9) by unfold NE; omega)⟩ (Ni.n _)) hw.1
  have fk3_1 : hc1.2 (B + 1) = some (oB 1 [.int (gI ((p : Int)))]) := Fr.at0 frc2 (Ni.c ⟨(show NE (B + 1) (B + 8) by unfold NE; omega), (show NE (B + 1) (B + 9) by unfold NE; omega)⟩ (Ni.n _)) hw.2.1
  have rk3_0 : RP hp 84 hc1 (a) (fa) := (ha).fr frc2 (Ai.c (show AP (a) (B + 8) by unfold AP; omega) (Ai.n _))
  have rk3_1 : RP hp 84 hc1 (b) (fb) := (hb).fr frc2 (Ai.c (show AP (b) (B + 8) by unfold AP; omega) (Ai.n _))
  have rk3_2 : RA 84 hc1 (o) := (ho).fr frc2 (Ai.c (show AP (o) (B + 8) by unfold AP; omega) (Ai.n _))
  have fr3 : Fr [o, B + 8] h hc1 := ((Fr.rf [o, B + 8] h)).tr ((frc2).mo (sub_c (List.Mem.tail _ (List.Mem.head _)) sub_n))
  refine Go.nf (h' := hc1) (st' := []) rfl rfl (Nat.le_refl _) (Nat.le_refl _) ?_
  refine g_iconst dX2_multiply_10 ?_
  refine g_istore (ls2 := [(4, .int (gI (0))), (0, .ref (B + 7)), (1, .ref (a)), (2, .ref (b)), (3, .ref (o))]) dX2_multiply_11 (by decide) rfl ?_
  obtain ⟨g, ⟨w1, w2, w3, w4, w5, w6, w7⟩, wb, wp⟩ := rn2_0
  have lm : ∀ (kk : Nat) (k : Int) (hlm : GH), kk = (dgi hp (pml hp fa fb) + 1 - k).toNat → Fr [o, B + 8] h hlm → hlm.2 (B + 8) = some (oB 5 [.ref (B + 9), .int (gI (dgi hp (pml hp (fa) (fb))))]) → hlm.2 (B + 9) = some (aJ 84 (gF g (fun j => g j % p) k)) → RA 84 hlm (o) → (0 ≤ k) → (k ≤ dgi hp (pml hp fa fb) + 1) → Go N mX2_multiply (fun v h1 => v = none ∧ Fr (o :: pl B) h h1 ∧ RP hp 84 h1 o (pml hp fa fb) ∧ PW p B h1) 0 0 hlm 13 [(4, .int (gI (k))), (0, .ref (B + 7)), (1, .ref (a)), (2, .ref (b)), (3, .ref (o))] [] := by
    refine Go.ind (fun kk ih_lm => ?_)
    intro k hlm hkk_lm fr_lm cf_lm_0 cf_lm_1 cr_lm_0 hk0 hk1
    have cg_lm_0 : hlm.2 (B + 7) = some (oB 2 [.ref (B + 1), .ref (B + 8), .ref (B + 10), .ref (B + 12), .ref (B + 14), .ref (B + 16), .ref (B + 18), .ref (B + 20), .ref (B + 22)]) := Fr.at0 fr_lm (Ni.c ⟨(show NE (B + 7) (o) by unfold NE; omega), (show NE (B + 7) (o + 1) by unfold NE; omega)⟩ (Ni.c ⟨(show NE (B + 7) (B + 8) by unfold NE; omega), (show NE (B + 7) (B + 9) by unfold NE; omega)⟩ (Ni.n _))) hw.1
    have cg_lm_1 : hlm.2 (B + 1) = some (oB 1 [.int (gI ((p : Int)))]) := Fr.at0 fr_lm (Ni.c ⟨(show NE (B + 1) (o) by unfold NE; omega), (show NE (B + 1) (o + 1) by unfold NE; omega)⟩ (Ni.c ⟨(show NE (B + 1) (B + 8) by unfold NE; omega), (show NE (B + 1) (B + 9) by unfold NE; omega)⟩ (Ni.n _))) hw.2.1
    refine g_iload 0 dX2_multiply_13 rfl ?_
    refine g_aload_n 1 dX2_multiply_15 rfl ?_
    refine g_getf 1 dX2_multiply_16 kX2 (by decide) fX2_14 cg_lm_0 rfl ?_
    refine g_getf 1 dX2_multiply_19 kX5 (by decide) fX2_45 cf_lm_0 rfl ?_
    refine g_icmp_gt (tgt := 52) dX2_multiply_22 rfl (by unfold gW; omega) (by unfold gW; omega) (fun c104 => ?_) (fun c104 => ?_)
    · skip
      have hkk : k = dgi hp (pml hp fa fb) + 1 := by omega
      have ro105 : RP hp 84 hlm (B + 8) (pml hp fa fb) := RP.mk (d := dgi hp (pml hp fa fb)) cf_lm_0 cf_lm_1 ⟨by omega, by omega, by omega⟩ (PO_md rfl wp (fun j j0 j1 => by unfold gF; rw [if_pos (by omega)])) hp2
      refine g_aload_n 4 dX2_multiply_52 rfl ?_
      refine g_aload_n 1 dX2_multiply_53 rfl ?_
      refine g_getf 1 dX2_multiply_54 kX2 (by decide) fX2_14 cg_lm_0 rfl ?_
      refine g_callV (nc2 := 0) (ns2 := 0) (ci := 5) (As := [.ref (B + 8)]) (st := []) rfl dX2_multiply_57 okX5_copy lX2_62 itX5_copy seX5_copy rfl (Classical.choose_spec (RA.o cr_lm_0)) (by decide) (by decide) rfl (Nat.le_of_ble_eq_true rfl) (sP_copy N _ (o) (B + 8) 84 84 p hp hp2 (pml hp fa fb) cr_lm_0 ro105 (by omega) (show AP (o) (B + 8) by unfold AP; omega)) (by omega) (by omega) (fun v106 hc106 q106 => ?_)
      obtain ⟨rfl, frc107, rn107_0⟩ := q106
      have fk108_0 : hc106.2 (B + 7) = some (oB 2 [.ref (B + 1), .ref (B + 8), .ref (B + 10), .ref (B + 12), .ref (B + 14), .ref (B + 16), .ref (B + 18), .ref (B + 20), .ref (B + 22)]) := Fr.at0 frc107 (Ni.c ⟨(show NE (B + 7) (o) by unfold NE; omega), (show NE (B + 7) (o + 1) by unfold NE; omega)⟩ (Ni.n _)) cg_lm_0
      have fk108_1 : hc106.2 (B + 1) = some (oB 1 [.int (gI ((p : Int)))]) := Fr.at0 frc107 (Ni.c ⟨(show NE (B + 1) (o) by unfold NE; omega), (show NE (B + 1) (o + 1) by unfold NE; omega)⟩ (Ni.n _)) cg_lm_1
      have rk108_1 : RP hp 84 hc106 (B + 8) (pml hp fa fb) := (ro105).fr frc107 (Ai.c (show AP (B + 8) (o) by unfold AP; omega) (Ai.n _))
      have fr108 : Fr [o, B + 8] h hc106 := (fr_lm).tr ((frc107).mo (sub_c (List.Mem.head _) sub_n))
      refine Go.nf (h' := hc106) (st' := []) rfl rfl (Nat.le_refl _) (Nat.le_refl _) ?_
      exact g_vret dX2_multiply_60 rfl ⟨rfl, (fr108).mo (sub_c (List.Mem.head _) (sub_c (List.Mem.tail _ (List.Mem.head _)) sub_n)), rn107_0, (PW.upd hw fr108 (out8_c (by omega) (out8_c (by omega) out8_n)) (pl_all (Or.inr (rk108_1).ra) (Or.inl (Ai.c (show AP (B + 10) (o) by unfold AP; omega) (Ai.c (show AP (B + 10) (B + 8) by unfold AP; omega) (Ai.n _)))) (Or.inl (Ai.c (show AP (B + 12) (o) by unfold AP; omega) (Ai.c (show AP (B + 12) (B + 8) by unfold AP; omega) (Ai.n _)))) (Or.inl (Ai.c (show AP (B + 14) (o) by unfold AP; omega) (Ai.c (show AP (B + 14) (B + 8) by unfold AP; omega) (Ai.n _)))) (Or.inl (Ai.c (show AP (B + 16) (o) by unfold AP; omega) (Ai.c (show AP (B + 16) (B + 8) by unfold AP; omega) (Ai.n _)))) (Or.inl (Ai.c (show AP (B + 18) (o) by unfold AP; omega) (Ai.c (show AP (B + 18) (B + 8) by unfold AP; omega) (Ai.n _)))) (Or.inl (Ai.c (show AP (B + 20) (o) by unfold AP; omega) (Ai.c (show AP (B + 20) (B + 8) by unfold AP; omega) (Ai.n _)))) (Or.inl (Ai.c (show AP (B + 22) (o) by unfold AP; omega) (Ai.c (show AP (B + 22) (B + 8) by unfold AP; omega) (Ai.n _))))))⟩
    · skip
      refine g_aload_n 1 dX2_multiply_25 rfl ?_
      refine g_getf 1 dX2_multiply_26 kX2 (by decide) fX2_14 cg_lm_0 rfl ?_
      refine g_getf 0 dX2_multiply_29 kX5 (by decide) fX2_49 cf_lm_0 rfl ?_
      refine g_iload 0 dX2_multiply_32 rfl ?_
      refine g_dup2 dX2_multiply_34 rfl rfl ?_
      refine g_laload dX2_multiply_35 cf_lm_1 (by omega) (by omega) (by omega) ?_
      rw [gF_at]
      have hgk := wb k hk0 (by omega)
      refine g_aload_n 1 dX2_multiply_36 rfl ?_
      refine g_getf 0 dX2_multiply_37 kX2 (by decide) fX2_41 cg_lm_0 rfl ?_
      refine g_getf 0 dX2_multiply_40 kX1 (by decide) fX2_57 cg_lm_1 rfl ?_
      refine g_i2l dX2_multiply_43 (by unfold gW; omega) ?_
      refine g_lrem dX2_multiply_44 (by unfold gX; omega) (by unfold gX; omega) (by omega) ?_
      rw [tm_em hgk.1]
      refine g_lastore dX2_multiply_45 cf_lm_1 (by omega) (by omega) (by omega) ?_
      obtain ⟨hh109, eh109⟩ : ∃ z : GH, z = hset hlm (B + 9) (aJ 84 (gup (gF g (fun j => g j % p) k) (k) (g k % p))) := ⟨_, rfl⟩
      refine Go.hp eh109.symm ?_
      have fh109_0 : hh109.2 (B + 7) = some (oB 2 [.ref (B + 1), .ref (B + 8), .ref (B + 10), .ref (B + 12), .ref (B + 14), .ref (B + 16), .ref (B + 18), .ref (B + 20), .ref (B + 22)]) := hs_n eh109 (show NE (B + 7) (B + 9) by unfold NE; omega) cg_lm_0
      have fh109_1 : hh109.2 (B + 1) = some (oB 1 [.int (gI ((p : Int)))]) := hs_n eh109 (show NE (B + 1) (B + 9) by unfold NE; omega) cg_lm_1
      have fh109_2 : hh109.2 (B + 8) = some (oB 5 [.ref (B + 9), .int (gI (dgi hp (pml hp (fa) (fb))))]) := hs_n eh109 (show NE (B + 8) (B + 9) by unfold NE; omega) cf_lm_0
      have fh109_3 : hh109.2 (B + 9) = some (aJ 84 (gup (gF g (fun j => g j % p) k) (k) (g k % p))) := hs_s eh109
      have fx109 : Fr [B + 8] hlm hh109 := Fr.w1 (Fr.rf _ _) (List.Mem.head _) eh109
      have rk109_0 : RA 84 hh109 (o) := (cr_lm_0).fr fx109 (Ai.c (show AP (o) (B + 8) by unfold AP; omega) (Ai.n _))
      have fr109 : Fr [o, B + 8] h hh109 := Fr.w1 fr_lm (List.Mem.tail _ (List.Mem.head _)) eh109
      refine g_iinc 0 (ls2 := [(4, .int (gI (k + 1))), (0, .ref (B + 7)), (1, .ref (a)), (2, .ref (b)), (3, .ref (o))]) dX2_multiply_46 rfl (by decide) rfl ?_
      refine g_goto (tgt := 13) dX2_multiply_49 rfl ?_
      exact ih_lm _ (by omega) (k + 1) hh109 rfl fr109 fh109_2 (by rw [← gF_s g (fun j => g j % p) hk0]; exact fh109_3) rk109_0 (by omega) (by omega)
  exact lm _ (0) hc1 rfl fr3 w1 (by rw [gF_0]; exact w2) rk3_2 (by omega) (by omega)
set_option maxHeartbeats 4000000 in
set_option maxRecDepth 100000 in
theorem sP_multiplyBy (N : GN) (h : GH) (B r o n no p : Nat) (hp : prm p) (hp2 : p ≤ 65536) (f : Px p) (c : Int) (c0 : -p < c) (c1 : c < p) (hc : letI := fR hp; zi hp c ≠ 0) (hth : h.2 (B + 7) = some (oB 2 [.ref (B + 1), .ref (B + 8), .ref (B + 10), .ref (B + 12), .ref (B + 14), .ref (B + 16), .ref (B + 18), .ref (B + 20), .ref (B + 22)])) (hfl : h.2 (B + 1) = some (oB 1 [.int (gI ((p : Int)))])) (hr : RP hp n h r f) (ho : RA no h o) (hd : dgi hp f < no) (oo : B + 8 ≤ o) (aro : AP r o) : Sp N yX2_multiplyBy mX2_multiplyBy 0 0 [.ref (B + 7), .ref (r), .long (gJ (c)), .ref (o)] h (fun v h1 => v = none ∧ Fr [o] h h1 ∧ RP hp no h1 o (pml hp (cz hp (zi hp c)) f)) := by
  refine Sp.of (by decide) rfl rfl (Nat.le_of_ble_eq_true rfl) ?_
  show Go N mX2_multiplyBy _ 0 0 h 0 [(0, .ref (B + 7)), (1, .ref (r)), (2, .long (gJ (c))), (4, .ref (o))] []
  have hp1 := hp.1
  have ne0 : NE (B + 7) (B + 1) := by unfold NE; omega
  have ne1 : NE (B + 7) (o) := by unfold NE; omega
  have ne2 : NE (B + 7) (o + 1) := by unfold NE; omega
  have ne3 : NE (B + 1) (o) := by unfold NE; omega
  have ne4 : NE (B + 1) (o + 1) := by unfold NE; omega
  have ne5 : NE (o) (o + 1) := by unfold NE; omega
  have hdf := hr.lt
  refine g_aload 3 dX2_multiplyBy_0 rfl ?_
  refine g_aload_n 1 dX2_multiplyBy_2 rfl ?_
  refine g_callV (nc2 := 0) (ns2 := 0) (ci := 5) (As := [.ref (r)]) (st := []) rfl dX2_multiplyBy_3 okX5_copy lX2_62 itX5_copy seX5_copy rfl (Classical.choose_spec (RA.o ho)) (by decide) (by decide) rfl (Nat.le_of_ble_eq_true rfl) (sP_copy N _ (o) (r) no n p hp hp2 (f) ho hr hd (aro).s) (by omega) (by omega) (fun v1 hc1 q1 => ?_)
  obtain ⟨rfl, frc2, rn2_0⟩ := q1
  have fk3_0 : hc1.2 (B + 7) = some (oB 2 [.ref (B + 1), .ref (B + 8), .ref (B + 10), .ref (B + 12), .ref (B + 14), .ref (B + 16), .ref (B + 18), .ref (B + 20), .ref (B + 22)]) := Fr.at0 frc2 (Ni.c ⟨ne1, ne2⟩ (Ni.n _)) hth
  have fk3_1 : hc1.2 (B + 1) = some (oB 1 [.int (gI ((p : Int)))]) := Fr.at0 frc2 (Ni.c ⟨ne3, ne4⟩ (Ni.n _)) hfl
  have rk3_0 : RP hp n hc1 (r) (f) := (hr).fr frc2 (Ai.c aro (Ai.n _))
  have fr3 : Fr [o] h hc1 := ((Fr.rf [o] h)).tr ((frc2).mo (sub_c (List.Mem.head _) sub_n))
  refine Go.nf (h' := hc1) (st' := []) rfl rfl (Nat.le_refl _) (Nat.le_refl _) ?_
  refine g_iconst dX2_multiplyBy_6 ?_
  refine g_istore (ls2 := [(5, .int (gI (0))), (0, .ref (B + 7)), (1, .ref (r)), (2, .long (gJ (c))), (4, .ref (o))]) dX2_multiplyBy_7 (by decide) rfl ?_
  obtain ⟨g, ⟨w1, w2, w3, w4, w5, w6, w7⟩, wP⟩ := rn2_0
  have lm : ∀ (kk : Nat) (k : Int) (hlm : GH), kk = (dgi hp f + 1 - k).toNat → Fr [o] h hlm → hlm.2 (o) = some (oB 5 [.ref (o + 1), .int (gI (dgi hp (f)))]) → hlm.2 (o + 1) = some (aJ no (gF g (fun j => g j * c % p) k)) → (0 ≤ k) → (k ≤ dgi hp f + 1) → Go N mX2_multiplyBy (fun v h1 => v = none ∧ Fr [o] h h1 ∧ RP hp no h1 o (pml hp (cz hp (zi hp c)) f)) 0 0 hlm 9 [(5, .int (gI (k))), (0, .ref (B + 7)), (1, .ref (r)), (2, .long (gJ (c))), (4, .ref (o))] [] := by
    refine Go.ind (fun kk ih_lm => ?_)
    intro k hlm hkk_lm fr_lm cf_lm_0 cf_lm_1 hk0 hk1
    have cg_lm_0 : hlm.2 (B + 7) = some (oB 2 [.ref (B + 1), .ref (B + 8), .ref (B + 10), .ref (B + 12), .ref (B + 14), .ref (B + 16), .ref (B + 18), .ref (B + 20), .ref (B + 22)]) := Fr.at0 fr_lm (Ni.c ⟨ne1, ne2⟩ (Ni.n _)) hth
    have cg_lm_1 : hlm.2 (B + 1) = some (oB 1 [.int (gI ((p : Int)))]) := Fr.at0 fr_lm (Ni.c ⟨ne3, ne4⟩ (Ni.n _)) hfl
    refine g_iload 0 dX2_multiplyBy_9 rfl ?_
    refine g_aload 4 dX2_multiplyBy_11 rfl ?_
    refine g_getf 1 dX2_multiplyBy_13 kX5 (by decide) fX2_45 cf_lm_0 rfl ?_
    refine g_icmp_gt (tgt := 50) dX2_multiplyBy_16 rfl (by unfold gW; omega) (by unfold gW; omega) (fun c104 => ?_) (fun c104 => ?_)
    · skip
      exact g_vret dX2_multiplyBy_50 rfl ⟨rfl, fr_lm, RP.mk (d := dgi hp f) cf_lm_0 cf_lm_1 ⟨by omega, by omega, by omega⟩ (PO_sm wP hc (fun j j0 j1 => by unfold gF; rw [if_pos (by omega)])) hp2⟩
    · skip
      refine g_aload 4 dX2_multiplyBy_19 rfl ?_
      refine g_getf 0 dX2_multiplyBy_21 kX5 (by decide) fX2_49 cf_lm_0 rfl ?_
      refine g_iload 0 dX2_multiplyBy_24 rfl ?_
      refine g_aload_n 1 dX2_multiplyBy_26 rfl ?_
      refine g_getf 0 dX2_multiplyBy_27 kX2 (by decide) fX2_41 cg_lm_0 rfl ?_
      refine g_aload 4 dX2_multiplyBy_30 rfl ?_
      refine g_getf 0 dX2_multiplyBy_32 kX5 (by decide) fX2_49 cf_lm_0 rfl ?_
      refine g_iload 0 dX2_multiplyBy_35 rfl ?_
      refine g_laload dX2_multiplyBy_37 cf_lm_1 (by omega) (by omega) (by omega) ?_
      rw [gF_at]
      have hgk := wP.2.1 k hk0 (by omega)
      have hpr := g_prod2 hgk.1 hgk.2 c0 c1 (show (p : Int) ≤ 65536 by omega)
      refine g_lload_n 3 dX2_multiplyBy_38 rfl ?_
      refine g_lmul dX2_multiplyBy_39 ?_
      refine g_callV (nc2 := 0) (ns2 := 0) (ci := 1) (As := [.long (gJ ((g k) * (c)))]) (st := [.int (gI (k)), .ref (o + 1)]) rfl dX2_multiplyBy_40 okX1_mod lX2_111 itX1_mod seX1_mod rfl cg_lm_1 (by decide) (by decide) rfl (Nat.le_of_ble_eq_true rfl) (sX1_mod N _ (B + 1) (p : Int) ((g k) * (c)) (by unfold gX; omega) (by omega) (by omega) cg_lm_1) (by omega) (by omega) (fun v105 hc105 q105 => ?_)
      obtain ⟨hq106, rfl⟩ := q105
      rw [gMod_em (show (0 : Int) < p by omega)]
      refine Go.nf (h' := hlm) (st' := [.long (gJ (((g k) * (c)) % (p : Int))), .int (gI (k)), .ref (o + 1)]) hq106 rfl (Nat.le_refl _) (Nat.le_refl _) ?_
      refine g_lastore dX2_multiplyBy_43 cf_lm_1 (by omega) (by omega) (by omega) ?_
      obtain ⟨hh107, eh107⟩ : ∃ z : GH, z = hset hlm (o + 1) (aJ no (gup (gF g (fun j => g j * c % p) k) (k) (((g k) * (c)) % (p : Int)))) := ⟨_, rfl⟩
      refine Go.hp eh107.symm ?_
      have fh107_0 : hh107.2 (B + 7) = some (oB 2 [.ref (B + 1), .ref (B + 8), .ref (B + 10), .ref (B + 12), .ref (B + 14), .ref (B + 16), .ref (B + 18), .ref (B + 20), .ref (B + 22)]) := hs_n eh107 ne2 cg_lm_0
      have fh107_1 : hh107.2 (B + 1) = some (oB 1 [.int (gI ((p : Int)))]) := hs_n eh107 ne4 cg_lm_1
      have fh107_2 : hh107.2 (o) = some (oB 5 [.ref (o + 1), .int (gI (dgi hp (f)))]) := hs_n eh107 ne5 cf_lm_0
      have fh107_3 : hh107.2 (o + 1) = some (aJ no (gup (gF g (fun j => g j * c % p) k) (k) (((g k) * (c)) % (p : Int)))) := hs_s eh107
      have fr107 : Fr [o] h hh107 := Fr.w1 fr_lm (List.Mem.head _) eh107
      refine g_iinc 0 (ls2 := [(5, .int (gI (k + 1))), (0, .ref (B + 7)), (1, .ref (r)), (2, .long (gJ (c))), (4, .ref (o))]) dX2_multiplyBy_44 rfl (by decide) rfl ?_
      refine g_goto (tgt := 9) dX2_multiplyBy_47 rfl ?_
      exact ih_lm _ (by omega) (k + 1) hh107 rfl fr107 fh107_2 (by rw [← gF_s g (fun j => g j * c % p) hk0]; exact fh107_3) (by omega) (by omega)
  exact lm _ (0) hc1 rfl fr3 w1 (by rw [gF_0]; exact w2) (by omega) (by omega)
set_option maxHeartbeats 4000000 in
set_option maxRecDepth 100000 in
theorem sP_common (N : GN) (h : GH) (B a b o p : Nat) (hp : prm p) (hp2 : p ≤ 65536) (fa fb : Px p) (hw : PW p B h) (ha : RP hp 84 h a fa) (hb : RP hp 84 h b fb) (ho : RA 84 h o) (oa : B + 24 ≤ a) (ob : B + 24 ≤ b) (oo : B + 24 ≤ o) : Sp N yX2_commonDivisor mX2_commonDivisor 0 0 [.ref (B + 7), .ref (a), .ref (b), .ref (o)] h (fun v h1 => v = none ∧ Fr (o :: pl B) h h1 ∧ RP hp 84 h1 o (gP hp fa fb) ∧ PW p B h1) := by
  refine Sp.of (by decide) rfl rfl (Nat.le_of_ble_eq_true rfl) ?_
  show Go N mX2_commonDivisor _ 0 0 h 0 [(0, .ref (B + 7)), (1, .ref (a)), (2, .ref (b)), (3, .ref (o))] []
  have hp1 := hp.1
  have hda := ha.lt
  have hdb := hb.lt
  refine g_aload_n 0 dX2_commonDivisor_0 rfl ?_
  refine g_getf 3 dX2_commonDivisor_1 kX2 (by decide) fX2_23 hw.1 rfl ?_
  refine g_astore (ls2 := [(4, .ref (B + 12)), (0, .ref (B + 7)), (1, .ref (a)), (2, .ref (b)), (3, .ref (o))]) dX2_commonDivisor_4 (by decide) rfl ?_
  refine g_aload_n 1 dX2_commonDivisor_6 rfl ?_
  refine g_getf 4 dX2_commonDivisor_7 kX2 (by decide) fX2_26 hw.1 rfl ?_
  refine g_astore (ls2 := [(5, .ref (B + 14)), (4, .ref (B + 12)), (0, .ref (B + 7)), (1, .ref (a)), (2, .ref (b)), (3, .ref (o))]) dX2_commonDivisor_10 (by decide) rfl ?_
  refine g_aload 1 dX2_commonDivisor_12 rfl ?_
  refine g_aload_n 3 dX2_commonDivisor_14 rfl ?_
  refine g_callV (nc2 := 0) (ns2 := 0) (ci := 5) (As := [.ref (a)]) (st := []) rfl dX2_commonDivisor_15 okX5_copy lX2_62 itX5_copy seX5_copy rfl (Classical.choose_spec (RA.o (hw.r12))) (by decide) (by decide) rfl (Nat.le_of_ble_eq_true rfl) (sP_copy N _ (B + 12) (a) 84 84 p hp hp2 (fa) (hw.r12) ha (by omega) (show AP (B + 12) (a) by unfold AP; omega)) (by omega) (by omega) (fun v1 hc1 q1 => ?_)
  obtain ⟨rfl, frc2, rn2_0⟩ := q1
  have fk3_0 : hc1.2 (B + 7) = some (oB 2 [.ref (B + 1), .ref (B + 8), .ref (B + 10), .ref (B + 12), .ref (B + 14), .ref (B + 16), .ref (B + 18), .ref (B + 20), .ref (B + 22)]) := Fr.at0 frc2 (Ni.c ⟨(show NE (B + 7) (B + 12) by unfold NE; omega), (show NE (B + 7) (B + 13) by unfold NE; omega)⟩ (Ni.n _)) hw.1
  have fk3_1 : hc1.2 (B + 1) = some (oB 1 [.int (gI ((p : Int)))]) := Fr.at0 frc2 (Ni.c ⟨(show NE (B + 1) (B + 12) by unfold NE; omega), (show NE (B + 1) (B + 13) by unfold NE; omega)⟩ (Ni.n _)) hw.2.1
  have rk3_0 : RP hp 84 hc1 (a) (fa) := (ha).fr frc2 (Ai.c (show AP (a) (B + 12) by unfold AP; omega) (Ai.n _))
  have rk3_1 : RP hp 84 hc1 (b) (fb) := (hb).fr frc2 (Ai.c (show AP (b) (B + 12) by unfold AP; omega) (Ai.n _))
  have rk3_2 : RA 84 hc1 (o) := (ho).fr frc2 (Ai.c (show AP (o) (B + 12) by unfold AP; omega) (Ai.n _))
  have rk3_3 : RA 84 hc1 (B + 10) := ((hw.r10)).fr frc2 (Ai.c (show AP (B + 10) (B + 12) by unfold AP; omega) (Ai.n _))
  have rk3_5 : RA 84 hc1 (B + 14) := ((hw.r14)).fr frc2 (Ai.c (show AP (B + 14) (B + 12) by unfold AP; omega) (Ai.n _))
  have fr3 : Fr [o, B + 10, B + 12, B + 14] h hc1 := ((Fr.rf [o, B + 10, B + 12, B + 14] h)).tr ((frc2).mo (sub_c (List.Mem.tail _ (List.Mem.tail _ (List.Mem.head _))) sub_n))
  refine Go.nf (h' := hc1) (st' := []) rfl rfl (Nat.le_refl _) (Nat.le_refl _) ?_
  refine g_aload 0 dX2_commonDivisor_18 rfl ?_
  refine g_aload_n 4 dX2_commonDivisor_20 rfl ?_
  refine g_callV (nc2 := 0) (ns2 := 0) (ci := 5) (As := [.ref (b)]) (st := []) rfl dX2_commonDivisor_21 okX5_copy lX2_62 itX5_copy seX5_copy rfl (Classical.choose_spec (RA.o rk3_5)) (by decide) (by decide) rfl (Nat.le_of_ble_eq_true rfl) (sP_copy N _ (B + 14) (b) 84 84 p hp hp2 (fb) rk3_5 rk3_1 (by omega) (show AP (B + 14) (b) by unfold AP; omega)) (by omega) (by omega) (fun v4 hc4 q4 => ?_)
  obtain ⟨rfl, frc5, rn5_0⟩ := q4
  have fk6_0 : hc4.2 (B + 7) = some (oB 2 [.ref (B + 1), .ref (B + 8), .ref (B + 10), .ref (B + 12), .ref (B + 14), .ref (B + 16), .ref (B + 18), .ref (B + 20), .ref (B + 22)]) := Fr.at0 frc5 (Ni.c ⟨(show NE (B + 7) (B + 14) by unfold NE; omega), (show NE (B + 7) (B + 15) by unfold NE; omega)⟩ (Ni.n _)) fk3_0
  have fk6_1 : hc4.2 (B + 1) = some (oB 1 [.int (gI ((p : Int)))]) := Fr.at0 frc5 (Ni.c ⟨(show NE (B + 1) (B + 14) by unfold NE; omega), (show NE (B + 1) (B + 15) by unfold NE; omega)⟩ (Ni.n _)) fk3_1
  have rk6_0 : RP hp 84 hc4 (a) (fa) := (rk3_0).fr frc5 (Ai.c (show AP (a) (B + 14) by unfold AP; omega) (Ai.n _))
  have rk6_1 : RP hp 84 hc4 (b) (fb) := (rk3_1).fr frc5 (Ai.c (show AP (b) (B + 14) by unfold AP; omega) (Ai.n _))
  have rk6_2 : RA 84 hc4 (o) := (rk3_2).fr frc5 (Ai.c (show AP (o) (B + 14) by unfold AP; omega) (Ai.n _))
  have rk6_3 : RA 84 hc4 (B + 10) := (rk3_3).fr frc5 (Ai.c (show AP (B + 10) (B + 14) by unfold AP; omega) (Ai.n _))
  have rk6_5 : RP hp 84 hc4 (B + 12) (fa) := (rn2_0).fr frc5 (Ai.c (show AP (B + 12) (B + 14) by unfold AP; omega) (Ai.n _))
  have fr6 : Fr [o, B + 10, B + 12, B + 14] h hc4 := (fr3).tr ((frc5).mo (sub_c (List.Mem.tail _ (List.Mem.tail _ (List.Mem.tail _ (List.Mem.head _)))) sub_n))
  refine Go.nf (h' := hc4) (st' := []) rfl rfl (Nat.le_refl _) (Nat.le_refl _) ?_
  refine g_iconst dX2_commonDivisor_24 ?_
  refine g_istore (ls2 := [(6, .int (gI (0))), (5, .ref (B + 14)), (4, .ref (B + 12)), (0, .ref (B + 7)), (1, .ref (a)), (2, .ref (b)), (3, .ref (o))]) dX2_commonDivisor_25 (by decide) rfl ?_
  have lg : ∀ (kk : Nat) (turn : Int) (fu : Px p) (fv : Px p) (uA : Nat) (vA : Nat) (hlg : GH), kk = (86 - turn).toNat → Fr [o, B + 10, B + 12, B + 14] h hlg → RA 84 hlg (o) → RA 84 hlg (B + 10) → RP hp 84 hlg (uA) (fu) → RP hp 84 hlg (vA) (fv) → (0 ≤ turn) → (turn + dgi hp fv ≤ 84) → (gP hp fu fv = gP hp fa fb) → ((uA = B + 12 ∧ vA = B + 14) ∨ (uA = B + 14 ∧ vA = B + 12)) → Go N mX2_commonDivisor (fun v h1 => v = none ∧ Fr (o :: pl B) h h1 ∧ RP hp 84 h1 o (gP hp fa fb) ∧ PW p B h1) 0 0 hlg 27 [(6, .int (gI (turn))), (5, .ref (vA)), (4, .ref (uA)), (0, .ref (B + 7)), (1, .ref (a)), (2, .ref (b)), (3, .ref (o))] [] := by
    refine Go.ind (fun kk ih_lg => ?_)
    intro turn fu fv uA vA hlg hkk_lg fr_lg cr_lg_0 cr_lg_1 cr_lg_2 cr_lg_3 ht htv hG hUV
    have cg_lg_0 : hlg.2 (B + 7) = some (oB 2 [.ref (B + 1), .ref (B + 8), .ref (B + 10), .ref (B + 12), .ref (B + 14), .ref (B + 16), .ref (B + 18), .ref (B + 20), .ref (B + 22)]) := Fr.at0 fr_lg (Ni.c ⟨(show NE (B + 7) (o) by unfold NE; omega), (show NE (B + 7) (o + 1) by unfold NE; omega)⟩ (Ni.c ⟨(show NE (B + 7) (B + 10) by unfold NE; omega), (show NE (B + 7) (B + 11) by unfold NE; omega)⟩ (Ni.c ⟨(show NE (B + 7) (B + 12) by unfold NE; omega), (show NE (B + 7) (B + 13) by unfold NE; omega)⟩ (Ni.c ⟨(show NE (B + 7) (B + 14) by unfold NE; omega), (show NE (B + 7) (B + 15) by unfold NE; omega)⟩ (Ni.n _))))) hw.1
    have cg_lg_1 : hlg.2 (B + 1) = some (oB 1 [.int (gI ((p : Int)))]) := Fr.at0 fr_lg (Ni.c ⟨(show NE (B + 1) (o) by unfold NE; omega), (show NE (B + 1) (o + 1) by unfold NE; omega)⟩ (Ni.c ⟨(show NE (B + 1) (B + 10) by unfold NE; omega), (show NE (B + 1) (B + 11) by unfold NE; omega)⟩ (Ni.c ⟨(show NE (B + 1) (B + 12) by unfold NE; omega), (show NE (B + 1) (B + 13) by unfold NE; omega)⟩ (Ni.c ⟨(show NE (B + 1) (B + 14) by unfold NE; omega), (show NE (B + 1) (B + 15) by unfold NE; omega)⟩ (Ni.n _))))) hw.2.1
    rcases hUV with ⟨rfl, rfl⟩ | ⟨rfl, rfl⟩
    · skip
      have hlu := (cr_lg_2).lt
      have hlv := (cr_lg_3).lt
      have hpu := (cr_lg_2).po
      have hpv := (cr_lg_3).po
      refine g_iload 0 dX2_commonDivisor_27 rfl ?_
      refine g_bipush dX2_commonDivisor_29 (by decide) ?_
      refine g_icmp_gt (tgt := 72) dX2_commonDivisor_31 rfl (by unfold gW; omega) (by unfold gW; omega) (fun c107 => ?_) (fun c107 => ?_)
      · skip
        refine g_aload_n 3 dX2_commonDivisor_72 rfl ?_
        refine g_aload 2 dX2_commonDivisor_73 rfl ?_
        have hmd := mon_dgi hp hpu
        refine g_callV (nc2 := 0) (ns2 := 0) (ci := 2) (As := [.ref (B + 12)]) (st := []) rfl dX2_commonDivisor_75 okX2_makeMonic lX2_90 itX2_makeMonic seX2_makeMonic rfl cg_lg_0 (by decide) (by decide) rfl (Nat.le_of_ble_eq_true rfl) (sP_makeMonic N _ B (B + 12) 84 p hp hp2 (fu) cg_lg_0 cg_lg_1 cr_lg_2 (by omega)) (by omega) (by omega) (fun v108 hc108 q108 => ?_)
        obtain ⟨rfl, frc109, rn109_0⟩ := q108
        have fk110_0 : hc108.2 (B + 7) = some (oB 2 [.ref (B + 1), .ref (B + 8), .ref (B + 10), .ref (B + 12), .ref (B + 14), .ref (B + 16), .ref (B + 18), .ref (B + 20), .ref (B + 22)]) := Fr.at0 frc109 (Ni.c ⟨(show NE (B + 7) (B + 12) by unfold NE; omega), (show NE (B + 7) (B + 13) by unfold NE; omega)⟩ (Ni.n _)) cg_lg_0
        have fk110_1 : hc108.2 (B + 1) = some (oB 1 [.int (gI ((p : Int)))]) := Fr.at0 frc109 (Ni.c ⟨(show NE (B + 1) (B + 12) by unfold NE; omega), (show NE (B + 1) (B + 13) by unfold NE; omega)⟩ (Ni.n _)) cg_lg_1
        have rk110_0 : RA 84 hc108 (o) := (cr_lg_0).fr frc109 (Ai.c (show AP (o) (B + 12) by unfold AP; omega) (Ai.n _))
        have rk110_1 : RA 84 hc108 (B + 10) := (cr_lg_1).fr frc109 (Ai.c (show AP (B + 10) (B + 12) by unfold AP; omega) (Ai.n _))
        have rk110_3 : RP hp 84 hc108 (B + 14) (fv) := (cr_lg_3).fr frc109 (Ai.c (show AP (B + 14) (B + 12) by unfold AP; omega) (Ai.n _))
        have fr110 : Fr [o, B + 10, B + 12, B + 14] h hc108 := (fr_lg).tr ((frc109).mo (sub_c (List.Mem.tail _ (List.Mem.tail _ (List.Mem.head _))) sub_n))
        refine Go.nf (h' := hc108) (st' := []) rfl rfl (Nat.le_refl _) (Nat.le_refl _) ?_
        refine g_aload_n 6 dX2_commonDivisor_78 rfl ?_
        refine g_aload 2 dX2_commonDivisor_79 rfl ?_
        refine g_callV (nc2 := 0) (ns2 := 0) (ci := 5) (As := [.ref (B + 12)]) (st := []) rfl dX2_commonDivisor_81 okX5_copy lX2_62 itX5_copy seX5_copy rfl (Classical.choose_spec (RA.o rk110_0)) (by decide) (by decide) rfl (Nat.le_of_ble_eq_true rfl) (sP_copy N _ (o) (B + 12) 84 84 p hp hp2 (mon hp (fu)) rk110_0 rn109_0 (by omega) (show AP (o) (B + 12) by unfold AP; omega)) (by omega) (by omega) (fun v111 hc111 q111 => ?_)
        obtain ⟨rfl, frc112, rn112_0⟩ := q111
        have fk113_0 : hc111.2 (B + 7) = some (oB 2 [.ref (B + 1), .ref (B + 8), .ref (B + 10), .ref (B + 12), .ref (B + 14), .ref (B + 16), .ref (B + 18), .ref (B + 20), .ref (B + 22)]) := Fr.at0 frc112 (Ni.c ⟨(show NE (B + 7) (o) by unfold NE; omega), (show NE (B + 7) (o + 1) by unfold NE; omega)⟩ (Ni.n _)) fk110_0
        have fk113_1 : hc111.2 (B + 1) = some (oB 1 [.int (gI ((p : Int)))]) := Fr.at0 frc112 (Ni.c ⟨(show NE (B + 1) (o) by unfold NE; omega), (show NE (B + 1) (o + 1) by unfold NE; omega)⟩ (Ni.n _)) fk110_1
        have rk113_1 : RA 84 hc111 (B + 10) := (rk110_1).fr frc112 (Ai.c (show AP (B + 10) (o) by unfold AP; omega) (Ai.n _))
        have rk113_2 : RP hp 84 hc111 (B + 14) (fv) := (rk110_3).fr frc112 (Ai.c (show AP (B + 14) (o) by unfold AP; omega) (Ai.n _))
        have rk113_3 : RP hp 84 hc111 (B + 12) (mon hp (fu)) := (rn109_0).fr frc112 (Ai.c (show AP (B + 12) (o) by unfold AP; omega) (Ai.n _))
        have fr113 : Fr [o, B + 10, B + 12, B + 14] h hc111 := (fr110).tr ((frc112).mo (sub_c (List.Mem.head _) sub_n))
        refine Go.nf (h' := hc111) (st' := []) rfl rfl (Nat.le_refl _) (Nat.le_refl _) ?_
        exact g_vret dX2_commonDivisor_84 rfl ⟨rfl, (fr113).mo (sub_c (List.Mem.head _) (sub_c (List.Mem.tail _ (List.Mem.tail _ (List.Mem.head _))) (sub_c (List.Mem.tail _ (List.Mem.tail _ (List.Mem.tail _ (List.Mem.head _)))) (sub_c (List.Mem.tail _ (List.Mem.tail _ (List.Mem.tail _ (List.Mem.tail _ (List.Mem.head _))))) sub_n)))), by rw [← hG, gP_0 hp hpu hpv (by omega)]; exact rn112_0, (PW.upd hw fr113 (out8_c (by omega) (out8_c (by omega) (out8_c (by omega) (out8_c (by omega) out8_n)))) (pl_all (Or.inl (Ai.c (show AP (B + 8) (o) by unfold AP; omega) (Ai.c (show AP (B + 8) (B + 10) by unfold AP; omega) (Ai.c (show AP (B + 8) (B + 12) by unfold AP; omega) (Ai.c (show AP (B + 8) (B + 14) by unfold AP; omega) (Ai.n _)))))) (Or.inr rk113_1) (Or.inr (rk113_3).ra) (Or.inr (rk113_2).ra) (Or.inl (Ai.c (show AP (B + 16) (o) by unfold AP; omega) (Ai.c (show AP (B + 16) (B + 10) by unfold AP; omega) (Ai.c (show AP (B + 16) (B + 12) by unfold AP; omega) (Ai.c (show AP (B + 16) (B + 14) by unfold AP; omega) (Ai.n _)))))) (Or.inl (Ai.c (show AP (B + 18) (o) by unfold AP; omega) (Ai.c (show AP (B + 18) (B + 10) by unfold AP; omega) (Ai.c (show AP (B + 18) (B + 12) by unfold AP; omega) (Ai.c (show AP (B + 18) (B + 14) by unfold AP; omega) (Ai.n _)))))) (Or.inl (Ai.c (show AP (B + 20) (o) by unfold AP; omega) (Ai.c (show AP (B + 20) (B + 10) by unfold AP; omega) (Ai.c (show AP (B + 20) (B + 12) by unfold AP; omega) (Ai.c (show AP (B + 20) (B + 14) by unfold AP; omega) (Ai.n _)))))) (Or.inl (Ai.c (show AP (B + 22) (o) by unfold AP; omega) (Ai.c (show AP (B + 22) (B + 10) by unfold AP; omega) (Ai.c (show AP (B + 22) (B + 12) by unfold AP; omega) (Ai.c (show AP (B + 22) (B + 14) by unfold AP; omega) (Ai.n _))))))))⟩
      · skip
        refine g_aload 1 dX2_commonDivisor_34 rfl ?_
        refine g_getf 1 dX2_commonDivisor_36 kX5 (by decide) fX2_45 (cr_lg_3).o rfl ?_
        refine g_if_lt (tgt := 72) dX2_commonDivisor_39 rfl (by unfold gW; omega) (fun c114 => ?_) (fun c114 => ?_)
        · skip
          refine g_aload_n 3 dX2_commonDivisor_72 rfl ?_
          refine g_aload 2 dX2_commonDivisor_73 rfl ?_
          have hmd := mon_dgi hp hpu
          refine g_callV (nc2 := 0) (ns2 := 0) (ci := 2) (As := [.ref (B + 12)]) (st := []) rfl dX2_commonDivisor_75 okX2_makeMonic lX2_90 itX2_makeMonic seX2_makeMonic rfl cg_lg_0 (by decide) (by decide) rfl (Nat.le_of_ble_eq_true rfl) (sP_makeMonic N _ B (B + 12) 84 p hp hp2 (fu) cg_lg_0 cg_lg_1 cr_lg_2 (by omega)) (by omega) (by omega) (fun v115 hc115 q115 => ?_)
          obtain ⟨rfl, frc116, rn116_0⟩ := q115
          have fk117_0 : hc115.2 (B + 7) = some (oB 2 [.ref (B + 1), .ref (B + 8), .ref (B + 10), .ref (B + 12), .ref (B + 14), .ref (B + 16), .ref (B + 18), .ref (B + 20), .ref (B + 22)]) := Fr.at0 frc116 (Ni.c ⟨(show NE (B + 7) (B + 12) by unfold NE; omega), (show NE (B + 7) (B + 13) by unfold NE; omega)⟩ (Ni.n _)) cg_lg_0
          have fk117_1 : hc115.2 (B + 1) = some (oB 1 [.int (gI ((p : Int)))]) := Fr.at0 frc116 (Ni.c ⟨(show NE (B + 1) (B + 12) by unfold NE; omega), (show NE (B + 1) (B + 13) by unfold NE; omega)⟩ (Ni.n _)) cg_lg_1
          have rk117_0 : RA 84 hc115 (o) := (cr_lg_0).fr frc116 (Ai.c (show AP (o) (B + 12) by unfold AP; omega) (Ai.n _))
          have rk117_1 : RA 84 hc115 (B + 10) := (cr_lg_1).fr frc116 (Ai.c (show AP (B + 10) (B + 12) by unfold AP; omega) (Ai.n _))
          have rk117_3 : RP hp 84 hc115 (B + 14) (fv) := (cr_lg_3).fr frc116 (Ai.c (show AP (B + 14) (B + 12) by unfold AP; omega) (Ai.n _))
          have fr117 : Fr [o, B + 10, B + 12, B + 14] h hc115 := (fr_lg).tr ((frc116).mo (sub_c (List.Mem.tail _ (List.Mem.tail _ (List.Mem.head _))) sub_n))
          refine Go.nf (h' := hc115) (st' := []) rfl rfl (Nat.le_refl _) (Nat.le_refl _) ?_
          refine g_aload_n 6 dX2_commonDivisor_78 rfl ?_
          refine g_aload 2 dX2_commonDivisor_79 rfl ?_
          refine g_callV (nc2 := 0) (ns2 := 0) (ci := 5) (As := [.ref (B + 12)]) (st := []) rfl dX2_commonDivisor_81 okX5_copy lX2_62 itX5_copy seX5_copy rfl (Classical.choose_spec (RA.o rk117_0)) (by decide) (by decide) rfl (Nat.le_of_ble_eq_true rfl) (sP_copy N _ (o) (B + 12) 84 84 p hp hp2 (mon hp (fu)) rk117_0 rn116_0 (by omega) (show AP (o) (B + 12) by unfold AP; omega)) (by omega) (by omega) (fun v118 hc118 q118 => ?_)
          obtain ⟨rfl, frc119, rn119_0⟩ := q118
          have fk120_0 : hc118.2 (B + 7) = some (oB 2 [.ref (B + 1), .ref (B + 8), .ref (B + 10), .ref (B + 12), .ref (B + 14), .ref (B + 16), .ref (B + 18), .ref (B + 20), .ref (B + 22)]) := Fr.at0 frc119 (Ni.c ⟨(show NE (B + 7) (o) by unfold NE; omega), (show NE (B + 7) (o + 1) by unfold NE; omega)⟩ (Ni.n _)) fk117_0
          have fk120_1 : hc118.2 (B + 1) = some (oB 1 [.int (gI ((p : Int)))]) := Fr.at0 frc119 (Ni.c ⟨(show NE (B + 1) (o) by unfold NE; omega), (show NE (B + 1) (o + 1) by unfold NE; omega)⟩ (Ni.n _)) fk117_1
          have rk120_1 : RA 84 hc118 (B + 10) := (rk117_1).fr frc119 (Ai.c (show AP (B + 10) (o) by unfold AP; omega) (Ai.n _))
          have rk120_2 : RP hp 84 hc118 (B + 14) (fv) := (rk117_3).fr frc119 (Ai.c (show AP (B + 14) (o) by unfold AP; omega) (Ai.n _))
          have rk120_3 : RP hp 84 hc118 (B + 12) (mon hp (fu)) := (rn116_0).fr frc119 (Ai.c (show AP (B + 12) (o) by unfold AP; omega) (Ai.n _))
          have fr120 : Fr [o, B + 10, B + 12, B + 14] h hc118 := (fr117).tr ((frc119).mo (sub_c (List.Mem.head _) sub_n))
          refine Go.nf (h' := hc118) (st' := []) rfl rfl (Nat.le_refl _) (Nat.le_refl _) ?_
          exact g_vret dX2_commonDivisor_84 rfl ⟨rfl, (fr120).mo (sub_c (List.Mem.head _) (sub_c (List.Mem.tail _ (List.Mem.tail _ (List.Mem.head _))) (sub_c (List.Mem.tail _ (List.Mem.tail _ (List.Mem.tail _ (List.Mem.head _)))) (sub_c (List.Mem.tail _ (List.Mem.tail _ (List.Mem.tail _ (List.Mem.tail _ (List.Mem.head _))))) sub_n)))), by rw [← hG, gP_0 hp hpu hpv (by omega)]; exact rn119_0, (PW.upd hw fr120 (out8_c (by omega) (out8_c (by omega) (out8_c (by omega) (out8_c (by omega) out8_n)))) (pl_all (Or.inl (Ai.c (show AP (B + 8) (o) by unfold AP; omega) (Ai.c (show AP (B + 8) (B + 10) by unfold AP; omega) (Ai.c (show AP (B + 8) (B + 12) by unfold AP; omega) (Ai.c (show AP (B + 8) (B + 14) by unfold AP; omega) (Ai.n _)))))) (Or.inr rk120_1) (Or.inr (rk120_3).ra) (Or.inr (rk120_2).ra) (Or.inl (Ai.c (show AP (B + 16) (o) by unfold AP; omega) (Ai.c (show AP (B + 16) (B + 10) by unfold AP; omega) (Ai.c (show AP (B + 16) (B + 12) by unfold AP; omega) (Ai.c (show AP (B + 16) (B + 14) by unfold AP; omega) (Ai.n _)))))) (Or.inl (Ai.c (show AP (B + 18) (o) by unfold AP; omega) (Ai.c (show AP (B + 18) (B + 10) by unfold AP; omega) (Ai.c (show AP (B + 18) (B + 12) by unfold AP; omega) (Ai.c (show AP (B + 18) (B + 14) by unfold AP; omega) (Ai.n _)))))) (Or.inl (Ai.c (show AP (B + 20) (o) by unfold AP; omega) (Ai.c (show AP (B + 20) (B + 10) by unfold AP; omega) (Ai.c (show AP (B + 20) (B + 12) by unfold AP; omega) (Ai.c (show AP (B + 20) (B + 14) by unfold AP; omega) (Ai.n _)))))) (Or.inl (Ai.c (show AP (B + 22) (o) by unfold AP; omega) (Ai.c (show AP (B + 22) (B + 10) by unfold AP; omega) (Ai.c (show AP (B + 22) (B + 12) by unfold AP; omega) (Ai.c (show AP (B + 22) (B + 14) by unfold AP; omega) (Ai.n _))))))))⟩
        · skip
          refine g_aload_n 3 dX2_commonDivisor_42 rfl ?_
          refine g_aload 2 dX2_commonDivisor_43 rfl ?_
          refine g_aload 1 dX2_commonDivisor_45 rfl ?_
          refine g_aload_n 3 dX2_commonDivisor_47 rfl ?_
          refine g_getf 2 dX2_commonDivisor_48 kX2 (by decide) fX2_20 cg_lg_0 rfl ?_
          refine g_callV (nc2 := 0) (ns2 := 0) (ci := 2) (As := [.ref (B + 12), .ref (B + 14), .ref (B + 10)]) (st := []) rfl dX2_commonDivisor_51 okX2_reduce lX2_87 itX2_reduce seX2_reduce rfl cg_lg_0 (by decide) (by decide) rfl (Nat.le_of_ble_eq_true rfl) (sP_reduce N _ B (B + 12) (B + 14) (B + 10) 84 84 84 p hp hp2 (dgi hp (fu)) ((p : Int)) (fu) (fv) (by omega) cg_lg_0 cg_lg_1 (cr_lg_2).ru cr_lg_3 cr_lg_1 (by omega) (by omega) (show AP (B + 12) (B + 14) by unfold AP; omega) (show AP (B + 12) (B + 10) by unfold AP; omega) (show AP (B + 14) (B + 10) by unfold AP; omega) (by omega) (by omega) (by omega)) (by omega) (by omega) (fun v121 hc121 q121 => ?_)
          obtain ⟨rfl, frc122, rn122_0, rn122_1⟩ := q121
          have fk123_0 : hc121.2 (B + 7) = some (oB 2 [.ref (B + 1), .ref (B + 8), .ref (B + 10), .ref (B + 12), .ref (B + 14), .ref (B + 16), .ref (B + 18), .ref (B + 20), .ref (B + 22)]) := Fr.at0 frc122 (Ni.c ⟨(show NE (B + 7) (B + 12) by unfold NE; omega), (show NE (B + 7) (B + 13) by unfold NE; omega)⟩ (Ni.c ⟨(show NE (B + 7) (B + 10) by unfold NE; omega), (show NE (B + 7) (B + 11) by unfold NE; omega)⟩ (Ni.n _))) cg_lg_0
          have fk123_1 : hc121.2 (B + 1) = some (oB 1 [.int (gI ((p : Int)))]) := Fr.at0 frc122 (Ni.c ⟨(show NE (B + 1) (B + 12) by unfold NE; omega), (show NE (B + 1) (B + 13) by unfold NE; omega)⟩ (Ni.c ⟨(show NE (B + 1) (B + 10) by unfold NE; omega), (show NE (B + 1) (B + 11) by unfold NE; omega)⟩ (Ni.n _))) cg_lg_1
          have rk123_0 : RA 84 hc121 (o) := (cr_lg_0).fr frc122 (Ai.c (show AP (o) (B + 12) by unfold AP; omega) (Ai.c (show AP (o) (B + 10) by unfold AP; omega) (Ai.n _)))
          have rk123_3 : RP hp 84 hc121 (B + 14) (fv) := (cr_lg_3).fr frc122 (Ai.c (show AP (B + 14) (B + 12) by unfold AP; omega) (Ai.c (show AP (B + 14) (B + 10) by unfold AP; omega) (Ai.n _)))
          have fr123 : Fr [o, B + 10, B + 12, B + 14] h hc121 := (fr_lg).tr ((frc122).mo (sub_c (List.Mem.tail _ (List.Mem.tail _ (List.Mem.head _))) (sub_c (List.Mem.tail _ (List.Mem.head _)) sub_n)))
          refine Go.nf (h' := hc121) (st' := []) rfl rfl (Nat.le_refl _) (Nat.le_refl _) ?_
          refine g_aload 2 dX2_commonDivisor_54 rfl ?_
          refine g_astore (ls2 := [(7, .ref (B + 12)), (6, .int (gI (turn))), (5, .ref (B + 14)), (4, .ref (B + 12)), (0, .ref (B + 7)), (1, .ref (a)), (2, .ref (b)), (3, .ref (o))]) dX2_commonDivisor_56 (by decide) rfl ?_
          refine g_aload 2 dX2_commonDivisor_58 rfl ?_
          refine g_astore (ls2 := [(4, .ref (B + 14)), (7, .ref (B + 12)), (6, .int (gI (turn))), (5, .ref (B + 14)), (0, .ref (B + 7)), (1, .ref (a)), (2, .ref (b)), (3, .ref (o))]) dX2_commonDivisor_60 (by decide) rfl ?_
          refine g_aload 1 dX2_commonDivisor_62 rfl ?_
          refine g_astore (ls2 := [(5, .ref (B + 12)), (4, .ref (B + 14)), (7, .ref (B + 12)), (6, .int (gI (turn))), (0, .ref (B + 7)), (1, .ref (a)), (2, .ref (b)), (3, .ref (o))]) dX2_commonDivisor_64 (by decide) rfl ?_
          refine g_iinc 3 (ls2 := [(6, .int (gI (turn + 1))), (5, .ref (B + 12)), (4, .ref (B + 14)), (7, .ref (B + 12)), (0, .ref (B + 7)), (1, .ref (a)), (2, .ref (b)), (3, .ref (o))]) dX2_commonDivisor_66 rfl (by decide) rfl ?_
          refine g_goto (tgt := 27) dX2_commonDivisor_69 rfl ?_
          refine Go.sub [0, 1, 2, 4, 5, 6, 7] rfl ?_
          exact ih_lg _ (by omega) (turn + 1) (fv) (rm hp fu fv) (B + 14) (B + 12) hc121 rfl fr123 rk123_0 (rn122_1).ra rk123_3 rn122_0 (by omega) (by have := rm_lt hp hpu hpv (by omega); omega) ((gP_step hp hpu hpv (by omega)).trans hG) (Or.inr ⟨rfl, rfl⟩)
    · skip
      have hlu := (cr_lg_2).lt
      have hlv := (cr_lg_3).lt
      have hpu := (cr_lg_2).po
      have hpv := (cr_lg_3).po
      refine g_iload 0 dX2_commonDivisor_27 rfl ?_
      refine g_bipush dX2_commonDivisor_29 (by decide) ?_
      refine g_icmp_gt (tgt := 72) dX2_commonDivisor_31 rfl (by unfold gW; omega) (by unfold gW; omega) (fun c324 => ?_) (fun c324 => ?_)
      · skip
        refine g_aload_n 3 dX2_commonDivisor_72 rfl ?_
        refine g_aload 2 dX2_commonDivisor_73 rfl ?_
        have hmd := mon_dgi hp hpu
        refine g_callV (nc2 := 0) (ns2 := 0) (ci := 2) (As := [.ref (B + 14)]) (st := []) rfl dX2_commonDivisor_75 okX2_makeMonic lX2_90 itX2_makeMonic seX2_makeMonic rfl cg_lg_0 (by decide) (by decide) rfl (Nat.le_of_ble_eq_true rfl) (sP_makeMonic N _ B (B + 14) 84 p hp hp2 (fu) cg_lg_0 cg_lg_1 cr_lg_2 (by omega)) (by omega) (by omega) (fun v325 hc325 q325 => ?_)
        obtain ⟨rfl, frc326, rn326_0⟩ := q325
        have fk327_0 : hc325.2 (B + 7) = some (oB 2 [.ref (B + 1), .ref (B + 8), .ref (B + 10), .ref (B + 12), .ref (B + 14), .ref (B + 16), .ref (B + 18), .ref (B + 20), .ref (B + 22)]) := Fr.at0 frc326 (Ni.c ⟨(show NE (B + 7) (B + 14) by unfold NE; omega), (show NE (B + 7) (B + 15) by unfold NE; omega)⟩ (Ni.n _)) cg_lg_0
        have fk327_1 : hc325.2 (B + 1) = some (oB 1 [.int (gI ((p : Int)))]) := Fr.at0 frc326 (Ni.c ⟨(show NE (B + 1) (B + 14) by unfold NE; omega), (show NE (B + 1) (B + 15) by unfold NE; omega)⟩ (Ni.n _)) cg_lg_1
        have rk327_0 : RA 84 hc325 (o) := (cr_lg_0).fr frc326 (Ai.c (show AP (o) (B + 14) by unfold AP; omega) (Ai.n _))
        have rk327_1 : RA 84 hc325 (B + 10) := (cr_lg_1).fr frc326 (Ai.c (show AP (B + 10) (B + 14) by unfold AP; omega) (Ai.n _))
        have rk327_3 : RP hp 84 hc325 (B + 12) (fv) := (cr_lg_3).fr frc326 (Ai.c (show AP (B + 12) (B + 14) by unfold AP; omega) (Ai.n _))
        have fr327 : Fr [o, B + 10, B + 12, B + 14] h hc325 := (fr_lg).tr ((frc326).mo (sub_c (List.Mem.tail _ (List.Mem.tail _ (List.Mem.tail _ (List.Mem.head _)))) sub_n))
        refine Go.nf (h' := hc325) (st' := []) rfl rfl (Nat.le_refl _) (Nat.le_refl _) ?_
        refine g_aload_n 6 dX2_commonDivisor_78 rfl ?_
        refine g_aload 2 dX2_commonDivisor_79 rfl ?_
        refine g_callV (nc2 := 0) (ns2 := 0) (ci := 5) (As := [.ref (B + 14)]) (st := []) rfl dX2_commonDivisor_81 okX5_copy lX2_62 itX5_copy seX5_copy rfl (Classical.choose_spec (RA.o rk327_0)) (by decide) (by decide) rfl (Nat.le_of_ble_eq_true rfl) (sP_copy N _ (o) (B + 14) 84 84 p hp hp2 (mon hp (fu)) rk327_0 rn326_0 (by omega) (show AP (o) (B + 14) by unfold AP; omega)) (by omega) (by omega) (fun v328 hc328 q328 => ?_)
        obtain ⟨rfl, frc329, rn329_0⟩ := q328
        have fk330_0 : hc328.2 (B + 7) = some (oB 2 [.ref (B + 1), .ref (B + 8), .ref (B + 10), .ref (B + 12), .ref (B + 14), .ref (B + 16), .ref (B + 18), .ref (B + 20), .ref (B + 22)]) := Fr.at0 frc329 (Ni.c ⟨(show NE (B + 7) (o) by unfold NE; omega), (show NE (B + 7) (o + 1) by unfold NE; omega)⟩ (Ni.n _)) fk327_0
        have fk330_1 : hc328.2 (B + 1) = some (oB 1 [.int (gI ((p : Int)))]) := Fr.at0 frc329 (Ni.c ⟨(show NE (B + 1) (o) by unfold NE; omega), (show NE (B + 1) (o + 1) by unfold NE; omega)⟩ (Ni.n _)) fk327_1
        have rk330_1 : RA 84 hc328 (B + 10) := (rk327_1).fr frc329 (Ai.c (show AP (B + 10) (o) by unfold AP; omega) (Ai.n _))
        have rk330_2 : RP hp 84 hc328 (B + 12) (fv) := (rk327_3).fr frc329 (Ai.c (show AP (B + 12) (o) by unfold AP; omega) (Ai.n _))
        have rk330_3 : RP hp 84 hc328 (B + 14) (mon hp (fu)) := (rn326_0).fr frc329 (Ai.c (show AP (B + 14) (o) by unfold AP; omega) (Ai.n _))
        have fr330 : Fr [o, B + 10, B + 12, B + 14] h hc328 := (fr327).tr ((frc329).mo (sub_c (List.Mem.head _) sub_n))
        refine Go.nf (h' := hc328) (st' := []) rfl rfl (Nat.le_refl _) (Nat.le_refl _) ?_
        exact g_vret dX2_commonDivisor_84 rfl ⟨rfl, (fr330).mo (sub_c (List.Mem.head _) (sub_c (List.Mem.tail _ (List.Mem.tail _ (List.Mem.head _))) (sub_c (List.Mem.tail _ (List.Mem.tail _ (List.Mem.tail _ (List.Mem.head _)))) (sub_c (List.Mem.tail _ (List.Mem.tail _ (List.Mem.tail _ (List.Mem.tail _ (List.Mem.head _))))) sub_n)))), by rw [← hG, gP_0 hp hpu hpv (by omega)]; exact rn329_0, (PW.upd hw fr330 (out8_c (by omega) (out8_c (by omega) (out8_c (by omega) (out8_c (by omega) out8_n)))) (pl_all (Or.inl (Ai.c (show AP (B + 8) (o) by unfold AP; omega) (Ai.c (show AP (B + 8) (B + 10) by unfold AP; omega) (Ai.c (show AP (B + 8) (B + 12) by unfold AP; omega) (Ai.c (show AP (B + 8) (B + 14) by unfold AP; omega) (Ai.n _)))))) (Or.inr rk330_1) (Or.inr (rk330_2).ra) (Or.inr (rk330_3).ra) (Or.inl (Ai.c (show AP (B + 16) (o) by unfold AP; omega) (Ai.c (show AP (B + 16) (B + 10) by unfold AP; omega) (Ai.c (show AP (B + 16) (B + 12) by unfold AP; omega) (Ai.c (show AP (B + 16) (B + 14) by unfold AP; omega) (Ai.n _)))))) (Or.inl (Ai.c (show AP (B + 18) (o) by unfold AP; omega) (Ai.c (show AP (B + 18) (B + 10) by unfold AP; omega) (Ai.c (show AP (B + 18) (B + 12) by unfold AP; omega) (Ai.c (show AP (B + 18) (B + 14) by unfold AP; omega) (Ai.n _)))))) (Or.inl (Ai.c (show AP (B + 20) (o) by unfold AP; omega) (Ai.c (show AP (B + 20) (B + 10) by unfold AP; omega) (Ai.c (show AP (B + 20) (B + 12) by unfold AP; omega) (Ai.c (show AP (B + 20) (B + 14) by unfold AP; omega) (Ai.n _)))))) (Or.inl (Ai.c (show AP (B + 22) (o) by unfold AP; omega) (Ai.c (show AP (B + 22) (B + 10) by unfold AP; omega) (Ai.c (show AP (B + 22) (B + 12) by unfold AP; omega) (Ai.c (show AP (B + 22) (B + 14) by unfold AP; omega) (Ai.n _))))))))⟩
      · skip
        refine g_aload 1 dX2_commonDivisor_34 rfl ?_
        refine g_getf 1 dX2_commonDivisor_36 kX5 (by decide) fX2_45 (cr_lg_3).o rfl ?_
        refine g_if_lt (tgt := 72) dX2_commonDivisor_39 rfl (by unfold gW; omega) (fun c331 => ?_) (fun c331 => ?_)
        · skip
          refine g_aload_n 3 dX2_commonDivisor_72 rfl ?_
          refine g_aload 2 dX2_commonDivisor_73 rfl ?_
          have hmd := mon_dgi hp hpu
          refine g_callV (nc2 := 0) (ns2 := 0) (ci := 2) (As := [.ref (B + 14)]) (st := []) rfl dX2_commonDivisor_75 okX2_makeMonic lX2_90 itX2_makeMonic seX2_makeMonic rfl cg_lg_0 (by decide) (by decide) rfl (Nat.le_of_ble_eq_true rfl) (sP_makeMonic N _ B (B + 14) 84 p hp hp2 (fu) cg_lg_0 cg_lg_1 cr_lg_2 (by omega)) (by omega) (by omega) (fun v332 hc332 q332 => ?_)
          obtain ⟨rfl, frc333, rn333_0⟩ := q332
          have fk334_0 : hc332.2 (B + 7) = some (oB 2 [.ref (B + 1), .ref (B + 8), .ref (B + 10), .ref (B + 12), .ref (B + 14), .ref (B + 16), .ref (B + 18), .ref (B + 20), .ref (B + 22)]) := Fr.at0 frc333 (Ni.c ⟨(show NE (B + 7) (B + 14) by unfold NE; omega), (show NE (B + 7) (B + 15) by unfold NE; omega)⟩ (Ni.n _)) cg_lg_0
          have fk334_1 : hc332.2 (B + 1) = some (oB 1 [.int (gI ((p : Int)))]) := Fr.at0 frc333 (Ni.c ⟨(show NE (B + 1) (B + 14) by unfold NE; omega), (show NE (B + 1) (B + 15) by unfold NE; omega)⟩ (Ni.n _)) cg_lg_1
          have rk334_0 : RA 84 hc332 (o) := (cr_lg_0).fr frc333 (Ai.c (show AP (o) (B + 14) by unfold AP; omega) (Ai.n _))
          have rk334_1 : RA 84 hc332 (B + 10) := (cr_lg_1).fr frc333 (Ai.c (show AP (B + 10) (B + 14) by unfold AP; omega) (Ai.n _))
          have rk334_3 : RP hp 84 hc332 (B + 12) (fv) := (cr_lg_3).fr frc333 (Ai.c (show AP (B + 12) (B + 14) by unfold AP; omega) (Ai.n _))
          have fr334 : Fr [o, B + 10, B + 12, B + 14] h hc332 := (fr_lg).tr ((frc333).mo (sub_c (List.Mem.tail _ (List.Mem.tail _ (List.Mem.tail _ (List.Mem.head _)))) sub_n))
          refine Go.nf (h' := hc332) (st' := []) rfl rfl (Nat.le_refl _) (Nat.le_refl _) ?_
          refine g_aload_n 6 dX2_commonDivisor_78 rfl ?_
          refine g_aload 2 dX2_commonDivisor_79 rfl ?_
          refine g_callV (nc2 := 0) (ns2 := 0) (ci := 5) (As := [.ref (B + 14)]) (st := []) rfl dX2_commonDivisor_81 okX5_copy lX2_62 itX5_copy seX5_copy rfl (Classical.choose_spec (RA.o rk334_0)) (by decide) (by decide) rfl (Nat.le_of_ble_eq_true rfl) (sP_copy N _ (o) (B + 14) 84 84 p hp hp2 (mon hp (fu)) rk334_0 rn333_0 (by omega) (show AP (o) (B + 14) by unfold AP; omega)) (by omega) (by omega) (fun v335 hc335 q335 => ?_)
          obtain ⟨rfl, frc336, rn336_0⟩ := q335
          have fk337_0 : hc335.2 (B + 7) = some (oB 2 [.ref (B + 1), .ref (B + 8), .ref (B + 10), .ref (B + 12), .ref (B + 14), .ref (B + 16), .ref (B + 18), .ref (B + 20), .ref (B + 22)]) := Fr.at0 frc336 (Ni.c ⟨(show NE (B + 7) (o) by unfold NE; omega), (show NE (B + 7) (o + 1) by unfold NE; omega)⟩ (Ni.n _)) fk334_0
          have fk337_1 : hc335.2 (B + 1) = some (oB 1 [.int (gI ((p : Int)))]) := Fr.at0 frc336 (Ni.c ⟨(show NE (B + 1) (o) by unfold NE; omega), (show NE (B + 1) (o + 1) by unfold NE; omega)⟩ (Ni.n _)) fk334_1
          have rk337_1 : RA 84 hc335 (B + 10) := (rk334_1).fr frc336 (Ai.c (show AP (B + 10) (o) by unfold AP; omega) (Ai.n _))
          have rk337_2 : RP hp 84 hc335 (B + 12) (fv) := (rk334_3).fr frc336 (Ai.c (show AP (B + 12) (o) by unfold AP; omega) (Ai.n _))
          have rk337_3 : RP hp 84 hc335 (B + 14) (mon hp (fu)) := (rn333_0).fr frc336 (Ai.c (show AP (B + 14) (o) by unfold AP; omega) (Ai.n _))
          have fr337 : Fr [o, B + 10, B + 12, B + 14] h hc335 := (fr334).tr ((frc336).mo (sub_c (List.Mem.head _) sub_n))
          refine Go.nf (h' := hc335) (st' := []) rfl rfl (Nat.le_refl _) (Nat.le_refl _) ?_
          exact g_vret dX2_commonDivisor_84 rfl ⟨rfl, (fr337).mo (sub_c (List.Mem.head _) (sub_c (List.Mem.tail _ (List.Mem.tail _ (List.Mem.head _))) (sub_c (List.Mem.tail _ (List.Mem.tail _ (List.Mem.tail _ (List.Mem.head _)))) (sub_c (List.Mem.tail _ (List.Mem.tail _ (List.Mem.tail _ (List.Mem.tail _ (List.Mem.head _))))) sub_n)))), by rw [← hG, gP_0 hp hpu hpv (by omega)]; exact rn336_0, (PW.upd hw fr337 (out8_c (by omega) (out8_c (by omega) (out8_c (by omega) (out8_c (by omega) out8_n)))) (pl_all (Or.inl (Ai.c (show AP (B + 8) (o) by unfold AP; omega) (Ai.c (show AP (B + 8) (B + 10) by unfold AP; omega) (Ai.c (show AP (B + 8) (B + 12) by unfold AP; omega) (Ai.c (show AP (B + 8) (B + 14) by unfold AP; omega) (Ai.n _)))))) (Or.inr rk337_1) (Or.inr (rk337_2).ra) (Or.inr (rk337_3).ra) (Or.inl (Ai.c (show AP (B + 16) (o) by unfold AP; omega) (Ai.c (show AP (B + 16) (B + 10) by unfold AP; omega) (Ai.c (show AP (B + 16) (B + 12) by unfold AP; omega) (Ai.c (show AP (B + 16) (B + 14) by unfold AP; omega) (Ai.n _)))))) (Or.inl (Ai.c (show AP (B + 18) (o) by unfold AP; omega) (Ai.c (show AP (B + 18) (B + 10) by unfold AP; omega) (Ai.c (show AP (B + 18) (B + 12) by unfold AP; omega) (Ai.c (show AP (B + 18) (B + 14) by unfold AP; omega) (Ai.n _)))))) (Or.inl (Ai.c (show AP (B + 20) (o) by unfold AP; omega) (Ai.c (show AP (B + 20) (B + 10) by unfold AP; omega) (Ai.c (show AP (B + 20) (B + 12) by unfold AP; omega) (Ai.c (show AP (B + 20) (B + 14) by unfold AP; omega) (Ai.n _)))))) (Or.inl (Ai.c (show AP (B + 22) (o) by unfold AP; omega) (Ai.c (show AP (B + 22) (B + 10) by unfold AP; omega) (Ai.c (show AP (B + 22) (B + 12) by unfold AP; omega) (Ai.c (show AP (B + 22) (B + 14) by unfold AP; omega) (Ai.n _))))))))⟩
        · skip
          refine g_aload_n 3 dX2_commonDivisor_42 rfl ?_
          refine g_aload 2 dX2_commonDivisor_43 rfl ?_
          refine g_aload 1 dX2_commonDivisor_45 rfl ?_
          refine g_aload_n 3 dX2_commonDivisor_47 rfl ?_
          refine g_getf 2 dX2_commonDivisor_48 kX2 (by decide) fX2_20 cg_lg_0 rfl ?_
          refine g_callV (nc2 := 0) (ns2 := 0) (ci := 2) (As := [.ref (B + 14), .ref (B + 12), .ref (B + 10)]) (st := []) rfl dX2_commonDivisor_51 okX2_reduce lX2_87 itX2_reduce seX2_reduce rfl cg_lg_0 (by decide) (by decide) rfl (Nat.le_of_ble_eq_true rfl) (sP_reduce N _ B (B + 14) (B + 12) (B + 10) 84 84 84 p hp hp2 (dgi hp (fu)) ((p : Int)) (fu) (fv) (by omega) cg_lg_0 cg_lg_1 (cr_lg_2).ru cr_lg_3 cr_lg_1 (by omega) (by omega) (show AP (B + 14) (B + 12) by unfold AP; omega) (show AP (B + 14) (B + 10) by unfold AP; omega) (show AP (B + 12) (B + 10) by unfold AP; omega) (by omega) (by omega) (by omega)) (by omega) (by omega) (fun v338 hc338 q338 => ?_)
          obtain ⟨rfl, frc339, rn339_0, rn339_1⟩ := q338
          have fk340_0 : hc338.2 (B + 7) = some (oB 2 [.ref (B + 1), .ref (B + 8), .ref (B + 10), .ref (B + 12), .ref (B + 14), .ref (B + 16), .ref (B + 18), .ref (B + 20), .ref (B + 22)]) := Fr.at0 frc339 (Ni.c ⟨(show NE (B + 7) (B + 14) by unfold NE; omega), (show NE (B + 7) (B + 15) by unfold NE; omega)⟩ (Ni.c ⟨(show NE (B + 7) (B + 10) by unfold NE; omega), (show NE (B + 7) (B + 11) by unfold NE; omega)⟩ (Ni.n _))) cg_lg_0
          have fk340_1 : hc338.2 (B + 1) = some (oB 1 [.int (gI ((p : Int)))]) := Fr.at0 frc339 (Ni.c ⟨(show NE (B + 1) (B + 14) by unfold NE; omega), (show NE (B + 1) (B + 15) by unfold NE; omega)⟩ (Ni.c ⟨(show NE (B + 1) (B + 10) by unfold NE; omega), (show NE (B + 1) (B + 11) by unfold NE; omega)⟩ (Ni.n _))) cg_lg_1
          have rk340_0 : RA 84 hc338 (o) := (cr_lg_0).fr frc339 (Ai.c (show AP (o) (B + 14) by unfold AP; omega) (Ai.c (show AP (o) (B + 10) by unfold AP; omega) (Ai.n _)))
          have rk340_3 : RP hp 84 hc338 (B + 12) (fv) := (cr_lg_3).fr frc339 (Ai.c (show AP (B + 12) (B + 14) by unfold AP; omega) (Ai.c (show AP (B + 12) (B + 10) by unfold AP; omega) (Ai.n _)))
          have fr340 : Fr [o, B + 10, B + 12, B + 14] h hc338 := (fr_lg).tr ((frc339).mo (sub_c (List.Mem.tail _ (List.Mem.tail _ (List.Mem.tail _ (List.Mem.head _)))) (sub_c (List.Mem.tail _ (List.Mem.head _)) sub_n)))
          refine Go.nf (h' := hc338) (st' := []) rfl rfl (Nat.le_refl _) (Nat.le_refl _) ?_
          refine g_aload 2 dX2_commonDivisor_54 rfl ?_
          refine g_astore (ls2 := [(7, .ref (B + 14)), (6, .int (gI (turn))), (5, .ref (B + 12)), (4, .ref (B + 14)), (0, .ref (B + 7)), (1, .ref (a)), (2, .ref (b)), (3, .ref (o))]) dX2_commonDivisor_56 (by decide) rfl ?_
          refine g_aload 2 dX2_commonDivisor_58 rfl ?_
          refine g_astore (ls2 := [(4, .ref (B + 12)), (7, .ref (B + 14)), (6, .int (gI (turn))), (5, .ref (B + 12)), (0, .ref (B + 7)), (1, .ref (a)), (2, .ref (b)), (3, .ref (o))]) dX2_commonDivisor_60 (by decide) rfl ?_
          refine g_aload 1 dX2_commonDivisor_62 rfl ?_
          refine g_astore (ls2 := [(5, .ref (B + 14)), (4, .ref (B + 12)), (7, .ref (B + 14)), (6, .int (gI (turn))), (0, .ref (B + 7)), (1, .ref (a)), (2, .ref (b)), (3, .ref (o))]) dX2_commonDivisor_64 (by decide) rfl ?_
          refine g_iinc 3 (ls2 := [(6, .int (gI (turn + 1))), (5, .ref (B + 14)), (4, .ref (B + 12)), (7, .ref (B + 14)), (0, .ref (B + 7)), (1, .ref (a)), (2, .ref (b)), (3, .ref (o))]) dX2_commonDivisor_66 rfl (by decide) rfl ?_
          refine g_goto (tgt := 27) dX2_commonDivisor_69 rfl ?_
          refine Go.sub [0, 1, 2, 4, 5, 6, 7] rfl ?_
          exact ih_lg _ (by omega) (turn + 1) (fv) (rm hp fu fv) (B + 12) (B + 14) hc338 rfl fr340 rk340_0 (rn339_1).ra rk340_3 rn339_0 (by omega) (by have := rm_lt hp hpu hpv (by omega); omega) ((gP_step hp hpu hpv (by omega)).trans hG) (Or.inl ⟨rfl, rfl⟩)
  exact lg _ (0) (fa) (fb) (B + 12) (B + 14) hc4 rfl fr6 rk6_2 rk6_3 rk6_5 rn5_0 (by omega) (by omega) rfl (Or.inl ⟨rfl, rfl⟩)
set_option maxHeartbeats 4000000 in
set_option maxRecDepth 100000 in
theorem sP_multiplyModulo (N : GN) (h : GH) (B a b m o p : Nat) (hp : prm p) (hp2 : p ≤ 65536) (fa fb fm : Px p) (hth : h.2 (B + 7) = some (oB 2 [.ref (B + 1), .ref (B + 8), .ref (B + 10), .ref (B + 12), .ref (B + 14), .ref (B + 16), .ref (B + 18), .ref (B + 20), .ref (B + 22)])) (hfl : h.2 (B + 1) = some (oB 1 [.int (gI ((p : Int)))])) (ha : RP hp 84 h a fa) (hb : RP hp 84 h b fb) (hm : RP hp 84 h m fm) (ho : RA 84 h o) (h8 : RA 84 h (B + 8)) (h10 : RA 84 h (B + 10)) (hd : dgi hp fa + dgi hp fb < 84) (hdm : 0 ≤ dgi hp fm) (oa : B + 12 ≤ a) (ob : B + 12 ≤ b) (om : B + 12 ≤ m) (oo : B + 12 ≤ o) : Sp N yX2_multiplyModulo mX2_multiplyModulo 0 0 [.ref (B + 7), .ref (a), .ref (b), .ref (m), .ref (o)] h (fun v h1 => v = none ∧ Fr [o, B + 8, B + 10] h h1 ∧ RP hp 84 h1 o (rm hp (pml hp fa fb) fm) ∧ RA 84 h1 (B + 8) ∧ RA 84 h1 (B + 10)) := by
  refine Sp.of (by decide) rfl rfl (Nat.le_of_ble_eq_true rfl) ?_
  show Go N mX2_multiplyModulo _ 0 0 h 0 [(0, .ref (B + 7)), (1, .ref (a)), (2, .ref (b)), (3, .ref (m)), (4, .ref (o))] []
  have hp1 := hp.1
  have hmd : dgi hp (pml hp fa fb) < 84 := by
    have : dgi hp (pml hp fa fb) = _ := mul_dgi hp ha.po hb.po
    rw [this]; split <;> omega
  refine g_aload_n 0 dX2_multiplyModulo_0 rfl ?_
  refine g_aload_n 1 dX2_multiplyModulo_1 rfl ?_
  refine g_aload_n 2 dX2_multiplyModulo_2 rfl ?_
  refine g_aload_n 0 dX2_multiplyModulo_3 rfl ?_
  refine g_getf 1 dX2_multiplyModulo_4 kX2 (by decide) fX2_14 hth rfl ?_
  refine g_callV (nc2 := 0) (ns2 := 0) (ci := 2) (As := [.ref (a), .ref (b), .ref (B + 8)]) (st := []) rfl dX2_multiplyModulo_7 okX2_pile lX2_53 itX2_pile seX2_pile rfl hth (by decide) (by decide) rfl (Nat.le_of_ble_eq_true rfl) (sP_pile N _ (B + 7) (a) (b) (B + 8) 84 84 84 p hp hp2 (fa) (fb) ha hb h8 hd (show AP (a) (B + 8) by unfold AP; omega) (show AP (b) (B + 8) by unfold AP; omega)) (by omega) (by omega) (fun v1 hc1 q1 => ?_)
  obtain ⟨rfl, frc2, rn2_0⟩ := q1
  have fk3_0 : hc1.2 (B + 7) = some (oB 2 [.ref (B + 1), .ref (B + 8), .ref (B + 10), .ref (B + 12), .ref (B + 14), .ref (B + 16), .ref (B + 18), .ref (B + 20), .ref (B + 22)]) := Fr.at0 frc2 (Ni.c ⟨(show NE (B + 7) (B + 8) by unfold NE; omega), (show NE (B + 7) (B + 9) by unfold NE; omega)⟩ (Ni.n _)) hth
  have fk3_1 : hc1.2 (B + 1) = some (oB 1 [.int (gI ((p : Int)))]) := Fr.at0 frc2 (Ni.c ⟨(show NE (B + 1) (B + 8) by unfold NE; omega), (show NE (B + 1) (B + 9) by unfold NE; omega)⟩ (Ni.n _)) hfl
  have rk3_0 : RP hp 84 hc1 (a) (fa) := (ha).fr frc2 (Ai.c (show AP (a) (B + 8) by unfold AP; omega) (Ai.n _))
  have rk3_1 : RP hp 84 hc1 (b) (fb) := (hb).fr frc2 (Ai.c (show AP (b) (B + 8) by unfold AP; omega) (Ai.n _))
  have rk3_2 : RP hp 84 hc1 (m) (fm) := (hm).fr frc2 (Ai.c (show AP (m) (B + 8) by unfold AP; omega) (Ai.n _))
  have rk3_3 : RA 84 hc1 (o) := (ho).fr frc2 (Ai.c (show AP (o) (B + 8) by unfold AP; omega) (Ai.n _))
  have rk3_5 : RA 84 hc1 (B + 10) := (h10).fr frc2 (Ai.c (show AP (B + 10) (B + 8) by unfold AP; omega) (Ai.n _))
  have fr3 : Fr [o, B + 8, B + 10] h hc1 := ((Fr.rf [o, B + 8, B + 10] h)).tr ((frc2).mo (sub_c (List.Mem.tail _ (List.Mem.head _)) sub_n))
  refine Go.nf (h' := hc1) (st' := []) rfl rfl (Nat.le_refl _) (Nat.le_refl _) ?_
  refine g_aload_n 0 dX2_multiplyModulo_10 rfl ?_
  refine g_aload_n 0 dX2_multiplyModulo_11 rfl ?_
  refine g_getf 1 dX2_multiplyModulo_12 kX2 (by decide) fX2_14 fk3_0 rfl ?_
  refine g_aload_n 3 dX2_multiplyModulo_15 rfl ?_
  refine g_aload_n 0 dX2_multiplyModulo_16 rfl ?_
  refine g_getf 2 dX2_multiplyModulo_17 kX2 (by decide) fX2_20 fk3_0 rfl ?_
  refine g_callV (nc2 := 0) (ns2 := 0) (ci := 2) (As := [.ref (B + 8), .ref (m), .ref (B + 10)]) (st := []) rfl dX2_multiplyModulo_20 okX2_reduce lX2_87 itX2_reduce seX2_reduce rfl fk3_0 (by decide) (by decide) rfl (Nat.le_of_ble_eq_true rfl) (sP_reduce N _ B (B + 8) (m) (B + 10) 84 84 84 p hp hp2 (dgi hp (pml hp (fa) (fb))) (4299262263296) (pml hp (fa) (fb)) (fm) (by omega) fk3_0 fk3_1 rn2_0 rk3_2 rk3_5 (by omega) hdm (show AP (B + 8) (m) by unfold AP; omega) (show AP (B + 8) (B + 10) by unfold AP; omega) (show AP (m) (B + 10) by unfold AP; omega) (by omega) (by omega) (by omega)) (by omega) (by omega) (fun v4 hc4 q4 => ?_)
  obtain ⟨rfl, frc5, rn5_0, rn5_1⟩ := q4
  have fk6_0 : hc4.2 (B + 7) = some (oB 2 [.ref (B + 1), .ref (B + 8), .ref (B + 10), .ref (B + 12), .ref (B + 14), .ref (B + 16), .ref (B + 18), .ref (B + 20), .ref (B + 22)]) := Fr.at0 frc5 (Ni.c ⟨(show NE (B + 7) (B + 8) by unfold NE; omega), (show NE (B + 7) (B + 9) by unfold NE; omega)⟩ (Ni.c ⟨(show NE (B + 7) (B + 10) by unfold NE; omega), (show NE (B + 7) (B + 11) by unfold NE; omega)⟩ (Ni.n _))) fk3_0
  have fk6_1 : hc4.2 (B + 1) = some (oB 1 [.int (gI ((p : Int)))]) := Fr.at0 frc5 (Ni.c ⟨(show NE (B + 1) (B + 8) by unfold NE; omega), (show NE (B + 1) (B + 9) by unfold NE; omega)⟩ (Ni.c ⟨(show NE (B + 1) (B + 10) by unfold NE; omega), (show NE (B + 1) (B + 11) by unfold NE; omega)⟩ (Ni.n _))) fk3_1
  have rk6_0 : RP hp 84 hc4 (m) (fm) := (rk3_2).fr frc5 (Ai.c (show AP (m) (B + 8) by unfold AP; omega) (Ai.c (show AP (m) (B + 10) by unfold AP; omega) (Ai.n _)))
  have rk6_1 : RA 84 hc4 (o) := (rk3_3).fr frc5 (Ai.c (show AP (o) (B + 8) by unfold AP; omega) (Ai.c (show AP (o) (B + 10) by unfold AP; omega) (Ai.n _)))
  have fr6 : Fr [o, B + 8, B + 10] h hc4 := (fr3).tr ((frc5).mo (sub_c (List.Mem.tail _ (List.Mem.head _)) (sub_c (List.Mem.tail _ (List.Mem.tail _ (List.Mem.head _))) sub_n)))
  refine Go.nf (h' := hc4) (st' := []) rfl rfl (Nat.le_refl _) (Nat.le_refl _) ?_
  refine g_aload 4 dX2_multiplyModulo_23 rfl ?_
  refine g_aload_n 0 dX2_multiplyModulo_25 rfl ?_
  refine g_getf 1 dX2_multiplyModulo_26 kX2 (by decide) fX2_14 fk6_0 rfl ?_
  refine g_callV (nc2 := 0) (ns2 := 0) (ci := 5) (As := [.ref (B + 8)]) (st := []) rfl dX2_multiplyModulo_29 okX5_copy lX2_62 itX5_copy seX5_copy rfl (Classical.choose_spec (RA.o rk6_1)) (by decide) (by decide) rfl (Nat.le_of_ble_eq_true rfl) (sP_copy N _ (o) (B + 8) 84 84 p hp hp2 (rm hp (pml hp (fa) (fb)) (fm)) rk6_1 rn5_0 (by have : dgi hp (rm hp (pml hp fa fb) fm) < dgi hp fm := rm_lt hp (mul_po ha.po hb.po) hm.po hdm; have := hm.lt; omega) (show AP (o) (B + 8) by unfold AP; omega)) (by omega) (by omega) (fun v7 hc7 q7 => ?_)
  obtain ⟨rfl, frc8, rn8_0⟩ := q7
  have fk9_0 : hc7.2 (B + 7) = some (oB 2 [.ref (B + 1), .ref (B + 8), .ref (B + 10), .ref (B + 12), .ref (B + 14), .ref (B + 16), .ref (B + 18), .ref (B + 20), .ref (B + 22)]) := Fr.at0 frc8 (Ni.c ⟨(show NE (B + 7) (o) by unfold NE; omega), (show NE (B + 7) (o + 1) by unfold NE; omega)⟩ (Ni.n _)) fk6_0
  have fk9_1 : hc7.2 (B + 1) = some (oB 1 [.int (gI ((p : Int)))]) := Fr.at0 frc8 (Ni.c ⟨(show NE (B + 1) (o) by unfold NE; omega), (show NE (B + 1) (o + 1) by unfold NE; omega)⟩ (Ni.n _)) fk6_1
  have rk9_1 : RP hp 84 hc7 (B + 8) (rm hp (pml hp (fa) (fb)) (fm)) := (rn5_0).fr frc8 (Ai.c (show AP (B + 8) (o) by unfold AP; omega) (Ai.n _))
  have rk9_2 : RP hp 84 hc7 (B + 10) (qt hp (pml hp (fa) (fb)) (fm)) := (rn5_1).fr frc8 (Ai.c (show AP (B + 10) (o) by unfold AP; omega) (Ai.n _))
  have fr9 : Fr [o, B + 8, B + 10] h hc7 := (fr6).tr ((frc8).mo (sub_c (List.Mem.head _) sub_n))
  refine Go.nf (h' := hc7) (st' := []) rfl rfl (Nat.le_refl _) (Nat.le_refl _) ?_
  exact g_vret dX2_multiplyModulo_32 rfl ⟨rfl, fr9, rn8_0, (rk9_1).ra, (rk9_2).ra⟩
section
variable {p : Nat}
theorem shA : ∀ k : Nat, k < 63 → (((gI (k : Int)).toInt64 &&& 63).toBitVec.smod 64).toNat = k := by decide +kernel
theorem gShrL_n {a : Int} (h0 : 0 ≤ a) (h1 : a < 9223372036854775808) {b : Int} (b0 : 0 ≤ b) (b1 : b < 63) : gShrL a b = ((a.toNat / 2 ^ b.toNat : Nat) : Int) := by
  obtain ⟨k, rfl⟩ := Int.eq_ofNat_of_zero_le b0
  obtain ⟨n, rfl⟩ := Int.eq_ofNat_of_zero_le h0
  unfold gShrL
  show ((gJ (n : Int)).toBitVec.sshiftRight (((gI (k : Int)).toInt64 &&& 63).toBitVec.smod 64).toNat).toInt = _
  rw [shA k (by omega), BitVec.toInt_sshiftRight]
  show (gJ (n : Int)).toInt >>> k = _
  rw [gJ_to (by unfold gX; omega), Int.shiftRight_eq_div_pow]
  rfl
theorem gAndL_1 {n : Nat} (h1 : n < 9223372036854775808) : gAndL (n : Int) 1 = ((n % 2 : Nat) : Int) := by
  unfold gAndL
  have e : (gJ (n : Int) &&& gJ 1) = gJ ((n % 2 : Nat) : Int) := by
    apply Int64.toBitVec_inj.mp
    apply BitVec.eq_of_toNat_eq
    have t : ∀ m : Nat, m < 18446744073709551616 → (gJ (m : Int)).toBitVec.toNat = m := fun m hm => by
      show (BitVec.ofInt 64 (m : Int)).toNat = m
      rw [BitVec.toNat_ofInt]
      omega
    rw [Int64.toBitVec_and, BitVec.toNat_and, t n (by omega), t (n % 2) (by omega), show (gJ 1).toBitVec.toNat = 2 ^ 1 - 1 from rfl, Nat.and_two_pow_sub_one_eq_mod]
  rw [e, gJ_to (by unfold gX; omega)]
theorem bit_s (n k : Nat) : n / 2 ^ k = 2 * (n / 2 ^ (k + 1)) + n / 2 ^ k % 2 := by
  rw [Nat.pow_succ, ← Nat.div_div_eq_div_mul]
  omega
theorem pw_rm (h : prm p) {a m : Px p} (ha : po (fR h) a) (hm : po (fR h) m) (hd : 0 ≤ dgi h m) (i j : Nat) : letI := pR h; rm h (pml h (rm h (a ^ i) m) (rm h (a ^ j) m)) m = rm h (a ^ (i + j)) m := by
  letI := pR h
  have e := rm_mul h (pw_po h ha i) (pw_po h ha j) hm hd
  refine Eq.trans e ?_
  congr 1
  exact (Lean.Grind.Semiring.pow_add a i j).symm
end
/-- a power -/
abbrev pwp {p : Nat} (h : prm p) (a : Px p) (n : Nat) : Px p := letI := pR h; a ^ n
set_option maxHeartbeats 4000000 in
set_option maxRecDepth 100000 in
theorem sP_powerModulo (N : GN) (h : GH) (B a m o p : Nat) (hp : prm p) (hp2 : p ≤ 65536) (n : Int) (fa fm : Px p) (hw : PW p B h) (ha : RP hp 84 h a fa) (hm : RP hp 84 h m fm) (ho : RA 84 h o) (hdm : 1 ≤ dgi hp fm ∧ dgi hp fm ≤ 42) (n0 : 0 ≤ n) (n1 : gX n) (oa : B + 24 ≤ a) (om : B + 24 ≤ m) (oo : B + 24 ≤ o) : Sp N yX2_powerModulo mX2_powerModulo 0 0 [.ref (B + 7), .ref (a), .long (gJ (n)), .ref (m), .ref (o)] h (fun v h1 => v = none ∧ Fr (o :: pl B) h h1 ∧ RP hp 84 h1 o (rm hp (pwp hp fa n.toNat) fm) ∧ PW p B h1) := by
  refine Sp.of (by decide) rfl rfl (Nat.le_of_ble_eq_true rfl) ?_
  show Go N mX2_powerModulo _ 0 0 h 0 [(0, .ref (B + 7)), (1, .ref (a)), (2, .long (gJ (n))), (4, .ref (m)), (5, .ref (o))] []
  have hp1 := hp.1
  have hda := ha.lt
  have hdb := hm.lt
  have hfa := ha.po
  have hpM := mon_po hp hm.po
  have hdM := mon_dgi hp hm.po
  have hl1 : dgi hp (rm hp (pwp hp fa 1) (mon hp fm)) < dgi hp (mon hp fm) := rm_lt hp (pw_po hp hfa _) hpM (by omega)
  unfold gX at n1
  refine g_aload_n 0 dX2_powerModulo_0 rfl ?_
  refine g_getf 8 dX2_powerModulo_1 kX2 (by decide) fX2_38 hw.1 rfl ?_
  refine g_aload 3 dX2_powerModulo_4 rfl ?_
  refine g_callV (nc2 := 0) (ns2 := 0) (ci := 5) (As := [.ref (m)]) (st := []) rfl dX2_powerModulo_6 okX5_copy lX2_62 itX5_copy seX5_copy rfl (Classical.choose_spec (RA.o (hw.r22))) (by decide) (by decide) rfl (Nat.le_of_ble_eq_true rfl) (sP_copy N _ (B + 22) (m) 84 84 p hp hp2 (fm) (hw.r22) hm (by omega) (show AP (B + 22) (m) by unfold AP; omega)) (by omega) (by omega) (fun v1 hc1 q1 => ?_)
  obtain ⟨rfl, frc2, rn2_0⟩ := q1
  have fk3_0 : hc1.2 (B + 7) = some (oB 2 [.ref (B + 1), .ref (B + 8), .ref (B + 10), .ref (B + 12), .ref (B + 14), .ref (B + 16), .ref (B + 18), .ref (B + 20), .ref (B + 22)]) := Fr.at0 frc2 (Ni.c ⟨(show NE (B + 7) (B + 22) by unfold NE; omega), (show NE (B + 7) (B + 23) by unfold NE; omega)⟩ (Ni.n _)) hw.1
  have fk3_1 : hc1.2 (B + 1) = some (oB 1 [.int (gI ((p : Int)))]) := Fr.at0 frc2 (Ni.c ⟨(show NE (B + 1) (B + 22) by unfold NE; omega), (show NE (B + 1) (B + 23) by unfold NE; omega)⟩ (Ni.n _)) hw.2.1
  have rk3_0 : RP hp 84 hc1 (a) (fa) := (ha).fr frc2 (Ai.c (show AP (a) (B + 22) by unfold AP; omega) (Ai.n _))
  have rk3_1 : RP hp 84 hc1 (m) (fm) := (hm).fr frc2 (Ai.c (show AP (m) (B + 22) by unfold AP; omega) (Ai.n _))
  have rk3_2 : RA 84 hc1 (o) := (ho).fr frc2 (Ai.c (show AP (o) (B + 22) by unfold AP; omega) (Ai.n _))
  have rk3_3 : RA 84 hc1 (B + 8) := ((hw.r8)).fr frc2 (Ai.c (show AP (B + 8) (B + 22) by unfold AP; omega) (Ai.n _))
  have rk3_4 : RA 84 hc1 (B + 10) := ((hw.r10)).fr frc2 (Ai.c (show AP (B + 10) (B + 22) by unfold AP; omega) (Ai.n _))
  have rk3_5 : RA 84 hc1 (B + 20) := ((hw.r20)).fr frc2 (Ai.c (show AP (B + 20) (B + 22) by unfold AP; omega) (Ai.n _))
  have fr3 : Fr [o, B + 8, B + 10, B + 20, B + 22] h hc1 := ((Fr.rf [o, B + 8, B + 10, B + 20, B + 22] h)).tr ((frc2).mo (sub_c (List.Mem.tail _ (List.Mem.tail _ (List.Mem.tail _ (List.Mem.tail _ (List.Mem.head _))))) sub_n))
  refine Go.nf (h' := hc1) (st' := []) rfl rfl (Nat.le_refl _) (Nat.le_refl _) ?_
  refine g_aload_n 0 dX2_powerModulo_9 rfl ?_
  refine g_aload_n 0 dX2_powerModulo_10 rfl ?_
  refine g_getf 8 dX2_powerModulo_11 kX2 (by decide) fX2_38 fk3_0 rfl ?_
  refine g_callV (nc2 := 0) (ns2 := 0) (ci := 2) (As := [.ref (B + 22)]) (st := []) rfl dX2_powerModulo_14 okX2_makeMonic lX2_90 itX2_makeMonic seX2_makeMonic rfl fk3_0 (by decide) (by decide) rfl (Nat.le_of_ble_eq_true rfl) (sP_makeMonic N _ B (B + 22) 84 p hp hp2 (fm) fk3_0 fk3_1 rn2_0 (by omega)) (by omega) (by omega) (fun v4 hc4 q4 => ?_)
  obtain ⟨rfl, frc5, rn5_0⟩ := q4
  have fk6_0 : hc4.2 (B + 7) = some (oB 2 [.ref (B + 1), .ref (B + 8), .ref (B + 10), .ref (B + 12), .ref (B + 14), .ref (B + 16), .ref (B + 18), .ref (B + 20), .ref (B + 22)]) := Fr.at0 frc5 (Ni.c ⟨(show NE (B + 7) (B + 22) by unfold NE; omega), (show NE (B + 7) (B + 23) by unfold NE; omega)⟩ (Ni.n _)) fk3_0
  have fk6_1 : hc4.2 (B + 1) = some (oB 1 [.int (gI ((p : Int)))]) := Fr.at0 frc5 (Ni.c ⟨(show NE (B + 1) (B + 22) by unfold NE; omega), (show NE (B + 1) (B + 23) by unfold NE; omega)⟩ (Ni.n _)) fk3_1
  have rk6_0 : RP hp 84 hc4 (a) (fa) := (rk3_0).fr frc5 (Ai.c (show AP (a) (B + 22) by unfold AP; omega) (Ai.n _))
  have rk6_1 : RP hp 84 hc4 (m) (fm) := (rk3_1).fr frc5 (Ai.c (show AP (m) (B + 22) by unfold AP; omega) (Ai.n _))
  have rk6_2 : RA 84 hc4 (o) := (rk3_2).fr frc5 (Ai.c (show AP (o) (B + 22) by unfold AP; omega) (Ai.n _))
  have rk6_3 : RA 84 hc4 (B + 8) := (rk3_3).fr frc5 (Ai.c (show AP (B + 8) (B + 22) by unfold AP; omega) (Ai.n _))
  have rk6_4 : RA 84 hc4 (B + 10) := (rk3_4).fr frc5 (Ai.c (show AP (B + 10) (B + 22) by unfold AP; omega) (Ai.n _))
  have rk6_5 : RA 84 hc4 (B + 20) := (rk3_5).fr frc5 (Ai.c (show AP (B + 20) (B + 22) by unfold AP; omega) (Ai.n _))
  have fr6 : Fr [o, B + 8, B + 10, B + 20, B + 22] h hc4 := (fr3).tr ((frc5).mo (sub_c (List.Mem.tail _ (List.Mem.tail _ (List.Mem.tail _ (List.Mem.tail _ (List.Mem.head _))))) sub_n))
  refine Go.nf (h' := hc4) (st' := []) rfl rfl (Nat.le_refl _) (Nat.le_refl _) ?_
  refine g_aload_n 0 dX2_powerModulo_17 rfl ?_
  refine g_getf 7 dX2_powerModulo_18 kX2 (by decide) fX2_35 fk6_0 rfl ?_
  refine g_aload_n 1 dX2_powerModulo_21 rfl ?_
  refine g_callV (nc2 := 0) (ns2 := 0) (ci := 5) (As := [.ref (a)]) (st := []) rfl dX2_powerModulo_22 okX5_copy lX2_62 itX5_copy seX5_copy rfl (Classical.choose_spec (RA.o rk6_5)) (by decide) (by decide) rfl (Nat.le_of_ble_eq_true rfl) (sP_copy N _ (B + 20) (a) 84 84 p hp hp2 (fa) rk6_5 rk6_0 (by omega) (show AP (B + 20) (a) by unfold AP; omega)) (by omega) (by omega) (fun v7 hc7 q7 => ?_)
  obtain ⟨rfl, frc8, rn8_0⟩ := q7
  have fk9_0 : hc7.2 (B + 7) = some (oB 2 [.ref (B + 1), .ref (B + 8), .ref (B + 10), .ref (B + 12), .ref (B + 14), .ref (B + 16), .ref (B + 18), .ref (B + 20), .ref (B + 22)]) := Fr.at0 frc8 (Ni.c ⟨(show NE (B + 7) (B + 20) by unfold NE; omega), (show NE (B + 7) (B + 21) by unfold NE; omega)⟩ (Ni.n _)) fk6_0
  have fk9_1 : hc7.2 (B + 1) = some (oB 1 [.int (gI ((p : Int)))]) := Fr.at0 frc8 (Ni.c ⟨(show NE (B + 1) (B + 20) by unfold NE; omega), (show NE (B + 1) (B + 21) by unfold NE; omega)⟩ (Ni.n _)) fk6_1
  have rk9_0 : RP hp 84 hc7 (a) (fa) := (rk6_0).fr frc8 (Ai.c (show AP (a) (B + 20) by unfold AP; omega) (Ai.n _))
  have rk9_1 : RP hp 84 hc7 (m) (fm) := (rk6_1).fr frc8 (Ai.c (show AP (m) (B + 20) by unfold AP; omega) (Ai.n _))
  have rk9_2 : RA 84 hc7 (o) := (rk6_2).fr frc8 (Ai.c (show AP (o) (B + 20) by unfold AP; omega) (Ai.n _))
  have rk9_3 : RA 84 hc7 (B + 8) := (rk6_3).fr frc8 (Ai.c (show AP (B + 8) (B + 20) by unfold AP; omega) (Ai.n _))
  have rk9_4 : RA 84 hc7 (B + 10) := (rk6_4).fr frc8 (Ai.c (show AP (B + 10) (B + 20) by unfold AP; omega) (Ai.n _))
  have rk9_6 : RP hp 84 hc7 (B + 22) (mon hp (fm)) := (rn5_0).fr frc8 (Ai.c (show AP (B + 22) (B + 20) by unfold AP; omega) (Ai.n _))
  have fr9 : Fr [o, B + 8, B + 10, B + 20, B + 22] h hc7 := (fr6).tr ((frc8).mo (sub_c (List.Mem.tail _ (List.Mem.tail _ (List.Mem.tail _ (List.Mem.head _)))) sub_n))
  refine Go.nf (h' := hc7) (st' := []) rfl rfl (Nat.le_refl _) (Nat.le_refl _) ?_
  refine g_aload_n 0 dX2_powerModulo_25 rfl ?_
  refine g_aload_n 0 dX2_powerModulo_26 rfl ?_
  refine g_getf 7 dX2_powerModulo_27 kX2 (by decide) fX2_35 fk9_0 rfl ?_
  refine g_aload_n 0 dX2_powerModulo_30 rfl ?_
  refine g_getf 8 dX2_powerModulo_31 kX2 (by decide) fX2_38 fk9_0 rfl ?_
  refine g_aload_n 0 dX2_powerModulo_34 rfl ?_
  refine g_getf 2 dX2_powerModulo_35 kX2 (by decide) fX2_20 fk9_0 rfl ?_
  refine g_callV (nc2 := 0) (ns2 := 0) (ci := 2) (As := [.ref (B + 20), .ref (B + 22), .ref (B + 10)]) (st := []) rfl dX2_powerModulo_38 okX2_reduce lX2_87 itX2_reduce seX2_reduce rfl fk9_0 (by decide) (by decide) rfl (Nat.le_of_ble_eq_true rfl) (sP_reduce N _ B (B + 20) (B + 22) (B + 10) 84 84 84 p hp hp2 (dgi hp (fa)) ((p : Int)) (fa) (mon hp (fm)) (by omega) fk9_0 fk9_1 (rn8_0).ru rk9_6 rk9_4 (by omega) (by omega) (show AP (B + 20) (B + 22) by unfold AP; omega) (show AP (B + 20) (B + 10) by unfold AP; omega) (show AP (B + 22) (B + 10) by unfold AP; omega) (by omega) (by omega) (by omega)) (by omega) (by omega) (fun v10 hc10 q10 => ?_)
  obtain ⟨rfl, frc11, rn11_0, rn11_1⟩ := q10
  have fk12_0 : hc10.2 (B + 7) = some (oB 2 [.ref (B + 1), .ref (B + 8), .ref (B + 10), .ref (B + 12), .ref (B + 14), .ref (B + 16), .ref (B + 18), .ref (B + 20), .ref (B + 22)]) := Fr.at0 frc11 (Ni.c ⟨(show NE (B + 7) (B + 20) by unfold NE; omega), (show NE (B + 7) (B + 21) by unfold NE; omega)⟩ (Ni.c ⟨(show NE (B + 7) (B + 10) by unfold NE; omega), (show NE (B + 7) (B + 11) by unfold NE; omega)⟩ (Ni.n _))) fk9_0
  have fk12_1 : hc10.2 (B + 1) = some (oB 1 [.int (gI ((p : Int)))]) := Fr.at0 frc11 (Ni.c ⟨(show NE (B + 1) (B + 20) by unfold NE; omega), (show NE (B + 1) (B + 21) by unfold NE; omega)⟩ (Ni.c ⟨(show NE (B + 1) (B + 10) by unfold NE; omega), (show NE (B + 1) (B + 11) by unfold NE; omega)⟩ (Ni.n _))) fk9_1
  have rk12_0 : RP hp 84 hc10 (a) (fa) := (rk9_0).fr frc11 (Ai.c (show AP (a) (B + 20) by unfold AP; omega) (Ai.c (show AP (a) (B + 10) by unfold AP; omega) (Ai.n _)))
  have rk12_1 : RP hp 84 hc10 (m) (fm) := (rk9_1).fr frc11 (Ai.c (show AP (m) (B + 20) by unfold AP; omega) (Ai.c (show AP (m) (B + 10) by unfold AP; omega) (Ai.n _)))
  have rk12_2 : RA 84 hc10 (o) := (rk9_2).fr frc11 (Ai.c (show AP (o) (B + 20) by unfold AP; omega) (Ai.c (show AP (o) (B + 10) by unfold AP; omega) (Ai.n _)))
  have rk12_3 : RA 84 hc10 (B + 8) := (rk9_3).fr frc11 (Ai.c (show AP (B + 8) (B + 20) by unfold AP; omega) (Ai.c (show AP (B + 8) (B + 10) by unfold AP; omega) (Ai.n _)))
  have rk12_5 : RP hp 84 hc10 (B + 22) (mon hp (fm)) := (rk9_6).fr frc11 (Ai.c (show AP (B + 22) (B + 20) by unfold AP; omega) (Ai.c (show AP (B + 22) (B + 10) by unfold AP; omega) (Ai.n _)))
  have fr12 : Fr [o, B + 8, B + 10, B + 20, B + 22] h hc10 := (fr9).tr ((frc11).mo (sub_c (List.Mem.tail _ (List.Mem.tail _ (List.Mem.tail _ (List.Mem.head _)))) (sub_c (List.Mem.tail _ (List.Mem.tail _ (List.Mem.head _))) sub_n)))
  refine Go.nf (h' := hc10) (st' := []) rfl rfl (Nat.le_refl _) (Nat.le_refl _) ?_
  refine g_aload 4 dX2_powerModulo_41 rfl ?_
  refine g_lconst1 dX2_powerModulo_43 ?_
  refine g_callV (nc2 := 0) (ns2 := 0) (ci := 5) (As := [.long (gJ (1))]) (st := []) rfl dX2_powerModulo_44 okX5_become lX2_93 itX5_become seX5_become rfl (Classical.choose_spec (RA.o rk12_2)) (by decide) (by decide) rfl (Nat.le_of_ble_eq_true rfl) (sP_become N _ (o) 84 p hp hp2 (1) (by omega) (by omega) rk12_2) (by omega) (by omega) (fun v13 hc13 q13 => ?_)
  obtain ⟨rfl, frc14, rn14_0⟩ := q13
  have fk15_0 : hc13.2 (B + 7) = some (oB 2 [.ref (B + 1), .ref (B + 8), .ref (B + 10), .ref (B + 12), .ref (B + 14), .ref (B + 16), .ref (B + 18), .ref (B + 20), .ref (B + 22)]) := Fr.at0 frc14 (Ni.c ⟨(show NE (B + 7) (o) by unfold NE; omega), (show NE (B + 7) (o + 1) by unfold NE; omega)⟩ (Ni.n _)) fk12_0
  have fk15_1 : hc13.2 (B + 1) = some (oB 1 [.int (gI ((p : Int)))]) := Fr.at0 frc14 (Ni.c ⟨(show NE (B + 1) (o) by unfold NE; omega), (show NE (B + 1) (o + 1) by unfold NE; omega)⟩ (Ni.n _)) fk12_1
  have rk15_1 : RA 84 hc13 (B + 8) := (rk12_3).fr frc14 (Ai.c (show AP (B + 8) (o) by unfold AP; omega) (Ai.n _))
  have rk15_2 : RP hp 84 hc13 (B + 22) (mon hp (fm)) := (rk12_5).fr frc14 (Ai.c (show AP (B + 22) (o) by unfold AP; omega) (Ai.n _))
  have rk15_3 : RP hp 84 hc13 (B + 20) (rm hp (fa) (mon hp (fm))) := (rn11_0).fr frc14 (Ai.c (show AP (B + 20) (o) by unfold AP; omega) (Ai.n _))
  have rk15_4 : RP hp 84 hc13 (B + 10) (qt hp (fa) (mon hp (fm))) := (rn11_1).fr frc14 (Ai.c (show AP (B + 10) (o) by unfold AP; omega) (Ai.n _))
  have fr15 : Fr [o, B + 8, B + 10, B + 20, B + 22] h hc13 := (fr12).tr ((frc14).mo (sub_c (List.Mem.head _) sub_n))
  refine Go.nf (h' := hc13) (st' := []) rfl rfl (Nat.le_refl _) (Nat.le_refl _) ?_
  refine g_bipush dX2_powerModulo_47 (by decide) ?_
  refine g_istore (ls2 := [(6, .int (gI (62))), (0, .ref (B + 7)), (1, .ref (a)), (2, .long (gJ (n))), (4, .ref (m)), (5, .ref (o))]) dX2_powerModulo_49 (by decide) rfl ?_
  have ro0 : RP hp 84 hc13 o (rm hp (pwp hp fa (n.toNat / 2 ^ ((62 : Int) + 1).toNat)) (mon hp fm)) := by
    have e0 : n.toNat / 2 ^ ((62 : Int) + 1).toNat = 0 := Nat.div_eq_of_lt (by rw [show ((62 : Int) + 1).toNat = 63 from rfl]; omega)
    rw [e0, show pwp hp fa 0 = cz hp (zi hp 1) from (pw_0 (pR hp) fa).trans (by rw [zi_1 hp]; rfl), rm_small hp (cz_po hp _) hpM (by rw [cz_dgi hp (zi_ne hp (by omega) (by omega))]; omega)]
    exact rn14_0
  have ro1 : RP hp 84 hc13 (B + 20) (rm hp (pwp hp fa (1)) (mon hp fm)) := by
    rw [show pwp hp fa 1 = fa from by letI := pR hp; show fa ^ 1 = fa; exact Lean.Grind.Semiring.pow_one fa]
    exact rk15_3
  have lb : ∀ (kk : Nat) (bit : Int) (hlb : GH), kk = (bit + 1).toNat → Fr [o, B + 8, B + 10, B + 20, B + 22] h hlb → RA 84 hlb (B + 8) → RP hp 84 hlb (B + 22) (mon hp fm) → RP hp 84 hlb (B + 20) (rm hp (pwp hp fa (1)) (mon hp fm)) → RA 84 hlb (B + 10) → RP hp 84 hlb (o) (rm hp (pwp hp fa (n.toNat / 2 ^ (bit + 1).toNat)) (mon hp fm)) → (-1 ≤ bit ∧ bit ≤ 62) → Go N mX2_powerModulo (fun v h1 => v = none ∧ Fr (o :: pl B) h h1 ∧ RP hp 84 h1 o (rm hp (pwp hp fa n.toNat) fm) ∧ PW p B h1) 0 0 hlb 51 [(6, .int (gI (bit))), (0, .ref (B + 7)), (1, .ref (a)), (2, .long (gJ (n))), (4, .ref (m)), (5, .ref (o))] [] := by
    refine Go.ind (fun kk ih_lb => ?_)
    intro bit hlb hkk_lb fr_lb cr_lb_0 cr_lb_1 cr_lb_2 cr_lb_3 cr_lb_4 hb
    have cg_lb_0 : hlb.2 (B + 7) = some (oB 2 [.ref (B + 1), .ref (B + 8), .ref (B + 10), .ref (B + 12), .ref (B + 14), .ref (B + 16), .ref (B + 18), .ref (B + 20), .ref (B + 22)]) := Fr.at0 fr_lb (Ni.c ⟨(show NE (B + 7) (o) by unfold NE; omega), (show NE (B + 7) (o + 1) by unfold NE; omega)⟩ (Ni.c ⟨(show NE (B + 7) (B + 8) by unfold NE; omega), (show NE (B + 7) (B + 9) by unfold NE; omega)⟩ (Ni.c ⟨(show NE (B + 7) (B + 10) by unfold NE; omega), (show NE (B + 7) (B + 11) by unfold NE; omega)⟩ (Ni.c ⟨(show NE (B + 7) (B + 20) by unfold NE; omega), (show NE (B + 7) (B + 21) by unfold NE; omega)⟩ (Ni.c ⟨(show NE (B + 7) (B + 22) by unfold NE; omega), (show NE (B + 7) (B + 23) by unfold NE; omega)⟩ (Ni.n _)))))) hw.1
    have cg_lb_1 : hlb.2 (B + 1) = some (oB 1 [.int (gI ((p : Int)))]) := Fr.at0 fr_lb (Ni.c ⟨(show NE (B + 1) (o) by unfold NE; omega), (show NE (B + 1) (o + 1) by unfold NE; omega)⟩ (Ni.c ⟨(show NE (B + 1) (B + 8) by unfold NE; omega), (show NE (B + 1) (B + 9) by unfold NE; omega)⟩ (Ni.c ⟨(show NE (B + 1) (B + 10) by unfold NE; omega), (show NE (B + 1) (B + 11) by unfold NE; omega)⟩ (Ni.c ⟨(show NE (B + 1) (B + 20) by unfold NE; omega), (show NE (B + 1) (B + 21) by unfold NE; omega)⟩ (Ni.c ⟨(show NE (B + 1) (B + 22) by unfold NE; omega), (show NE (B + 1) (B + 23) by unfold NE; omega)⟩ (Ni.n _)))))) hw.2.1
    have hlo : dgi hp (rm hp (pwp hp fa (n.toNat / 2 ^ (bit + 1).toNat)) (mon hp fm)) < dgi hp (mon hp fm) := rm_lt hp (pw_po hp hfa _) hpM (by omega)
    refine g_iload 0 dX2_powerModulo_51 rfl ?_
    refine g_if_lt (tgt := 103) dX2_powerModulo_53 rfl (by unfold gW; omega) (fun c117 => ?_) (fun c117 => ?_)
    · skip
      exact g_vret dX2_powerModulo_103 rfl ⟨rfl, (fr_lb).mo (sub_c (List.Mem.head _) (sub_c (List.Mem.tail _ (List.Mem.head _)) (sub_c (List.Mem.tail _ (List.Mem.tail _ (List.Mem.head _))) (sub_c (List.Mem.tail _ (List.Mem.tail _ (List.Mem.tail _ (List.Mem.tail _ (List.Mem.tail _ (List.Mem.tail _ (List.Mem.tail _ (List.Mem.head _)))))))) (sub_c (List.Mem.tail _ (List.Mem.tail _ (List.Mem.tail _ (List.Mem.tail _ (List.Mem.tail _ (List.Mem.tail _ (List.Mem.tail _ (List.Mem.tail _ (List.Mem.head _))))))))) sub_n))))), by
      have hr := cr_lb_4
      have hb1 : bit = -1 := by omega
      rw [hb1, show n.toNat / 2 ^ ((-1 : Int) + 1).toNat = n.toNat from Nat.div_one _, rm_mon hp (pw_po hp hfa _) hm.po (by omega)] at hr
      exact hr, (PW.upd hw fr_lb (out8_c (by omega) (out8_c (by omega) (out8_c (by omega) (out8_c (by omega) (out8_c (by omega) out8_n))))) (pl_all (Or.inr cr_lb_0) (Or.inr cr_lb_3) (Or.inl (Ai.c (show AP (B + 12) (o) by unfold AP; omega) (Ai.c (show AP (B + 12) (B + 8) by unfold AP; omega) (Ai.c (show AP (B + 12) (B + 10) by unfold AP; omega) (Ai.c (show AP (B + 12) (B + 20) by unfold AP; omega) (Ai.c (show AP (B + 12) (B + 22) by unfold AP; omega) (Ai.n _))))))) (Or.inl (Ai.c (show AP (B + 14) (o) by unfold AP; omega) (Ai.c (show AP (B + 14) (B + 8) by unfold AP; omega) (Ai.c (show AP (B + 14) (B + 10) by unfold AP; omega) (Ai.c (show AP (B + 14) (B + 20) by unfold AP; omega) (Ai.c (show AP (B + 14) (B + 22) by unfold AP; omega) (Ai.n _))))))) (Or.inl (Ai.c (show AP (B + 16) (o) by unfold AP; omega) (Ai.c (show AP (B + 16) (B + 8) by unfold AP; omega) (Ai.c (show AP (B + 16) (B + 10) by unfold AP; omega) (Ai.c (show AP (B + 16) (B + 20) by unfold AP; omega) (Ai.c (show AP (B + 16) (B + 22) by unfold AP; omega) (Ai.n _))))))) (Or.inl (Ai.c (show AP (B + 18) (o) by unfold AP; omega) (Ai.c (show AP (B + 18) (B + 8) by unfold AP; omega) (Ai.c (show AP (B + 18) (B + 10) by unfold AP; omega) (Ai.c (show AP (B + 18) (B + 20) by unfold AP; omega) (Ai.c (show AP (B + 18) (B + 22) by unfold AP; omega) (Ai.n _))))))) (Or.inr (cr_lb_2).ra) (Or.inr (cr_lb_1).ra)))⟩
    · skip
      refine g_aload_n 1 dX2_powerModulo_56 rfl ?_
      refine g_aload 5 dX2_powerModulo_57 rfl ?_
      refine g_aload 5 dX2_powerModulo_59 rfl ?_
      refine g_aload_n 1 dX2_powerModulo_61 rfl ?_
      refine g_getf 8 dX2_powerModulo_62 kX2 (by decide) fX2_38 cg_lb_0 rfl ?_
      refine g_aload 5 dX2_powerModulo_65 rfl ?_
      refine g_callV (nc2 := 0) (ns2 := 0) (ci := 2) (As := [.ref (o), .ref (o), .ref (B + 22), .ref (o)]) (st := []) rfl dX2_powerModulo_67 okX2_multiplyModulo lX2_114 itX2_multiplyModulo seX2_multiplyModulo rfl cg_lb_0 (by decide) (by decide) rfl (Nat.le_of_ble_eq_true rfl) (sP_multiplyModulo N _ B (o) (o) (B + 22) (o) p hp hp2 (rm hp (pwp hp fa (n.toNat / 2 ^ (bit + 1).toNat)) (mon hp fm)) (rm hp (pwp hp fa (n.toNat / 2 ^ (bit + 1).toNat)) (mon hp fm)) (mon hp fm) cg_lb_0 cg_lb_1 cr_lb_4 cr_lb_4 cr_lb_1 (cr_lb_4).ra cr_lb_0 cr_lb_3 (by omega) (by omega) (by omega) (by omega) (by omega) (by omega)) (by omega) (by omega) (fun v118 hc118 q118 => ?_)
      obtain ⟨rfl, frc119, rn119_0, rn119_1, rn119_2⟩ := q118
      have fk120_0 : hc118.2 (B + 7) = some (oB 2 [.ref (B + 1), .ref (B + 8), .ref (B + 10), .ref (B + 12), .ref (B + 14), .ref (B + 16), .ref (B + 18), .ref (B + 20), .ref (B + 22)]) := Fr.at0 frc119 (Ni.c ⟨(show NE (B + 7) (o) by unfold NE; omega), (show NE (B + 7) (o + 1) by unfold NE; omega)⟩ (Ni.c ⟨(show NE (B + 7) (B + 8) by unfold NE; omega), (show NE (B + 7) (B + 9) by unfold NE; omega)⟩ (Ni.c ⟨(show NE (B + 7) (B + 10) by unfold NE; omega), (show NE (B + 7) (B + 11) by unfold NE; omega)⟩ (Ni.n _)))) cg_lb_0
      have fk120_1 : hc118.2 (B + 1) = some (oB 1 [.int (gI ((p : Int)))]) := Fr.at0 frc119 (Ni.c ⟨(show NE (B + 1) (o) by unfold NE; omega), (show NE (B + 1) (o + 1) by unfold NE; omega)⟩ (Ni.c ⟨(show NE (B + 1) (B + 8) by unfold NE; omega), (show NE (B + 1) (B + 9) by unfold NE; omega)⟩ (Ni.c ⟨(show NE (B + 1) (B + 10) by unfold NE; omega), (show NE (B + 1) (B + 11) by unfold NE; omega)⟩ (Ni.n _)))) cg_lb_1
      have rk120_1 : RP hp 84 hc118 (B + 22) (mon hp fm) := (cr_lb_1).fr frc119 (Ai.c (show AP (B + 22) (o) by unfold AP; omega) (Ai.c (show AP (B + 22) (B + 8) by unfold AP; omega) (Ai.c (show AP (B + 22) (B + 10) by unfold AP; omega) (Ai.n _))))
      have rk120_2 : RP hp 84 hc118 (B + 20) (rm hp (pwp hp fa (1)) (mon hp fm)) := (cr_lb_2).fr frc119 (Ai.c (show AP (B + 20) (o) by unfold AP; omega) (Ai.c (show AP (B + 20) (B + 8) by unfold AP; omega) (Ai.c (show AP (B + 20) (B + 10) by unfold AP; omega) (Ai.n _))))
      have fr120 : Fr [o, B + 8, B + 10, B + 20, B + 22] h hc118 := (fr_lb).tr ((frc119).mo (sub_c (List.Mem.head _) (sub_c (List.Mem.tail _ (List.Mem.head _)) (sub_c (List.Mem.tail _ (List.Mem.tail _ (List.Mem.head _))) sub_n))))
      refine Go.nf (h' := hc118) (st' := []) rfl rfl (Nat.le_refl _) (Nat.le_refl _) ?_
      have hl2 : dgi hp (rm hp (pml hp (rm hp (pwp hp fa (n.toNat / 2 ^ (bit + 1).toNat)) (mon hp fm)) (rm hp (pwp hp fa (n.toNat / 2 ^ (bit + 1).toNat)) (mon hp fm))) (mon hp fm)) < dgi hp (mon hp fm) := rm_lt hp (mul_po (rm_po hp (pw_po hp hfa _) hpM (by omega)) (rm_po hp (pw_po hp hfa _) hpM (by omega))) hpM (by omega)
      refine g_lload_n 3 dX2_powerModulo_70 rfl ?_
      refine g_iload 0 dX2_powerModulo_71 rfl ?_
      refine g_lshr dX2_powerModulo_73 ?_
      refine g_lconst1 dX2_powerModulo_74 ?_
      refine g_land dX2_powerModulo_75 ?_
      refine g_lconst1 dX2_powerModulo_76 ?_
      have hsh := gShrL_n (show 0 ≤ n by omega) (show n < 9223372036854775808 by omega) (show 0 ≤ bit by omega) (show bit < 63 by omega)
      have hsl : n.toNat / 2 ^ bit.toNat ≤ n.toNat := Nat.div_le_self _ _
      have han := gAndL_1 (show n.toNat / 2 ^ bit.toNat < 9223372036854775808 by omega)
      rw [hsh, han]
      refine g_lcmp dX2_powerModulo_77 (by unfold gX; omega) (by unfold gX; omega) ?_
      refine g_if_ne (tgt := 97) dX2_powerModulo_78 rfl (gW_cmp _ _) (fun c121 => ?_) (fun c121 => ?_)
      · skip
        have hodd : ¬ _ = _ := fun z => c121 (gcmp_eq.mpr z)
        refine g_iinc 0 (ls2 := [(6, .int (gI (bit + (-1)))), (0, .ref (B + 7)), (1, .ref (a)), (2, .long (gJ (n))), (4, .ref (m)), (5, .ref (o))]) dX2_powerModulo_97 rfl (by decide) rfl ?_
        refine g_goto (tgt := 51) dX2_powerModulo_100 rfl ?_
        exact ih_lb _ (by omega) (bit + (-1)) hc118 rfl fr120 rn119_1 rk120_1 rk120_2 rn119_2 (by
        have hb0 := bit_s n.toNat bit.toNat
        rw [show bit.toNat + 1 = (bit + 1).toNat by omega] at hb0
        have hr := rn119_0
        rw [show (bit + (-1) + 1).toNat = bit.toNat by omega, hb0]
        rw [pw_rm hp hfa hpM (by omega)] at hr
        rw [show n.toNat / 2 ^ bit.toNat % 2 = 0 by omega, Nat.two_mul]
        exact hr) (by omega)
      · skip
        have hodd := gcmp_eq.mp c121
        refine g_aload_n 1 dX2_powerModulo_81 rfl ?_
        refine g_aload 5 dX2_powerModulo_82 rfl ?_
        refine g_aload_n 1 dX2_powerModulo_84 rfl ?_
        refine g_getf 7 dX2_powerModulo_85 kX2 (by decide) fX2_35 fk120_0 rfl ?_
        refine g_aload_n 1 dX2_powerModulo_88 rfl ?_
        refine g_getf 8 dX2_powerModulo_89 kX2 (by decide) fX2_38 fk120_0 rfl ?_
        refine g_aload 5 dX2_powerModulo_92 rfl ?_
        refine g_callV (nc2 := 0) (ns2 := 0) (ci := 2) (As := [.ref (o), .ref (B + 20), .ref (B + 22), .ref (o)]) (st := []) rfl dX2_powerModulo_94 okX2_multiplyModulo lX2_114 itX2_multiplyModulo seX2_multiplyModulo rfl fk120_0 (by decide) (by decide) rfl (Nat.le_of_ble_eq_true rfl) (sP_multiplyModulo N _ B (o) (B + 20) (B + 22) (o) p hp hp2 (rm hp (pml hp (rm hp (pwp hp fa (n.toNat / 2 ^ (bit + 1).toNat)) (mon hp fm)) (rm hp (pwp hp fa (n.toNat / 2 ^ (bit + 1).toNat)) (mon hp fm))) (mon hp fm)) (rm hp (pwp hp fa (1)) (mon hp fm)) (mon hp fm) fk120_0 fk120_1 rn119_0 rk120_2 rk120_1 (rn119_0).ra rn119_1 rn119_2 (by omega) (by omega) (by omega) (by omega) (by omega) (by omega)) (by omega) (by omega) (fun v122 hc122 q122 => ?_)
        obtain ⟨rfl, frc123, rn123_0, rn123_1, rn123_2⟩ := q122
        have fk124_0 : hc122.2 (B + 7) = some (oB 2 [.ref (B + 1), .ref (B + 8), .ref (B + 10), .ref (B + 12), .ref (B + 14), .ref (B + 16), .ref (B + 18), .ref (B + 20), .ref (B + 22)]) := Fr.at0 frc123 (Ni.c ⟨(show NE (B + 7) (o) by unfold NE; omega), (show NE (B + 7) (o + 1) by unfold NE; omega)⟩ (Ni.c ⟨(show NE (B + 7) (B + 8) by unfold NE; omega), (show NE (B + 7) (B + 9) by unfold NE; omega)⟩ (Ni.c ⟨(show NE (B + 7) (B + 10) by unfold NE; omega), (show NE (B + 7) (B + 11) by unfold NE; omega)⟩ (Ni.n _)))) fk120_0
        have fk124_1 : hc122.2 (B + 1) = some (oB 1 [.int (gI ((p : Int)))]) := Fr.at0 frc123 (Ni.c ⟨(show NE (B + 1) (o) by unfold NE; omega), (show NE (B + 1) (o + 1) by unfold NE; omega)⟩ (Ni.c ⟨(show NE (B + 1) (B + 8) by unfold NE; omega), (show NE (B + 1) (B + 9) by unfold NE; omega)⟩ (Ni.c ⟨(show NE (B + 1) (B + 10) by unfold NE; omega), (show NE (B + 1) (B + 11) by unfold NE; omega)⟩ (Ni.n _)))) fk120_1
        have rk124_0 : RP hp 84 hc122 (B + 22) (mon hp fm) := (rk120_1).fr frc123 (Ai.c (show AP (B + 22) (o) by unfold AP; omega) (Ai.c (show AP (B + 22) (B + 8) by unfold AP; omega) (Ai.c (show AP (B + 22) (B + 10) by unfold AP; omega) (Ai.n _))))
        have rk124_1 : RP hp 84 hc122 (B + 20) (rm hp (pwp hp fa (1)) (mon hp fm)) := (rk120_2).fr frc123 (Ai.c (show AP (B + 20) (o) by unfold AP; omega) (Ai.c (show AP (B + 20) (B + 8) by unfold AP; omega) (Ai.c (show AP (B + 20) (B + 10) by unfold AP; omega) (Ai.n _))))
        have fr124 : Fr [o, B + 8, B + 10, B + 20, B + 22] h hc122 := (fr120).tr ((frc123).mo (sub_c (List.Mem.head _) (sub_c (List.Mem.tail _ (List.Mem.head _)) (sub_c (List.Mem.tail _ (List.Mem.tail _ (List.Mem.head _))) sub_n))))
        refine Go.nf (h' := hc122) (st' := []) rfl rfl (Nat.le_refl _) (Nat.le_refl _) ?_
        refine g_iinc 0 (ls2 := [(6, .int (gI (bit + (-1)))), (0, .ref (B + 7)), (1, .ref (a)), (2, .long (gJ (n))), (4, .ref (m)), (5, .ref (o))]) dX2_powerModulo_97 rfl (by decide) rfl ?_
        refine g_goto (tgt := 51) dX2_powerModulo_100 rfl ?_
        exact ih_lb _ (by omega) (bit + (-1)) hc122 rfl fr124 rn123_1 rk124_0 rk124_1 rn123_2 (by
        have hb0 := bit_s n.toNat bit.toNat
        rw [show bit.toNat + 1 = (bit + 1).toNat by omega] at hb0
        have hr := rn123_0
        rw [show (bit + (-1) + 1).toNat = bit.toNat by omega, hb0]
        rw [pw_rm hp hfa hpM (by omega), pw_rm hp hfa hpM (by omega)] at hr
        rw [show n.toNat / 2 ^ bit.toNat % 2 = 1 by omega, Nat.two_mul]
        exact hr) (by omega)
  exact lb _ (62) hc13 rfl fr15 rk15_1 rk15_2 ro1 (rk15_4).ra ro0 (by omega)
