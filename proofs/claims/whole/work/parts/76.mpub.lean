theorem prm_of {n : Int} (h : gPrime n) : prm n.toNat := by
  obtain ⟨h1, h2, h3⟩ := h
  refine ⟨by omega, fun d d0 d1 hd => ?_⟩
  obtain ⟨e, he⟩ := hd
  have key : ∀ a b : Nat, 2 ≤ a → a ≤ b → n.toNat = a * b → False := fun a b a0 ab e => by
    refine h3 a (by omega) ?_ ?_
    · have e1 : a * a ≤ a * b := Nat.mul_le_mul_left a ab
      have e2 : ((a * a : Nat) : Int) = (a : Int) * a := Int.natCast_mul a a
      omega
    · have e3 : n = (a : Int) * b := by
        have e4 : ((a * b : Nat) : Int) = (a : Int) * b := Int.natCast_mul a b
        omega
      rw [e3]; exact Int.mul_tmod_right _ _
  rcases Nat.lt_or_ge e 2 with z | z
  · rcases (show e = 0 ∨ e = 1 by omega) with y | y
    · rw [y, Nat.mul_zero] at he; omega
    · rw [y, Nat.mul_one] at he; omega
  · rcases Nat.lt_or_ge d e with y | y
    · exact key d e d0 (by omega) he
    · exact key e d z y (by rw [Nat.mul_comm]; exact he)
section
variable {p : Nat}
/-- c x^i y^j more -/
def pls (h : prm p) (F : Pxy p) (c : Int) (j i : Nat) : Pxy p := fun b a => letI := fR h; if b = j ∧ a = i then F b a + zi h c else F b a
theorem pls_PB (h : prm p) {F : Pxy p} (c : Int) {j i : Nat} (hF : PB h F) (hj : j ≤ 6) (hi : i ≤ 40) : PB h (pls h F c j i) := fun b a hba => by
  unfold pls
  rw [if_neg (by omega)]
  exact hF b a hba
noncomputable def rcon (h : prm p) (c : Int) : Rs p := .inr (pF h (cz h (zi h c)))
noncomputable def rvar (h : prm p) (w : Int) : Rs p := if w = 0 then .inr (pls h (zF h) 1 0 1) else if w = 1 then .inr (pls h (zF h) 1 1 0) else .inl (-2)
noncomputable def rpls (h : prm p) (c i j : Int) (F : Pxy p) : Rs p := if 0 ≤ i ∧ i ≤ 40 ∧ 0 ≤ j ∧ j ≤ 6 then .inr (pls h F c j.toNat i.toNat) else .inl (-4)
theorem pls_NW (h : prm p) {F : Pxy p} {g : Int → Int} {c v : Int} {j i : Int} (hF : NW F g) (j0 : 0 ≤ j) (j1 : j ≤ 6) (i0 : 0 ≤ i) (i1 : i ≤ 40) (hv : 0 ≤ v ∧ v < p) (he : zi h v = zi h (g (7 * i + j) + c)) : NW (pls h F c j.toNat i.toNat) (gup g (7 * i + j) v) := by
  obtain ⟨j, rfl⟩ := Int.eq_ofNat_of_zero_le j0
  obtain ⟨i, rfl⟩ := Int.eq_ofNat_of_zero_le i0
  rw [Int.toNat_natCast, Int.toNat_natCast]
  refine NW_of h (fun k k0 k1 => ?_) (fun b a hb ha => ?_)
  · by_cases z : k = 7 * (i : Int) + j
    · rw [z, gup_s]; exact hv
    · rw [gup_n _ _ z]; exact hF.bd h k0 k1
  · unfold pls
    by_cases z : b = j ∧ a = i
    · rw [if_pos z, z.1, z.2, gup_s, he, zi_add, hF.zi h (by omega) (by omega)]
    · rw [if_neg z, gup_n _ _ (by omega), hF.zi h hb ha]
theorem con_NW (h : prm p) {g : Int → Int} {v c : Int} (hF : NW (zF h) g) (hv : 0 ≤ v ∧ v < p) (he : zi h v = zi h c) : NW (pF h (cz h (zi h c))) (gup g 0 v) := by
  refine NW_of h (fun k k0 k1 => ?_) (fun b a hb ha => ?_)
  · by_cases z : k = 0
    · rw [z, gup_s]; exact hv
    · rw [gup_n _ _ z]; exact hF.bd h k0 k1
  · letI := fR h
    by_cases z : b = 0
    · subst z
      show _ = (if a = 0 then zi h c else 0)
      by_cases y : a = 0
      · subst y
        rw [if_pos rfl, ← he]
        exact congrArg (zi h) (gup_s _ _ _)
      · rw [if_neg y, gup_n _ _ (by omega), hF.zi h hb ha]; rfl
    · rw [gup_n _ _ (by omega), hF.zi h hb ha]
      show (0 : Fp p) = (if b = 0 then cz h (zi h c) else (letI := pR h; 0)) a
      rw [if_neg z]; exact (zero_k _ a).symm
theorem cz_dgi40 (h : prm p) (c : Fp p) : dgi h (cz h c) ≤ 40 := by
  have : dl (fR h) (cz h c) 1 := fun k hk => by
    letI := fR h
    show (if k = 0 then c else 0) = 0
    rw [if_neg (by omega)]
  have := dgi_le h this
  omega
theorem val_x (h : prm p) (F : Pxy p) (x y : Fp p) : letI := fR h; val h F x y = sm (fR h) 41 (fun i => sm (fR h) 7 (fun j => F j i * y ^ j) * x ^ i) := by
  letI := fR h
  unfold val
  have e1 : sm (fR h) 7 (fun j => sm (fR h) 41 (fun i => F j i * x ^ i) * y ^ j) = sm (fR h) 7 (fun j => sm (fR h) 41 (fun i => F j i * x ^ i * y ^ j)) := sm_congr (fR h) (fun j _ => (sm_mulr (fR h) 41 _ _).symm)
  have e2 : sm (fR h) 41 (fun i => sm (fR h) 7 (fun j => F j i * y ^ j) * x ^ i) = sm (fR h) 41 (fun i => sm (fR h) 7 (fun j => F j i * y ^ j * x ^ i)) := sm_congr (fR h) (fun j _ => (sm_mulr (fR h) 7 _ _).symm)
  rw [e1, e2, sm_swap (fR h) (fun j i => F j i * x ^ i * y ^ j)]
  refine sm_congr (fR h) (fun i _ => sm_congr (fR h) (fun j _ => ?_))
  generalize x ^ i = u
  generalize y ^ j = v
  grind
noncomputable def dropT (T : PT p) (a : Int) : PT p := fun k => if (k : Int) = a then none else T k
end
set_option maxHeartbeats 4000000 in
set_option maxRecDepth 100000 in
theorem sM_constant (N : GN) (h : GH) (B p : Nat) (hp : prm p) (hp2 : p ≤ 65536) (hf le fc pn rn hn qn : Int) (T : PT p) (c : Int) (gX_c : gX c) (hm : h.2 B = some (mO B p hf le fc pn rn hn qn)) (hT : MP hp B h T) (ms : MS B h)  : Sp N yX10_constant mX10_constant 0 0 [.ref (B), .long (gJ (c))] h (fun v h1 => Fr [B + 1, B + 3, B + 5, B + 7] h h1 ∧ MS B h1 ∧ ∃ w T2, Ou T (rcon hp c) w T2 ∧ v = some (.int (gI w)) ∧ MP hp B h1 T2) := by
  refine Sp.of (by decide) rfl rfl (Nat.le_of_ble_eq_true rfl) ?_
  show Go N mX10_constant _ 0 0 h 0 [(0, .ref (B)), (1, .long (gJ (c)))] []
  have hp1 := hp.1
  have neA : NE B (B + 5) := by unfold NE; omega
  have neB : NE B (B + 6) := by unfold NE; omega
  have neC : NE (B + 5) (B + 6) := by unfold NE; omega
  have ne0 : NE (B) (B + 1) := by unfold NE; omega
  have ne1 : NE (B) (B + 2) := by unfold NE; omega
  have ne2 : NE (B) (B + 3) := by unfold NE; omega
  have ne3 : NE (B) (B + 4) := by unfold NE; omega
  have ne4 : NE (B) (B + 5) := by unfold NE; omega
  have ne5 : NE (B) (B + 6) := by unfold NE; omega
  have ne6 : NE (B) (B + 7) := by unfold NE; omega
  have ne7 : NE (B) (B + 8) := by unfold NE; omega
  have ne8 : NE (B + 1) (B + 2) := by unfold NE; omega
  have ne9 : NE (B + 1) (B + 3) := by unfold NE; omega
  have ne10 : NE (B + 1) (B + 4) := by unfold NE; omega
  have ne11 : NE (B + 1) (B + 5) := by unfold NE; omega
  have ne12 : NE (B + 1) (B + 6) := by unfold NE; omega
  have ne13 : NE (B + 1) (B + 7) := by unfold NE; omega
  have ne14 : NE (B + 1) (B + 8) := by unfold NE; omega
  have ne15 : NE (B + 2) (B + 3) := by unfold NE; omega
  have ne16 : NE (B + 2) (B + 4) := by unfold NE; omega
  have ne17 : NE (B + 2) (B + 5) := by unfold NE; omega
  have ne18 : NE (B + 2) (B + 6) := by unfold NE; omega
  have ne19 : NE (B + 2) (B + 7) := by unfold NE; omega
  have ne20 : NE (B + 2) (B + 8) := by unfold NE; omega
  have ne21 : NE (B + 3) (B + 4) := by unfold NE; omega
  have ne22 : NE (B + 3) (B + 5) := by unfold NE; omega
  have ne23 : NE (B + 3) (B + 6) := by unfold NE; omega
  have ne24 : NE (B + 3) (B + 7) := by unfold NE; omega
  have ne25 : NE (B + 3) (B + 8) := by unfold NE; omega
  have ne26 : NE (B + 4) (B + 5) := by unfold NE; omega
  have ne27 : NE (B + 4) (B + 6) := by unfold NE; omega
  have ne28 : NE (B + 4) (B + 7) := by unfold NE; omega
  have ne29 : NE (B + 4) (B + 8) := by unfold NE; omega
  have ne30 : NE (B + 5) (B + 6) := by unfold NE; omega
  have ne31 : NE (B + 5) (B + 7) := by unfold NE; omega
  have ne32 : NE (B + 5) (B + 8) := by unfold NE; omega
  have ne33 : NE (B + 6) (B + 7) := by unfold NE; omega
  have ne34 : NE (B + 6) (B + 8) := by unfold NE; omega
  have ne35 : NE (B + 7) (B + 8) := by unfold NE; omega
  obtain ⟨ma, hw, ⟨gm, h4⟩, ⟨g7, h7⟩, ⟨g8, h8⟩⟩ := ms
  refine g_aload_n 0 dX10_constant_0 rfl ?_
  refine g_callV (nc2 := 0) (ns2 := 0) (ci := 10) (As := []) (st := []) rfl dX10_constant_1 okX10_clear lX10_107 itX10_clear seX10_clear rfl hm (by decide) (by decide) rfl (Nat.le_of_ble_eq_true rfl) (sM_clear N _ B p hp hp2 hf le fc pn rn hn qn (gm) hm hw h4) (by omega) (by omega) (fun v1 hc1 q1 => ?_)
  obtain ⟨rfl, frc2, rn2_0, rn2_1⟩ := q1
  have mfz3 : MF B [B + 3] [] h hc1 := MF.of frc2 ((MF.rf [B + 1, B + 3] [] ma)).2.1 (Ni.c ⟨(ne22).s, (ne26).s⟩ (Ni.n _)) (Ni.c ⟨(ne23).s, (ne27).s⟩ (Ni.n _)) []
  have fk4_0 : hc1.2 (B) = some (mO B ((p : Int)) (hf) (le) (fc) (pn) (rn) (hn) (qn)) := Fr.at0 (mfz3).1 (Ni.c ⟨ne4, ne5⟩ (Ni.c ⟨ne2, ne3⟩ (Ni.n _))) hm
  have fk4_2 : hc1.2 (B + 7) = some (aJ 6400 (g7)) := Fr.at0 (mfz3).1 (Ni.c ⟨(ne31).s, (ne33).s⟩ (Ni.c ⟨(ne24).s, (ne28).s⟩ (Ni.n _))) h7
  have fk4_3 : hc1.2 (B + 8) = some (aI 11520 (g8)) := Fr.at0 (mfz3).1 (Ni.c ⟨(ne32).s, (ne34).s⟩ (Ni.c ⟨(ne25).s, (ne29).s⟩ (Ni.n _))) h8
  have rk4_0 : MP hp B hc1 (T) := (hT).fr (mfz3).1 (Ni.c ⟨ne11, ne12⟩ (Ni.c ⟨ne9, ne10⟩ (Ni.n _))) (Ni.c ⟨ne17, ne18⟩ (Ni.c ⟨ne15, ne16⟩ (Ni.n _)))
  have fr4 : MF B [B + 1, B + 3] [] h hc1 := ((MF.rf [B + 1, B + 3] [] ma)).tr ((mfz3).mo (sub_c (List.Mem.tail _ (List.Mem.head _)) sub_n) sbI_n)
  refine Go.nf (h' := hc1) (st' := []) rfl rfl (Nat.le_refl _) (Nat.le_refl _) ?_
  refine g_aload_n 0 dX10_constant_4 rfl ?_
  refine g_getf 3 dX10_constant_5 kX10 (by decide) fX10_17 fk4_0 rfl ?_
  refine g_iconst dX10_constant_8 ?_
  refine g_aload_n 0 dX10_constant_9 rfl ?_
  refine g_lload_n 1 dX10_constant_10 rfl ?_
  refine g_callV (nc2 := 0) (ns2 := 0) (ci := 10) (As := [.long (gJ (c))]) (st := [.int (gI (0)), .ref (B + 3)]) rfl dX10_constant_11 okX10_modulo lX10_110 itX10_modulo seX10_modulo rfl fk4_0 (by decide) (by decide) rfl (Nat.le_of_ble_eq_true rfl) (sX10_modulo N _ B _ _ _ _ _ _ _ _ _ _ _ _ _ _ _ _ _ _ _ _ _ _ _ _ _ _ _ _ _ (p : Int) (c) (by first | assumption | (unfold gX; omega)) (by omega) (by omega) fk4_0) (by omega) (by omega) (fun v5 hc5 q5 => ?_)
  obtain ⟨hq6, rfl⟩ := q5
  rw [gMod_em (show (0 : Int) < p by omega)]
  have hmb6 := em_in hp (c)
  refine Go.nf (h' := hc1) (st' := [.int (gI ((c) % (p : Int))), .int (gI (0)), .ref (B + 3)]) hq6 rfl (Nat.le_refl _) (Nat.le_refl _) ?_
  obtain ⟨zB, gz, z3, zN, zV⟩ := rn2_1
  refine g_iastore dX10_constant_14 z3 (by omega) (by omega) (by omega) ?_
  obtain ⟨hh7, eh7⟩ : ∃ z : GH, z = hset hc1 (B + 3) (aI 1500 (gup (gz) (0) ((c) % (p : Int)))) := ⟨_, rfl⟩
  refine Go.hp eh7.symm ?_
  have fx7 : Fr [B + 3] hc1 hh7 := Fr.w0 (Fr.rf _ _) (List.Mem.head _) eh7
  have fh7_3 : hh7.2 (B + 4) = some (aI 1500 (gm)) := hs_n eh7 (ne21).s rn2_0
  have fhw7 : hh7.2 (B + 3) = some (aI 1500 (gup (gz) (0) ((c) % (p : Int)))) := hs_s eh7
  have mfz8 : MF B [B + 3] [] hc1 hh7 := MF.of fx7 (fr4).2.1 (Ni.c ⟨(ne22).s, (ne26).s⟩ (Ni.n _)) (Ni.c ⟨(ne23).s, (ne27).s⟩ (Ni.n _)) []
  have fk9_0 : hh7.2 (B) = some (mO B ((p : Int)) (hf) (le) (fc) (pn) (rn) (hn) (qn)) := Fr.at0 (mfz8).1 (Ni.c ⟨ne4, ne5⟩ (Ni.c ⟨ne2, ne3⟩ (Ni.n _))) fk4_0
  have fk9_1 : hh7.2 (B + 7) = some (aJ 6400 (g7)) := Fr.at0 (mfz8).1 (Ni.c ⟨(ne31).s, (ne33).s⟩ (Ni.c ⟨(ne24).s, (ne28).s⟩ (Ni.n _))) fk4_2
  have fk9_2 : hh7.2 (B + 8) = some (aI 11520 (g8)) := Fr.at0 (mfz8).1 (Ni.c ⟨(ne32).s, (ne34).s⟩ (Ni.c ⟨(ne25).s, (ne29).s⟩ (Ni.n _))) fk4_3
  have rk9_0 : MP hp B hh7 (T) := (rk4_0).fr (mfz8).1 (Ni.c ⟨ne11, ne12⟩ (Ni.c ⟨ne9, ne10⟩ (Ni.n _))) (Ni.c ⟨ne17, ne18⟩ (Ni.c ⟨ne15, ne16⟩ (Ni.n _)))
  have fr9 : MF B [B + 1, B + 3] [] h hh7 := (fr4).tr ((mfz8).mo (sub_c (List.Mem.tail _ (List.Mem.head _)) sub_n) sbI_n)
  have mw10 : MW hp B hh7 (pF hp (cz hp (zi hp c))) := ⟨pF_PB hp (cz_po hp _) (cz_dgi40 hp _), _, fhw7, con_NW hp zN (em_in hp _) (zi_mod hp _), fun q q0 q1 => by
                                                                      by_cases z : q = 0
                                                                      · rw [z, gup_s]; exact em_in hp _
                                                                      · rw [gup_n _ _ z]; exact zV q q0 q1⟩
  refine g_aload_n 0 dX10_constant_15 rfl ?_
  refine g_callV (nc2 := 0) (ns2 := 0) (ci := 10) (As := []) (st := []) rfl dX10_constant_16 okX10_keep lX10_114 itX10_keep seX10_keep rfl fk9_0 (by decide) (by decide) rfl (Nat.le_of_ble_eq_true rfl) (sM_keep N _ B p hp hp2 hf le fc pn rn hn qn T (pF hp (cz hp (zi hp c))) fk9_0 rk9_0 mw10) (by omega) (by omega) (fun v11 hc11 q11 => ?_)
  obtain ⟨frc12, w12, hK12, rfl, mp12⟩ := q11
  have mfz13 : MF B [B + 1] [] hh7 hc11 := MF.of frc12 (fr9).2.1 (Ni.c ⟨(ne11).s, (ne17).s⟩ (Ni.n _)) (Ni.c ⟨(ne12).s, (ne18).s⟩ (Ni.n _)) []
  have fk14_0 : hc11.2 (B) = some (mO B ((p : Int)) (hf) (le) (fc) (pn) (rn) (hn) (qn)) := Fr.at0 (mfz13).1 (Ni.c ⟨ne4, ne5⟩ (Ni.c ⟨ne0, ne1⟩ (Ni.n _))) fk9_0
  have fk14_1 : hc11.2 (B + 7) = some (aJ 6400 (g7)) := Fr.at0 (mfz13).1 (Ni.c ⟨(ne31).s, (ne33).s⟩ (Ni.c ⟨(ne13).s, (ne19).s⟩ (Ni.n _))) fk9_1
  have fk14_2 : hc11.2 (B + 8) = some (aI 11520 (g8)) := Fr.at0 (mfz13).1 (Ni.c ⟨(ne32).s, (ne34).s⟩ (Ni.c ⟨(ne14).s, (ne20).s⟩ (Ni.n _))) fk9_2
  have fk14_3 : hc11.2 (B + 4) = some (aI 1500 (gm)) := Fr.at0 (mfz13).1 (Ni.c ⟨ne26, ne27⟩ (Ni.c ⟨(ne10).s, (ne16).s⟩ (Ni.n _))) fh7_3
  have rk14_1 : MW hp B hc11 (pF hp (cz hp (zi hp c))) := (mw10).fr (mfz13).1 (Ni.c ⟨ne22, ne23⟩ (Ni.c ⟨(ne9).s, (ne15).s⟩ (Ni.n _)))
  have fr14 : MF B [B + 1, B + 3] [] h hc11 := (fr9).tr ((mfz13).mo (sub_c (List.Mem.head _) sub_n) sbI_n)
  refine Go.nf (h' := hc11) (st' := [.int (gI (w12))]) rfl rfl (Nat.le_refl _) (Nat.le_refl _) ?_
  exact g_iret dX10_constant_19 rfl ⟨((fr14).1.mo (sub_c (List.Mem.tail _ (List.Mem.tail _ (List.Mem.head _))) (sub_c (List.Mem.head _) (sub_c (List.Mem.tail _ (List.Mem.head _)) sub_n)))), ⟨(fr14).2.1, (rk14_1).a, ⟨_, fk14_3⟩, ⟨_, fk14_1⟩, ⟨_, fk14_2⟩⟩, w12, _, ⟨hK12, rfl⟩, rfl, mp12⟩
set_option maxHeartbeats 4000000 in
set_option maxRecDepth 100000 in
theorem sM_variable (N : GN) (h : GH) (B p : Nat) (hp : prm p) (hp2 : p ≤ 65536) (hf le fc pn rn hn qn : Int) (T : PT p) (u : Int) (gW_u : gW u) (hm : h.2 B = some (mO B p hf le fc pn rn hn qn)) (hT : MP hp B h T) (ms : MS B h)  : Sp N yX10_variable mX10_variable 0 0 [.ref (B), .int (gI (u))] h (fun v h1 => Fr [B + 1, B + 3, B + 5, B + 7] h h1 ∧ MS B h1 ∧ ∃ w T2, Ou T (rvar hp u) w T2 ∧ v = some (.int (gI w)) ∧ MP hp B h1 T2) := by
  refine Sp.of (by decide) rfl rfl (Nat.le_of_ble_eq_true rfl) ?_
  show Go N mX10_variable _ 0 0 h 0 [(0, .ref (B)), (1, .int (gI (u)))] []
  have hp1 := hp.1
  have neA : NE B (B + 5) := by unfold NE; omega
  have neB : NE B (B + 6) := by unfold NE; omega
  have neC : NE (B + 5) (B + 6) := by unfold NE; omega
  have ne0 : NE (B) (B + 1) := by unfold NE; omega
  have ne1 : NE (B) (B + 2) := by unfold NE; omega
  have ne2 : NE (B) (B + 3) := by unfold NE; omega
  have ne3 : NE (B) (B + 4) := by unfold NE; omega
  have ne4 : NE (B) (B + 5) := by unfold NE; omega
  have ne5 : NE (B) (B + 6) := by unfold NE; omega
  have ne6 : NE (B) (B + 7) := by unfold NE; omega
  have ne7 : NE (B) (B + 8) := by unfold NE; omega
  have ne8 : NE (B + 1) (B + 2) := by unfold NE; omega
  have ne9 : NE (B + 1) (B + 3) := by unfold NE; omega
  have ne10 : NE (B + 1) (B + 4) := by unfold NE; omega
  have ne11 : NE (B + 1) (B + 5) := by unfold NE; omega
  have ne12 : NE (B + 1) (B + 6) := by unfold NE; omega
  have ne13 : NE (B + 1) (B + 7) := by unfold NE; omega
  have ne14 : NE (B + 1) (B + 8) := by unfold NE; omega
  have ne15 : NE (B + 2) (B + 3) := by unfold NE; omega
  have ne16 : NE (B + 2) (B + 4) := by unfold NE; omega
  have ne17 : NE (B + 2) (B + 5) := by unfold NE; omega
  have ne18 : NE (B + 2) (B + 6) := by unfold NE; omega
  have ne19 : NE (B + 2) (B + 7) := by unfold NE; omega
  have ne20 : NE (B + 2) (B + 8) := by unfold NE; omega
  have ne21 : NE (B + 3) (B + 4) := by unfold NE; omega
  have ne22 : NE (B + 3) (B + 5) := by unfold NE; omega
  have ne23 : NE (B + 3) (B + 6) := by unfold NE; omega
  have ne24 : NE (B + 3) (B + 7) := by unfold NE; omega
  have ne25 : NE (B + 3) (B + 8) := by unfold NE; omega
  have ne26 : NE (B + 4) (B + 5) := by unfold NE; omega
  have ne27 : NE (B + 4) (B + 6) := by unfold NE; omega
  have ne28 : NE (B + 4) (B + 7) := by unfold NE; omega
  have ne29 : NE (B + 4) (B + 8) := by unfold NE; omega
  have ne30 : NE (B + 5) (B + 6) := by unfold NE; omega
  have ne31 : NE (B + 5) (B + 7) := by unfold NE; omega
  have ne32 : NE (B + 5) (B + 8) := by unfold NE; omega
  have ne33 : NE (B + 6) (B + 7) := by unfold NE; omega
  have ne34 : NE (B + 6) (B + 8) := by unfold NE; omega
  have ne35 : NE (B + 7) (B + 8) := by unfold NE; omega
  obtain ⟨ma, hw, ⟨gm, h4⟩, ⟨g7, h7⟩, ⟨g8, h8⟩⟩ := ms
  refine g_iload_n 1 dX10_variable_0 rfl ?_
  refine g_if_eq (tgt := 12) dX10_variable_1 rfl (by first | exact gW_u | (unfold gW; omega)) (fun c1 => ?_) (fun c1 => ?_)
  · skip
    refine g_aload_n 0 dX10_variable_12 rfl ?_
    refine g_callV (nc2 := 0) (ns2 := 0) (ci := 10) (As := []) (st := []) rfl dX10_variable_13 okX10_clear lX10_107 itX10_clear seX10_clear rfl hm (by decide) (by decide) rfl (Nat.le_of_ble_eq_true rfl) (sM_clear N _ B p hp hp2 hf le fc pn rn hn qn (gm) hm hw h4) (by omega) (by omega) (fun v2 hc2 q2 => ?_)
    obtain ⟨rfl, frc3, rn3_0, rn3_1⟩ := q2
    have mfz4 : MF B [B + 3] [] h hc2 := MF.of frc3 ((MF.rf [B + 1, B + 3] [] ma)).2.1 (Ni.c ⟨(ne22).s, (ne26).s⟩ (Ni.n _)) (Ni.c ⟨(ne23).s, (ne27).s⟩ (Ni.n _)) []
    have fk5_0 : hc2.2 (B) = some (mO B ((p : Int)) (hf) (le) (fc) (pn) (rn) (hn) (qn)) := Fr.at0 (mfz4).1 (Ni.c ⟨ne4, ne5⟩ (Ni.c ⟨ne2, ne3⟩ (Ni.n _))) hm
    have fk5_2 : hc2.2 (B + 7) = some (aJ 6400 (g7)) := Fr.at0 (mfz4).1 (Ni.c ⟨(ne31).s, (ne33).s⟩ (Ni.c ⟨(ne24).s, (ne28).s⟩ (Ni.n _))) h7
    have fk5_3 : hc2.2 (B + 8) = some (aI 11520 (g8)) := Fr.at0 (mfz4).1 (Ni.c ⟨(ne32).s, (ne34).s⟩ (Ni.c ⟨(ne25).s, (ne29).s⟩ (Ni.n _))) h8
    have rk5_0 : MP hp B hc2 (T) := (hT).fr (mfz4).1 (Ni.c ⟨ne11, ne12⟩ (Ni.c ⟨ne9, ne10⟩ (Ni.n _))) (Ni.c ⟨ne17, ne18⟩ (Ni.c ⟨ne15, ne16⟩ (Ni.n _)))
    have fr5 : MF B [B + 1, B + 3] [] h hc2 := ((MF.rf [B + 1, B + 3] [] ma)).tr ((mfz4).mo (sub_c (List.Mem.tail _ (List.Mem.head _)) sub_n) sbI_n)
    refine Go.nf (h' := hc2) (st' := []) rfl rfl (Nat.le_refl _) (Nat.le_refl _) ?_
    refine g_aload_n 0 dX10_variable_16 rfl ?_
    refine g_getf 3 dX10_variable_17 kX10 (by decide) fX10_17 fk5_0 rfl ?_
    refine g_iload_n 1 dX10_variable_20 rfl ?_
    refine g_if_ne (tgt := 29) dX10_variable_21 rfl (by first | exact gW_u | (unfold gW; omega)) (fun c6 => ?_) (fun c6 => ?_)
    · skip
      refine g_iconst dX10_variable_29 ?_
      refine g_iconst dX10_variable_30 ?_
      obtain ⟨zB, gz, z3, zN, zV⟩ := rn3_1
      refine g_iastore dX10_variable_31 z3 (by omega) (by omega) (by omega) ?_
      obtain ⟨hh7, eh7⟩ : ∃ z : GH, z = hset hc2 (B + 3) (aI 1500 (gup (gz) (1) (1))) := ⟨_, rfl⟩
      refine Go.hp eh7.symm ?_
      have fx7 : Fr [B + 3] hc2 hh7 := Fr.w0 (Fr.rf _ _) (List.Mem.head _) eh7
      have fh7_3 : hh7.2 (B + 4) = some (aI 1500 (gm)) := hs_n eh7 (ne21).s rn3_0
      have fhw7 : hh7.2 (B + 3) = some (aI 1500 (gup (gz) (1) (1))) := hs_s eh7
      have mfz8 : MF B [B + 3] [] hc2 hh7 := MF.of fx7 (fr5).2.1 (Ni.c ⟨(ne22).s, (ne26).s⟩ (Ni.n _)) (Ni.c ⟨(ne23).s, (ne27).s⟩ (Ni.n _)) []
      have fk9_0 : hh7.2 (B) = some (mO B ((p : Int)) (hf) (le) (fc) (pn) (rn) (hn) (qn)) := Fr.at0 (mfz8).1 (Ni.c ⟨ne4, ne5⟩ (Ni.c ⟨ne2, ne3⟩ (Ni.n _))) fk5_0
      have fk9_1 : hh7.2 (B + 7) = some (aJ 6400 (g7)) := Fr.at0 (mfz8).1 (Ni.c ⟨(ne31).s, (ne33).s⟩ (Ni.c ⟨(ne24).s, (ne28).s⟩ (Ni.n _))) fk5_2
      have fk9_2 : hh7.2 (B + 8) = some (aI 11520 (g8)) := Fr.at0 (mfz8).1 (Ni.c ⟨(ne32).s, (ne34).s⟩ (Ni.c ⟨(ne25).s, (ne29).s⟩ (Ni.n _))) fk5_3
      have rk9_0 : MP hp B hh7 (T) := (rk5_0).fr (mfz8).1 (Ni.c ⟨ne11, ne12⟩ (Ni.c ⟨ne9, ne10⟩ (Ni.n _))) (Ni.c ⟨ne17, ne18⟩ (Ni.c ⟨ne15, ne16⟩ (Ni.n _)))
      have fr9 : MF B [B + 1, B + 3] [] h hh7 := (fr5).tr ((mfz8).mo (sub_c (List.Mem.tail _ (List.Mem.head _)) sub_n) sbI_n)
      have e3 : hh7.2 (B + 3) = some (aI 1500 (gup gz (7 * 0 + 1) 1)) := fhw7
      have hz0 : gz (7 * 0 + 1) = 0 := by rw [zN 1 0 (by omega) (by omega) (by omega) (by omega), zF_cy]
      have mw10 : MW hp B hh7 (pls hp (zF hp) 1 1 0) := ⟨pls_PB hp 1 (zF_PB hp) (by omega) (by omega), _, e3, pls_NW hp (j := 1) (i := 0) zN (by omega) (by omega) (by omega) (by omega) (by omega) (by rw [hz0, Int.zero_add]), fun q q0 q1 => by
                                                                      by_cases z : q = 7 * 0 + 1
                                                                      · rw [z, gup_s]; omega
                                                                      · rw [gup_n _ _ z]; exact zV q q0 q1⟩
      refine g_aload_n 0 dX10_variable_32 rfl ?_
      refine g_callV (nc2 := 0) (ns2 := 0) (ci := 10) (As := []) (st := []) rfl dX10_variable_33 okX10_keep lX10_114 itX10_keep seX10_keep rfl fk9_0 (by decide) (by decide) rfl (Nat.le_of_ble_eq_true rfl) (sM_keep N _ B p hp hp2 hf le fc pn rn hn qn T (pls hp (zF hp) 1 1 0) fk9_0 rk9_0 mw10) (by omega) (by omega) (fun v11 hc11 q11 => ?_)
      obtain ⟨frc12, w12, hK12, rfl, mp12⟩ := q11
      have mfz13 : MF B [B + 1] [] hh7 hc11 := MF.of frc12 (fr9).2.1 (Ni.c ⟨(ne11).s, (ne17).s⟩ (Ni.n _)) (Ni.c ⟨(ne12).s, (ne18).s⟩ (Ni.n _)) []
      have fk14_0 : hc11.2 (B) = some (mO B ((p : Int)) (hf) (le) (fc) (pn) (rn) (hn) (qn)) := Fr.at0 (mfz13).1 (Ni.c ⟨ne4, ne5⟩ (Ni.c ⟨ne0, ne1⟩ (Ni.n _))) fk9_0
      have fk14_1 : hc11.2 (B + 7) = some (aJ 6400 (g7)) := Fr.at0 (mfz13).1 (Ni.c ⟨(ne31).s, (ne33).s⟩ (Ni.c ⟨(ne13).s, (ne19).s⟩ (Ni.n _))) fk9_1
      have fk14_2 : hc11.2 (B + 8) = some (aI 11520 (g8)) := Fr.at0 (mfz13).1 (Ni.c ⟨(ne32).s, (ne34).s⟩ (Ni.c ⟨(ne14).s, (ne20).s⟩ (Ni.n _))) fk9_2
      have fk14_3 : hc11.2 (B + 4) = some (aI 1500 (gm)) := Fr.at0 (mfz13).1 (Ni.c ⟨ne26, ne27⟩ (Ni.c ⟨(ne10).s, (ne16).s⟩ (Ni.n _))) fh7_3
      have rk14_1 : MW hp B hc11 (pls hp (zF hp) 1 1 0) := (mw10).fr (mfz13).1 (Ni.c ⟨ne22, ne23⟩ (Ni.c ⟨(ne9).s, (ne15).s⟩ (Ni.n _)))
      have fr14 : MF B [B + 1, B + 3] [] h hc11 := (fr9).tr ((mfz13).mo (sub_c (List.Mem.head _) sub_n) sbI_n)
      refine Go.nf (h' := hc11) (st' := [.int (gI (w12))]) rfl rfl (Nat.le_refl _) (Nat.le_refl _) ?_
      exact g_iret dX10_variable_36 rfl ⟨((fr14).1.mo (sub_c (List.Mem.tail _ (List.Mem.tail _ (List.Mem.head _))) (sub_c (List.Mem.head _) (sub_c (List.Mem.tail _ (List.Mem.head _)) sub_n)))), ⟨(fr14).2.1, (rk14_1).a, ⟨_, fk14_3⟩, ⟨_, fk14_1⟩, ⟨_, fk14_2⟩⟩, w12, _, (by unfold rvar; rw [if_neg (by omega), if_pos (by omega)]; exact ⟨hK12, rfl⟩), rfl, mp12⟩
    · skip
      refine g_bipush dX10_variable_24 (by decide) ?_
      refine g_goto (tgt := 30) dX10_variable_26 rfl ?_
      refine g_iconst dX10_variable_30 ?_
      obtain ⟨zB, gz, z3, zN, zV⟩ := rn3_1
      refine g_iastore dX10_variable_31 z3 (by omega) (by omega) (by omega) ?_
      obtain ⟨hh15, eh15⟩ : ∃ z : GH, z = hset hc2 (B + 3) (aI 1500 (gup (gz) (7) (1))) := ⟨_, rfl⟩
      refine Go.hp eh15.symm ?_
      have fx15 : Fr [B + 3] hc2 hh15 := Fr.w0 (Fr.rf _ _) (List.Mem.head _) eh15
      have fh15_3 : hh15.2 (B + 4) = some (aI 1500 (gm)) := hs_n eh15 (ne21).s rn3_0
      have fhw15 : hh15.2 (B + 3) = some (aI 1500 (gup (gz) (7) (1))) := hs_s eh15
      have mfz16 : MF B [B + 3] [] hc2 hh15 := MF.of fx15 (fr5).2.1 (Ni.c ⟨(ne22).s, (ne26).s⟩ (Ni.n _)) (Ni.c ⟨(ne23).s, (ne27).s⟩ (Ni.n _)) []
      have fk17_0 : hh15.2 (B) = some (mO B ((p : Int)) (hf) (le) (fc) (pn) (rn) (hn) (qn)) := Fr.at0 (mfz16).1 (Ni.c ⟨ne4, ne5⟩ (Ni.c ⟨ne2, ne3⟩ (Ni.n _))) fk5_0
      have fk17_1 : hh15.2 (B + 7) = some (aJ 6400 (g7)) := Fr.at0 (mfz16).1 (Ni.c ⟨(ne31).s, (ne33).s⟩ (Ni.c ⟨(ne24).s, (ne28).s⟩ (Ni.n _))) fk5_2
      have fk17_2 : hh15.2 (B + 8) = some (aI 11520 (g8)) := Fr.at0 (mfz16).1 (Ni.c ⟨(ne32).s, (ne34).s⟩ (Ni.c ⟨(ne25).s, (ne29).s⟩ (Ni.n _))) fk5_3
      have rk17_0 : MP hp B hh15 (T) := (rk5_0).fr (mfz16).1 (Ni.c ⟨ne11, ne12⟩ (Ni.c ⟨ne9, ne10⟩ (Ni.n _))) (Ni.c ⟨ne17, ne18⟩ (Ni.c ⟨ne15, ne16⟩ (Ni.n _)))
      have fr17 : MF B [B + 1, B + 3] [] h hh15 := (fr5).tr ((mfz16).mo (sub_c (List.Mem.tail _ (List.Mem.head _)) sub_n) sbI_n)
      have e3 : hh15.2 (B + 3) = some (aI 1500 (gup gz (7 * 1 + 0) 1)) := fhw15
      have hz0 : gz (7 * 1 + 0) = 0 := by rw [zN 0 1 (by omega) (by omega) (by omega) (by omega), zF_cy]
      have mw18 : MW hp B hh15 (pls hp (zF hp) 1 0 1) := ⟨pls_PB hp 1 (zF_PB hp) (by omega) (by omega), _, e3, pls_NW hp (j := 0) (i := 1) zN (by omega) (by omega) (by omega) (by omega) (by omega) (by rw [hz0, Int.zero_add]), fun q q0 q1 => by
                                                                      by_cases z : q = 7 * 1 + 0
                                                                      · rw [z, gup_s]; omega
                                                                      · rw [gup_n _ _ z]; exact zV q q0 q1⟩
      refine g_aload_n 0 dX10_variable_32 rfl ?_
      refine g_callV (nc2 := 0) (ns2 := 0) (ci := 10) (As := []) (st := []) rfl dX10_variable_33 okX10_keep lX10_114 itX10_keep seX10_keep rfl fk17_0 (by decide) (by decide) rfl (Nat.le_of_ble_eq_true rfl) (sM_keep N _ B p hp hp2 hf le fc pn rn hn qn T (pls hp (zF hp) 1 0 1) fk17_0 rk17_0 mw18) (by omega) (by omega) (fun v19 hc19 q19 => ?_)
      obtain ⟨frc20, w20, hK20, rfl, mp20⟩ := q19
      have mfz21 : MF B [B + 1] [] hh15 hc19 := MF.of frc20 (fr17).2.1 (Ni.c ⟨(ne11).s, (ne17).s⟩ (Ni.n _)) (Ni.c ⟨(ne12).s, (ne18).s⟩ (Ni.n _)) []
      have fk22_0 : hc19.2 (B) = some (mO B ((p : Int)) (hf) (le) (fc) (pn) (rn) (hn) (qn)) := Fr.at0 (mfz21).1 (Ni.c ⟨ne4, ne5⟩ (Ni.c ⟨ne0, ne1⟩ (Ni.n _))) fk17_0
      have fk22_1 : hc19.2 (B + 7) = some (aJ 6400 (g7)) := Fr.at0 (mfz21).1 (Ni.c ⟨(ne31).s, (ne33).s⟩ (Ni.c ⟨(ne13).s, (ne19).s⟩ (Ni.n _))) fk17_1
      have fk22_2 : hc19.2 (B + 8) = some (aI 11520 (g8)) := Fr.at0 (mfz21).1 (Ni.c ⟨(ne32).s, (ne34).s⟩ (Ni.c ⟨(ne14).s, (ne20).s⟩ (Ni.n _))) fk17_2
      have fk22_3 : hc19.2 (B + 4) = some (aI 1500 (gm)) := Fr.at0 (mfz21).1 (Ni.c ⟨ne26, ne27⟩ (Ni.c ⟨(ne10).s, (ne16).s⟩ (Ni.n _))) fh15_3
      have rk22_1 : MW hp B hc19 (pls hp (zF hp) 1 0 1) := (mw18).fr (mfz21).1 (Ni.c ⟨ne22, ne23⟩ (Ni.c ⟨(ne9).s, (ne15).s⟩ (Ni.n _)))
      have fr22 : MF B [B + 1, B + 3] [] h hc19 := (fr17).tr ((mfz21).mo (sub_c (List.Mem.head _) sub_n) sbI_n)
      refine Go.nf (h' := hc19) (st' := [.int (gI (w20))]) rfl rfl (Nat.le_refl _) (Nat.le_refl _) ?_
      exact g_iret dX10_variable_36 rfl ⟨((fr22).1.mo (sub_c (List.Mem.tail _ (List.Mem.tail _ (List.Mem.head _))) (sub_c (List.Mem.head _) (sub_c (List.Mem.tail _ (List.Mem.head _)) sub_n)))), ⟨(fr22).2.1, (rk22_1).a, ⟨_, fk22_3⟩, ⟨_, fk22_1⟩, ⟨_, fk22_2⟩⟩, w20, _, (by unfold rvar; rw [if_pos (by omega)]; exact ⟨hK20, rfl⟩), rfl, mp20⟩
  · skip
    refine g_iload_n 1 dX10_variable_4 rfl ?_
    refine g_iconst dX10_variable_5 ?_
    refine g_icmp_eq (tgt := 12) dX10_variable_6 rfl (by first | exact gW_u | (unfold gW; omega)) (by first | exact gW_u | (unfold gW; omega)) (fun c23 => ?_) (fun c23 => ?_)
    · skip
      refine g_aload_n 0 dX10_variable_12 rfl ?_
      refine g_callV (nc2 := 0) (ns2 := 0) (ci := 10) (As := []) (st := []) rfl dX10_variable_13 okX10_clear lX10_107 itX10_clear seX10_clear rfl hm (by decide) (by decide) rfl (Nat.le_of_ble_eq_true rfl) (sM_clear N _ B p hp hp2 hf le fc pn rn hn qn (gm) hm hw h4) (by omega) (by omega) (fun v24 hc24 q24 => ?_)
      obtain ⟨rfl, frc25, rn25_0, rn25_1⟩ := q24
      have mfz26 : MF B [B + 3] [] h hc24 := MF.of frc25 ((MF.rf [B + 1, B + 3] [] ma)).2.1 (Ni.c ⟨(ne22).s, (ne26).s⟩ (Ni.n _)) (Ni.c ⟨(ne23).s, (ne27).s⟩ (Ni.n _)) []
      have fk27_0 : hc24.2 (B) = some (mO B ((p : Int)) (hf) (le) (fc) (pn) (rn) (hn) (qn)) := Fr.at0 (mfz26).1 (Ni.c ⟨ne4, ne5⟩ (Ni.c ⟨ne2, ne3⟩ (Ni.n _))) hm
      have fk27_2 : hc24.2 (B + 7) = some (aJ 6400 (g7)) := Fr.at0 (mfz26).1 (Ni.c ⟨(ne31).s, (ne33).s⟩ (Ni.c ⟨(ne24).s, (ne28).s⟩ (Ni.n _))) h7
      have fk27_3 : hc24.2 (B + 8) = some (aI 11520 (g8)) := Fr.at0 (mfz26).1 (Ni.c ⟨(ne32).s, (ne34).s⟩ (Ni.c ⟨(ne25).s, (ne29).s⟩ (Ni.n _))) h8
      have rk27_0 : MP hp B hc24 (T) := (hT).fr (mfz26).1 (Ni.c ⟨ne11, ne12⟩ (Ni.c ⟨ne9, ne10⟩ (Ni.n _))) (Ni.c ⟨ne17, ne18⟩ (Ni.c ⟨ne15, ne16⟩ (Ni.n _)))
      have fr27 : MF B [B + 1, B + 3] [] h hc24 := ((MF.rf [B + 1, B + 3] [] ma)).tr ((mfz26).mo (sub_c (List.Mem.tail _ (List.Mem.head _)) sub_n) sbI_n)
      refine Go.nf (h' := hc24) (st' := []) rfl rfl (Nat.le_refl _) (Nat.le_refl _) ?_
      refine g_aload_n 0 dX10_variable_16 rfl ?_
      refine g_getf 3 dX10_variable_17 kX10 (by decide) fX10_17 fk27_0 rfl ?_
      refine g_iload_n 1 dX10_variable_20 rfl ?_
      refine g_if_ne (tgt := 29) dX10_variable_21 rfl (by first | exact gW_u | (unfold gW; omega)) (fun c28 => ?_) (fun c28 => ?_)
      · skip
        refine g_iconst dX10_variable_29 ?_
        refine g_iconst dX10_variable_30 ?_
        obtain ⟨zB, gz, z3, zN, zV⟩ := rn25_1
        refine g_iastore dX10_variable_31 z3 (by omega) (by omega) (by omega) ?_
        obtain ⟨hh29, eh29⟩ : ∃ z : GH, z = hset hc24 (B + 3) (aI 1500 (gup (gz) (1) (1))) := ⟨_, rfl⟩
        refine Go.hp eh29.symm ?_
        have fx29 : Fr [B + 3] hc24 hh29 := Fr.w0 (Fr.rf _ _) (List.Mem.head _) eh29
        have fh29_3 : hh29.2 (B + 4) = some (aI 1500 (gm)) := hs_n eh29 (ne21).s rn25_0
        have fhw29 : hh29.2 (B + 3) = some (aI 1500 (gup (gz) (1) (1))) := hs_s eh29
        have mfz30 : MF B [B + 3] [] hc24 hh29 := MF.of fx29 (fr27).2.1 (Ni.c ⟨(ne22).s, (ne26).s⟩ (Ni.n _)) (Ni.c ⟨(ne23).s, (ne27).s⟩ (Ni.n _)) []
        have fk31_0 : hh29.2 (B) = some (mO B ((p : Int)) (hf) (le) (fc) (pn) (rn) (hn) (qn)) := Fr.at0 (mfz30).1 (Ni.c ⟨ne4, ne5⟩ (Ni.c ⟨ne2, ne3⟩ (Ni.n _))) fk27_0
        have fk31_1 : hh29.2 (B + 7) = some (aJ 6400 (g7)) := Fr.at0 (mfz30).1 (Ni.c ⟨(ne31).s, (ne33).s⟩ (Ni.c ⟨(ne24).s, (ne28).s⟩ (Ni.n _))) fk27_2
        have fk31_2 : hh29.2 (B + 8) = some (aI 11520 (g8)) := Fr.at0 (mfz30).1 (Ni.c ⟨(ne32).s, (ne34).s⟩ (Ni.c ⟨(ne25).s, (ne29).s⟩ (Ni.n _))) fk27_3
        have rk31_0 : MP hp B hh29 (T) := (rk27_0).fr (mfz30).1 (Ni.c ⟨ne11, ne12⟩ (Ni.c ⟨ne9, ne10⟩ (Ni.n _))) (Ni.c ⟨ne17, ne18⟩ (Ni.c ⟨ne15, ne16⟩ (Ni.n _)))
        have fr31 : MF B [B + 1, B + 3] [] h hh29 := (fr27).tr ((mfz30).mo (sub_c (List.Mem.tail _ (List.Mem.head _)) sub_n) sbI_n)
        have e3 : hh29.2 (B + 3) = some (aI 1500 (gup gz (7 * 0 + 1) 1)) := fhw29
        have hz0 : gz (7 * 0 + 1) = 0 := by rw [zN 1 0 (by omega) (by omega) (by omega) (by omega), zF_cy]
        have mw32 : MW hp B hh29 (pls hp (zF hp) 1 1 0) := ⟨pls_PB hp 1 (zF_PB hp) (by omega) (by omega), _, e3, pls_NW hp (j := 1) (i := 0) zN (by omega) (by omega) (by omega) (by omega) (by omega) (by rw [hz0, Int.zero_add]), fun q q0 q1 => by
                                                                      by_cases z : q = 7 * 0 + 1
                                                                      · rw [z, gup_s]; omega
                                                                      · rw [gup_n _ _ z]; exact zV q q0 q1⟩
        refine g_aload_n 0 dX10_variable_32 rfl ?_
        refine g_callV (nc2 := 0) (ns2 := 0) (ci := 10) (As := []) (st := []) rfl dX10_variable_33 okX10_keep lX10_114 itX10_keep seX10_keep rfl fk31_0 (by decide) (by decide) rfl (Nat.le_of_ble_eq_true rfl) (sM_keep N _ B p hp hp2 hf le fc pn rn hn qn T (pls hp (zF hp) 1 1 0) fk31_0 rk31_0 mw32) (by omega) (by omega) (fun v33 hc33 q33 => ?_)
        obtain ⟨frc34, w34, hK34, rfl, mp34⟩ := q33
        have mfz35 : MF B [B + 1] [] hh29 hc33 := MF.of frc34 (fr31).2.1 (Ni.c ⟨(ne11).s, (ne17).s⟩ (Ni.n _)) (Ni.c ⟨(ne12).s, (ne18).s⟩ (Ni.n _)) []
        have fk36_0 : hc33.2 (B) = some (mO B ((p : Int)) (hf) (le) (fc) (pn) (rn) (hn) (qn)) := Fr.at0 (mfz35).1 (Ni.c ⟨ne4, ne5⟩ (Ni.c ⟨ne0, ne1⟩ (Ni.n _))) fk31_0
        have fk36_1 : hc33.2 (B + 7) = some (aJ 6400 (g7)) := Fr.at0 (mfz35).1 (Ni.c ⟨(ne31).s, (ne33).s⟩ (Ni.c ⟨(ne13).s, (ne19).s⟩ (Ni.n _))) fk31_1
        have fk36_2 : hc33.2 (B + 8) = some (aI 11520 (g8)) := Fr.at0 (mfz35).1 (Ni.c ⟨(ne32).s, (ne34).s⟩ (Ni.c ⟨(ne14).s, (ne20).s⟩ (Ni.n _))) fk31_2
        have fk36_3 : hc33.2 (B + 4) = some (aI 1500 (gm)) := Fr.at0 (mfz35).1 (Ni.c ⟨ne26, ne27⟩ (Ni.c ⟨(ne10).s, (ne16).s⟩ (Ni.n _))) fh29_3
        have rk36_1 : MW hp B hc33 (pls hp (zF hp) 1 1 0) := (mw32).fr (mfz35).1 (Ni.c ⟨ne22, ne23⟩ (Ni.c ⟨(ne9).s, (ne15).s⟩ (Ni.n _)))
        have fr36 : MF B [B + 1, B + 3] [] h hc33 := (fr31).tr ((mfz35).mo (sub_c (List.Mem.head _) sub_n) sbI_n)
        refine Go.nf (h' := hc33) (st' := [.int (gI (w34))]) rfl rfl (Nat.le_refl _) (Nat.le_refl _) ?_
        exact g_iret dX10_variable_36 rfl ⟨((fr36).1.mo (sub_c (List.Mem.tail _ (List.Mem.tail _ (List.Mem.head _))) (sub_c (List.Mem.head _) (sub_c (List.Mem.tail _ (List.Mem.head _)) sub_n)))), ⟨(fr36).2.1, (rk36_1).a, ⟨_, fk36_3⟩, ⟨_, fk36_1⟩, ⟨_, fk36_2⟩⟩, w34, _, (by unfold rvar; rw [if_neg (by omega), if_pos (by omega)]; exact ⟨hK34, rfl⟩), rfl, mp34⟩
      · skip
        refine g_bipush dX10_variable_24 (by decide) ?_
        refine g_goto (tgt := 30) dX10_variable_26 rfl ?_
        refine g_iconst dX10_variable_30 ?_
        obtain ⟨zB, gz, z3, zN, zV⟩ := rn25_1
        refine g_iastore dX10_variable_31 z3 (by omega) (by omega) (by omega) ?_
        obtain ⟨hh37, eh37⟩ : ∃ z : GH, z = hset hc24 (B + 3) (aI 1500 (gup (gz) (7) (1))) := ⟨_, rfl⟩
        refine Go.hp eh37.symm ?_
        have fx37 : Fr [B + 3] hc24 hh37 := Fr.w0 (Fr.rf _ _) (List.Mem.head _) eh37
        have fh37_3 : hh37.2 (B + 4) = some (aI 1500 (gm)) := hs_n eh37 (ne21).s rn25_0
        have fhw37 : hh37.2 (B + 3) = some (aI 1500 (gup (gz) (7) (1))) := hs_s eh37
        have mfz38 : MF B [B + 3] [] hc24 hh37 := MF.of fx37 (fr27).2.1 (Ni.c ⟨(ne22).s, (ne26).s⟩ (Ni.n _)) (Ni.c ⟨(ne23).s, (ne27).s⟩ (Ni.n _)) []
        have fk39_0 : hh37.2 (B) = some (mO B ((p : Int)) (hf) (le) (fc) (pn) (rn) (hn) (qn)) := Fr.at0 (mfz38).1 (Ni.c ⟨ne4, ne5⟩ (Ni.c ⟨ne2, ne3⟩ (Ni.n _))) fk27_0
        have fk39_1 : hh37.2 (B + 7) = some (aJ 6400 (g7)) := Fr.at0 (mfz38).1 (Ni.c ⟨(ne31).s, (ne33).s⟩ (Ni.c ⟨(ne24).s, (ne28).s⟩ (Ni.n _))) fk27_2
        have fk39_2 : hh37.2 (B + 8) = some (aI 11520 (g8)) := Fr.at0 (mfz38).1 (Ni.c ⟨(ne32).s, (ne34).s⟩ (Ni.c ⟨(ne25).s, (ne29).s⟩ (Ni.n _))) fk27_3
        have rk39_0 : MP hp B hh37 (T) := (rk27_0).fr (mfz38).1 (Ni.c ⟨ne11, ne12⟩ (Ni.c ⟨ne9, ne10⟩ (Ni.n _))) (Ni.c ⟨ne17, ne18⟩ (Ni.c ⟨ne15, ne16⟩ (Ni.n _)))
        have fr39 : MF B [B + 1, B + 3] [] h hh37 := (fr27).tr ((mfz38).mo (sub_c (List.Mem.tail _ (List.Mem.head _)) sub_n) sbI_n)
        have e3 : hh37.2 (B + 3) = some (aI 1500 (gup gz (7 * 1 + 0) 1)) := fhw37
        have hz0 : gz (7 * 1 + 0) = 0 := by rw [zN 0 1 (by omega) (by omega) (by omega) (by omega), zF_cy]
        have mw40 : MW hp B hh37 (pls hp (zF hp) 1 0 1) := ⟨pls_PB hp 1 (zF_PB hp) (by omega) (by omega), _, e3, pls_NW hp (j := 0) (i := 1) zN (by omega) (by omega) (by omega) (by omega) (by omega) (by rw [hz0, Int.zero_add]), fun q q0 q1 => by
                                                                      by_cases z : q = 7 * 1 + 0
                                                                      · rw [z, gup_s]; omega
                                                                      · rw [gup_n _ _ z]; exact zV q q0 q1⟩
        refine g_aload_n 0 dX10_variable_32 rfl ?_
        refine g_callV (nc2 := 0) (ns2 := 0) (ci := 10) (As := []) (st := []) rfl dX10_variable_33 okX10_keep lX10_114 itX10_keep seX10_keep rfl fk39_0 (by decide) (by decide) rfl (Nat.le_of_ble_eq_true rfl) (sM_keep N _ B p hp hp2 hf le fc pn rn hn qn T (pls hp (zF hp) 1 0 1) fk39_0 rk39_0 mw40) (by omega) (by omega) (fun v41 hc41 q41 => ?_)
        obtain ⟨frc42, w42, hK42, rfl, mp42⟩ := q41
        have mfz43 : MF B [B + 1] [] hh37 hc41 := MF.of frc42 (fr39).2.1 (Ni.c ⟨(ne11).s, (ne17).s⟩ (Ni.n _)) (Ni.c ⟨(ne12).s, (ne18).s⟩ (Ni.n _)) []
        have fk44_0 : hc41.2 (B) = some (mO B ((p : Int)) (hf) (le) (fc) (pn) (rn) (hn) (qn)) := Fr.at0 (mfz43).1 (Ni.c ⟨ne4, ne5⟩ (Ni.c ⟨ne0, ne1⟩ (Ni.n _))) fk39_0
        have fk44_1 : hc41.2 (B + 7) = some (aJ 6400 (g7)) := Fr.at0 (mfz43).1 (Ni.c ⟨(ne31).s, (ne33).s⟩ (Ni.c ⟨(ne13).s, (ne19).s⟩ (Ni.n _))) fk39_1
        have fk44_2 : hc41.2 (B + 8) = some (aI 11520 (g8)) := Fr.at0 (mfz43).1 (Ni.c ⟨(ne32).s, (ne34).s⟩ (Ni.c ⟨(ne14).s, (ne20).s⟩ (Ni.n _))) fk39_2
        have fk44_3 : hc41.2 (B + 4) = some (aI 1500 (gm)) := Fr.at0 (mfz43).1 (Ni.c ⟨ne26, ne27⟩ (Ni.c ⟨(ne10).s, (ne16).s⟩ (Ni.n _))) fh37_3
        have rk44_1 : MW hp B hc41 (pls hp (zF hp) 1 0 1) := (mw40).fr (mfz43).1 (Ni.c ⟨ne22, ne23⟩ (Ni.c ⟨(ne9).s, (ne15).s⟩ (Ni.n _)))
        have fr44 : MF B [B + 1, B + 3] [] h hc41 := (fr39).tr ((mfz43).mo (sub_c (List.Mem.head _) sub_n) sbI_n)
        refine Go.nf (h' := hc41) (st' := [.int (gI (w42))]) rfl rfl (Nat.le_refl _) (Nat.le_refl _) ?_
        exact g_iret dX10_variable_36 rfl ⟨((fr44).1.mo (sub_c (List.Mem.tail _ (List.Mem.tail _ (List.Mem.head _))) (sub_c (List.Mem.head _) (sub_c (List.Mem.tail _ (List.Mem.head _)) sub_n)))), ⟨(fr44).2.1, (rk44_1).a, ⟨_, fk44_3⟩, ⟨_, fk44_1⟩, ⟨_, fk44_2⟩⟩, w42, _, (by unfold rvar; rw [if_pos (by omega)]; exact ⟨hK42, rfl⟩), rfl, mp42⟩
    · skip
      refine g_bipush dX10_variable_9 (by decide) ?_
      exact g_iret dX10_variable_11 rfl ⟨(((MF.rf [B + 1, B + 3] [] ma)).1.mo (sub_c (List.Mem.tail _ (List.Mem.tail _ (List.Mem.head _))) (sub_c (List.Mem.head _) (sub_c (List.Mem.tail _ (List.Mem.head _)) sub_n)))), ⟨((MF.rf [B + 1, B + 3] [] ma)).2.1, hw, ⟨_, h4⟩, ⟨_, h7⟩, ⟨_, h8⟩⟩, (-2), T, (by unfold rvar; rw [if_neg (by omega), if_neg (by omega)]; exact ⟨rfl, rfl⟩), rfl, hT⟩
set_option maxHeartbeats 4000000 in
set_option maxRecDepth 100000 in
theorem sM_plus (N : GN) (h : GH) (B p : Nat) (hp : prm p) (hp2 : p ≤ 65536) (hf le fc pn rn hn qn : Int) (T : PT p) (a c i j : Int) (gW_a : gW a) (gX_c : gX c) (gW_i : gW i) (gW_j : gW j) (hm : h.2 B = some (mO B p hf le fc pn rn hn qn)) (hT : MP hp B h T) (ms : MS B h)  : Sp N yX10_plus mX10_plus 0 0 [.ref (B), .int (gI (a)), .long (gJ (c)), .int (gI (i)), .int (gI (j))] h (fun v h1 => Fr [B + 1, B + 3, B + 5, B + 7] h h1 ∧ MS B h1 ∧ ∃ w T2, Ou T (ap1 T a (rpls hp c i j)) w T2 ∧ v = some (.int (gI w)) ∧ MP hp B h1 T2) := by
  refine Sp.of (by decide) rfl rfl (Nat.le_of_ble_eq_true rfl) ?_
  show Go N mX10_plus _ 0 0 h 0 [(0, .ref (B)), (1, .int (gI (a))), (2, .long (gJ (c))), (4, .int (gI (i))), (5, .int (gI (j)))] []
  have hp1 := hp.1
  have neA : NE B (B + 5) := by unfold NE; omega
  have neB : NE B (B + 6) := by unfold NE; omega
  have neC : NE (B + 5) (B + 6) := by unfold NE; omega
  have ne0 : NE (B) (B + 1) := by unfold NE; omega
  have ne1 : NE (B) (B + 2) := by unfold NE; omega
  have ne2 : NE (B) (B + 3) := by unfold NE; omega
  have ne3 : NE (B) (B + 4) := by unfold NE; omega
  have ne4 : NE (B) (B + 5) := by unfold NE; omega
  have ne5 : NE (B) (B + 6) := by unfold NE; omega
  have ne6 : NE (B) (B + 7) := by unfold NE; omega
  have ne7 : NE (B) (B + 8) := by unfold NE; omega
  have ne8 : NE (B + 1) (B + 2) := by unfold NE; omega
  have ne9 : NE (B + 1) (B + 3) := by unfold NE; omega
  have ne10 : NE (B + 1) (B + 4) := by unfold NE; omega
  have ne11 : NE (B + 1) (B + 5) := by unfold NE; omega
  have ne12 : NE (B + 1) (B + 6) := by unfold NE; omega
  have ne13 : NE (B + 1) (B + 7) := by unfold NE; omega
  have ne14 : NE (B + 1) (B + 8) := by unfold NE; omega
  have ne15 : NE (B + 2) (B + 3) := by unfold NE; omega
  have ne16 : NE (B + 2) (B + 4) := by unfold NE; omega
  have ne17 : NE (B + 2) (B + 5) := by unfold NE; omega
  have ne18 : NE (B + 2) (B + 6) := by unfold NE; omega
  have ne19 : NE (B + 2) (B + 7) := by unfold NE; omega
  have ne20 : NE (B + 2) (B + 8) := by unfold NE; omega
  have ne21 : NE (B + 3) (B + 4) := by unfold NE; omega
  have ne22 : NE (B + 3) (B + 5) := by unfold NE; omega
  have ne23 : NE (B + 3) (B + 6) := by unfold NE; omega
  have ne24 : NE (B + 3) (B + 7) := by unfold NE; omega
  have ne25 : NE (B + 3) (B + 8) := by unfold NE; omega
  have ne26 : NE (B + 4) (B + 5) := by unfold NE; omega
  have ne27 : NE (B + 4) (B + 6) := by unfold NE; omega
  have ne28 : NE (B + 4) (B + 7) := by unfold NE; omega
  have ne29 : NE (B + 4) (B + 8) := by unfold NE; omega
  have ne30 : NE (B + 5) (B + 6) := by unfold NE; omega
  have ne31 : NE (B + 5) (B + 7) := by unfold NE; omega
  have ne32 : NE (B + 5) (B + 8) := by unfold NE; omega
  have ne33 : NE (B + 6) (B + 7) := by unfold NE; omega
  have ne34 : NE (B + 6) (B + 8) := by unfold NE; omega
  have ne35 : NE (B + 7) (B + 8) := by unfold NE; omega
  obtain ⟨ma, hw, ⟨gm, h4⟩, ⟨g7, h7⟩, ⟨g8, h8⟩⟩ := ms
  refine g_aload_n 0 dX10_plus_0 rfl ?_
  refine g_iload_n 1 dX10_plus_1 rfl ?_
  refine g_callV (nc2 := 0) (ns2 := 0) (ci := 10) (As := [.int (gI (a))]) (st := []) rfl dX10_plus_2 okX10_isPlace lX10_118 itX10_isPlace seX10_isPlace rfl hm (by decide) (by decide) rfl (Nat.le_of_ble_eq_true rfl) (sM_isPlace N _ B p hp hp2 hf le fc pn rn hn qn T (a) gW_a hm hT) (by omega) (by omega) (fun v1 hc1 q1 => ?_)
  obtain ⟨hq2, hr2⟩ := q1
  rcases hr2 with ⟨rfl, a0, a1, F, ha⟩ | ⟨rfl, na⟩
  · skip
    refine Go.nf (h' := h) (st' := [.int (gI (1))]) hq2 rfl (Nat.le_refl _) (Nat.le_refl _) ?_
    refine g_if_ne (tgt := 10) dX10_plus_5 rfl (by first | exact gW_a | exact gW_i | exact gW_j | (unfold gW; omega) | (unfold gW; split <;> omega)) (fun c3 => ?_) (fun c3 => absurd c3 (by omega))
    refine g_iload 3 dX10_plus_10 rfl ?_
    refine g_if_lt (tgt := 34) dX10_plus_12 rfl (by first | exact gW_a | exact gW_i | exact gW_j | (unfold gW; omega) | (unfold gW; split <;> omega)) (fun c4 => ?_) (fun c4 => ?_)
    · skip
      refine g_bipush dX10_plus_34 (by decide) ?_
      exact g_iret dX10_plus_36 rfl ⟨(((MF.rf [B + 1, B + 3] [] ma)).1.mo (sub_c (List.Mem.tail _ (List.Mem.tail _ (List.Mem.head _))) (sub_c (List.Mem.head _) (sub_c (List.Mem.tail _ (List.Mem.head _)) sub_n)))), ⟨((MF.rf [B + 1, B + 3] [] ma)).2.1, hw, ⟨_, h4⟩, ⟨_, h7⟩, ⟨_, h8⟩⟩, (-4), T, (by rw [ap1_s (gT_s a0 a1 ha)]; unfold rpls; rw [if_neg (by omega)]; exact ⟨rfl, rfl⟩), rfl, hT⟩
    · skip
      refine g_iload 3 dX10_plus_15 rfl ?_
      refine g_bipush dX10_plus_17 (by decide) ?_
      refine g_icmp_gt (tgt := 34) dX10_plus_19 rfl (by first | exact gW_a | exact gW_i | exact gW_j | (unfold gW; omega) | (unfold gW; split <;> omega)) (by first | exact gW_a | exact gW_i | exact gW_j | (unfold gW; omega) | (unfold gW; split <;> omega)) (fun c5 => ?_) (fun c5 => ?_)
      · skip
        refine g_bipush dX10_plus_34 (by decide) ?_
        exact g_iret dX10_plus_36 rfl ⟨(((MF.rf [B + 1, B + 3] [] ma)).1.mo (sub_c (List.Mem.tail _ (List.Mem.tail _ (List.Mem.head _))) (sub_c (List.Mem.head _) (sub_c (List.Mem.tail _ (List.Mem.head _)) sub_n)))), ⟨((MF.rf [B + 1, B + 3] [] ma)).2.1, hw, ⟨_, h4⟩, ⟨_, h7⟩, ⟨_, h8⟩⟩, (-4), T, (by rw [ap1_s (gT_s a0 a1 ha)]; unfold rpls; rw [if_neg (by omega)]; exact ⟨rfl, rfl⟩), rfl, hT⟩
      · skip
        refine g_iload 4 dX10_plus_22 rfl ?_
        refine g_if_lt (tgt := 34) dX10_plus_24 rfl (by first | exact gW_a | exact gW_i | exact gW_j | (unfold gW; omega) | (unfold gW; split <;> omega)) (fun c6 => ?_) (fun c6 => ?_)
        · skip
          refine g_bipush dX10_plus_34 (by decide) ?_
          exact g_iret dX10_plus_36 rfl ⟨(((MF.rf [B + 1, B + 3] [] ma)).1.mo (sub_c (List.Mem.tail _ (List.Mem.tail _ (List.Mem.head _))) (sub_c (List.Mem.head _) (sub_c (List.Mem.tail _ (List.Mem.head _)) sub_n)))), ⟨((MF.rf [B + 1, B + 3] [] ma)).2.1, hw, ⟨_, h4⟩, ⟨_, h7⟩, ⟨_, h8⟩⟩, (-4), T, (by rw [ap1_s (gT_s a0 a1 ha)]; unfold rpls; rw [if_neg (by omega)]; exact ⟨rfl, rfl⟩), rfl, hT⟩
        · skip
          refine g_iload 4 dX10_plus_27 rfl ?_
          refine g_bipush dX10_plus_29 (by decide) ?_
          refine g_icmp_le (tgt := 37) dX10_plus_31 rfl (by first | exact gW_a | exact gW_i | exact gW_j | (unfold gW; omega) | (unfold gW; split <;> omega)) (by first | exact gW_a | exact gW_i | exact gW_j | (unfold gW; omega) | (unfold gW; split <;> omega)) (fun c7 => ?_) (fun c7 => ?_)
          · skip
            refine g_aload_n 0 dX10_plus_37 rfl ?_
            refine g_iload_n 1 dX10_plus_38 rfl ?_
            refine g_callV (nc2 := 0) (ns2 := 0) (ci := 10) (As := [.int (gI (a))]) (st := []) rfl dX10_plus_39 okX10_take0 lX10_122 itX10_take0 seX10_take0 rfl hm (by decide) (by decide) rfl (Nat.le_of_ble_eq_true rfl) (sM_take0 N _ B p hp hp2 hf le fc pn rn hn qn T F a a0 a1 ha hm (gm) hT hw h4) (by omega) (by omega) (fun v8 hc8 q8 => ?_)
            obtain ⟨rfl, frc9, f4_9, mw9⟩ := q8
            have mfz10 : MF B [B + 3] [] h hc8 := MF.of frc9 ((MF.rf [B + 1, B + 3] [] ma)).2.1 (Ni.c ⟨(ne22).s, (ne26).s⟩ (Ni.n _)) (Ni.c ⟨(ne23).s, (ne27).s⟩ (Ni.n _)) []
            have fk11_0 : hc8.2 (B) = some (mO B ((p : Int)) (hf) (le) (fc) (pn) (rn) (hn) (qn)) := Fr.at0 (mfz10).1 (Ni.c ⟨ne4, ne5⟩ (Ni.c ⟨ne2, ne3⟩ (Ni.n _))) hm
            have fk11_2 : hc8.2 (B + 7) = some (aJ 6400 (g7)) := Fr.at0 (mfz10).1 (Ni.c ⟨(ne31).s, (ne33).s⟩ (Ni.c ⟨(ne24).s, (ne28).s⟩ (Ni.n _))) h7
            have fk11_3 : hc8.2 (B + 8) = some (aI 11520 (g8)) := Fr.at0 (mfz10).1 (Ni.c ⟨(ne32).s, (ne34).s⟩ (Ni.c ⟨(ne25).s, (ne29).s⟩ (Ni.n _))) h8
            have rk11_0 : MP hp B hc8 (T) := (hT).fr (mfz10).1 (Ni.c ⟨ne11, ne12⟩ (Ni.c ⟨ne9, ne10⟩ (Ni.n _))) (Ni.c ⟨ne17, ne18⟩ (Ni.c ⟨ne15, ne16⟩ (Ni.n _)))
            have fr11 : MF B [B + 1, B + 3] [] h hc8 := ((MF.rf [B + 1, B + 3] [] ma)).tr ((mfz10).mo (sub_c (List.Mem.tail _ (List.Mem.head _)) sub_n) sbI_n)
            refine Go.nf (h' := hc8) (st' := []) rfl rfl (Nat.le_refl _) (Nat.le_refl _) ?_
            obtain ⟨zB, gz, z3, zN, zV⟩ := mw9
            refine g_aload_n 0 dX10_plus_42 rfl ?_
            refine g_getf 3 dX10_plus_43 kX10 (by decide) fX10_17 fk11_0 rfl ?_
            refine g_bipush dX10_plus_46 (by decide) ?_
            refine g_iload 3 dX10_plus_48 rfl ?_
            refine g_imul dX10_plus_50 ?_
            refine g_iload 4 dX10_plus_51 rfl ?_
            refine g_iadd dX10_plus_53 ?_
            refine g_aload_n 0 dX10_plus_54 rfl ?_
            refine g_getf 3 dX10_plus_55 kX10 (by decide) fX10_17 fk11_0 rfl ?_
            refine g_bipush dX10_plus_58 (by decide) ?_
            refine g_iload 3 dX10_plus_60 rfl ?_
            refine g_imul dX10_plus_62 ?_
            refine g_iload 4 dX10_plus_63 rfl ?_
            refine g_iadd dX10_plus_65 ?_
            have hgz := zV (7 * i + j) (by omega) (by omega)
            refine g_iaload dX10_plus_66 z3 (by omega) (by omega) (by omega) ?_
            refine g_aload_n 0 dX10_plus_67 rfl ?_
            refine g_lload_n 2 dX10_plus_68 rfl ?_
            refine g_callV (nc2 := 0) (ns2 := 0) (ci := 10) (As := [.long (gJ (c))]) (st := [.int (gI ((gz) (((7) * (i)) + (j)))), .int (gI (((7) * (i)) + (j))), .ref (B + 3)]) rfl dX10_plus_69 okX10_modulo lX10_110 itX10_modulo seX10_modulo rfl fk11_0 (by decide) (by decide) rfl (Nat.le_of_ble_eq_true rfl) (sX10_modulo N _ B _ _ _ _ _ _ _ _ _ _ _ _ _ _ _ _ _ _ _ _ _ _ _ _ _ _ _ _ _ (p : Int) (c) (by first | assumption | (unfold gX; omega)) (by omega) (by omega) fk11_0) (by omega) (by omega) (fun v12 hc12 q12 => ?_)
            obtain ⟨hq13, rfl⟩ := q12
            rw [gMod_em (show (0 : Int) < p by omega)]
            have hmb13 := em_in hp (c)
            refine Go.nf (h' := hc8) (st' := [.int (gI ((c) % (p : Int))), .int (gI ((gz) (((7) * (i)) + (j)))), .int (gI (((7) * (i)) + (j))), .ref (B + 3)]) hq13 rfl (Nat.le_refl _) (Nat.le_refl _) ?_
            refine g_iadd dX10_plus_72 ?_
            refine g_aload_n 0 dX10_plus_73 rfl ?_
            refine g_getf 0 dX10_plus_74 kX10 (by decide) fX10_78 fk11_0 rfl ?_
            refine g_irem dX10_plus_77 (by unfold gW; omega) (by unfold gW; omega) (by omega) ?_
            rw [tm_em (show 0 ≤ gz (7 * i + j) + c % (p : Int) by omega)]
            refine g_iastore dX10_plus_78 z3 (by omega) (by omega) (by omega) ?_
            obtain ⟨hh14, eh14⟩ : ∃ z : GH, z = hset hc8 (B + 3) (aI 1500 (gup (gz) (((7) * (i)) + (j)) ((gz (7 * i + j) + c % (p : Int)) % (p : Int)))) := ⟨_, rfl⟩
            refine Go.hp eh14.symm ?_
            have fx14 : Fr [B + 3] hc8 hh14 := Fr.w0 (Fr.rf _ _) (List.Mem.head _) eh14
            have fh14_3 : hh14.2 (B + 4) = some (aI 1500 (gm)) := hs_n eh14 (ne21).s f4_9
            have fhw14 : hh14.2 (B + 3) = some (aI 1500 (gup (gz) (((7) * (i)) + (j)) ((gz (7 * i + j) + c % (p : Int)) % (p : Int)))) := hs_s eh14
            have mfz15 : MF B [B + 3] [] hc8 hh14 := MF.of fx14 (fr11).2.1 (Ni.c ⟨(ne22).s, (ne26).s⟩ (Ni.n _)) (Ni.c ⟨(ne23).s, (ne27).s⟩ (Ni.n _)) []
            have fk16_0 : hh14.2 (B) = some (mO B ((p : Int)) (hf) (le) (fc) (pn) (rn) (hn) (qn)) := Fr.at0 (mfz15).1 (Ni.c ⟨ne4, ne5⟩ (Ni.c ⟨ne2, ne3⟩ (Ni.n _))) fk11_0
            have fk16_1 : hh14.2 (B + 7) = some (aJ 6400 (g7)) := Fr.at0 (mfz15).1 (Ni.c ⟨(ne31).s, (ne33).s⟩ (Ni.c ⟨(ne24).s, (ne28).s⟩ (Ni.n _))) fk11_2
            have fk16_2 : hh14.2 (B + 8) = some (aI 11520 (g8)) := Fr.at0 (mfz15).1 (Ni.c ⟨(ne32).s, (ne34).s⟩ (Ni.c ⟨(ne25).s, (ne29).s⟩ (Ni.n _))) fk11_3
            have rk16_0 : MP hp B hh14 (T) := (rk11_0).fr (mfz15).1 (Ni.c ⟨ne11, ne12⟩ (Ni.c ⟨ne9, ne10⟩ (Ni.n _))) (Ni.c ⟨ne17, ne18⟩ (Ni.c ⟨ne15, ne16⟩ (Ni.n _)))
            have fr16 : MF B [B + 1, B + 3] [] h hh14 := (fr11).tr ((mfz15).mo (sub_c (List.Mem.tail _ (List.Mem.head _)) sub_n) sbI_n)
            have mw17 : MW hp B hh14 (pls hp F c j.toNat i.toNat) := ⟨pls_PB hp c zB (by omega) (by omega), _, fhw14, pls_NW hp zN (by omega) (by omega) (by omega) (by omega) (em_in hp _) (by rw [zi_mod, zi_add, zi_mod, ← zi_add]), fun q q0 q1 => by
                                                                      by_cases z : q = 7 * i + j
                                                                      · rw [z, gup_s]; exact em_in hp _
                                                                      · rw [gup_n _ _ z]; exact zV q q0 q1⟩
            refine g_aload_n 0 dX10_plus_79 rfl ?_
            refine g_callV (nc2 := 0) (ns2 := 0) (ci := 10) (As := []) (st := []) rfl dX10_plus_80 okX10_keep lX10_114 itX10_keep seX10_keep rfl fk16_0 (by decide) (by decide) rfl (Nat.le_of_ble_eq_true rfl) (sM_keep N _ B p hp hp2 hf le fc pn rn hn qn T (pls hp F c j.toNat i.toNat) fk16_0 rk16_0 mw17) (by omega) (by omega) (fun v18 hc18 q18 => ?_)
            obtain ⟨frc19, w19, hK19, rfl, mp19⟩ := q18
            have mfz20 : MF B [B + 1] [] hh14 hc18 := MF.of frc19 (fr16).2.1 (Ni.c ⟨(ne11).s, (ne17).s⟩ (Ni.n _)) (Ni.c ⟨(ne12).s, (ne18).s⟩ (Ni.n _)) []
            have fk21_0 : hc18.2 (B) = some (mO B ((p : Int)) (hf) (le) (fc) (pn) (rn) (hn) (qn)) := Fr.at0 (mfz20).1 (Ni.c ⟨ne4, ne5⟩ (Ni.c ⟨ne0, ne1⟩ (Ni.n _))) fk16_0
            have fk21_1 : hc18.2 (B + 7) = some (aJ 6400 (g7)) := Fr.at0 (mfz20).1 (Ni.c ⟨(ne31).s, (ne33).s⟩ (Ni.c ⟨(ne13).s, (ne19).s⟩ (Ni.n _))) fk16_1
            have fk21_2 : hc18.2 (B + 8) = some (aI 11520 (g8)) := Fr.at0 (mfz20).1 (Ni.c ⟨(ne32).s, (ne34).s⟩ (Ni.c ⟨(ne14).s, (ne20).s⟩ (Ni.n _))) fk16_2
            have fk21_3 : hc18.2 (B + 4) = some (aI 1500 (gm)) := Fr.at0 (mfz20).1 (Ni.c ⟨ne26, ne27⟩ (Ni.c ⟨(ne10).s, (ne16).s⟩ (Ni.n _))) fh14_3
            have rk21_1 : MW hp B hc18 (pls hp F c j.toNat i.toNat) := (mw17).fr (mfz20).1 (Ni.c ⟨ne22, ne23⟩ (Ni.c ⟨(ne9).s, (ne15).s⟩ (Ni.n _)))
            have fr21 : MF B [B + 1, B + 3] [] h hc18 := (fr16).tr ((mfz20).mo (sub_c (List.Mem.head _) sub_n) sbI_n)
            refine Go.nf (h' := hc18) (st' := [.int (gI (w19))]) rfl rfl (Nat.le_refl _) (Nat.le_refl _) ?_
            exact g_iret dX10_plus_83 rfl ⟨((fr21).1.mo (sub_c (List.Mem.tail _ (List.Mem.tail _ (List.Mem.head _))) (sub_c (List.Mem.head _) (sub_c (List.Mem.tail _ (List.Mem.head _)) sub_n)))), ⟨(fr21).2.1, (rk21_1).a, ⟨_, fk21_3⟩, ⟨_, fk21_1⟩, ⟨_, fk21_2⟩⟩, w19, _, (by rw [ap1_s (gT_s a0 a1 ha)]; unfold rpls; rw [if_pos (by omega)]; exact ⟨hK19, rfl⟩), rfl, mp19⟩
          · skip
            refine g_bipush dX10_plus_34 (by decide) ?_
            exact g_iret dX10_plus_36 rfl ⟨(((MF.rf [B + 1, B + 3] [] ma)).1.mo (sub_c (List.Mem.tail _ (List.Mem.tail _ (List.Mem.head _))) (sub_c (List.Mem.head _) (sub_c (List.Mem.tail _ (List.Mem.head _)) sub_n)))), ⟨((MF.rf [B + 1, B + 3] [] ma)).2.1, hw, ⟨_, h4⟩, ⟨_, h7⟩, ⟨_, h8⟩⟩, (-4), T, (by rw [ap1_s (gT_s a0 a1 ha)]; unfold rpls; rw [if_neg (by omega)]; exact ⟨rfl, rfl⟩), rfl, hT⟩
  · skip
    refine Go.nf (h' := h) (st' := [.int (gI (0))]) hq2 rfl (Nat.le_refl _) (Nat.le_refl _) ?_
    refine g_if_ne (tgt := 10) dX10_plus_5 rfl (by first | exact gW_a | exact gW_i | exact gW_j | (unfold gW; omega) | (unfold gW; split <;> omega)) (fun c22 => absurd c22 (by omega)) (fun c22 => ?_)
    refine g_iconst dX10_plus_8 ?_
    exact g_iret dX10_plus_9 rfl ⟨(((MF.rf [B + 1, B + 3] [] ma)).1.mo (sub_c (List.Mem.tail _ (List.Mem.tail _ (List.Mem.head _))) (sub_c (List.Mem.head _) (sub_c (List.Mem.tail _ (List.Mem.head _)) sub_n)))), ⟨((MF.rf [B + 1, B + 3] [] ma)).2.1, hw, ⟨_, h4⟩, ⟨_, h7⟩, ⟨_, h8⟩⟩, (-1), T, (by rw [ap1_n (gT_n na)]; exact ⟨rfl, rfl⟩), rfl, hT⟩
section
variable {p : Nat}
def aat (T : PT p) (a i j : Int) : Int := match gT T a with
  | some F => if 0 ≤ i ∧ i ≤ 40 ∧ 0 ≤ j ∧ j ≤ 6 then cy F j i else -1
  | none => -1
noncomputable def adg (h : prm p) (T : PT p) (a w : Int) : Int := match gT T a with
  | some F => if w = 0 then dX h F else if w = 1 then dY h F else -2
  | none => -2
def avl (h : prm p) (T : PT p) (a x y : Int) : Int := match gT T a with
  | some F => fv (val h F (zi h x) (zi h y))
  | none => -1
noncomputable def asm (T : PT p) (a b : Int) : Int := match gT T a with
  | some F => (match gT T b with
    | some G => letI := Classical.propDecidable (F = G); if F = G then 1 else 0
    | none => 0)
  | none => 0
theorem asm_n {T : PT p} {a b : Int} (h : gT T a = none ∨ gT T b = none) : asm T a b = 0 := by
  unfold asm
  rcases h with h | h
  · rw [h]
  · split
    · rw [h]
    · rfl
theorem asm_s {T : PT p} {a b : Int} {F G : Pxy p} (h1 : gT T a = some F) (h2 : gT T b = some G) : (F = G → asm T a b = 1) ∧ (F ≠ G → asm T a b = 0) := by
  unfold asm
  rw [h1, h2]
  exact ⟨fun e => if_pos e, fun e => if_neg e⟩
end
set_option maxHeartbeats 4000000 in
set_option maxRecDepth 100000 in
theorem sM_at (N : GN) (h : GH) (B p : Nat) (hp : prm p) (hp2 : p ≤ 65536) (hf le fc pn rn hn qn : Int) (T : PT p) (a i j : Int) (gW_a : gW a) (gW_i : gW i) (gW_j : gW j) (hm : h.2 B = some (mO B p hf le fc pn rn hn qn)) (hT : MP hp B h T)  : Sp N yX10_at mX10_at 0 0 [.ref (B), .int (gI (a)), .int (gI (i)), .int (gI (j))] h (fun v h1 => h1 = h ∧ v = some (.int (gI (aat T a i j)))) := by
  refine Sp.of (by decide) rfl rfl (Nat.le_of_ble_eq_true rfl) ?_
  show Go N mX10_at _ 0 0 h 0 [(0, .ref (B)), (1, .int (gI (a))), (2, .int (gI (i))), (3, .int (gI (j)))] []
  have hp1 := hp.1
  have neA : NE B (B + 5) := by unfold NE; omega
  have neB : NE B (B + 6) := by unfold NE; omega
  have neC : NE (B + 5) (B + 6) := by unfold NE; omega
  have ne0 : NE (B) (B + 1) := by unfold NE; omega
  have ne1 : NE (B) (B + 2) := by unfold NE; omega
  have ne2 : NE (B) (B + 3) := by unfold NE; omega
  have ne3 : NE (B) (B + 4) := by unfold NE; omega
  have ne4 : NE (B) (B + 5) := by unfold NE; omega
  have ne5 : NE (B) (B + 6) := by unfold NE; omega
  have ne6 : NE (B) (B + 7) := by unfold NE; omega
  have ne7 : NE (B) (B + 8) := by unfold NE; omega
  have ne8 : NE (B + 1) (B + 2) := by unfold NE; omega
  have ne9 : NE (B + 1) (B + 3) := by unfold NE; omega
  have ne10 : NE (B + 1) (B + 4) := by unfold NE; omega
  have ne11 : NE (B + 1) (B + 5) := by unfold NE; omega
  have ne12 : NE (B + 1) (B + 6) := by unfold NE; omega
  have ne13 : NE (B + 1) (B + 7) := by unfold NE; omega
  have ne14 : NE (B + 1) (B + 8) := by unfold NE; omega
  have ne15 : NE (B + 2) (B + 3) := by unfold NE; omega
  have ne16 : NE (B + 2) (B + 4) := by unfold NE; omega
  have ne17 : NE (B + 2) (B + 5) := by unfold NE; omega
  have ne18 : NE (B + 2) (B + 6) := by unfold NE; omega
  have ne19 : NE (B + 2) (B + 7) := by unfold NE; omega
  have ne20 : NE (B + 2) (B + 8) := by unfold NE; omega
  have ne21 : NE (B + 3) (B + 4) := by unfold NE; omega
  have ne22 : NE (B + 3) (B + 5) := by unfold NE; omega
  have ne23 : NE (B + 3) (B + 6) := by unfold NE; omega
  have ne24 : NE (B + 3) (B + 7) := by unfold NE; omega
  have ne25 : NE (B + 3) (B + 8) := by unfold NE; omega
  have ne26 : NE (B + 4) (B + 5) := by unfold NE; omega
  have ne27 : NE (B + 4) (B + 6) := by unfold NE; omega
  have ne28 : NE (B + 4) (B + 7) := by unfold NE; omega
  have ne29 : NE (B + 4) (B + 8) := by unfold NE; omega
  have ne30 : NE (B + 5) (B + 6) := by unfold NE; omega
  have ne31 : NE (B + 5) (B + 7) := by unfold NE; omega
  have ne32 : NE (B + 5) (B + 8) := by unfold NE; omega
  have ne33 : NE (B + 6) (B + 7) := by unfold NE; omega
  have ne34 : NE (B + 6) (B + 8) := by unfold NE; omega
  have ne35 : NE (B + 7) (B + 8) := by unfold NE; omega
  refine g_aload_n 0 dX10_at_0 rfl ?_
  refine g_iload_n 1 dX10_at_1 rfl ?_
  refine g_callV (nc2 := 0) (ns2 := 0) (ci := 10) (As := [.int (gI (a))]) (st := []) rfl dX10_at_2 okX10_isPlace lX10_118 itX10_isPlace seX10_isPlace rfl hm (by decide) (by decide) rfl (Nat.le_of_ble_eq_true rfl) (sM_isPlace N _ B p hp hp2 hf le fc pn rn hn qn T (a) gW_a hm hT) (by omega) (by omega) (fun v1 hc1 q1 => ?_)
  obtain ⟨hq2, hr2⟩ := q1
  rcases hr2 with ⟨rfl, a0, a1, F, ha⟩ | ⟨rfl, na⟩
  · skip
    refine Go.nf (h' := h) (st' := [.int (gI (1))]) hq2 rfl (Nat.le_refl _) (Nat.le_refl _) ?_
    refine g_if_eq (tgt := 28) dX10_at_5 rfl (by first | exact gW_a | exact gW_i | exact gW_j | (unfold gW; omega) | (unfold gW; split <;> omega)) (fun c3 => absurd c3 (by omega)) (fun c3 => ?_)
    refine g_iload_n 2 dX10_at_8 rfl ?_
    refine g_if_lt (tgt := 28) dX10_at_9 rfl (by first | exact gW_a | exact gW_i | exact gW_j | (unfold gW; omega) | (unfold gW; split <;> omega)) (fun c4 => ?_) (fun c4 => ?_)
    · skip
      refine g_iconst dX10_at_28 ?_
      refine g_goto (tgt := 43) dX10_at_29 rfl ?_
      exact g_iret dX10_at_43 rfl ⟨Fr.e0 (Fr.rf [] h), by unfold aat; rw [gT_s a0 a1 ha]; dsimp only; rw [if_neg (by omega)]⟩
    · skip
      refine g_iload_n 2 dX10_at_12 rfl ?_
      refine g_bipush dX10_at_13 (by decide) ?_
      refine g_icmp_gt (tgt := 28) dX10_at_15 rfl (by first | exact gW_a | exact gW_i | exact gW_j | (unfold gW; omega) | (unfold gW; split <;> omega)) (by first | exact gW_a | exact gW_i | exact gW_j | (unfold gW; omega) | (unfold gW; split <;> omega)) (fun c5 => ?_) (fun c5 => ?_)
      · skip
        refine g_iconst dX10_at_28 ?_
        refine g_goto (tgt := 43) dX10_at_29 rfl ?_
        exact g_iret dX10_at_43 rfl ⟨Fr.e0 (Fr.rf [] h), by unfold aat; rw [gT_s a0 a1 ha]; dsimp only; rw [if_neg (by omega)]⟩
      · skip
        refine g_iload_n 3 dX10_at_18 rfl ?_
        refine g_if_lt (tgt := 28) dX10_at_19 rfl (by first | exact gW_a | exact gW_i | exact gW_j | (unfold gW; omega) | (unfold gW; split <;> omega)) (fun c6 => ?_) (fun c6 => ?_)
        · skip
          refine g_iconst dX10_at_28 ?_
          refine g_goto (tgt := 43) dX10_at_29 rfl ?_
          exact g_iret dX10_at_43 rfl ⟨Fr.e0 (Fr.rf [] h), by unfold aat; rw [gT_s a0 a1 ha]; dsimp only; rw [if_neg (by omega)]⟩
        · skip
          refine g_iload_n 3 dX10_at_22 rfl ?_
          refine g_bipush dX10_at_23 (by decide) ?_
          refine g_icmp_le (tgt := 32) dX10_at_25 rfl (by first | exact gW_a | exact gW_i | exact gW_j | (unfold gW; omega) | (unfold gW; split <;> omega)) (by first | exact gW_a | exact gW_i | exact gW_j | (unfold gW; omega) | (unfold gW; split <;> omega)) (fun c7 => ?_) (fun c7 => ?_)
          · skip
            refine g_aload_n 0 dX10_at_32 rfl ?_
            have hT8 := hT
            obtain ⟨gt, gn, w1, w2, w3⟩ := hT8
            obtain ⟨hB, hN⟩ := MP_at w3 a0 a1 ha
            refine g_getf 2 dX10_at_33 kX10 (by decide) fX10_13 hm rfl ?_
            refine g_iload_n 1 dX10_at_36 rfl ?_
            refine g_iload_n 2 dX10_at_37 rfl ?_
            refine g_iload_n 3 dX10_at_38 rfl ?_
            refine g_callS (nc2 := 0) (ns2 := 0) (As := [.int (gI (a)), .int (gI (i)), .int (gI (j))]) (st := [.ref (B + 2)]) rfl dX10_at_39 okX10_cellOf lX10_99 stX10_cellOf (by decide) (by decide) rfl (Nat.le_of_ble_eq_true rfl) (sM_cellOf N _ (a) (i) (j)) (by omega) (by omega) (fun v9 hc9 q9 => ?_)
            obtain ⟨hq10, rfl⟩ := q9
            refine Go.nf (h' := h) (st' := [.int (gI (287 * (a) + 7 * (i) + (j))), .ref (B + 2)]) hq10 rfl (Nat.le_refl _) (Nat.le_refl _) ?_
            refine g_iaload dX10_at_42 w2 (by omega) (by omega) (by omega) ?_
            have hv_ : (gn) (287 * (a) + 7 * (i) + (j)) = cy F j i := by
                                                                      have e9 := hN j i (by omega) (by omega) (by omega) (by omega)
                                                                      rw [Int.add_assoc]; exact e9
            rw [hv_]
            exact g_iret dX10_at_43 rfl ⟨Fr.e0 (Fr.rf [] h), by unfold aat; rw [gT_s a0 a1 ha]; dsimp only; rw [if_pos (by omega)]⟩
          · skip
            refine g_iconst dX10_at_28 ?_
            refine g_goto (tgt := 43) dX10_at_29 rfl ?_
            exact g_iret dX10_at_43 rfl ⟨Fr.e0 (Fr.rf [] h), by unfold aat; rw [gT_s a0 a1 ha]; dsimp only; rw [if_neg (by omega)]⟩
  · skip
    refine Go.nf (h' := h) (st' := [.int (gI (0))]) hq2 rfl (Nat.le_refl _) (Nat.le_refl _) ?_
    refine g_if_eq (tgt := 28) dX10_at_5 rfl (by first | exact gW_a | exact gW_i | exact gW_j | (unfold gW; omega) | (unfold gW; split <;> omega)) (fun c11 => ?_) (fun c11 => absurd c11 (by omega))
    refine g_iconst dX10_at_28 ?_
    refine g_goto (tgt := 43) dX10_at_29 rfl ?_
    exact g_iret dX10_at_43 rfl ⟨Fr.e0 (Fr.rf [] h), by unfold aat; rw [gT_n na]⟩
set_option maxHeartbeats 4000000 in
set_option maxRecDepth 100000 in
theorem sM_degree (N : GN) (h : GH) (B p : Nat) (hp : prm p) (hp2 : p ≤ 65536) (hf le fc pn rn hn qn : Int) (T : PT p) (a w : Int) (gW_a : gW a) (gW_w : gW w) (hm : h.2 B = some (mO B p hf le fc pn rn hn qn)) (hT : MP hp B h T)  : Sp N yX10_degree mX10_degree 0 0 [.ref (B), .int (gI (a)), .int (gI (w))] h (fun v h1 => h1 = h ∧ v = some (.int (gI (adg hp T a w)))) := by
  refine Sp.of (by decide) rfl rfl (Nat.le_of_ble_eq_true rfl) ?_
  show Go N mX10_degree _ 0 0 h 0 [(0, .ref (B)), (1, .int (gI (a))), (2, .int (gI (w)))] []
  have hp1 := hp.1
  have neA : NE B (B + 5) := by unfold NE; omega
  have neB : NE B (B + 6) := by unfold NE; omega
  have neC : NE (B + 5) (B + 6) := by unfold NE; omega
  have ne0 : NE (B) (B + 1) := by unfold NE; omega
  have ne1 : NE (B) (B + 2) := by unfold NE; omega
  have ne2 : NE (B) (B + 3) := by unfold NE; omega
  have ne3 : NE (B) (B + 4) := by unfold NE; omega
  have ne4 : NE (B) (B + 5) := by unfold NE; omega
  have ne5 : NE (B) (B + 6) := by unfold NE; omega
  have ne6 : NE (B) (B + 7) := by unfold NE; omega
  have ne7 : NE (B) (B + 8) := by unfold NE; omega
  have ne8 : NE (B + 1) (B + 2) := by unfold NE; omega
  have ne9 : NE (B + 1) (B + 3) := by unfold NE; omega
  have ne10 : NE (B + 1) (B + 4) := by unfold NE; omega
  have ne11 : NE (B + 1) (B + 5) := by unfold NE; omega
  have ne12 : NE (B + 1) (B + 6) := by unfold NE; omega
  have ne13 : NE (B + 1) (B + 7) := by unfold NE; omega
  have ne14 : NE (B + 1) (B + 8) := by unfold NE; omega
  have ne15 : NE (B + 2) (B + 3) := by unfold NE; omega
  have ne16 : NE (B + 2) (B + 4) := by unfold NE; omega
  have ne17 : NE (B + 2) (B + 5) := by unfold NE; omega
  have ne18 : NE (B + 2) (B + 6) := by unfold NE; omega
  have ne19 : NE (B + 2) (B + 7) := by unfold NE; omega
  have ne20 : NE (B + 2) (B + 8) := by unfold NE; omega
  have ne21 : NE (B + 3) (B + 4) := by unfold NE; omega
  have ne22 : NE (B + 3) (B + 5) := by unfold NE; omega
  have ne23 : NE (B + 3) (B + 6) := by unfold NE; omega
  have ne24 : NE (B + 3) (B + 7) := by unfold NE; omega
  have ne25 : NE (B + 3) (B + 8) := by unfold NE; omega
  have ne26 : NE (B + 4) (B + 5) := by unfold NE; omega
  have ne27 : NE (B + 4) (B + 6) := by unfold NE; omega
  have ne28 : NE (B + 4) (B + 7) := by unfold NE; omega
  have ne29 : NE (B + 4) (B + 8) := by unfold NE; omega
  have ne30 : NE (B + 5) (B + 6) := by unfold NE; omega
  have ne31 : NE (B + 5) (B + 7) := by unfold NE; omega
  have ne32 : NE (B + 5) (B + 8) := by unfold NE; omega
  have ne33 : NE (B + 6) (B + 7) := by unfold NE; omega
  have ne34 : NE (B + 6) (B + 8) := by unfold NE; omega
  have ne35 : NE (B + 7) (B + 8) := by unfold NE; omega
  refine g_aload_n 0 dX10_degree_0 rfl ?_
  refine g_iload_n 1 dX10_degree_1 rfl ?_
  refine g_callV (nc2 := 0) (ns2 := 0) (ci := 10) (As := [.int (gI (a))]) (st := []) rfl dX10_degree_2 okX10_isPlace lX10_118 itX10_isPlace seX10_isPlace rfl hm (by decide) (by decide) rfl (Nat.le_of_ble_eq_true rfl) (sM_isPlace N _ B p hp hp2 hf le fc pn rn hn qn T (a) gW_a hm hT) (by omega) (by omega) (fun v1 hc1 q1 => ?_)
  obtain ⟨hq2, hr2⟩ := q1
  rcases hr2 with ⟨rfl, a0, a1, F, ha⟩ | ⟨rfl, na⟩
  · skip
    refine Go.nf (h' := h) (st' := [.int (gI (1))]) hq2 rfl (Nat.le_refl _) (Nat.le_refl _) ?_
    refine g_if_eq (tgt := 17) dX10_degree_5 rfl (by first | exact gW_a | exact gW_w | (unfold gW; omega)) (fun c3 => absurd c3 (by omega)) (fun c3 => ?_)
    refine g_iload_n 2 dX10_degree_8 rfl ?_
    refine g_if_lt (tgt := 17) dX10_degree_9 rfl (by first | exact gW_a | exact gW_w | (unfold gW; omega)) (fun c4 => ?_) (fun c4 => ?_)
    · skip
      refine g_bipush dX10_degree_17 (by decide) ?_
      exact g_iret dX10_degree_19 rfl ⟨Fr.e0 (Fr.rf [] h), by unfold adg; rw [gT_s a0 a1 ha]; dsimp only; rw [if_neg (by omega), if_neg (by omega)]⟩
    · skip
      refine g_iload_n 2 dX10_degree_12 rfl ?_
      refine g_iconst dX10_degree_13 ?_
      refine g_icmp_le (tgt := 20) dX10_degree_14 rfl (by first | exact gW_a | exact gW_w | (unfold gW; omega)) (by first | exact gW_a | exact gW_w | (unfold gW; omega)) (fun c5 => ?_) (fun c5 => ?_)
      · skip
        refine g_iload_n 2 dX10_degree_20 rfl ?_
        refine g_if_ne (tgt := 32) dX10_degree_21 rfl (by first | exact gW_a | exact gW_w | (unfold gW; omega)) (fun c6 => ?_) (fun c6 => ?_)
        · skip
          refine g_aload_n 0 dX10_degree_32 rfl ?_
          refine g_iload_n 1 dX10_degree_33 rfl ?_
          refine g_callV (nc2 := 0) (ns2 := 0) (ci := 10) (As := [.int (gI (a))]) (st := []) rfl dX10_degree_34 okX10_degreeY lX10_103 itX10_degreeY seX10_degreeY rfl hm (by decide) (by decide) rfl (Nat.le_of_ble_eq_true rfl) (sM_degreeY N _ B p hp hp2 hf le fc pn rn hn qn T F a a0 a1 ha hm hT) (by omega) (by omega) (fun v7 hc7 q7 => ?_)
          obtain ⟨hq8, rfl⟩ := q7
          refine Go.nf (h' := h) (st' := [.int (gI (dY hp F))]) hq8 rfl (Nat.le_refl _) (Nat.le_refl _) ?_
          exact g_iret dX10_degree_37 rfl ⟨Fr.e0 (Fr.rf [] h), by unfold adg; rw [gT_s a0 a1 ha]; dsimp only; rw [if_neg (by omega), if_pos (by omega)]⟩
        · skip
          refine g_aload_n 0 dX10_degree_24 rfl ?_
          refine g_iload_n 1 dX10_degree_25 rfl ?_
          refine g_callV (nc2 := 0) (ns2 := 0) (ci := 10) (As := [.int (gI (a))]) (st := []) rfl dX10_degree_26 okX10_degreeX lX10_154 itX10_degreeX seX10_degreeX rfl hm (by decide) (by decide) rfl (Nat.le_of_ble_eq_true rfl) (sM_degreeX N _ B p hp hp2 hf le fc pn rn hn qn T F a a0 a1 ha hm hT) (by omega) (by omega) (fun v9 hc9 q9 => ?_)
          obtain ⟨hq10, rfl⟩ := q9
          refine Go.nf (h' := h) (st' := [.int (gI (dX hp F))]) hq10 rfl (Nat.le_refl _) (Nat.le_refl _) ?_
          refine g_goto (tgt := 37) dX10_degree_29 rfl ?_
          exact g_iret dX10_degree_37 rfl ⟨Fr.e0 (Fr.rf [] h), by unfold adg; rw [gT_s a0 a1 ha]; dsimp only; rw [if_pos (by omega)]⟩
      · skip
        refine g_bipush dX10_degree_17 (by decide) ?_
        exact g_iret dX10_degree_19 rfl ⟨Fr.e0 (Fr.rf [] h), by unfold adg; rw [gT_s a0 a1 ha]; dsimp only; rw [if_neg (by omega), if_neg (by omega)]⟩
  · skip
    refine Go.nf (h' := h) (st' := [.int (gI (0))]) hq2 rfl (Nat.le_refl _) (Nat.le_refl _) ?_
    refine g_if_eq (tgt := 17) dX10_degree_5 rfl (by first | exact gW_a | exact gW_w | (unfold gW; omega)) (fun c11 => ?_) (fun c11 => absurd c11 (by omega))
    refine g_bipush dX10_degree_17 (by decide) ?_
    exact g_iret dX10_degree_19 rfl ⟨Fr.e0 (Fr.rf [] h), by unfold adg; rw [gT_n na]⟩
theorem hr_e {p : Nat} (h : prm p) (c : Nat → Fp p) (x : Fp p) {n k : Nat} (hk : n ≤ k) : letI := fR h; hr h c x n k = 0 := by
  unfold hr
  rw [show n - k = 0 by omega]
  rfl
set_option maxHeartbeats 4000000 in
set_option maxRecDepth 100000 in
theorem sM_value (N : GN) (h : GH) (B p : Nat) (hp : prm p) (hp2 : p ≤ 65536) (hf le fc pn rn hn qn : Int) (T : PT p) (a x y : Int) (gW_a : gW a) (gX_x : gX x) (gX_y : gX y) (hm : h.2 B = some (mO B p hf le fc pn rn hn qn)) (hT : MP hp B h T)  : Sp N yX10_value mX10_value 0 0 [.ref (B), .int (gI (a)), .long (gJ (x)), .long (gJ (y))] h (fun v h1 => h1 = h ∧ v = some (.int (gI (avl hp T a x y)))) := by
  refine Sp.of (by decide) rfl rfl (Nat.le_of_ble_eq_true rfl) ?_
  show Go N mX10_value _ 0 0 h 0 [(0, .ref (B)), (1, .int (gI (a))), (2, .long (gJ (x))), (4, .long (gJ (y)))] []
  have hp1 := hp.1
  have neA : NE B (B + 5) := by unfold NE; omega
  have neB : NE B (B + 6) := by unfold NE; omega
  have neC : NE (B + 5) (B + 6) := by unfold NE; omega
  have ne0 : NE (B) (B + 1) := by unfold NE; omega
  have ne1 : NE (B) (B + 2) := by unfold NE; omega
  have ne2 : NE (B) (B + 3) := by unfold NE; omega
  have ne3 : NE (B) (B + 4) := by unfold NE; omega
  have ne4 : NE (B) (B + 5) := by unfold NE; omega
  have ne5 : NE (B) (B + 6) := by unfold NE; omega
  have ne6 : NE (B) (B + 7) := by unfold NE; omega
  have ne7 : NE (B) (B + 8) := by unfold NE; omega
  have ne8 : NE (B + 1) (B + 2) := by unfold NE; omega
  have ne9 : NE (B + 1) (B + 3) := by unfold NE; omega
  have ne10 : NE (B + 1) (B + 4) := by unfold NE; omega
  have ne11 : NE (B + 1) (B + 5) := by unfold NE; omega
  have ne12 : NE (B + 1) (B + 6) := by unfold NE; omega
  have ne13 : NE (B + 1) (B + 7) := by unfold NE; omega
  have ne14 : NE (B + 1) (B + 8) := by unfold NE; omega
  have ne15 : NE (B + 2) (B + 3) := by unfold NE; omega
  have ne16 : NE (B + 2) (B + 4) := by unfold NE; omega
  have ne17 : NE (B + 2) (B + 5) := by unfold NE; omega
  have ne18 : NE (B + 2) (B + 6) := by unfold NE; omega
  have ne19 : NE (B + 2) (B + 7) := by unfold NE; omega
  have ne20 : NE (B + 2) (B + 8) := by unfold NE; omega
  have ne21 : NE (B + 3) (B + 4) := by unfold NE; omega
  have ne22 : NE (B + 3) (B + 5) := by unfold NE; omega
  have ne23 : NE (B + 3) (B + 6) := by unfold NE; omega
  have ne24 : NE (B + 3) (B + 7) := by unfold NE; omega
  have ne25 : NE (B + 3) (B + 8) := by unfold NE; omega
  have ne26 : NE (B + 4) (B + 5) := by unfold NE; omega
  have ne27 : NE (B + 4) (B + 6) := by unfold NE; omega
  have ne28 : NE (B + 4) (B + 7) := by unfold NE; omega
  have ne29 : NE (B + 4) (B + 8) := by unfold NE; omega
  have ne30 : NE (B + 5) (B + 6) := by unfold NE; omega
  have ne31 : NE (B + 5) (B + 7) := by unfold NE; omega
  have ne32 : NE (B + 5) (B + 8) := by unfold NE; omega
  have ne33 : NE (B + 6) (B + 7) := by unfold NE; omega
  have ne34 : NE (B + 6) (B + 8) := by unfold NE; omega
  have ne35 : NE (B + 7) (B + 8) := by unfold NE; omega
  refine g_aload_n 0 dX10_value_0 rfl ?_
  refine g_iload_n 1 dX10_value_1 rfl ?_
  refine g_callV (nc2 := 0) (ns2 := 0) (ci := 10) (As := [.int (gI (a))]) (st := []) rfl dX10_value_2 okX10_isPlace lX10_118 itX10_isPlace seX10_isPlace rfl hm (by decide) (by decide) rfl (Nat.le_of_ble_eq_true rfl) (sM_isPlace N _ B p hp hp2 hf le fc pn rn hn qn T (a) gW_a hm hT) (by omega) (by omega) (fun v1 hc1 q1 => ?_)
  obtain ⟨hq2, hr2⟩ := q1
  rcases hr2 with ⟨rfl, a0, a1, F, ha⟩ | ⟨rfl, na⟩
  · skip
    refine Go.nf (h' := h) (st' := [.int (gI (1))]) hq2 rfl (Nat.le_refl _) (Nat.le_refl _) ?_
    refine g_if_ne (tgt := 10) dX10_value_5 rfl (by first | exact gW_a | (unfold gW; omega)) (fun c3 => ?_) (fun c3 => absurd c3 (by omega))
    refine g_aload_n 0 dX10_value_10 rfl ?_
    refine g_lload_n 2 dX10_value_11 rfl ?_
    refine g_callV (nc2 := 0) (ns2 := 0) (ci := 10) (As := [.long (gJ (x))]) (st := []) rfl dX10_value_12 okX10_modulo lX10_110 itX10_modulo seX10_modulo rfl hm (by decide) (by decide) rfl (Nat.le_of_ble_eq_true rfl) (sX10_modulo N _ B _ _ _ _ _ _ _ _ _ _ _ _ _ _ _ _ _ _ _ _ _ _ _ _ _ _ _ _ _ (p : Int) (x) (by first | assumption | (unfold gX; omega)) (by omega) (by omega) hm) (by omega) (by omega) (fun v4 hc4 q4 => ?_)
    obtain ⟨hq5, rfl⟩ := q4
    rw [gMod_em (show (0 : Int) < p by omega)]
    have hmb5 := em_in hp (x)
    refine Go.nf (h' := h) (st' := [.int (gI ((x) % (p : Int)))]) hq5 rfl (Nat.le_refl _) (Nat.le_refl _) ?_
    refine g_i2l dX10_value_15 (by first | exact gW_a | (unfold gW; omega)) ?_
    refine g_lstore (ls2 := [(6, .long (gJ ((x) % (p : Int)))), (0, .ref (B)), (1, .int (gI (a))), (2, .long (gJ (x))), (4, .long (gJ (y)))]) dX10_value_16 (by decide) rfl ?_
    refine g_aload_n 1 dX10_value_18 rfl ?_
    refine g_lload 4 dX10_value_19 rfl ?_
    refine g_callV (nc2 := 0) (ns2 := 0) (ci := 10) (As := [.long (gJ (y))]) (st := []) rfl dX10_value_21 okX10_modulo lX10_110 itX10_modulo seX10_modulo rfl hm (by decide) (by decide) rfl (Nat.le_of_ble_eq_true rfl) (sX10_modulo N _ B _ _ _ _ _ _ _ _ _ _ _ _ _ _ _ _ _ _ _ _ _ _ _ _ _ _ _ _ _ (p : Int) (y) (by first | assumption | (unfold gX; omega)) (by omega) (by omega) hm) (by omega) (by omega) (fun v6 hc6 q6 => ?_)
    obtain ⟨hq7, rfl⟩ := q6
    rw [gMod_em (show (0 : Int) < p by omega)]
    have hmb7 := em_in hp (y)
    refine Go.nf (h' := h) (st' := [.int (gI ((y) % (p : Int)))]) hq7 rfl (Nat.le_refl _) (Nat.le_refl _) ?_
    refine g_i2l dX10_value_24 (by first | exact gW_a | (unfold gW; omega)) ?_
    refine g_lstore (ls2 := [(8, .long (gJ ((y) % (p : Int)))), (6, .long (gJ ((x) % (p : Int)))), (0, .ref (B)), (1, .int (gI (a))), (2, .long (gJ (x))), (4, .long (gJ (y)))]) dX10_value_25 (by decide) rfl ?_
    refine g_lconst0 dX10_value_27 ?_
    refine g_lstore (ls2 := [(10, .long (gJ (0))), (8, .long (gJ ((y) % (p : Int)))), (6, .long (gJ ((x) % (p : Int)))), (0, .ref (B)), (1, .int (gI (a))), (2, .long (gJ (x))), (4, .long (gJ (y)))]) dX10_value_28 (by decide) rfl ?_
    refine g_bipush dX10_value_30 (by decide) ?_
    refine g_istore (ls2 := [(12, .int (gI (40))), (10, .long (gJ (0))), (8, .long (gJ ((y) % (p : Int)))), (6, .long (gJ ((x) % (p : Int)))), (0, .ref (B)), (1, .int (gI (a))), (2, .long (gJ (x))), (4, .long (gJ (y)))]) dX10_value_32 (by decide) rfl ?_
    have hT8 := hT
    obtain ⟨gt, gn, w1, w2, w3⟩ := hT8
    obtain ⟨hB, hN⟩ := MP_at w3 a0 a1 ha
    have li : ∀ (kk : Nat) (i : Int) (t : Int) (hli : GH), kk = (i + 1).toNat → Fr [] h hli → hli.2 (B + 2) = some (aI 28700 (gn)) → MP hp B hli (T) → (-1 ≤ i ∧ i ≤ 40) → (t = fv (hr hp (fun i => hr hp (fun j => F j i) (zi hp y) 7 0) (zi hp x) 41 (i + 1).toNat)) → Go N mX10_value (fun v h1 => h1 = h ∧ v = some (.int (gI (avl hp T a x y)))) 0 0 hli 34 [(12, .int (gI (i))), (10, .long (gJ (t))), (8, .long (gJ ((y) % (p : Int)))), (6, .long (gJ ((x) % (p : Int)))), (0, .ref (B)), (1, .int (gI (a))), (2, .long (gJ (x))), (4, .long (gJ (y)))] [] := by
      refine Go.ind (fun kk ih_li => ?_)
      intro i t hli hkk_li fr_li cf_li_0 cr_li_0 hi ht
      have cg_li_0 : hli.2 (B) = some (mO B ((p : Int)) (hf) (le) (fc) (pn) (rn) (hn) (qn)) := Fr.at0 fr_li (Ni.n _) hm
      have htb : 0 ≤ t ∧ t < p := by rw [ht]; have := fv_lt (hr hp (fun i => hr hp (fun j => F j i) (zi hp y) 7 0) (zi hp x) 41 (i + 1).toNat); omega
      refine g_iload 0 dX10_value_34 rfl ?_
      refine g_if_lt (tgt := 107) dX10_value_36 rfl (by first | exact gW_a | (unfold gW; omega)) (fun c109 => ?_) (fun c109 => ?_)
      · skip
        refine g_lload 1 dX10_value_107 rfl ?_
        refine g_l2i dX10_value_109 ?_
        exact g_iret dX10_value_110 rfl ⟨Fr.e0 fr_li, by
                                                                      have hi1 : i = -1 := by omega
                                                                      unfold avl
                                                                      rw [gT_s a0 a1 ha]
                                                                      dsimp only
                                                                      rw [ht, hi1, val_x]
                                                                      have e9 : hr hp (fun i => hr hp (fun j => F j i) (zi hp y) 7 0) (zi hp x) 41 ((-1 : Int) + 1).toNat = sm (fR hp) 41 (fun i => letI := fR hp; sm (fR hp) 7 (fun j => F j i * zi hp y ^ j) * zi hp x ^ i) := by
                                                                        rw [show ((-1 : Int) + 1).toNat = 0 from rfl, hr_0]
                                                                        exact sm_congr (fR hp) (fun j _ => by rw [hr_0])
                                                                      rw [e9]⟩
      · skip
        refine g_lconst0 dX10_value_39 ?_
        refine g_lstore (ls2 := [(13, .long (gJ (0))), (12, .int (gI (i))), (10, .long (gJ (t))), (8, .long (gJ ((y) % (p : Int)))), (6, .long (gJ ((x) % (p : Int)))), (0, .ref (B)), (1, .int (gI (a))), (2, .long (gJ (x))), (4, .long (gJ (y)))]) dX10_value_40 (by decide) rfl ?_
        refine g_bipush dX10_value_42 (by decide) ?_
        refine g_istore (ls2 := [(15, .int (gI (6))), (13, .long (gJ (0))), (12, .int (gI (i))), (10, .long (gJ (t))), (8, .long (gJ ((y) % (p : Int)))), (6, .long (gJ ((x) % (p : Int)))), (0, .ref (B)), (1, .int (gI (a))), (2, .long (gJ (x))), (4, .long (gJ (y)))]) dX10_value_44 (by decide) rfl ?_
        have lj : ∀ (kk : Nat) (j : Int) (w : Int) (hlj : GH), kk = (j + 1).toNat → Fr [] h hlj → hlj.2 (B + 2) = some (aI 28700 (gn)) → MP hp B hlj (T) → (-1 ≤ j ∧ j ≤ 6) → (w = fv (hr hp (fun j => F j i.toNat) (zi hp y) 7 (j + 1).toNat)) → Go N mX10_value (fun v h1 => h1 = h ∧ v = some (.int (gI (avl hp T a x y)))) 0 0 hlj 46 [(15, .int (gI (j))), (13, .long (gJ (w))), (12, .int (gI (i))), (10, .long (gJ (t))), (8, .long (gJ ((y) % (p : Int)))), (6, .long (gJ ((x) % (p : Int)))), (0, .ref (B)), (1, .int (gI (a))), (2, .long (gJ (x))), (4, .long (gJ (y)))] [] := by
          refine Go.ind (fun kk ih_lj => ?_)
          intro j w hlj hkk_lj fr_lj cf_lj_0 cr_lj_0 hj hr_
          have cg_lj_0 : hlj.2 (B) = some (mO B ((p : Int)) (hf) (le) (fc) (pn) (rn) (hn) (qn)) := Fr.at0 fr_lj (Ni.n _) hm
          have hwb : 0 ≤ w ∧ w < p := by rw [hr_]; have := fv_lt (hr hp (fun j => F j i.toNat) (zi hp y) 7 (j + 1).toNat); omega
          have bp := g_prod hwb.1 hwb.2 (em_in hp y).1 (em_in hp y).2 (show (p : Int) ≤ 65536 by omega)
          refine g_iload 0 dX10_value_46 rfl ?_
          refine g_if_lt (tgt := 85) dX10_value_48 rfl (by first | exact gW_a | (unfold gW; omega)) (fun c210 => ?_) (fun c210 => ?_)
          · skip
            have bq := g_prod htb.1 htb.2 (em_in hp x).1 (em_in hp x).2 (show (p : Int) ≤ 65536 by omega)
            refine g_lload 3 dX10_value_85 rfl ?_
            refine g_lload 5 dX10_value_87 rfl ?_
            refine g_lmul dX10_value_89 ?_
            refine g_lload 1 dX10_value_90 rfl ?_
            refine g_ladd dX10_value_92 ?_
            refine g_aload_n 6 dX10_value_93 rfl ?_
            refine g_getf 0 dX10_value_94 kX10 (by decide) fX10_78 cg_lj_0 rfl ?_
            refine g_i2l dX10_value_97 (by first | exact gW_a | (unfold gW; omega)) ?_
            refine g_lrem dX10_value_98 (by unfold gX; omega) (by unfold gX; omega) (by omega) ?_
            rw [tm_em (show 0 ≤ t * (x % (p : Int)) + w by omega)]
            refine g_lstore (ls2 := [(10, .long (gJ ((t * (x % (p : Int)) + w) % (p : Int)))), (15, .int (gI (j))), (13, .long (gJ (w))), (12, .int (gI (i))), (8, .long (gJ ((y) % (p : Int)))), (6, .long (gJ ((x) % (p : Int)))), (0, .ref (B)), (1, .int (gI (a))), (2, .long (gJ (x))), (4, .long (gJ (y)))]) dX10_value_99 (by decide) rfl ?_
            refine g_iinc 3 (ls2 := [(12, .int (gI (i + (-1)))), (10, .long (gJ ((t * (x % (p : Int)) + w) % (p : Int)))), (15, .int (gI (j))), (13, .long (gJ (w))), (8, .long (gJ ((y) % (p : Int)))), (6, .long (gJ ((x) % (p : Int)))), (0, .ref (B)), (1, .int (gI (a))), (2, .long (gJ (x))), (4, .long (gJ (y)))]) dX10_value_101 rfl (by decide) rfl ?_
            refine g_goto (tgt := 34) dX10_value_104 rfl ?_
            refine Go.sub [0, 1, 4, 5, 6, 7, 8, 9] rfl ?_
            exact ih_li _ (by omega) (i + (-1)) ((t * (x % (p : Int)) + w) % (p : Int)) hlj rfl fr_lj cf_lj_0 cr_lj_0 (by omega) (by
                                                                      have hj1 : j = -1 := by omega
                                                                      rw [hj1] at hr_
                                                                      rw [ht, hr_, fv_st, zi_mod, show (i + (-1) + 1).toNat = i.toNat by omega, hr_s hp _ _ (show i.toNat < 41 by omega), zi_of, show i.toNat + 1 = (i + 1).toNat by omega]
                                                                      rfl)
          · skip
            refine g_lload 1 dX10_value_51 rfl ?_
            refine g_lload 4 dX10_value_53 rfl ?_
            refine g_lmul dX10_value_55 ?_
            refine g_aload_n 6 dX10_value_56 rfl ?_
            refine g_getf 2 dX10_value_57 kX10 (by decide) fX10_13 cg_lj_0 rfl ?_
            refine g_iload_n 7 dX10_value_60 rfl ?_
            refine g_iload 2 dX10_value_61 rfl ?_
            refine g_iload 0 dX10_value_63 rfl ?_
            refine g_callS (nc2 := 0) (ns2 := 0) (As := [.int (gI (a)), .int (gI (i)), .int (gI (j))]) (st := [.ref (B + 2), .long (gJ ((w) * ((y) % (p : Int))))]) rfl dX10_value_65 okX10_cellOf lX10_99 stX10_cellOf (by decide) (by decide) rfl (Nat.le_of_ble_eq_true rfl) (sM_cellOf N _ (a) (i) (j)) (by omega) (by omega) (fun v211 hc211 q211 => ?_)
            obtain ⟨hq212, rfl⟩ := q211
            refine Go.nf (h' := hlj) (st' := [.int (gI (287 * (a) + 7 * (i) + (j))), .ref (B + 2), .long (gJ ((w) * ((y) % (p : Int))))]) hq212 rfl (Nat.le_refl _) (Nat.le_refl _) ?_
            refine g_iaload dX10_value_68 cf_lj_0 (by omega) (by omega) (by omega) ?_
            have hv_ : (gn) (287 * (a) + 7 * (i) + (j)) = cy F j i := by
                                                                      have e9 := hN j i (by omega) (by omega) (by omega) (by omega)
                                                                      rw [Int.add_assoc]; exact e9
            rw [hv_]
            have hcb := cy_in hp F j i
            refine g_i2l dX10_value_69 (by first | exact gW_a | (unfold gW; omega)) ?_
            refine g_ladd dX10_value_70 ?_
            refine g_aload_n 6 dX10_value_71 rfl ?_
            refine g_getf 0 dX10_value_72 kX10 (by decide) fX10_78 cg_lj_0 rfl ?_
            refine g_i2l dX10_value_75 (by first | exact gW_a | (unfold gW; omega)) ?_
            refine g_lrem dX10_value_76 (by unfold gX; omega) (by unfold gX; omega) (by omega) ?_
            rw [tm_em (show 0 ≤ w * (y % (p : Int)) + cy F j i by omega)]
            refine g_lstore (ls2 := [(13, .long (gJ ((w * (y % (p : Int)) + cy F j i) % (p : Int)))), (15, .int (gI (j))), (12, .int (gI (i))), (10, .long (gJ (t))), (8, .long (gJ ((y) % (p : Int)))), (6, .long (gJ ((x) % (p : Int)))), (0, .ref (B)), (1, .int (gI (a))), (2, .long (gJ (x))), (4, .long (gJ (y)))]) dX10_value_77 (by decide) rfl ?_
            refine g_iinc 1 (ls2 := [(15, .int (gI (j + (-1)))), (13, .long (gJ ((w * (y % (p : Int)) + cy F j i) % (p : Int)))), (12, .int (gI (i))), (10, .long (gJ (t))), (8, .long (gJ ((y) % (p : Int)))), (6, .long (gJ ((x) % (p : Int)))), (0, .ref (B)), (1, .int (gI (a))), (2, .long (gJ (x))), (4, .long (gJ (y)))]) dX10_value_79 rfl (by decide) rfl ?_
            refine g_goto (tgt := 46) dX10_value_82 rfl ?_
            exact ih_lj _ (by omega) (j + (-1)) ((w * (y % (p : Int)) + cy F j i) % (p : Int)) hlj rfl fr_lj cf_lj_0 cr_lj_0 (by omega) (by
                                                                      rw [hr_, fv_st, zi_mod, show (j + (-1) + 1).toNat = j.toNat by omega, hr_s hp _ _ (show j.toNat < 7 by omega), show j.toNat + 1 = (j + 1).toNat by omega]
                                                                      have e9 := cy_zi hp F j.toNat i.toNat
                                                                      rw [show ((j.toNat : Nat) : Int) = j by omega, show ((i.toNat : Nat) : Int) = i by omega] at e9
                                                                      rw [e9])
        exact lj _ (6) (0) hli rfl fr_li cf_li_0 cr_li_0 (by omega) (by
                                                                      rw [hr_e hp _ _ (show 7 ≤ ((6 : Int) + 1).toNat by decide), f_zero hp])
    exact li _ (40) (0) h rfl (Fr.rf [] h) w2 hT (by omega) (by rw [hr_e hp _ _ (show 41 ≤ ((40 : Int) + 1).toNat by decide), f_zero hp])
  · skip
    refine Go.nf (h' := h) (st' := [.int (gI (0))]) hq2 rfl (Nat.le_refl _) (Nat.le_refl _) ?_
    refine g_if_ne (tgt := 10) dX10_value_5 rfl (by first | exact gW_a | (unfold gW; omega)) (fun c413 => absurd c413 (by omega)) (fun c413 => ?_)
    refine g_iconst dX10_value_8 ?_
    exact g_iret dX10_value_9 rfl ⟨Fr.e0 (Fr.rf [] h), by unfold avl; rw [gT_n na]⟩
theorem NW_un {p : Nat} (h : prm p) {F G : Pxy p} {f : Int → Int} (bF : PB h F) (bG : PB h G) (a : NW F f) (b : NW G f) : F = G := funext fun j => funext fun i => by
  by_cases z : 6 < j ∨ 40 < i
  · rw [bF j i z, bG j i z]
  · rw [← a.zi h (show j ≤ 6 by omega) (show i ≤ 40 by omega), ← b.zi h (by omega) (by omega)]
set_option maxHeartbeats 4000000 in
set_option maxRecDepth 100000 in
theorem sM_same (N : GN) (h : GH) (B p : Nat) (hp : prm p) (hp2 : p ≤ 65536) (hf le fc pn rn hn qn : Int) (T : PT p) (a b : Int) (gW_a : gW a) (gW_b : gW b) (hm : h.2 B = some (mO B p hf le fc pn rn hn qn)) (hT : MP hp B h T)  : Sp N yX10_same mX10_same 0 0 [.ref (B), .int (gI (a)), .int (gI (b))] h (fun v h1 => h1 = h ∧ v = some (.int (gI (asm T a b)))) := by
  refine Sp.of (by decide) rfl rfl (Nat.le_of_ble_eq_true rfl) ?_
  show Go N mX10_same _ 0 0 h 0 [(0, .ref (B)), (1, .int (gI (a))), (2, .int (gI (b)))] []
  have hp1 := hp.1
  have neA : NE B (B + 5) := by unfold NE; omega
  have neB : NE B (B + 6) := by unfold NE; omega
  have neC : NE (B + 5) (B + 6) := by unfold NE; omega
  have ne0 : NE (B) (B + 1) := by unfold NE; omega
  have ne1 : NE (B) (B + 2) := by unfold NE; omega
  have ne2 : NE (B) (B + 3) := by unfold NE; omega
  have ne3 : NE (B) (B + 4) := by unfold NE; omega
  have ne4 : NE (B) (B + 5) := by unfold NE; omega
  have ne5 : NE (B) (B + 6) := by unfold NE; omega
  have ne6 : NE (B) (B + 7) := by unfold NE; omega
  have ne7 : NE (B) (B + 8) := by unfold NE; omega
  have ne8 : NE (B + 1) (B + 2) := by unfold NE; omega
  have ne9 : NE (B + 1) (B + 3) := by unfold NE; omega
  have ne10 : NE (B + 1) (B + 4) := by unfold NE; omega
  have ne11 : NE (B + 1) (B + 5) := by unfold NE; omega
  have ne12 : NE (B + 1) (B + 6) := by unfold NE; omega
  have ne13 : NE (B + 1) (B + 7) := by unfold NE; omega
  have ne14 : NE (B + 1) (B + 8) := by unfold NE; omega
  have ne15 : NE (B + 2) (B + 3) := by unfold NE; omega
  have ne16 : NE (B + 2) (B + 4) := by unfold NE; omega
  have ne17 : NE (B + 2) (B + 5) := by unfold NE; omega
  have ne18 : NE (B + 2) (B + 6) := by unfold NE; omega
  have ne19 : NE (B + 2) (B + 7) := by unfold NE; omega
  have ne20 : NE (B + 2) (B + 8) := by unfold NE; omega
  have ne21 : NE (B + 3) (B + 4) := by unfold NE; omega
  have ne22 : NE (B + 3) (B + 5) := by unfold NE; omega
  have ne23 : NE (B + 3) (B + 6) := by unfold NE; omega
  have ne24 : NE (B + 3) (B + 7) := by unfold NE; omega
  have ne25 : NE (B + 3) (B + 8) := by unfold NE; omega
  have ne26 : NE (B + 4) (B + 5) := by unfold NE; omega
  have ne27 : NE (B + 4) (B + 6) := by unfold NE; omega
  have ne28 : NE (B + 4) (B + 7) := by unfold NE; omega
  have ne29 : NE (B + 4) (B + 8) := by unfold NE; omega
  have ne30 : NE (B + 5) (B + 6) := by unfold NE; omega
  have ne31 : NE (B + 5) (B + 7) := by unfold NE; omega
  have ne32 : NE (B + 5) (B + 8) := by unfold NE; omega
  have ne33 : NE (B + 6) (B + 7) := by unfold NE; omega
  have ne34 : NE (B + 6) (B + 8) := by unfold NE; omega
  have ne35 : NE (B + 7) (B + 8) := by unfold NE; omega
  refine g_aload_n 0 dX10_same_0 rfl ?_
  refine g_iload_n 1 dX10_same_1 rfl ?_
  refine g_callV (nc2 := 0) (ns2 := 0) (ci := 10) (As := [.int (gI (a))]) (st := []) rfl dX10_same_2 okX10_isPlace lX10_118 itX10_isPlace seX10_isPlace rfl hm (by decide) (by decide) rfl (Nat.le_of_ble_eq_true rfl) (sM_isPlace N _ B p hp hp2 hf le fc pn rn hn qn T (a) gW_a hm hT) (by omega) (by omega) (fun v1 hc1 q1 => ?_)
  obtain ⟨hq2, hr2⟩ := q1
  rcases hr2 with ⟨rfl, a0, a1, F, ha⟩ | ⟨rfl, na⟩
  · skip
    refine Go.nf (h' := h) (st' := [.int (gI (1))]) hq2 rfl (Nat.le_refl _) (Nat.le_refl _) ?_
    refine g_if_eq (tgt := 16) dX10_same_5 rfl (by first | exact gW_a | exact gW_b | (unfold gW; omega)) (fun c3 => absurd c3 (by omega)) (fun c3 => ?_)
    refine g_aload_n 0 dX10_same_8 rfl ?_
    refine g_iload_n 2 dX10_same_9 rfl ?_
    refine g_callV (nc2 := 0) (ns2 := 0) (ci := 10) (As := [.int (gI (b))]) (st := []) rfl dX10_same_10 okX10_isPlace lX10_118 itX10_isPlace seX10_isPlace rfl hm (by decide) (by decide) rfl (Nat.le_of_ble_eq_true rfl) (sM_isPlace N _ B p hp hp2 hf le fc pn rn hn qn T (b) gW_b hm hT) (by omega) (by omega) (fun v4 hc4 q4 => ?_)
    obtain ⟨hq5, hr5⟩ := q4
    rcases hr5 with ⟨rfl, b0, b1, G, hb⟩ | ⟨rfl, nb⟩
    · skip
      refine Go.nf (h' := h) (st' := [.int (gI (1))]) hq5 rfl (Nat.le_refl _) (Nat.le_refl _) ?_
      refine g_if_ne (tgt := 18) dX10_same_13 rfl (by first | exact gW_a | exact gW_b | (unfold gW; omega)) (fun c6 => ?_) (fun c6 => absurd c6 (by omega))
      refine g_iconst dX10_same_18 ?_
      refine g_istore_n (ls2 := [(3, .int (gI (0))), (0, .ref (B)), (1, .int (gI (a))), (2, .int (gI (b)))]) dX10_same_19 rfl (by decide) rfl ?_
      have hT7 := hT
      obtain ⟨gt, gn, w1, w2, w3⟩ := hT7
      obtain ⟨hB, hN⟩ := MP_at w3 a0 a1 ha
      obtain ⟨hC, hNb⟩ := MP_at w3 b0 b1 hb
      have lo : ∀ (kk : Nat) (c : Int) (hlo : GH), kk = (287 - c).toNat → Fr [] h hlo → hlo.2 (B + 2) = some (aI 28700 (gn)) → MP hp B hlo (T) → (0 ≤ c ∧ c ≤ 287) → (∀ q, 0 ≤ q → q < c → gn (287 * a + q) = gn (287 * b + q)) → Go N mX10_same (fun v h1 => h1 = h ∧ v = some (.int (gI (asm T a b)))) 0 0 hlo 20 [(3, .int (gI (c))), (0, .ref (B)), (1, .int (gI (a))), (2, .int (gI (b)))] [] := by
        refine Go.ind (fun kk ih_lo => ?_)
        intro c hlo hkk_lo fr_lo cf_lo_0 cr_lo_0 hc hE
        have cg_lo_0 : hlo.2 (B) = some (mO B ((p : Int)) (hf) (le) (fc) (pn) (rn) (hn) (qn)) := Fr.at0 fr_lo (Ni.n _) hm
        refine g_iload_n 0 dX10_same_20 rfl ?_
        refine g_sipush dX10_same_21 (by decide) ?_
        refine g_icmp_ge (tgt := 62) dX10_same_24 rfl (by first | exact gW_a | exact gW_b | (unfold gW; omega)) (by first | exact gW_a | exact gW_b | (unfold gW; omega)) (fun c108 => ?_) (fun c108 => ?_)
        · skip
          refine g_iconst dX10_same_62 ?_
          exact g_zret dX10_same_63 rfl (by omega) ⟨Fr.e0 fr_lo, by
                                                                      rw [(asm_s (gT_s a0 a1 ha) (gT_s b0 b1 hb)).1 (NW_un hp hB hC hN (fun j i j0 j1 i0 i1 => by
                                                                        show gn (287 * a + (7 * i + j)) = _
                                                                        rw [hE (7 * i + j) (by omega) (by omega)]; exact hNb j i j0 j1 i0 i1))]⟩
        · skip
          refine g_aload_n 1 dX10_same_27 rfl ?_
          refine g_getf 2 dX10_same_28 kX10 (by decide) fX10_13 cg_lo_0 rfl ?_
          refine g_sipush dX10_same_31 (by decide) ?_
          refine g_iload_n 2 dX10_same_34 rfl ?_
          refine g_imul dX10_same_35 ?_
          refine g_iload_n 0 dX10_same_36 rfl ?_
          refine g_iadd dX10_same_37 ?_
          have b1_ : 0 ≤ gn (287 * a + c) ∧ gn (287 * a + c) < p := hN.bd hp (k := c) (by omega) (by omega)
          have b2_ : 0 ≤ gn (287 * b + c) ∧ gn (287 * b + c) < p := hNb.bd hp (k := c) (by omega) (by omega)
          refine g_iaload dX10_same_38 cf_lo_0 (by omega) (by omega) (by omega) ?_
          refine g_aload_n 1 dX10_same_39 rfl ?_
          refine g_getf 2 dX10_same_40 kX10 (by decide) fX10_13 cg_lo_0 rfl ?_
          refine g_sipush dX10_same_43 (by decide) ?_
          refine g_iload_n 3 dX10_same_46 rfl ?_
          refine g_imul dX10_same_47 ?_
          refine g_iload_n 0 dX10_same_48 rfl ?_
          refine g_iadd dX10_same_49 ?_
          refine g_iaload dX10_same_50 cf_lo_0 (by omega) (by omega) (by omega) ?_
          refine g_icmp_eq (tgt := 56) dX10_same_51 rfl (by first | exact gW_a | exact gW_b | (unfold gW; omega)) (by first | exact gW_a | exact gW_b | (unfold gW; omega)) (fun c109 => ?_) (fun c109 => ?_)
          · skip
            refine g_iinc 0 (ls2 := [(3, .int (gI (c + 1))), (0, .ref (B)), (1, .int (gI (a))), (2, .int (gI (b)))]) dX10_same_56 rfl (by decide) rfl ?_
            refine g_goto (tgt := 20) dX10_same_59 rfl ?_
            exact ih_lo _ (by omega) (c + 1) hlo rfl fr_lo cf_lo_0 cr_lo_0 (by omega) (fun q q0 q1 => by
                                                                      rcases Int.lt_or_le q c with z | z
                                                                      · exact hE q q0 z
                                                                      · rw [show q = c by omega]; omega)
          · skip
            refine g_iconst dX10_same_54 ?_
            exact g_zret dX10_same_55 rfl (by omega) ⟨Fr.e0 fr_lo, by
                                                                      rw [(asm_s (gT_s a0 a1 ha) (gT_s b0 b1 hb)).2 (fun e => ?_)]
                                                                      subst e
                                                                      have e1 := hN (c % 7) (c / 7) (by omega) (by omega) (by omega) (by omega)
                                                                      have e2 := hNb (c % 7) (c / 7) (by omega) (by omega) (by omega) (by omega)
                                                                      rw [show 7 * (c / 7) + c % 7 = c by omega] at e1 e2
                                                                      have e3 : gn (287 * a + c) = gn (287 * b + c) := e1.trans e2.symm
                                                                      omega⟩
      exact lo _ (0) h rfl (Fr.rf [] h) w2 hT (by omega) (fun q q0 q1 => by omega)
    · skip
      refine Go.nf (h' := h) (st' := [.int (gI (0))]) hq5 rfl (Nat.le_refl _) (Nat.le_refl _) ?_
      refine g_if_ne (tgt := 18) dX10_same_13 rfl (by first | exact gW_a | exact gW_b | (unfold gW; omega)) (fun c210 => absurd c210 (by omega)) (fun c210 => ?_)
      refine g_iconst dX10_same_16 ?_
      exact g_zret dX10_same_17 rfl (by omega) ⟨Fr.e0 (Fr.rf [] h), by rw [asm_n (Or.inr (gT_n nb))]⟩
  · skip
    refine Go.nf (h' := h) (st' := [.int (gI (0))]) hq2 rfl (Nat.le_refl _) (Nat.le_refl _) ?_
    refine g_if_eq (tgt := 16) dX10_same_5 rfl (by first | exact gW_a | exact gW_b | (unfold gW; omega)) (fun c211 => ?_) (fun c211 => absurd c211 (by omega))
    refine g_iconst dX10_same_16 ?_
    exact g_zret dX10_same_17 rfl (by omega) ⟨Fr.e0 (Fr.rf [] h), by rw [asm_n (Or.inl (gT_n na))]⟩
set_option maxHeartbeats 4000000 in
set_option maxRecDepth 100000 in
theorem sM_drop (N : GN) (h : GH) (B p : Nat) (hp : prm p) (hp2 : p ≤ 65536) (hf le fc pn rn hn qn : Int) (T : PT p) (a : Int) (gW_a : gW a) (hm : h.2 B = some (mO B p hf le fc pn rn hn qn)) (hT : MP hp B h T)  : Sp N yX10_drop mX10_drop 0 0 [.ref (B), .int (gI (a))] h (fun v h1 => Fr [B + 1] h h1 ∧ (((∃ F, gT T a = some F) ∧ v = some (.int (gI 1)) ∧ MP hp B h1 (dropT T a)) ∨ (gT T a = none ∧ v = some (.int (gI 0)) ∧ MP hp B h1 T))) := by
  refine Sp.of (by decide) rfl rfl (Nat.le_of_ble_eq_true rfl) ?_
  show Go N mX10_drop _ 0 0 h 0 [(0, .ref (B)), (1, .int (gI (a)))] []
  have hp1 := hp.1
  have neA : NE B (B + 5) := by unfold NE; omega
  have neB : NE B (B + 6) := by unfold NE; omega
  have neC : NE (B + 5) (B + 6) := by unfold NE; omega
  have ne0 : NE (B) (B + 1) := by unfold NE; omega
  have ne1 : NE (B) (B + 2) := by unfold NE; omega
  have ne2 : NE (B) (B + 3) := by unfold NE; omega
  have ne3 : NE (B) (B + 4) := by unfold NE; omega
  have ne4 : NE (B) (B + 5) := by unfold NE; omega
  have ne5 : NE (B) (B + 6) := by unfold NE; omega
  have ne6 : NE (B) (B + 7) := by unfold NE; omega
  have ne7 : NE (B) (B + 8) := by unfold NE; omega
  have ne8 : NE (B + 1) (B + 2) := by unfold NE; omega
  have ne9 : NE (B + 1) (B + 3) := by unfold NE; omega
  have ne10 : NE (B + 1) (B + 4) := by unfold NE; omega
  have ne11 : NE (B + 1) (B + 5) := by unfold NE; omega
  have ne12 : NE (B + 1) (B + 6) := by unfold NE; omega
  have ne13 : NE (B + 1) (B + 7) := by unfold NE; omega
  have ne14 : NE (B + 1) (B + 8) := by unfold NE; omega
  have ne15 : NE (B + 2) (B + 3) := by unfold NE; omega
  have ne16 : NE (B + 2) (B + 4) := by unfold NE; omega
  have ne17 : NE (B + 2) (B + 5) := by unfold NE; omega
  have ne18 : NE (B + 2) (B + 6) := by unfold NE; omega
  have ne19 : NE (B + 2) (B + 7) := by unfold NE; omega
  have ne20 : NE (B + 2) (B + 8) := by unfold NE; omega
  have ne21 : NE (B + 3) (B + 4) := by unfold NE; omega
  have ne22 : NE (B + 3) (B + 5) := by unfold NE; omega
  have ne23 : NE (B + 3) (B + 6) := by unfold NE; omega
  have ne24 : NE (B + 3) (B + 7) := by unfold NE; omega
  have ne25 : NE (B + 3) (B + 8) := by unfold NE; omega
  have ne26 : NE (B + 4) (B + 5) := by unfold NE; omega
  have ne27 : NE (B + 4) (B + 6) := by unfold NE; omega
  have ne28 : NE (B + 4) (B + 7) := by unfold NE; omega
  have ne29 : NE (B + 4) (B + 8) := by unfold NE; omega
  have ne30 : NE (B + 5) (B + 6) := by unfold NE; omega
  have ne31 : NE (B + 5) (B + 7) := by unfold NE; omega
  have ne32 : NE (B + 5) (B + 8) := by unfold NE; omega
  have ne33 : NE (B + 6) (B + 7) := by unfold NE; omega
  have ne34 : NE (B + 6) (B + 8) := by unfold NE; omega
  have ne35 : NE (B + 7) (B + 8) := by unfold NE; omega
  refine g_aload_n 0 dX10_drop_0 rfl ?_
  refine g_iload_n 1 dX10_drop_1 rfl ?_
  refine g_callV (nc2 := 0) (ns2 := 0) (ci := 10) (As := [.int (gI (a))]) (st := []) rfl dX10_drop_2 okX10_isPlace lX10_118 itX10_isPlace seX10_isPlace rfl hm (by decide) (by decide) rfl (Nat.le_of_ble_eq_true rfl) (sM_isPlace N _ B p hp hp2 hf le fc pn rn hn qn T (a) gW_a hm hT) (by omega) (by omega) (fun v1 hc1 q1 => ?_)
  obtain ⟨hq2, hr2⟩ := q1
  rcases hr2 with ⟨rfl, a0, a1, F, ha⟩ | ⟨rfl, na⟩
  · skip
    refine Go.nf (h' := h) (st' := [.int (gI (1))]) hq2 rfl (Nat.le_refl _) (Nat.le_refl _) ?_
    refine g_if_ne (tgt := 10) dX10_drop_5 rfl (by first | exact gW_a | (unfold gW; omega)) (fun c3 => ?_) (fun c3 => absurd c3 (by omega))
    have hT9 := hT
    obtain ⟨gt, gn, w1, w2, w3⟩ := hT9
    refine g_aload_n 0 dX10_drop_10 rfl ?_
    refine g_getf 1 dX10_drop_11 kX10 (by decide) fX10_7 hm rfl ?_
    refine g_iload_n 1 dX10_drop_14 rfl ?_
    refine g_iconst dX10_drop_15 ?_
    refine g_bastore dX10_drop_16 w1 (by omega) (by omega) (by omega) (by omega) ?_
    obtain ⟨hh4, eh4⟩ : ∃ z : GH, z = hset h (B + 1) (aZ 100 (gup (gt) (a) (0))) := ⟨_, rfl⟩
    refine Go.hp eh4.symm ?_
    have fh4_0 : hh4.2 (B) = some (mO B ((p : Int)) (hf) (le) (fc) (pn) (rn) (hn) (qn)) := hs_n eh4 ne0 hm
    have fh4_1 : hh4.2 (B + 1) = some (aZ 100 (gup (gt) (a) (0))) := hs_s eh4
    have fh4_2 : hh4.2 (B + 2) = some (aI 28700 (gn)) := hs_n eh4 (ne8).s w2
    have fr4 : Fr [B + 1] h hh4 := Fr.w0 (Fr.rf [B + 1] h) (List.Mem.head _) eh4
    refine g_iconst dX10_drop_17 ?_
    exact g_zret dX10_drop_18 rfl (by omega) ⟨fr4, Or.inl ⟨⟨F, gT_s a0 a1 ha⟩, rfl, _, _, fh4_1, fh4_2, fun k k0 k1 => by
                                                                      by_cases z : k = a
                                                                      · refine Or.inl ⟨if_pos (by omega), by rw [z, gup_s]⟩
                                                                      · rw [gup_n _ _ z, show dropT T a k.toNat = T k.toNat from if_neg (by omega)]
                                                                        exact w3 k k0 k1⟩⟩
  · skip
    refine Go.nf (h' := h) (st' := [.int (gI (0))]) hq2 rfl (Nat.le_refl _) (Nat.le_refl _) ?_
    refine g_if_ne (tgt := 10) dX10_drop_5 rfl (by first | exact gW_a | (unfold gW; omega)) (fun c5 => absurd c5 (by omega)) (fun c5 => ?_)
    refine g_iconst dX10_drop_8 ?_
    exact g_zret dX10_drop_9 rfl (by omega) ⟨(Fr.rf [B + 1] h), Or.inr ⟨gT_n na, rfl, hT⟩⟩
set_option maxHeartbeats 4000000 in
set_option maxRecDepth 100000 in
theorem sM_prime (N : GN) (h : GH) (B p : Nat) (hp : prm p) (hp2 : p ≤ 65536) (hf le fc pn rn hn qn : Int) (T : PT p) (q : Int) (gW_q : gW q) (hm : h.2 B = some (mO B p hf le fc pn rn hn qn)) (hT : MP hp B h T)  : Sp N yX10_prime mX10_prime 0 0 [.ref (B), .int (gI (q))] h (fun v h1 => (gPrime q ∧ v = some (.int (gI 1)) ∧ Fr [B] h h1 ∧ h1.2 B = some (mO B q 0 le 0 0 0 hn 0) ∧ ∀ hq : prm q.toNat, MP hq B h1 (fun _ => none)) ∨ (¬ gPrime q ∧ v = some (.int (gI 0)) ∧ Fr [B] h h1 ∧ h1.2 B = some (mO B p hf le fc pn rn hn qn) ∧ MP hp B h1 T)) := by
  refine Sp.of (by decide) rfl rfl (Nat.le_of_ble_eq_true rfl) ?_
  show Go N mX10_prime _ 0 0 h 0 [(0, .ref (B)), (1, .int (gI (q)))] []
  have hp1 := hp.1
  have neA : NE B (B + 5) := by unfold NE; omega
  have neB : NE B (B + 6) := by unfold NE; omega
  have neC : NE (B + 5) (B + 6) := by unfold NE; omega
  have ne0 : NE (B) (B + 1) := by unfold NE; omega
  have ne1 : NE (B) (B + 2) := by unfold NE; omega
  have ne2 : NE (B) (B + 3) := by unfold NE; omega
  have ne3 : NE (B) (B + 4) := by unfold NE; omega
  have ne4 : NE (B) (B + 5) := by unfold NE; omega
  have ne5 : NE (B) (B + 6) := by unfold NE; omega
  have ne6 : NE (B) (B + 7) := by unfold NE; omega
  have ne7 : NE (B) (B + 8) := by unfold NE; omega
  have ne8 : NE (B + 1) (B + 2) := by unfold NE; omega
  have ne9 : NE (B + 1) (B + 3) := by unfold NE; omega
  have ne10 : NE (B + 1) (B + 4) := by unfold NE; omega
  have ne11 : NE (B + 1) (B + 5) := by unfold NE; omega
  have ne12 : NE (B + 1) (B + 6) := by unfold NE; omega
  have ne13 : NE (B + 1) (B + 7) := by unfold NE; omega
  have ne14 : NE (B + 1) (B + 8) := by unfold NE; omega
  have ne15 : NE (B + 2) (B + 3) := by unfold NE; omega
  have ne16 : NE (B + 2) (B + 4) := by unfold NE; omega
  have ne17 : NE (B + 2) (B + 5) := by unfold NE; omega
  have ne18 : NE (B + 2) (B + 6) := by unfold NE; omega
  have ne19 : NE (B + 2) (B + 7) := by unfold NE; omega
  have ne20 : NE (B + 2) (B + 8) := by unfold NE; omega
  have ne21 : NE (B + 3) (B + 4) := by unfold NE; omega
  have ne22 : NE (B + 3) (B + 5) := by unfold NE; omega
  have ne23 : NE (B + 3) (B + 6) := by unfold NE; omega
  have ne24 : NE (B + 3) (B + 7) := by unfold NE; omega
  have ne25 : NE (B + 3) (B + 8) := by unfold NE; omega
  have ne26 : NE (B + 4) (B + 5) := by unfold NE; omega
  have ne27 : NE (B + 4) (B + 6) := by unfold NE; omega
  have ne28 : NE (B + 4) (B + 7) := by unfold NE; omega
  have ne29 : NE (B + 4) (B + 8) := by unfold NE; omega
  have ne30 : NE (B + 5) (B + 6) := by unfold NE; omega
  have ne31 : NE (B + 5) (B + 7) := by unfold NE; omega
  have ne32 : NE (B + 5) (B + 8) := by unfold NE; omega
  have ne33 : NE (B + 6) (B + 7) := by unfold NE; omega
  have ne34 : NE (B + 6) (B + 8) := by unfold NE; omega
  have ne35 : NE (B + 7) (B + 8) := by unfold NE; omega
  obtain ⟨gt0, gn0, w1, w2, w3⟩ := hT
  refine g_iload_n 1 dX10_prime_0 rfl ?_
  refine g_iconst dX10_prime_1 ?_
  refine g_icmp_lt (tgt := 15) dX10_prime_2 rfl (by first | exact gW_q | (unfold gW; omega)) (by first | exact gW_q | (unfold gW; omega)) (fun c1 => ?_) (fun c1 => ?_)
  · skip
    refine g_iconst dX10_prime_15 ?_
    refine g_istore_n (ls2 := [(2, .int (gI (0))), (0, .ref (B)), (1, .int (gI (q)))]) dX10_prime_16 rfl (by decide) rfl ?_
    refine g_iconst dX10_prime_17 ?_
    refine g_istore_n (ls2 := [(3, .int (gI (2))), (2, .int (gI (0))), (0, .ref (B)), (1, .int (gI (q)))]) dX10_prime_18 rfl (by decide) rfl ?_
    have lo : ∀ (kk : Nat) (b : Int) (d : Int) (hlo : GH), kk = (300 - d).toNat → Fr [B] h hlo → hlo.2 (B) = some (mO B ((p : Int)) (hf) (le) (fc) (pn) (rn) (hn) (qn)) → hlo.2 (B + 1) = some (aZ 100 (gt0)) → (2 ≤ d ∧ d ≤ 257) → ((b = 1 ∧ 2 ≤ q ∧ q ≤ 65521 ∧ ∀ e, 2 ≤ e → e < d → q.tmod e ≠ 0) ∨ (b = 0 ∧ ¬ gPrime q)) → Go N mX10_prime (fun v h1 => (gPrime q ∧ v = some (.int (gI 1)) ∧ Fr [B] h h1 ∧ h1.2 B = some (mO B q 0 le 0 0 0 hn 0) ∧ ∀ hq : prm q.toNat, MP hq B h1 (fun _ => none)) ∨ (¬ gPrime q ∧ v = some (.int (gI 0)) ∧ Fr [B] h h1 ∧ h1.2 B = some (mO B p hf le fc pn rn hn qn) ∧ MP hp B h1 T)) 0 0 hlo 19 [(3, .int (gI (d))), (2, .int (gI (b))), (0, .ref (B)), (1, .int (gI (q)))] [] := by
      refine Go.ind (fun kk ih_lo => ?_)
      intro b d hlo hkk_lo fr_lo cf_lo_0 cf_lo_1 hd hb
      have hbb : b = 0 ∨ b = 1 := by rcases hb with z | z <;> omega
      have hsq := g_sq (show 0 ≤ d by omega) hd.2
      refine g_iload_n 1 dX10_prime_19 rfl ?_
      refine g_if_eq (tgt := 48) dX10_prime_20 rfl (by first | exact gW_q | (unfold gW; omega)) (fun c102 => ?_) (fun c102 => ?_)
      · skip
        have hnp : ¬ gPrime q := by
                                                                      rcases hb with z | z
                                                                      · omega
                                                                      · exact z.2
        refine g_iload_n 1 dX10_prime_48 rfl ?_
        refine g_if_ne (tgt := 54) dX10_prime_49 rfl (by first | exact gW_q | (unfold gW; omega)) (fun c103 => absurd c103 (by omega)) (fun c103 => ?_)
        refine g_iconst dX10_prime_52 ?_
        exact g_zret dX10_prime_53 rfl (by omega) (Or.inr ⟨hnp, rfl, fr_lo, cf_lo_0, ⟨gt0, gn0, cf_lo_1, Fr.at0 fr_lo (Ni.c ⟨by unfold NE; omega, by unfold NE; omega⟩ (Ni.n _)) w2, w3⟩⟩)
      · skip
        have hpr : 2 ≤ q ∧ q ≤ 65521 ∧ ∀ e, 2 ≤ e → e < d → q.tmod e ≠ 0 := by
                                                                      rcases hb with z | z
                                                                      · exact z.2
                                                                      · omega
        refine g_iload_n 0 dX10_prime_23 rfl ?_
        refine g_iload_n 0 dX10_prime_24 rfl ?_
        refine g_imul dX10_prime_25 ?_
        refine g_iload_n 3 dX10_prime_26 rfl ?_
        refine g_icmp_gt (tgt := 48) dX10_prime_27 rfl (by first | exact gW_q | (unfold gW; omega)) (by first | exact gW_q | (unfold gW; omega)) (fun c104 => ?_) (fun c104 => ?_)
        · skip
          have hyp : gPrime q := ⟨hpr.1, hpr.2.1, fun e e0 e1 => hpr.2.2 e e0 (by
                                                                      rcases Int.lt_or_le e d with z | z
                                                                      · exact z
                                                                      · exfalso
                                                                        have := Int.mul_le_mul z z (show 0 ≤ d by omega) (show 0 ≤ e by omega)
                                                                        omega)⟩
          refine g_iload_n 1 dX10_prime_48 rfl ?_
          refine g_if_ne (tgt := 54) dX10_prime_49 rfl (by first | exact gW_q | (unfold gW; omega)) (fun c105 => ?_) (fun c105 => absurd c105 (by omega))
          refine g_aload_n 2 dX10_prime_54 rfl ?_
          refine g_iload_n 3 dX10_prime_55 rfl ?_
          refine g_putf 0 dX10_prime_56 kX10 (by decide) fX10_78 rfl cf_lo_0 (Nat.le_of_ble_eq_true rfl) rfl rfl ?_
          obtain ⟨hh106, eh106⟩ : ∃ z : GH, z = hset hlo (B) (mO B (q) (hf) (le) (fc) (pn) (rn) (hn) (qn)) := ⟨_, rfl⟩
          refine Go.hp eh106.symm ?_
          have fh106_0 : hh106.2 (B) = some (mO B (q) (hf) (le) (fc) (pn) (rn) (hn) (qn)) := hs_s eh106
          have fh106_1 : hh106.2 (B + 1) = some (aZ 100 (gt0)) := hs_n eh106 (ne0).s cf_lo_1
          have fr106 : Fr [B] h hh106 := Fr.w0 fr_lo (List.Mem.head _) eh106
          refine g_iconst dX10_prime_59 ?_
          refine g_istore_n (ls2 := [(3, .int (gI (0))), (2, .int (gI (b))), (0, .ref (B)), (1, .int (gI (q)))]) dX10_prime_60 rfl (by decide) rfl ?_
          have lk : ∀ (kk : Nat) (k : Int) (hlk : GH), kk = (100 - k).toNat → Fr [B] h hlk → hlk.2 (B) = some (mO B (q) (hf) (le) (fc) (pn) (rn) (hn) (qn)) → hlk.2 (B + 1) = some (aZ 100 (gF gt0 (fun _ => 0) k)) → (0 ≤ k ∧ k ≤ 100) → Go N mX10_prime (fun v h1 => (gPrime q ∧ v = some (.int (gI 1)) ∧ Fr [B] h h1 ∧ h1.2 B = some (mO B q 0 le 0 0 0 hn 0) ∧ ∀ hq : prm q.toNat, MP hq B h1 (fun _ => none)) ∨ (¬ gPrime q ∧ v = some (.int (gI 0)) ∧ Fr [B] h h1 ∧ h1.2 B = some (mO B p hf le fc pn rn hn qn) ∧ MP hp B h1 T)) 0 0 hlk 61 [(3, .int (gI (k))), (2, .int (gI (b))), (0, .ref (B)), (1, .int (gI (q)))] [] := by
            refine Go.ind (fun kk ih_lk => ?_)
            intro k hlk hkk_lk fr_lk cf_lk_0 cf_lk_1 hk
            refine g_iload_n 0 dX10_prime_61 rfl ?_
            refine g_bipush dX10_prime_62 (by decide) ?_
            refine g_icmp_ge (tgt := 80) dX10_prime_64 rfl (by first | exact gW_q | (unfold gW; omega)) (by first | exact gW_q | (unfold gW; omega)) (fun c207 => ?_) (fun c207 => ?_)
            · skip
              refine g_aload_n 2 dX10_prime_80 rfl ?_
              refine g_iconst dX10_prime_81 ?_
              refine g_putf 27 dX10_prime_82 kX10 (by decide) fX10_83 rfl cf_lk_0 (Nat.le_of_ble_eq_true rfl) rfl rfl ?_
              obtain ⟨hh208, eh208⟩ : ∃ z : GH, z = hset hlk (B) (mO B (q) (hf) (le) (fc) (pn) (rn) (hn) (0)) := ⟨_, rfl⟩
              refine Go.hp eh208.symm ?_
              have fh208_0 : hh208.2 (B) = some (mO B (q) (hf) (le) (fc) (pn) (rn) (hn) (0)) := hs_s eh208
              have fh208_1 : hh208.2 (B + 1) = some (aZ 100 (gF gt0 (fun _ => 0) k)) := hs_n eh208 (ne0).s cf_lk_1
              have fr208 : Fr [B] h hh208 := Fr.w0 fr_lk (List.Mem.head _) eh208
              refine g_aload_n 2 dX10_prime_85 rfl ?_
              refine g_iconst dX10_prime_86 ?_
              refine g_putf 9 dX10_prime_87 kX10 (by decide) fX10_86 rfl fh208_0 (Nat.le_of_ble_eq_true rfl) rfl rfl ?_
              obtain ⟨hh209, eh209⟩ : ∃ z : GH, z = hset hh208 (B) (mO B (q) (0) (le) (fc) (pn) (rn) (hn) (0)) := ⟨_, rfl⟩
              refine Go.hp eh209.symm ?_
              have fh209_0 : hh209.2 (B) = some (mO B (q) (0) (le) (fc) (pn) (rn) (hn) (0)) := hs_s eh209
              have fh209_1 : hh209.2 (B + 1) = some (aZ 100 (gF gt0 (fun _ => 0) k)) := hs_n eh209 (ne0).s fh208_1
              have fr209 : Fr [B] h hh209 := Fr.w0 fr208 (List.Mem.head _) eh209
              refine g_aload_n 2 dX10_prime_90 rfl ?_
              refine g_iconst dX10_prime_91 ?_
              refine g_putf 11 dX10_prime_92 kX10 (by decide) fX10_90 rfl fh209_0 (Nat.le_of_ble_eq_true rfl) rfl rfl ?_
              obtain ⟨hh210, eh210⟩ : ∃ z : GH, z = hset hh209 (B) (mO B (q) (0) (le) (0) (pn) (rn) (hn) (0)) := ⟨_, rfl⟩
              refine Go.hp eh210.symm ?_
              have fh210_0 : hh210.2 (B) = some (mO B (q) (0) (le) (0) (pn) (rn) (hn) (0)) := hs_s eh210
              have fh210_1 : hh210.2 (B + 1) = some (aZ 100 (gF gt0 (fun _ => 0) k)) := hs_n eh210 (ne0).s fh209_1
              have fr210 : Fr [B] h hh210 := Fr.w0 fr209 (List.Mem.head _) eh210
              refine g_aload_n 2 dX10_prime_95 rfl ?_
              refine g_iconst dX10_prime_96 ?_
              refine g_putf 15 dX10_prime_97 kX10 (by decide) fX10_93 rfl fh210_0 (Nat.le_of_ble_eq_true rfl) rfl rfl ?_
              obtain ⟨hh211, eh211⟩ : ∃ z : GH, z = hset hh210 (B) (mO B (q) (0) (le) (0) (0) (rn) (hn) (0)) := ⟨_, rfl⟩
              refine Go.hp eh211.symm ?_
              have fh211_0 : hh211.2 (B) = some (mO B (q) (0) (le) (0) (0) (rn) (hn) (0)) := hs_s eh211
              have fh211_1 : hh211.2 (B + 1) = some (aZ 100 (gF gt0 (fun _ => 0) k)) := hs_n eh211 (ne0).s fh210_1
              have fr211 : Fr [B] h hh211 := Fr.w0 fr210 (List.Mem.head _) eh211
              refine g_aload_n 2 dX10_prime_100 rfl ?_
              refine g_iconst dX10_prime_101 ?_
              refine g_putf 19 dX10_prime_102 kX10 (by decide) fX10_96 rfl fh211_0 (Nat.le_of_ble_eq_true rfl) rfl rfl ?_
              obtain ⟨hh212, eh212⟩ : ∃ z : GH, z = hset hh211 (B) (mO B (q) (0) (le) (0) (0) (0) (hn) (0)) := ⟨_, rfl⟩
              refine Go.hp eh212.symm ?_
              have fh212_0 : hh212.2 (B) = some (mO B (q) (0) (le) (0) (0) (0) (hn) (0)) := hs_s eh212
              have fh212_1 : hh212.2 (B + 1) = some (aZ 100 (gF gt0 (fun _ => 0) k)) := hs_n eh212 (ne0).s fh211_1
              have fr212 : Fr [B] h hh212 := Fr.w0 fr211 (List.Mem.head _) eh212
              refine g_iconst dX10_prime_105 ?_
              exact g_zret dX10_prime_106 rfl (by omega) (Or.inl ⟨hyp, rfl, fr212, fh212_0, fun hq => ⟨_, gn0, fh212_1, Fr.at0 fr212 (Ni.c ⟨by unfold NE; omega, by unfold NE; omega⟩ (Ni.n _)) w2, fun m m0 m1 => Or.inl ⟨rfl, by unfold gF; rw [if_pos (by omega)]⟩⟩⟩)
            · skip
              refine g_aload_n 2 dX10_prime_67 rfl ?_
              refine g_getf 1 dX10_prime_68 kX10 (by decide) fX10_7 cf_lk_0 rfl ?_
              refine g_iload_n 0 dX10_prime_71 rfl ?_
              refine g_iconst dX10_prime_72 ?_
              refine g_bastore dX10_prime_73 cf_lk_1 (by omega) (by omega) (by omega) (by omega) ?_
              obtain ⟨hh213, eh213⟩ : ∃ z : GH, z = hset hlk (B + 1) (aZ 100 (gup (gF gt0 (fun _ => 0) k) (k) (0))) := ⟨_, rfl⟩
              refine Go.hp eh213.symm ?_
              have fh213_0 : hh213.2 (B) = some (mO B (q) (hf) (le) (fc) (pn) (rn) (hn) (qn)) := hs_n eh213 ne0 cf_lk_0
              have fh213_1 : hh213.2 (B + 1) = some (aZ 100 (gup (gF gt0 (fun _ => 0) k) (k) (0))) := hs_s eh213
              have fr213 : Fr [B] h hh213 := Fr.w1 fr_lk (List.Mem.head _) eh213
              refine g_iinc 0 (ls2 := [(3, .int (gI (k + 1))), (2, .int (gI (b))), (0, .ref (B)), (1, .int (gI (q)))]) dX10_prime_74 rfl (by decide) rfl ?_
              refine g_goto (tgt := 61) dX10_prime_77 rfl ?_
              exact ih_lk _ (by omega) (k + 1) hh213 rfl fr213 fh213_0 (by rw [← gF_s gt0 (fun _ => 0) hk.1]; exact fh213_1) (by omega)
          exact lk _ (0) hh106 rfl fr106 fh106_0 (by rw [gF_0]; exact fh106_1) (by omega)
        · skip
          refine g_iload_n 3 dX10_prime_30 rfl ?_
          refine g_iload_n 0 dX10_prime_31 rfl ?_
          refine g_irem dX10_prime_32 (by first | exact gW_q | (unfold gW; omega)) (by first | exact gW_q | (unfold gW; omega)) (by omega) ?_
          have htm := g_tmb (n := q) (p := d) (by omega)
          refine g_if_eq (tgt := 40) dX10_prime_33 rfl (by first | exact gW_q | (unfold gW; omega)) (fun c314 => ?_) (fun c314 => ?_)
          · skip
            refine g_iconst dX10_prime_40 ?_
            refine g_istore_n (ls2 := [(2, .int (gI (0))), (3, .int (gI (d))), (0, .ref (B)), (1, .int (gI (q)))]) dX10_prime_41 rfl (by decide) rfl ?_
            refine g_iinc 1 (ls2 := [(3, .int (gI (d + 1))), (2, .int (gI (0))), (0, .ref (B)), (1, .int (gI (q)))]) dX10_prime_42 rfl (by decide) rfl ?_
            refine g_goto (tgt := 19) dX10_prime_45 rfl ?_
            exact ih_lo _ (by omega) (0) (d + 1) hlo rfl fr_lo cf_lo_0 cf_lo_1 (by have := g_sq2 (show 0 ≤ d by omega) (show d * d ≤ q by omega) (by omega); omega) (Or.inr ⟨rfl, fun z => z.2.2 d (by omega) (by omega) (by omega)⟩)
          · skip
            refine g_iconst dX10_prime_36 ?_
            refine g_goto (tgt := 41) dX10_prime_37 rfl ?_
            refine g_istore_n (ls2 := [(2, .int (gI (1))), (3, .int (gI (d))), (0, .ref (B)), (1, .int (gI (q)))]) dX10_prime_41 rfl (by decide) rfl ?_
            refine g_iinc 1 (ls2 := [(3, .int (gI (d + 1))), (2, .int (gI (1))), (0, .ref (B)), (1, .int (gI (q)))]) dX10_prime_42 rfl (by decide) rfl ?_
            refine g_goto (tgt := 19) dX10_prime_45 rfl ?_
            exact ih_lo _ (by omega) (1) (d + 1) hlo rfl fr_lo cf_lo_0 cf_lo_1 (by have := g_sq2 (show 0 ≤ d by omega) (show d * d ≤ q by omega) (by omega); omega) (Or.inl ⟨rfl, by omega, by omega, fun e e0 e1 => by
                                                                      rcases Int.lt_or_le e d with z | z
                                                                      · exact hpr.2.2 e e0 z
                                                                      · rw [show e = d by omega]; omega⟩)
    exact lo _ (0) (2) h rfl (Fr.rf [B] h) hm w1 (by omega) (Or.inr ⟨rfl, fun z => by have z1 := z.1; have z2 := z.2.1; omega⟩)
  · skip
    refine g_iload_n 1 dX10_prime_5 rfl ?_
    refine g_ldc dX10_prime_6 vX10_82 ?_
    refine g_icmp_gt (tgt := 15) dX10_prime_8 rfl (by first | exact gW_q | (unfold gW; omega)) (by first | exact gW_q | (unfold gW; omega)) (fun c415 => ?_) (fun c415 => ?_)
    · skip
      refine g_iconst dX10_prime_15 ?_
      refine g_istore_n (ls2 := [(2, .int (gI (0))), (0, .ref (B)), (1, .int (gI (q)))]) dX10_prime_16 rfl (by decide) rfl ?_
      refine g_iconst dX10_prime_17 ?_
      refine g_istore_n (ls2 := [(3, .int (gI (2))), (2, .int (gI (0))), (0, .ref (B)), (1, .int (gI (q)))]) dX10_prime_18 rfl (by decide) rfl ?_
      have lo : ∀ (kk : Nat) (b : Int) (d : Int) (hlo : GH), kk = (300 - d).toNat → Fr [B] h hlo → hlo.2 (B) = some (mO B ((p : Int)) (hf) (le) (fc) (pn) (rn) (hn) (qn)) → hlo.2 (B + 1) = some (aZ 100 (gt0)) → (2 ≤ d ∧ d ≤ 257) → ((b = 1 ∧ 2 ≤ q ∧ q ≤ 65521 ∧ ∀ e, 2 ≤ e → e < d → q.tmod e ≠ 0) ∨ (b = 0 ∧ ¬ gPrime q)) → Go N mX10_prime (fun v h1 => (gPrime q ∧ v = some (.int (gI 1)) ∧ Fr [B] h h1 ∧ h1.2 B = some (mO B q 0 le 0 0 0 hn 0) ∧ ∀ hq : prm q.toNat, MP hq B h1 (fun _ => none)) ∨ (¬ gPrime q ∧ v = some (.int (gI 0)) ∧ Fr [B] h h1 ∧ h1.2 B = some (mO B p hf le fc pn rn hn qn) ∧ MP hp B h1 T)) 0 0 hlo 19 [(3, .int (gI (d))), (2, .int (gI (b))), (0, .ref (B)), (1, .int (gI (q)))] [] := by
        refine Go.ind (fun kk ih_lo => ?_)
        intro b d hlo hkk_lo fr_lo cf_lo_0 cf_lo_1 hd hb
        have hbb : b = 0 ∨ b = 1 := by rcases hb with z | z <;> omega
        have hsq := g_sq (show 0 ≤ d by omega) hd.2
        refine g_iload_n 1 dX10_prime_19 rfl ?_
        refine g_if_eq (tgt := 48) dX10_prime_20 rfl (by first | exact gW_q | (unfold gW; omega)) (fun c516 => ?_) (fun c516 => ?_)
        · skip
          have hnp : ¬ gPrime q := by
                                                                      rcases hb with z | z
                                                                      · omega
                                                                      · exact z.2
          refine g_iload_n 1 dX10_prime_48 rfl ?_
          refine g_if_ne (tgt := 54) dX10_prime_49 rfl (by first | exact gW_q | (unfold gW; omega)) (fun c517 => absurd c517 (by omega)) (fun c517 => ?_)
          refine g_iconst dX10_prime_52 ?_
          exact g_zret dX10_prime_53 rfl (by omega) (Or.inr ⟨hnp, rfl, fr_lo, cf_lo_0, ⟨gt0, gn0, cf_lo_1, Fr.at0 fr_lo (Ni.c ⟨by unfold NE; omega, by unfold NE; omega⟩ (Ni.n _)) w2, w3⟩⟩)
        · skip
          have hpr : 2 ≤ q ∧ q ≤ 65521 ∧ ∀ e, 2 ≤ e → e < d → q.tmod e ≠ 0 := by
                                                                      rcases hb with z | z
                                                                      · exact z.2
                                                                      · omega
          refine g_iload_n 0 dX10_prime_23 rfl ?_
          refine g_iload_n 0 dX10_prime_24 rfl ?_
          refine g_imul dX10_prime_25 ?_
          refine g_iload_n 3 dX10_prime_26 rfl ?_
          refine g_icmp_gt (tgt := 48) dX10_prime_27 rfl (by first | exact gW_q | (unfold gW; omega)) (by first | exact gW_q | (unfold gW; omega)) (fun c518 => ?_) (fun c518 => ?_)
          · skip
            have hyp : gPrime q := ⟨hpr.1, hpr.2.1, fun e e0 e1 => hpr.2.2 e e0 (by
                                                                      rcases Int.lt_or_le e d with z | z
                                                                      · exact z
                                                                      · exfalso
                                                                        have := Int.mul_le_mul z z (show 0 ≤ d by omega) (show 0 ≤ e by omega)
                                                                        omega)⟩
            refine g_iload_n 1 dX10_prime_48 rfl ?_
            refine g_if_ne (tgt := 54) dX10_prime_49 rfl (by first | exact gW_q | (unfold gW; omega)) (fun c519 => ?_) (fun c519 => absurd c519 (by omega))
            refine g_aload_n 2 dX10_prime_54 rfl ?_
            refine g_iload_n 3 dX10_prime_55 rfl ?_
            refine g_putf 0 dX10_prime_56 kX10 (by decide) fX10_78 rfl cf_lo_0 (Nat.le_of_ble_eq_true rfl) rfl rfl ?_
            obtain ⟨hh520, eh520⟩ : ∃ z : GH, z = hset hlo (B) (mO B (q) (hf) (le) (fc) (pn) (rn) (hn) (qn)) := ⟨_, rfl⟩
            refine Go.hp eh520.symm ?_
            have fh520_0 : hh520.2 (B) = some (mO B (q) (hf) (le) (fc) (pn) (rn) (hn) (qn)) := hs_s eh520
            have fh520_1 : hh520.2 (B + 1) = some (aZ 100 (gt0)) := hs_n eh520 (ne0).s cf_lo_1
            have fr520 : Fr [B] h hh520 := Fr.w0 fr_lo (List.Mem.head _) eh520
            refine g_iconst dX10_prime_59 ?_
            refine g_istore_n (ls2 := [(3, .int (gI (0))), (2, .int (gI (b))), (0, .ref (B)), (1, .int (gI (q)))]) dX10_prime_60 rfl (by decide) rfl ?_
            have lk : ∀ (kk : Nat) (k : Int) (hlk : GH), kk = (100 - k).toNat → Fr [B] h hlk → hlk.2 (B) = some (mO B (q) (hf) (le) (fc) (pn) (rn) (hn) (qn)) → hlk.2 (B + 1) = some (aZ 100 (gF gt0 (fun _ => 0) k)) → (0 ≤ k ∧ k ≤ 100) → Go N mX10_prime (fun v h1 => (gPrime q ∧ v = some (.int (gI 1)) ∧ Fr [B] h h1 ∧ h1.2 B = some (mO B q 0 le 0 0 0 hn 0) ∧ ∀ hq : prm q.toNat, MP hq B h1 (fun _ => none)) ∨ (¬ gPrime q ∧ v = some (.int (gI 0)) ∧ Fr [B] h h1 ∧ h1.2 B = some (mO B p hf le fc pn rn hn qn) ∧ MP hp B h1 T)) 0 0 hlk 61 [(3, .int (gI (k))), (2, .int (gI (b))), (0, .ref (B)), (1, .int (gI (q)))] [] := by
              refine Go.ind (fun kk ih_lk => ?_)
              intro k hlk hkk_lk fr_lk cf_lk_0 cf_lk_1 hk
              refine g_iload_n 0 dX10_prime_61 rfl ?_
              refine g_bipush dX10_prime_62 (by decide) ?_
              refine g_icmp_ge (tgt := 80) dX10_prime_64 rfl (by first | exact gW_q | (unfold gW; omega)) (by first | exact gW_q | (unfold gW; omega)) (fun c621 => ?_) (fun c621 => ?_)
              · skip
                refine g_aload_n 2 dX10_prime_80 rfl ?_
                refine g_iconst dX10_prime_81 ?_
                refine g_putf 27 dX10_prime_82 kX10 (by decide) fX10_83 rfl cf_lk_0 (Nat.le_of_ble_eq_true rfl) rfl rfl ?_
                obtain ⟨hh622, eh622⟩ : ∃ z : GH, z = hset hlk (B) (mO B (q) (hf) (le) (fc) (pn) (rn) (hn) (0)) := ⟨_, rfl⟩
                refine Go.hp eh622.symm ?_
                have fh622_0 : hh622.2 (B) = some (mO B (q) (hf) (le) (fc) (pn) (rn) (hn) (0)) := hs_s eh622
                have fh622_1 : hh622.2 (B + 1) = some (aZ 100 (gF gt0 (fun _ => 0) k)) := hs_n eh622 (ne0).s cf_lk_1
                have fr622 : Fr [B] h hh622 := Fr.w0 fr_lk (List.Mem.head _) eh622
                refine g_aload_n 2 dX10_prime_85 rfl ?_
                refine g_iconst dX10_prime_86 ?_
                refine g_putf 9 dX10_prime_87 kX10 (by decide) fX10_86 rfl fh622_0 (Nat.le_of_ble_eq_true rfl) rfl rfl ?_
                obtain ⟨hh623, eh623⟩ : ∃ z : GH, z = hset hh622 (B) (mO B (q) (0) (le) (fc) (pn) (rn) (hn) (0)) := ⟨_, rfl⟩
                refine Go.hp eh623.symm ?_
                have fh623_0 : hh623.2 (B) = some (mO B (q) (0) (le) (fc) (pn) (rn) (hn) (0)) := hs_s eh623
                have fh623_1 : hh623.2 (B + 1) = some (aZ 100 (gF gt0 (fun _ => 0) k)) := hs_n eh623 (ne0).s fh622_1
                have fr623 : Fr [B] h hh623 := Fr.w0 fr622 (List.Mem.head _) eh623
                refine g_aload_n 2 dX10_prime_90 rfl ?_
                refine g_iconst dX10_prime_91 ?_
                refine g_putf 11 dX10_prime_92 kX10 (by decide) fX10_90 rfl fh623_0 (Nat.le_of_ble_eq_true rfl) rfl rfl ?_
                obtain ⟨hh624, eh624⟩ : ∃ z : GH, z = hset hh623 (B) (mO B (q) (0) (le) (0) (pn) (rn) (hn) (0)) := ⟨_, rfl⟩
                refine Go.hp eh624.symm ?_
                have fh624_0 : hh624.2 (B) = some (mO B (q) (0) (le) (0) (pn) (rn) (hn) (0)) := hs_s eh624
                have fh624_1 : hh624.2 (B + 1) = some (aZ 100 (gF gt0 (fun _ => 0) k)) := hs_n eh624 (ne0).s fh623_1
                have fr624 : Fr [B] h hh624 := Fr.w0 fr623 (List.Mem.head _) eh624
                refine g_aload_n 2 dX10_prime_95 rfl ?_
                refine g_iconst dX10_prime_96 ?_
                refine g_putf 15 dX10_prime_97 kX10 (by decide) fX10_93 rfl fh624_0 (Nat.le_of_ble_eq_true rfl) rfl rfl ?_
                obtain ⟨hh625, eh625⟩ : ∃ z : GH, z = hset hh624 (B) (mO B (q) (0) (le) (0) (0) (rn) (hn) (0)) := ⟨_, rfl⟩
                refine Go.hp eh625.symm ?_
                have fh625_0 : hh625.2 (B) = some (mO B (q) (0) (le) (0) (0) (rn) (hn) (0)) := hs_s eh625
                have fh625_1 : hh625.2 (B + 1) = some (aZ 100 (gF gt0 (fun _ => 0) k)) := hs_n eh625 (ne0).s fh624_1
                have fr625 : Fr [B] h hh625 := Fr.w0 fr624 (List.Mem.head _) eh625
                refine g_aload_n 2 dX10_prime_100 rfl ?_
                refine g_iconst dX10_prime_101 ?_
                refine g_putf 19 dX10_prime_102 kX10 (by decide) fX10_96 rfl fh625_0 (Nat.le_of_ble_eq_true rfl) rfl rfl ?_
                obtain ⟨hh626, eh626⟩ : ∃ z : GH, z = hset hh625 (B) (mO B (q) (0) (le) (0) (0) (0) (hn) (0)) := ⟨_, rfl⟩
                refine Go.hp eh626.symm ?_
                have fh626_0 : hh626.2 (B) = some (mO B (q) (0) (le) (0) (0) (0) (hn) (0)) := hs_s eh626
                have fh626_1 : hh626.2 (B + 1) = some (aZ 100 (gF gt0 (fun _ => 0) k)) := hs_n eh626 (ne0).s fh625_1
                have fr626 : Fr [B] h hh626 := Fr.w0 fr625 (List.Mem.head _) eh626
                refine g_iconst dX10_prime_105 ?_
                exact g_zret dX10_prime_106 rfl (by omega) (Or.inl ⟨hyp, rfl, fr626, fh626_0, fun hq => ⟨_, gn0, fh626_1, Fr.at0 fr626 (Ni.c ⟨by unfold NE; omega, by unfold NE; omega⟩ (Ni.n _)) w2, fun m m0 m1 => Or.inl ⟨rfl, by unfold gF; rw [if_pos (by omega)]⟩⟩⟩)
              · skip
                refine g_aload_n 2 dX10_prime_67 rfl ?_
                refine g_getf 1 dX10_prime_68 kX10 (by decide) fX10_7 cf_lk_0 rfl ?_
                refine g_iload_n 0 dX10_prime_71 rfl ?_
                refine g_iconst dX10_prime_72 ?_
                refine g_bastore dX10_prime_73 cf_lk_1 (by omega) (by omega) (by omega) (by omega) ?_
                obtain ⟨hh627, eh627⟩ : ∃ z : GH, z = hset hlk (B + 1) (aZ 100 (gup (gF gt0 (fun _ => 0) k) (k) (0))) := ⟨_, rfl⟩
                refine Go.hp eh627.symm ?_
                have fh627_0 : hh627.2 (B) = some (mO B (q) (hf) (le) (fc) (pn) (rn) (hn) (qn)) := hs_n eh627 ne0 cf_lk_0
                have fh627_1 : hh627.2 (B + 1) = some (aZ 100 (gup (gF gt0 (fun _ => 0) k) (k) (0))) := hs_s eh627
                have fr627 : Fr [B] h hh627 := Fr.w1 fr_lk (List.Mem.head _) eh627
                refine g_iinc 0 (ls2 := [(3, .int (gI (k + 1))), (2, .int (gI (b))), (0, .ref (B)), (1, .int (gI (q)))]) dX10_prime_74 rfl (by decide) rfl ?_
                refine g_goto (tgt := 61) dX10_prime_77 rfl ?_
                exact ih_lk _ (by omega) (k + 1) hh627 rfl fr627 fh627_0 (by rw [← gF_s gt0 (fun _ => 0) hk.1]; exact fh627_1) (by omega)
            exact lk _ (0) hh520 rfl fr520 fh520_0 (by rw [gF_0]; exact fh520_1) (by omega)
          · skip
            refine g_iload_n 3 dX10_prime_30 rfl ?_
            refine g_iload_n 0 dX10_prime_31 rfl ?_
            refine g_irem dX10_prime_32 (by first | exact gW_q | (unfold gW; omega)) (by first | exact gW_q | (unfold gW; omega)) (by omega) ?_
            have htm := g_tmb (n := q) (p := d) (by omega)
            refine g_if_eq (tgt := 40) dX10_prime_33 rfl (by first | exact gW_q | (unfold gW; omega)) (fun c728 => ?_) (fun c728 => ?_)
            · skip
              refine g_iconst dX10_prime_40 ?_
              refine g_istore_n (ls2 := [(2, .int (gI (0))), (3, .int (gI (d))), (0, .ref (B)), (1, .int (gI (q)))]) dX10_prime_41 rfl (by decide) rfl ?_
              refine g_iinc 1 (ls2 := [(3, .int (gI (d + 1))), (2, .int (gI (0))), (0, .ref (B)), (1, .int (gI (q)))]) dX10_prime_42 rfl (by decide) rfl ?_
              refine g_goto (tgt := 19) dX10_prime_45 rfl ?_
              exact ih_lo _ (by omega) (0) (d + 1) hlo rfl fr_lo cf_lo_0 cf_lo_1 (by have := g_sq2 (show 0 ≤ d by omega) (show d * d ≤ q by omega) (by omega); omega) (Or.inr ⟨rfl, fun z => z.2.2 d (by omega) (by omega) (by omega)⟩)
            · skip
              refine g_iconst dX10_prime_36 ?_
              refine g_goto (tgt := 41) dX10_prime_37 rfl ?_
              refine g_istore_n (ls2 := [(2, .int (gI (1))), (3, .int (gI (d))), (0, .ref (B)), (1, .int (gI (q)))]) dX10_prime_41 rfl (by decide) rfl ?_
              refine g_iinc 1 (ls2 := [(3, .int (gI (d + 1))), (2, .int (gI (1))), (0, .ref (B)), (1, .int (gI (q)))]) dX10_prime_42 rfl (by decide) rfl ?_
              refine g_goto (tgt := 19) dX10_prime_45 rfl ?_
              exact ih_lo _ (by omega) (1) (d + 1) hlo rfl fr_lo cf_lo_0 cf_lo_1 (by have := g_sq2 (show 0 ≤ d by omega) (show d * d ≤ q by omega) (by omega); omega) (Or.inl ⟨rfl, by omega, by omega, fun e e0 e1 => by
                                                                      rcases Int.lt_or_le e d with z | z
                                                                      · exact hpr.2.2 e e0 z
                                                                      · rw [show e = d by omega]; omega⟩)
      exact lo _ (0) (2) h rfl (Fr.rf [B] h) hm w1 (by omega) (Or.inr ⟨rfl, fun z => by have z1 := z.1; have z2 := z.2.1; omega⟩)
    · skip
      refine g_iconst dX10_prime_11 ?_
      refine g_goto (tgt := 16) dX10_prime_12 rfl ?_
      refine g_istore_n (ls2 := [(2, .int (gI (1))), (0, .ref (B)), (1, .int (gI (q)))]) dX10_prime_16 rfl (by decide) rfl ?_
      refine g_iconst dX10_prime_17 ?_
      refine g_istore_n (ls2 := [(3, .int (gI (2))), (2, .int (gI (1))), (0, .ref (B)), (1, .int (gI (q)))]) dX10_prime_18 rfl (by decide) rfl ?_
      have lo : ∀ (kk : Nat) (b : Int) (d : Int) (hlo : GH), kk = (300 - d).toNat → Fr [B] h hlo → hlo.2 (B) = some (mO B ((p : Int)) (hf) (le) (fc) (pn) (rn) (hn) (qn)) → hlo.2 (B + 1) = some (aZ 100 (gt0)) → (2 ≤ d ∧ d ≤ 257) → ((b = 1 ∧ 2 ≤ q ∧ q ≤ 65521 ∧ ∀ e, 2 ≤ e → e < d → q.tmod e ≠ 0) ∨ (b = 0 ∧ ¬ gPrime q)) → Go N mX10_prime (fun v h1 => (gPrime q ∧ v = some (.int (gI 1)) ∧ Fr [B] h h1 ∧ h1.2 B = some (mO B q 0 le 0 0 0 hn 0) ∧ ∀ hq : prm q.toNat, MP hq B h1 (fun _ => none)) ∨ (¬ gPrime q ∧ v = some (.int (gI 0)) ∧ Fr [B] h h1 ∧ h1.2 B = some (mO B p hf le fc pn rn hn qn) ∧ MP hp B h1 T)) 0 0 hlo 19 [(3, .int (gI (d))), (2, .int (gI (b))), (0, .ref (B)), (1, .int (gI (q)))] [] := by
        refine Go.ind (fun kk ih_lo => ?_)
        intro b d hlo hkk_lo fr_lo cf_lo_0 cf_lo_1 hd hb
        have hbb : b = 0 ∨ b = 1 := by rcases hb with z | z <;> omega
        have hsq := g_sq (show 0 ≤ d by omega) hd.2
        refine g_iload_n 1 dX10_prime_19 rfl ?_
        refine g_if_eq (tgt := 48) dX10_prime_20 rfl (by first | exact gW_q | (unfold gW; omega)) (fun c929 => ?_) (fun c929 => ?_)
        · skip
          have hnp : ¬ gPrime q := by
                                                                      rcases hb with z | z
                                                                      · omega
                                                                      · exact z.2
          refine g_iload_n 1 dX10_prime_48 rfl ?_
          refine g_if_ne (tgt := 54) dX10_prime_49 rfl (by first | exact gW_q | (unfold gW; omega)) (fun c930 => absurd c930 (by omega)) (fun c930 => ?_)
          refine g_iconst dX10_prime_52 ?_
          exact g_zret dX10_prime_53 rfl (by omega) (Or.inr ⟨hnp, rfl, fr_lo, cf_lo_0, ⟨gt0, gn0, cf_lo_1, Fr.at0 fr_lo (Ni.c ⟨by unfold NE; omega, by unfold NE; omega⟩ (Ni.n _)) w2, w3⟩⟩)
        · skip
          have hpr : 2 ≤ q ∧ q ≤ 65521 ∧ ∀ e, 2 ≤ e → e < d → q.tmod e ≠ 0 := by
                                                                      rcases hb with z | z
                                                                      · exact z.2
                                                                      · omega
          refine g_iload_n 0 dX10_prime_23 rfl ?_
          refine g_iload_n 0 dX10_prime_24 rfl ?_
          refine g_imul dX10_prime_25 ?_
          refine g_iload_n 3 dX10_prime_26 rfl ?_
          refine g_icmp_gt (tgt := 48) dX10_prime_27 rfl (by first | exact gW_q | (unfold gW; omega)) (by first | exact gW_q | (unfold gW; omega)) (fun c931 => ?_) (fun c931 => ?_)
          · skip
            have hyp : gPrime q := ⟨hpr.1, hpr.2.1, fun e e0 e1 => hpr.2.2 e e0 (by
                                                                      rcases Int.lt_or_le e d with z | z
                                                                      · exact z
                                                                      · exfalso
                                                                        have := Int.mul_le_mul z z (show 0 ≤ d by omega) (show 0 ≤ e by omega)
                                                                        omega)⟩
            refine g_iload_n 1 dX10_prime_48 rfl ?_
            refine g_if_ne (tgt := 54) dX10_prime_49 rfl (by first | exact gW_q | (unfold gW; omega)) (fun c932 => ?_) (fun c932 => absurd c932 (by omega))
            refine g_aload_n 2 dX10_prime_54 rfl ?_
            refine g_iload_n 3 dX10_prime_55 rfl ?_
            refine g_putf 0 dX10_prime_56 kX10 (by decide) fX10_78 rfl cf_lo_0 (Nat.le_of_ble_eq_true rfl) rfl rfl ?_
            obtain ⟨hh933, eh933⟩ : ∃ z : GH, z = hset hlo (B) (mO B (q) (hf) (le) (fc) (pn) (rn) (hn) (qn)) := ⟨_, rfl⟩
            refine Go.hp eh933.symm ?_
            have fh933_0 : hh933.2 (B) = some (mO B (q) (hf) (le) (fc) (pn) (rn) (hn) (qn)) := hs_s eh933
            have fh933_1 : hh933.2 (B + 1) = some (aZ 100 (gt0)) := hs_n eh933 (ne0).s cf_lo_1
            have fr933 : Fr [B] h hh933 := Fr.w0 fr_lo (List.Mem.head _) eh933
            refine g_iconst dX10_prime_59 ?_
            refine g_istore_n (ls2 := [(3, .int (gI (0))), (2, .int (gI (b))), (0, .ref (B)), (1, .int (gI (q)))]) dX10_prime_60 rfl (by decide) rfl ?_
            have lk : ∀ (kk : Nat) (k : Int) (hlk : GH), kk = (100 - k).toNat → Fr [B] h hlk → hlk.2 (B) = some (mO B (q) (hf) (le) (fc) (pn) (rn) (hn) (qn)) → hlk.2 (B + 1) = some (aZ 100 (gF gt0 (fun _ => 0) k)) → (0 ≤ k ∧ k ≤ 100) → Go N mX10_prime (fun v h1 => (gPrime q ∧ v = some (.int (gI 1)) ∧ Fr [B] h h1 ∧ h1.2 B = some (mO B q 0 le 0 0 0 hn 0) ∧ ∀ hq : prm q.toNat, MP hq B h1 (fun _ => none)) ∨ (¬ gPrime q ∧ v = some (.int (gI 0)) ∧ Fr [B] h h1 ∧ h1.2 B = some (mO B p hf le fc pn rn hn qn) ∧ MP hp B h1 T)) 0 0 hlk 61 [(3, .int (gI (k))), (2, .int (gI (b))), (0, .ref (B)), (1, .int (gI (q)))] [] := by
              refine Go.ind (fun kk ih_lk => ?_)
              intro k hlk hkk_lk fr_lk cf_lk_0 cf_lk_1 hk
              refine g_iload_n 0 dX10_prime_61 rfl ?_
              refine g_bipush dX10_prime_62 (by decide) ?_
              refine g_icmp_ge (tgt := 80) dX10_prime_64 rfl (by first | exact gW_q | (unfold gW; omega)) (by first | exact gW_q | (unfold gW; omega)) (fun c1034 => ?_) (fun c1034 => ?_)
              · skip
                refine g_aload_n 2 dX10_prime_80 rfl ?_
                refine g_iconst dX10_prime_81 ?_
                refine g_putf 27 dX10_prime_82 kX10 (by decide) fX10_83 rfl cf_lk_0 (Nat.le_of_ble_eq_true rfl) rfl rfl ?_
                obtain ⟨hh1035, eh1035⟩ : ∃ z : GH, z = hset hlk (B) (mO B (q) (hf) (le) (fc) (pn) (rn) (hn) (0)) := ⟨_, rfl⟩
                refine Go.hp eh1035.symm ?_
                have fh1035_0 : hh1035.2 (B) = some (mO B (q) (hf) (le) (fc) (pn) (rn) (hn) (0)) := hs_s eh1035
                have fh1035_1 : hh1035.2 (B + 1) = some (aZ 100 (gF gt0 (fun _ => 0) k)) := hs_n eh1035 (ne0).s cf_lk_1
                have fr1035 : Fr [B] h hh1035 := Fr.w0 fr_lk (List.Mem.head _) eh1035
                refine g_aload_n 2 dX10_prime_85 rfl ?_
                refine g_iconst dX10_prime_86 ?_
                refine g_putf 9 dX10_prime_87 kX10 (by decide) fX10_86 rfl fh1035_0 (Nat.le_of_ble_eq_true rfl) rfl rfl ?_
                obtain ⟨hh1036, eh1036⟩ : ∃ z : GH, z = hset hh1035 (B) (mO B (q) (0) (le) (fc) (pn) (rn) (hn) (0)) := ⟨_, rfl⟩
                refine Go.hp eh1036.symm ?_
                have fh1036_0 : hh1036.2 (B) = some (mO B (q) (0) (le) (fc) (pn) (rn) (hn) (0)) := hs_s eh1036
                have fh1036_1 : hh1036.2 (B + 1) = some (aZ 100 (gF gt0 (fun _ => 0) k)) := hs_n eh1036 (ne0).s fh1035_1
                have fr1036 : Fr [B] h hh1036 := Fr.w0 fr1035 (List.Mem.head _) eh1036
                refine g_aload_n 2 dX10_prime_90 rfl ?_
                refine g_iconst dX10_prime_91 ?_
                refine g_putf 11 dX10_prime_92 kX10 (by decide) fX10_90 rfl fh1036_0 (Nat.le_of_ble_eq_true rfl) rfl rfl ?_
                obtain ⟨hh1037, eh1037⟩ : ∃ z : GH, z = hset hh1036 (B) (mO B (q) (0) (le) (0) (pn) (rn) (hn) (0)) := ⟨_, rfl⟩
                refine Go.hp eh1037.symm ?_
                have fh1037_0 : hh1037.2 (B) = some (mO B (q) (0) (le) (0) (pn) (rn) (hn) (0)) := hs_s eh1037
                have fh1037_1 : hh1037.2 (B + 1) = some (aZ 100 (gF gt0 (fun _ => 0) k)) := hs_n eh1037 (ne0).s fh1036_1
                have fr1037 : Fr [B] h hh1037 := Fr.w0 fr1036 (List.Mem.head _) eh1037
                refine g_aload_n 2 dX10_prime_95 rfl ?_
                refine g_iconst dX10_prime_96 ?_
                refine g_putf 15 dX10_prime_97 kX10 (by decide) fX10_93 rfl fh1037_0 (Nat.le_of_ble_eq_true rfl) rfl rfl ?_
                obtain ⟨hh1038, eh1038⟩ : ∃ z : GH, z = hset hh1037 (B) (mO B (q) (0) (le) (0) (0) (rn) (hn) (0)) := ⟨_, rfl⟩
                refine Go.hp eh1038.symm ?_
                have fh1038_0 : hh1038.2 (B) = some (mO B (q) (0) (le) (0) (0) (rn) (hn) (0)) := hs_s eh1038
                have fh1038_1 : hh1038.2 (B + 1) = some (aZ 100 (gF gt0 (fun _ => 0) k)) := hs_n eh1038 (ne0).s fh1037_1
                have fr1038 : Fr [B] h hh1038 := Fr.w0 fr1037 (List.Mem.head _) eh1038
                refine g_aload_n 2 dX10_prime_100 rfl ?_
                refine g_iconst dX10_prime_101 ?_
                refine g_putf 19 dX10_prime_102 kX10 (by decide) fX10_96 rfl fh1038_0 (Nat.le_of_ble_eq_true rfl) rfl rfl ?_
                obtain ⟨hh1039, eh1039⟩ : ∃ z : GH, z = hset hh1038 (B) (mO B (q) (0) (le) (0) (0) (0) (hn) (0)) := ⟨_, rfl⟩
                refine Go.hp eh1039.symm ?_
                have fh1039_0 : hh1039.2 (B) = some (mO B (q) (0) (le) (0) (0) (0) (hn) (0)) := hs_s eh1039
                have fh1039_1 : hh1039.2 (B + 1) = some (aZ 100 (gF gt0 (fun _ => 0) k)) := hs_n eh1039 (ne0).s fh1038_1
                have fr1039 : Fr [B] h hh1039 := Fr.w0 fr1038 (List.Mem.head _) eh1039
                refine g_iconst dX10_prime_105 ?_
                exact g_zret dX10_prime_106 rfl (by omega) (Or.inl ⟨hyp, rfl, fr1039, fh1039_0, fun hq => ⟨_, gn0, fh1039_1, Fr.at0 fr1039 (Ni.c ⟨by unfold NE; omega, by unfold NE; omega⟩ (Ni.n _)) w2, fun m m0 m1 => Or.inl ⟨rfl, by unfold gF; rw [if_pos (by omega)]⟩⟩⟩)
              · skip
                refine g_aload_n 2 dX10_prime_67 rfl ?_
                refine g_getf 1 dX10_prime_68 kX10 (by decide) fX10_7 cf_lk_0 rfl ?_
                refine g_iload_n 0 dX10_prime_71 rfl ?_
                refine g_iconst dX10_prime_72 ?_
                refine g_bastore dX10_prime_73 cf_lk_1 (by omega) (by omega) (by omega) (by omega) ?_
                obtain ⟨hh1040, eh1040⟩ : ∃ z : GH, z = hset hlk (B + 1) (aZ 100 (gup (gF gt0 (fun _ => 0) k) (k) (0))) := ⟨_, rfl⟩
                refine Go.hp eh1040.symm ?_
                have fh1040_0 : hh1040.2 (B) = some (mO B (q) (hf) (le) (fc) (pn) (rn) (hn) (qn)) := hs_n eh1040 ne0 cf_lk_0
                have fh1040_1 : hh1040.2 (B + 1) = some (aZ 100 (gup (gF gt0 (fun _ => 0) k) (k) (0))) := hs_s eh1040
                have fr1040 : Fr [B] h hh1040 := Fr.w1 fr_lk (List.Mem.head _) eh1040
                refine g_iinc 0 (ls2 := [(3, .int (gI (k + 1))), (2, .int (gI (b))), (0, .ref (B)), (1, .int (gI (q)))]) dX10_prime_74 rfl (by decide) rfl ?_
                refine g_goto (tgt := 61) dX10_prime_77 rfl ?_
                exact ih_lk _ (by omega) (k + 1) hh1040 rfl fr1040 fh1040_0 (by rw [← gF_s gt0 (fun _ => 0) hk.1]; exact fh1040_1) (by omega)
            exact lk _ (0) hh933 rfl fr933 fh933_0 (by rw [gF_0]; exact fh933_1) (by omega)
          · skip
            refine g_iload_n 3 dX10_prime_30 rfl ?_
            refine g_iload_n 0 dX10_prime_31 rfl ?_
            refine g_irem dX10_prime_32 (by first | exact gW_q | (unfold gW; omega)) (by first | exact gW_q | (unfold gW; omega)) (by omega) ?_
            have htm := g_tmb (n := q) (p := d) (by omega)
            refine g_if_eq (tgt := 40) dX10_prime_33 rfl (by first | exact gW_q | (unfold gW; omega)) (fun c1141 => ?_) (fun c1141 => ?_)
            · skip
              refine g_iconst dX10_prime_40 ?_
              refine g_istore_n (ls2 := [(2, .int (gI (0))), (3, .int (gI (d))), (0, .ref (B)), (1, .int (gI (q)))]) dX10_prime_41 rfl (by decide) rfl ?_
              refine g_iinc 1 (ls2 := [(3, .int (gI (d + 1))), (2, .int (gI (0))), (0, .ref (B)), (1, .int (gI (q)))]) dX10_prime_42 rfl (by decide) rfl ?_
              refine g_goto (tgt := 19) dX10_prime_45 rfl ?_
              exact ih_lo _ (by omega) (0) (d + 1) hlo rfl fr_lo cf_lo_0 cf_lo_1 (by have := g_sq2 (show 0 ≤ d by omega) (show d * d ≤ q by omega) (by omega); omega) (Or.inr ⟨rfl, fun z => z.2.2 d (by omega) (by omega) (by omega)⟩)
            · skip
              refine g_iconst dX10_prime_36 ?_
              refine g_goto (tgt := 41) dX10_prime_37 rfl ?_
              refine g_istore_n (ls2 := [(2, .int (gI (1))), (3, .int (gI (d))), (0, .ref (B)), (1, .int (gI (q)))]) dX10_prime_41 rfl (by decide) rfl ?_
              refine g_iinc 1 (ls2 := [(3, .int (gI (d + 1))), (2, .int (gI (1))), (0, .ref (B)), (1, .int (gI (q)))]) dX10_prime_42 rfl (by decide) rfl ?_
              refine g_goto (tgt := 19) dX10_prime_45 rfl ?_
              exact ih_lo _ (by omega) (1) (d + 1) hlo rfl fr_lo cf_lo_0 cf_lo_1 (by have := g_sq2 (show 0 ≤ d by omega) (show d * d ≤ q by omega) (by omega); omega) (Or.inl ⟨rfl, by omega, by omega, fun e e0 e1 => by
                                                                      rcases Int.lt_or_le e d with z | z
                                                                      · exact hpr.2.2 e e0 z
                                                                      · rw [show e = d by omega]; omega⟩)
      exact lo _ (1) (2) h rfl (Fr.rf [B] h) hm w1 (by omega) (Or.inl ⟨rfl, by omega, by omega, fun e e0 e1 => by omega⟩)
set_option maxHeartbeats 4000000 in
set_option maxRecDepth 100000 in
theorem sM_point (N : GN) (h : GH) (B p : Nat) (hp : prm p) (hp2 : p ≤ 65536) (hf le fc pn rn hn qn : Int) (x y : Int) (gX_x : gX x) (gX_y : gX y) (gx gv gt0 : Int → Int) (hm : h.2 B = some (mO B p hf le fc pn rn hn qn)) (hB1 : h.2 (B + 1) = some (aZ 100 gt0)) (hx21 : h.2 (B + 21) = some (aI 41 gx)) (hx22 : h.2 (B + 22) = some (aI 41 gv)) (hq : 0 ≤ qn ∧ qn ≤ 41) (hX : ∀ k, 0 ≤ k → k < qn → 0 ≤ gx k ∧ gx k < p) : Sp N yX10_point mX10_point 0 0 [.ref (B), .long (gJ (x)), .long (gJ (y))] h (fun v h1 => Fr [B, B + 21] h h1 ∧ h1.2 (B + 1) = h.2 (B + 1) ∧ (((qn = 41 ∨ ∃ k, 0 ≤ k ∧ k < qn ∧ gx k = x % p) ∧ v = some (.int (gI (-1))) ∧ h1.2 B = some (mO B p hf le fc pn rn hn qn) ∧ h1.2 (B + 21) = some (aI 41 gx) ∧ h1.2 (B + 22) = some (aI 41 gv)) ∨ (qn < 41 ∧ (∀ k, 0 ≤ k → k < qn → gx k ≠ x % p) ∧ v = some (.int (gI (qn + 1))) ∧ h1.2 B = some (mO B p hf le fc pn rn hn (qn + 1)) ∧ h1.2 (B + 21) = some (aI 41 (gup gx qn (x % p))) ∧ h1.2 (B + 22) = some (aI 41 (gup gv qn (y % p)))))) := by
  refine Sp.of (by decide) rfl rfl (Nat.le_of_ble_eq_true rfl) ?_
  show Go N mX10_point _ 0 0 h 0 [(0, .ref (B)), (1, .long (gJ (x))), (3, .long (gJ (y)))] []
  have hp1 := hp.1
  have neA : NE B (B + 5) := by unfold NE; omega
  have neB : NE B (B + 6) := by unfold NE; omega
  have neC : NE (B + 5) (B + 6) := by unfold NE; omega
  have ne0 : NE (B) (B + 1) := by unfold NE; omega
  have ne1 : NE (B) (B + 2) := by unfold NE; omega
  have ne2 : NE (B) (B + 3) := by unfold NE; omega
  have ne3 : NE (B) (B + 4) := by unfold NE; omega
  have ne4 : NE (B) (B + 5) := by unfold NE; omega
  have ne5 : NE (B) (B + 6) := by unfold NE; omega
  have ne6 : NE (B) (B + 7) := by unfold NE; omega
  have ne7 : NE (B) (B + 8) := by unfold NE; omega
  have ne8 : NE (B + 1) (B + 2) := by unfold NE; omega
  have ne9 : NE (B + 1) (B + 3) := by unfold NE; omega
  have ne10 : NE (B + 1) (B + 4) := by unfold NE; omega
  have ne11 : NE (B + 1) (B + 5) := by unfold NE; omega
  have ne12 : NE (B + 1) (B + 6) := by unfold NE; omega
  have ne13 : NE (B + 1) (B + 7) := by unfold NE; omega
  have ne14 : NE (B + 1) (B + 8) := by unfold NE; omega
  have ne15 : NE (B + 2) (B + 3) := by unfold NE; omega
  have ne16 : NE (B + 2) (B + 4) := by unfold NE; omega
  have ne17 : NE (B + 2) (B + 5) := by unfold NE; omega
  have ne18 : NE (B + 2) (B + 6) := by unfold NE; omega
  have ne19 : NE (B + 2) (B + 7) := by unfold NE; omega
  have ne20 : NE (B + 2) (B + 8) := by unfold NE; omega
  have ne21 : NE (B + 3) (B + 4) := by unfold NE; omega
  have ne22 : NE (B + 3) (B + 5) := by unfold NE; omega
  have ne23 : NE (B + 3) (B + 6) := by unfold NE; omega
  have ne24 : NE (B + 3) (B + 7) := by unfold NE; omega
  have ne25 : NE (B + 3) (B + 8) := by unfold NE; omega
  have ne26 : NE (B + 4) (B + 5) := by unfold NE; omega
  have ne27 : NE (B + 4) (B + 6) := by unfold NE; omega
  have ne28 : NE (B + 4) (B + 7) := by unfold NE; omega
  have ne29 : NE (B + 4) (B + 8) := by unfold NE; omega
  have ne30 : NE (B + 5) (B + 6) := by unfold NE; omega
  have ne31 : NE (B + 5) (B + 7) := by unfold NE; omega
  have ne32 : NE (B + 5) (B + 8) := by unfold NE; omega
  have ne33 : NE (B + 6) (B + 7) := by unfold NE; omega
  have ne34 : NE (B + 6) (B + 8) := by unfold NE; omega
  have ne35 : NE (B + 7) (B + 8) := by unfold NE; omega
  have nf0 : NE (B) (B + 1) := by unfold NE; omega
  have nf1 : NE (B) (B + 21) := by unfold NE; omega
  have nf2 : NE (B) (B + 22) := by unfold NE; omega
  have nf3 : NE (B + 1) (B + 21) := by unfold NE; omega
  have nf4 : NE (B + 1) (B + 22) := by unfold NE; omega
  have nf5 : NE (B + 21) (B + 22) := by unfold NE; omega
  refine g_aload_n 0 dX10_point_0 rfl ?_
  refine g_lload_n 1 dX10_point_1 rfl ?_
  refine g_callV (nc2 := 0) (ns2 := 0) (ci := 10) (As := [.long (gJ (x))]) (st := []) rfl dX10_point_2 okX10_modulo lX10_110 itX10_modulo seX10_modulo rfl hm (by decide) (by decide) rfl (Nat.le_of_ble_eq_true rfl) (sX10_modulo N _ B _ _ _ _ _ _ _ _ _ _ _ _ _ _ _ _ _ _ _ _ _ _ _ _ _ _ _ _ _ (p : Int) (x) (by first | assumption | (unfold gX; omega)) (by omega) (by omega) hm) (by omega) (by omega) (fun v1 hc1 q1 => ?_)
  obtain ⟨hq2, rfl⟩ := q1
  rw [gMod_em (show (0 : Int) < p by omega)]
  have hmb2 := em_in hp (x)
  refine Go.nf (h' := h) (st' := [.int (gI ((x) % (p : Int)))]) hq2 rfl (Nat.le_refl _) (Nat.le_refl _) ?_
  refine g_istore (ls2 := [(5, .int (gI ((x) % (p : Int)))), (0, .ref (B)), (1, .long (gJ (x))), (3, .long (gJ (y)))]) dX10_point_5 (by decide) rfl ?_
  refine g_aload_n 1 dX10_point_7 rfl ?_
  refine g_getf 27 dX10_point_8 kX10 (by decide) fX10_83 hm rfl ?_
  refine g_bipush dX10_point_11 (by decide) ?_
  refine g_icmp_ne (tgt := 18) dX10_point_13 rfl (by unfold gW; omega) (by unfold gW; omega) (fun c3 => ?_) (fun c3 => ?_)
  · skip
    refine g_iconst dX10_point_18 ?_
    refine g_istore (ls2 := [(6, .int (gI (0))), (5, .int (gI ((x) % (p : Int)))), (0, .ref (B)), (1, .long (gJ (x))), (3, .long (gJ (y)))]) dX10_point_19 (by decide) rfl ?_
    have lo : ∀ (kk : Nat) (k : Int) (hlo : GH), kk = (41 - k).toNat → Fr [B, B + 21] h hlo → hlo.2 (B) = some (mO B ((p : Int)) (hf) (le) (fc) (pn) (rn) (hn) (qn)) → hlo.2 (B + 21) = some (aI 41 (gx)) → hlo.2 (B + 22) = some (aI 41 (gv)) → hlo.2 (B + 1) = some (aZ 100 (gt0)) → (0 ≤ k ∧ k ≤ qn) → (∀ m, 0 ≤ m → m < k → gx m ≠ x % (p : Int)) → Go N mX10_point (fun v h1 => Fr [B, B + 21] h h1 ∧ h1.2 (B + 1) = h.2 (B + 1) ∧ (((qn = 41 ∨ ∃ k, 0 ≤ k ∧ k < qn ∧ gx k = x % p) ∧ v = some (.int (gI (-1))) ∧ h1.2 B = some (mO B p hf le fc pn rn hn qn) ∧ h1.2 (B + 21) = some (aI 41 gx) ∧ h1.2 (B + 22) = some (aI 41 gv)) ∨ (qn < 41 ∧ (∀ k, 0 ≤ k → k < qn → gx k ≠ x % p) ∧ v = some (.int (gI (qn + 1))) ∧ h1.2 B = some (mO B p hf le fc pn rn hn (qn + 1)) ∧ h1.2 (B + 21) = some (aI 41 (gup gx qn (x % p))) ∧ h1.2 (B + 22) = some (aI 41 (gup gv qn (y % p)))))) 0 0 hlo 21 [(6, .int (gI (k))), (5, .int (gI ((x) % (p : Int)))), (0, .ref (B)), (1, .long (gJ (x))), (3, .long (gJ (y)))] [] := by
      refine Go.ind (fun kk ih_lo => ?_)
      intro k hlo hkk_lo fr_lo cf_lo_0 cf_lo_1 cf_lo_2 cf_lo_3 hk hE
      refine g_iload 0 dX10_point_21 rfl ?_
      refine g_aload_n 2 dX10_point_23 rfl ?_
      refine g_getf 27 dX10_point_24 kX10 (by decide) fX10_83 cf_lo_0 rfl ?_
      refine g_icmp_ge (tgt := 50) dX10_point_27 rfl (by unfold gW; omega) (by unfold gW; omega) (fun c104 => ?_) (fun c104 => ?_)
      · skip
        refine g_aload_n 2 dX10_point_50 rfl ?_
        refine g_getf 28 dX10_point_51 kX10 (by decide) fX10_72 cf_lo_0 rfl ?_
        refine g_aload_n 2 dX10_point_54 rfl ?_
        refine g_getf 27 dX10_point_55 kX10 (by decide) fX10_83 cf_lo_0 rfl ?_
        refine g_iload 1 dX10_point_58 rfl ?_
        refine g_iastore dX10_point_60 cf_lo_1 (by omega) (by omega) (by omega) ?_
        obtain ⟨hh105, eh105⟩ : ∃ z : GH, z = hset hlo (B + 21) (aI 41 (gup (gx) (qn) ((x) % (p : Int)))) := ⟨_, rfl⟩
        refine Go.hp eh105.symm ?_
        have fh105_0 : hh105.2 (B) = some (mO B ((p : Int)) (hf) (le) (fc) (pn) (rn) (hn) (qn)) := hs_n eh105 nf1 cf_lo_0
        have fh105_1 : hh105.2 (B + 21) = some (aI 41 (gup (gx) (qn) ((x) % (p : Int)))) := hs_s eh105
        have fh105_2 : hh105.2 (B + 22) = some (aI 41 (gv)) := hs_n eh105 (nf5).s cf_lo_2
        have fh105_3 : hh105.2 (B + 1) = some (aZ 100 (gt0)) := hs_n eh105 nf3 cf_lo_3
        have fr105 : Fr [B, B + 21] h hh105 := Fr.w0 fr_lo (List.Mem.tail _ (List.Mem.head _)) eh105
        refine g_aload_n 2 dX10_point_61 rfl ?_
        refine g_getf 29 dX10_point_62 kX10 (by decide) fX10_75 fh105_0 rfl ?_
        refine g_aload_n 2 dX10_point_65 rfl ?_
        refine g_getf 27 dX10_point_66 kX10 (by decide) fX10_83 fh105_0 rfl ?_
        refine g_aload_n 2 dX10_point_69 rfl ?_
        refine g_lload_n 4 dX10_point_70 rfl ?_
        refine g_callV (nc2 := 0) (ns2 := 0) (ci := 10) (As := [.long (gJ (y))]) (st := [.int (gI (qn)), .ref (B + 22)]) rfl dX10_point_71 okX10_modulo lX10_110 itX10_modulo seX10_modulo rfl fh105_0 (by decide) (by decide) rfl (Nat.le_of_ble_eq_true rfl) (sX10_modulo N _ B _ _ _ _ _ _ _ _ _ _ _ _ _ _ _ _ _ _ _ _ _ _ _ _ _ _ _ _ _ (p : Int) (y) (by first | assumption | (unfold gX; omega)) (by omega) (by omega) fh105_0) (by omega) (by omega) (fun v106 hc106 q106 => ?_)
        obtain ⟨hq107, rfl⟩ := q106
        rw [gMod_em (show (0 : Int) < p by omega)]
        have hmb107 := em_in hp (y)
        refine Go.nf (h' := hh105) (st' := [.int (gI ((y) % (p : Int))), .int (gI (qn)), .ref (B + 22)]) hq107 rfl (Nat.le_refl _) (Nat.le_refl _) ?_
        refine g_iastore dX10_point_74 fh105_2 (by omega) (by omega) (by omega) ?_
        obtain ⟨hh108, eh108⟩ : ∃ z : GH, z = hset hh105 (B + 22) (aI 41 (gup (gv) (qn) ((y) % (p : Int)))) := ⟨_, rfl⟩
        refine Go.hp eh108.symm ?_
        have fh108_0 : hh108.2 (B) = some (mO B ((p : Int)) (hf) (le) (fc) (pn) (rn) (hn) (qn)) := hs_n eh108 nf2 fh105_0
        have fh108_1 : hh108.2 (B + 21) = some (aI 41 (gup (gx) (qn) ((x) % (p : Int)))) := hs_n eh108 nf5 fh105_1
        have fh108_2 : hh108.2 (B + 22) = some (aI 41 (gup (gv) (qn) ((y) % (p : Int)))) := hs_s eh108
        have fh108_3 : hh108.2 (B + 1) = some (aZ 100 (gt0)) := hs_n eh108 nf4 fh105_3
        have fr108 : Fr [B, B + 21] h hh108 := Fr.w1 fr105 (List.Mem.tail _ (List.Mem.head _)) eh108
        refine g_aload_n 2 dX10_point_75 rfl ?_
        refine g_dup dX10_point_76 rfl ?_
        refine g_getf 27 dX10_point_77 kX10 (by decide) fX10_83 fh108_0 rfl ?_
        refine g_iconst dX10_point_80 ?_
        refine g_iadd dX10_point_81 ?_
        refine g_putf 27 dX10_point_82 kX10 (by decide) fX10_83 rfl fh108_0 (Nat.le_of_ble_eq_true rfl) rfl rfl ?_
        obtain ⟨hh109, eh109⟩ : ∃ z : GH, z = hset hh108 (B) (mO B ((p : Int)) (hf) (le) (fc) (pn) (rn) (hn) ((qn) + (1))) := ⟨_, rfl⟩
        refine Go.hp eh109.symm ?_
        have fh109_0 : hh109.2 (B) = some (mO B ((p : Int)) (hf) (le) (fc) (pn) (rn) (hn) ((qn) + (1))) := hs_s eh109
        have fh109_1 : hh109.2 (B + 21) = some (aI 41 (gup (gx) (qn) ((x) % (p : Int)))) := hs_n eh109 (nf1).s fh108_1
        have fh109_2 : hh109.2 (B + 22) = some (aI 41 (gup (gv) (qn) ((y) % (p : Int)))) := hs_n eh109 (nf2).s fh108_2
        have fh109_3 : hh109.2 (B + 1) = some (aZ 100 (gt0)) := hs_n eh109 (nf0).s fh108_3
        have fr109 : Fr [B, B + 21] h hh109 := Fr.w0 fr108 (List.Mem.head _) eh109
        refine g_aload_n 2 dX10_point_85 rfl ?_
        refine g_getf 27 dX10_point_86 kX10 (by decide) fX10_83 fh109_0 rfl ?_
        exact g_iret dX10_point_89 rfl ⟨fr109, (fh109_3).trans hB1.symm, Or.inr ⟨by omega, fun m m0 m1 => hE m m0 (by omega), rfl, fh109_0, fh109_1, fh109_2⟩⟩
      · skip
        refine g_aload_n 2 dX10_point_30 rfl ?_
        refine g_getf 28 dX10_point_31 kX10 (by decide) fX10_72 cf_lo_0 rfl ?_
        refine g_iload 0 dX10_point_34 rfl ?_
        refine g_iaload dX10_point_36 cf_lo_1 (by omega) (by omega) (by omega) ?_
        have hxb := hX k hk.1 (by omega)
        refine g_iload 1 dX10_point_37 rfl ?_
        refine g_icmp_ne (tgt := 44) dX10_point_39 rfl (by unfold gW; omega) (by unfold gW; omega) (fun c110 => ?_) (fun c110 => ?_)
        · skip
          refine g_iinc 0 (ls2 := [(6, .int (gI (k + 1))), (5, .int (gI ((x) % (p : Int)))), (0, .ref (B)), (1, .long (gJ (x))), (3, .long (gJ (y)))]) dX10_point_44 rfl (by decide) rfl ?_
          refine g_goto (tgt := 21) dX10_point_47 rfl ?_
          exact ih_lo _ (by omega) (k + 1) hlo rfl fr_lo cf_lo_0 cf_lo_1 cf_lo_2 cf_lo_3 (by omega) (fun m m0 m1 => by
                                                                      rcases Int.lt_or_le m k with z | z
                                                                      · exact hE m m0 z
                                                                      · rw [show m = k by omega]; omega)
        · skip
          refine g_iconst dX10_point_42 ?_
          exact g_iret dX10_point_43 rfl ⟨fr_lo, (cf_lo_3).trans hB1.symm, Or.inl ⟨Or.inr ⟨k, hk.1, by omega, by omega⟩, rfl, cf_lo_0, cf_lo_1, cf_lo_2⟩⟩
    exact lo _ (0) h rfl (Fr.rf [B, B + 21] h) hm hx21 hx22 hB1 (by omega) (fun m m0 m1 => by omega)
  · skip
    refine g_iconst dX10_point_16 ?_
    exact g_iret dX10_point_17 rfl ⟨(Fr.rf [B, B + 21] h), (hB1).trans hB1.symm, Or.inl ⟨Or.inl (by omega), rfl, hm, hx21, hx22⟩⟩
