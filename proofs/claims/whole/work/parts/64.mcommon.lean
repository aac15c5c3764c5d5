set_option maxHeartbeats 4000000 in
set_option maxRecDepth 100000 in
theorem sM_common (N : GN) (h : GH) (B p : Nat) (hp : prm p) (hp2 : p ≤ 65536) (hf le fc pn rn hn qn : Int) (a b t : Int) (ha : 0 ≤ a ∧ a < 30) (hb : 0 ≤ b ∧ b < 30) (ht : 0 ≤ t ∧ t < 30) (fa fb : Px p) (hm : h.2 B = some (mO B p hf le fc pn rn hn qn)) (ma : MA B h) (hGa : MG hp B h a fa) (hGb : MG hp B h b fb) : Sp N yX10_common mX10_common 0 0 [.ref (B), .int (gI (a)), .int (gI (b)), .int (gI (t))] h (fun v h1 => v = none ∧ MF B [] [30, 31, 32, 33, t] h h1 ∧ MG hp B h1 (t) (gP hp fa fb)) := by
  refine Sp.of (by decide) rfl rfl (Nat.le_of_ble_eq_true rfl) ?_
  show Go N mX10_common _ 0 0 h 0 [(0, .ref (B)), (1, .int (gI (a))), (2, .int (gI (b))), (3, .int (gI (t)))] []
  have hp1 := hp.1
  have neA : NE B (B + 5) := by unfold NE; omega
  have neB : NE B (B + 6) := by unfold NE; omega
  have neC : NE (B + 5) (B + 6) := by unfold NE; omega
  refine g_aload_n 0 dX10_common_0 rfl ?_
  refine g_iload_n 1 dX10_common_1 rfl ?_
  refine g_bipush dX10_common_2 (by decide) ?_
  refine g_callV (nc2 := 0) (ns2 := 0) (ci := 10) (As := [.int (gI (a)), .int (gI (30))]) (st := []) rfl dX10_common_4 okX10_copy lX10_167 itX10_copy seX10_copy rfl hm (by decide) (by decide) rfl (Nat.le_of_ble_eq_true rfl) (sM_copy N _ B p hp hp2 hf le fc pn rn hn qn (a) (30) (by omega) (by omega) (fa) hm ((MF.rf [] [30, 31, 32, 33, t] ma)).2.1 hGa) (by omega) (by omega) (fun v1 hc1 q1 => ?_)
  obtain ⟨rfl, mfc2, rn2_0⟩ := q1
  have fk3_0 : hc1.2 (B) = some (mO B ((p : Int)) (hf) (le) (fc) (pn) (rn) (hn) (qn)) := Fr.at0 (mfc2).1 (Ni.c ⟨neA, neB⟩ (Ni.n _)) hm
  have rk3_0 : MG hp B hc1 (a) (fa) := (hGa).fr hp2 mfc2 (Nr.c (by omega) Nr.n)
  have rk3_1 : MG hp B hc1 (b) (fb) := (hGb).fr hp2 mfc2 (Nr.c (by omega) Nr.n)
  have fr3 : MF B [] [30, 31, 32, 33, t] h hc1 := ((MF.rf [] [30, 31, 32, 33, t] ma)).tr ((mfc2).mo sub_n (sbI_c (List.Mem.head _) sbI_n))
  refine Go.nf (h' := hc1) (st' := []) rfl rfl (Nat.le_refl _) (Nat.le_refl _) ?_
  refine g_aload_n 0 dX10_common_7 rfl ?_
  refine g_iload_n 2 dX10_common_8 rfl ?_
  refine g_bipush dX10_common_9 (by decide) ?_
  refine g_callV (nc2 := 0) (ns2 := 0) (ci := 10) (As := [.int (gI (b)), .int (gI (31))]) (st := []) rfl dX10_common_11 okX10_copy lX10_167 itX10_copy seX10_copy rfl fk3_0 (by decide) (by decide) rfl (Nat.le_of_ble_eq_true rfl) (sM_copy N _ B p hp hp2 hf le fc pn rn hn qn (b) (31) (by omega) (by omega) (fb) fk3_0 (fr3).2.1 rk3_1) (by omega) (by omega) (fun v4 hc4 q4 => ?_)
  obtain ⟨rfl, mfc5, rn5_0⟩ := q4
  have fk6_0 : hc4.2 (B) = some (mO B ((p : Int)) (hf) (le) (fc) (pn) (rn) (hn) (qn)) := Fr.at0 (mfc5).1 (Ni.c ⟨neA, neB⟩ (Ni.n _)) fk3_0
  have rk6_0 : MG hp B hc4 (a) (fa) := (rk3_0).fr hp2 mfc5 (Nr.c (by omega) Nr.n)
  have rk6_1 : MG hp B hc4 (b) (fb) := (rk3_1).fr hp2 mfc5 (Nr.c (by omega) Nr.n)
  have rk6_2 : MG hp B hc4 (30) (fa) := (rn2_0).fr hp2 mfc5 (Nr.c (by omega) Nr.n)
  have fr6 : MF B [] [30, 31, 32, 33, t] h hc4 := (fr3).tr ((mfc5).mo sub_n (sbI_c (List.Mem.tail _ (List.Mem.head _)) sbI_n))
  refine Go.nf (h' := hc4) (st' := []) rfl rfl (Nat.le_refl _) (Nat.le_refl _) ?_
  have lo : ∀ (kk : Nat) (fu : Px p) (fw : Px p) (hlo : GH), kk = (dgi hp fw + 1).toNat → MF B [] [30, 31, 32, 33, t] h hlo → MG hp B hlo (30) (fu) → MG hp B hlo (31) (fw) → (gP hp fu fw = gP hp fa fb) → Go N mX10_common (fun v h1 => v = none ∧ MF B [] [30, 31, 32, 33, t] h h1 ∧ MG hp B h1 (t) (gP hp fa fb)) 0 0 hlo 14 [(0, .ref (B)), (1, .int (gI (a))), (2, .int (gI (b))), (3, .int (gI (t)))] [] := by
    refine Go.ind (fun kk ih_lo => ?_)
    intro fu fw hlo hkk_lo fr_lo cr_lo_0 cr_lo_1 hG
    have cg_lo_0 : hlo.2 (B) = some (mO B ((p : Int)) (hf) (le) (fc) (pn) (rn) (hn) (qn)) := Fr.at0 (fr_lo).1 (Ni.c ⟨neA, neB⟩ (Ni.n _)) hm
    have hlu := (cr_lo_0).lt
    have hlw := (cr_lo_1).lt
    have hpu := (cr_lo_0).po
    have hpw := (cr_lo_1).po
    refine g_aload_n 0 dX10_common_14 rfl ?_
    refine g_getf 6 dX10_common_15 kX10 (by decide) fX10_26 cg_lo_0 rfl ?_
    refine g_bipush dX10_common_18 (by decide) ?_
    obtain ⟨dz107, ez107, fz107⟩ := MG.get cr_lo_1
    refine g_iaload dX10_common_20 ez107 (by omega) (by omega) (by omega) ?_
    rw [fz107]
    refine g_if_lt (tgt := 55) dX10_common_21 rfl (by unfold gW; omega) (fun c108 => ?_) (fun c108 => ?_)
    · skip
      refine g_aload_n 0 dX10_common_55 rfl ?_
      refine g_bipush dX10_common_56 (by decide) ?_
      refine g_iload_n 3 dX10_common_58 rfl ?_
      refine g_callV (nc2 := 0) (ns2 := 0) (ci := 10) (As := [.int (gI (30)), .int (gI (t))]) (st := []) rfl dX10_common_59 okX10_copy lX10_167 itX10_copy seX10_copy rfl cg_lo_0 (by decide) (by decide) rfl (Nat.le_of_ble_eq_true rfl) (sM_copy N _ B p hp hp2 hf le fc pn rn hn qn (30) (t) (by omega) (by omega) (fu) cg_lo_0 (fr_lo).2.1 cr_lo_0) (by omega) (by omega) (fun v109 hc109 q109 => ?_)
      obtain ⟨rfl, mfc110, rn110_0⟩ := q109
      have fk111_0 : hc109.2 (B) = some (mO B ((p : Int)) (hf) (le) (fc) (pn) (rn) (hn) (qn)) := Fr.at0 (mfc110).1 (Ni.c ⟨neA, neB⟩ (Ni.n _)) cg_lo_0
      have rk111_0 : MG hp B hc109 (30) (fu) := (cr_lo_0).fr hp2 mfc110 (Nr.c (by omega) Nr.n)
      have rk111_1 : MG hp B hc109 (31) (fw) := (cr_lo_1).fr hp2 mfc110 (Nr.c (by omega) Nr.n)
      have fr111 : MF B [] [30, 31, 32, 33, t] h hc109 := (fr_lo).tr ((mfc110).mo sub_n (sbI_c (List.Mem.tail _ (List.Mem.tail _ (List.Mem.tail _ (List.Mem.tail _ (List.Mem.head _))))) sbI_n))
      refine Go.nf (h' := hc109) (st' := []) rfl rfl (Nat.le_refl _) (Nat.le_refl _) ?_
      refine g_aload_n 0 dX10_common_62 rfl ?_
      refine g_iload_n 3 dX10_common_63 rfl ?_
      refine g_callV (nc2 := 0) (ns2 := 0) (ci := 10) (As := [.int (gI (t))]) (st := []) rfl dX10_common_64 okX10_monic lX10_179 itX10_monic seX10_monic rfl fk111_0 (by decide) (by decide) rfl (Nat.le_of_ble_eq_true rfl) (sM_monic N _ B p hp hp2 hf le fc pn rn hn qn (t) (fu) fk111_0 (fr111).2.1 rn110_0) (by omega) (by omega) (fun v112 hc112 q112 => ?_)
      obtain ⟨rfl, mfc113, rn113_0⟩ := q112
      have fk114_0 : hc112.2 (B) = some (mO B ((p : Int)) (hf) (le) (fc) (pn) (rn) (hn) (qn)) := Fr.at0 (mfc113).1 (Ni.c ⟨neA, neB⟩ (Ni.n _)) fk111_0
      have rk114_0 : MG hp B hc112 (30) (fu) := (rk111_0).fr hp2 mfc113 (Nr.c (by omega) Nr.n)
      have rk114_1 : MG hp B hc112 (31) (fw) := (rk111_1).fr hp2 mfc113 (Nr.c (by omega) Nr.n)
      have fr114 : MF B [] [30, 31, 32, 33, t] h hc112 := (fr111).tr ((mfc113).mo sub_n (sbI_c (List.Mem.tail _ (List.Mem.tail _ (List.Mem.tail _ (List.Mem.tail _ (List.Mem.head _))))) sbI_n))
      refine Go.nf (h' := hc112) (st' := []) rfl rfl (Nat.le_refl _) (Nat.le_refl _) ?_
      exact g_vret dX10_common_67 rfl ⟨rfl, fr114, by rw [← hG, gP_0 hp hpu hpw (by omega)]; exact rn113_0⟩
    · skip
      refine g_aload_n 0 dX10_common_24 rfl ?_
      refine g_bipush dX10_common_25 (by decide) ?_
      refine g_bipush dX10_common_27 (by decide) ?_
      refine g_bipush dX10_common_29 (by decide) ?_
      refine g_bipush dX10_common_31 (by decide) ?_
      refine g_callV (nc2 := 0) (ns2 := 0) (ci := 10) (As := [.int (gI (30)), .int (gI (31)), .int (gI (32)), .int (gI (33))]) (st := []) rfl dX10_common_33 okX10_divide lX10_176 itX10_divide seX10_divide rfl cg_lo_0 (by decide) (by decide) rfl (Nat.le_of_ble_eq_true rfl) (sM_divide N _ B p hp hp2 hf le fc pn rn hn qn (30) (31) (32) (33) (by omega) (by omega) (by omega) (by omega) (by omega) (by omega) (fu) (fw) cg_lo_0 (fr_lo).2.1 cr_lo_0 cr_lo_1 (by omega)) (by omega) (by omega) (fun v115 hc115 q115 => ?_)
      obtain ⟨rfl, mfc116, rn116_0, rn116_1⟩ := q115
      have fk117_0 : hc115.2 (B) = some (mO B ((p : Int)) (hf) (le) (fc) (pn) (rn) (hn) (qn)) := Fr.at0 (mfc116).1 (Ni.c ⟨neA, neB⟩ (Ni.n _)) cg_lo_0
      have rk117_0 : MG hp B hc115 (30) (fu) := (cr_lo_0).fr hp2 mfc116 (Nr.c (by omega) (Nr.c (by omega) Nr.n))
      have rk117_1 : MG hp B hc115 (31) (fw) := (cr_lo_1).fr hp2 mfc116 (Nr.c (by omega) (Nr.c (by omega) Nr.n))
      have fr117 : MF B [] [30, 31, 32, 33, t] h hc115 := (fr_lo).tr ((mfc116).mo sub_n (sbI_c (List.Mem.tail _ (List.Mem.tail _ (List.Mem.tail _ (List.Mem.head _)))) (sbI_c (List.Mem.tail _ (List.Mem.tail _ (List.Mem.head _))) sbI_n)))
      refine Go.nf (h' := hc115) (st' := []) rfl rfl (Nat.le_refl _) (Nat.le_refl _) ?_
      refine g_aload_n 0 dX10_common_36 rfl ?_
      refine g_bipush dX10_common_37 (by decide) ?_
      refine g_bipush dX10_common_39 (by decide) ?_
      refine g_callV (nc2 := 0) (ns2 := 0) (ci := 10) (As := [.int (gI (31)), .int (gI (30))]) (st := []) rfl dX10_common_41 okX10_copy lX10_167 itX10_copy seX10_copy rfl fk117_0 (by decide) (by decide) rfl (Nat.le_of_ble_eq_true rfl) (sM_copy N _ B p hp hp2 hf le fc pn rn hn qn (31) (30) (by omega) (by omega) (fw) fk117_0 (fr117).2.1 rk117_1) (by omega) (by omega) (fun v118 hc118 q118 => ?_)
      obtain ⟨rfl, mfc119, rn119_0⟩ := q118
      have fk120_0 : hc118.2 (B) = some (mO B ((p : Int)) (hf) (le) (fc) (pn) (rn) (hn) (qn)) := Fr.at0 (mfc119).1 (Ni.c ⟨neA, neB⟩ (Ni.n _)) fk117_0
      have rk120_1 : MG hp B hc118 (31) (fw) := (rk117_1).fr hp2 mfc119 (Nr.c (by omega) Nr.n)
      have rk120_2 : MG hp B hc118 (33) (rm hp (fu) (fw)) := (rn116_0).fr hp2 mfc119 (Nr.c (by omega) Nr.n)
      have rk120_3 : MG hp B hc118 (32) (qt hp (fu) (fw)) := (rn116_1).fr hp2 mfc119 (Nr.c (by omega) Nr.n)
      have fr120 : MF B [] [30, 31, 32, 33, t] h hc118 := (fr117).tr ((mfc119).mo sub_n (sbI_c (List.Mem.head _) sbI_n))
      refine Go.nf (h' := hc118) (st' := []) rfl rfl (Nat.le_refl _) (Nat.le_refl _) ?_
      refine g_aload_n 0 dX10_common_44 rfl ?_
      refine g_bipush dX10_common_45 (by decide) ?_
      refine g_bipush dX10_common_47 (by decide) ?_
      refine g_callV (nc2 := 0) (ns2 := 0) (ci := 10) (As := [.int (gI (33)), .int (gI (31))]) (st := []) rfl dX10_common_49 okX10_copy lX10_167 itX10_copy seX10_copy rfl fk120_0 (by decide) (by decide) rfl (Nat.le_of_ble_eq_true rfl) (sM_copy N _ B p hp hp2 hf le fc pn rn hn qn (33) (31) (by omega) (by omega) (rm hp (fu) (fw)) fk120_0 (fr120).2.1 rk120_2) (by omega) (by omega) (fun v121 hc121 q121 => ?_)
      obtain ⟨rfl, mfc122, rn122_0⟩ := q121
      have fk123_0 : hc121.2 (B) = some (mO B ((p : Int)) (hf) (le) (fc) (pn) (rn) (hn) (qn)) := Fr.at0 (mfc122).1 (Ni.c ⟨neA, neB⟩ (Ni.n _)) fk120_0
      have rk123_1 : MG hp B hc121 (33) (rm hp (fu) (fw)) := (rk120_2).fr hp2 mfc122 (Nr.c (by omega) Nr.n)
      have rk123_2 : MG hp B hc121 (32) (qt hp (fu) (fw)) := (rk120_3).fr hp2 mfc122 (Nr.c (by omega) Nr.n)
      have rk123_3 : MG hp B hc121 (30) (fw) := (rn119_0).fr hp2 mfc122 (Nr.c (by omega) Nr.n)
      have fr123 : MF B [] [30, 31, 32, 33, t] h hc121 := (fr120).tr ((mfc122).mo sub_n (sbI_c (List.Mem.tail _ (List.Mem.head _)) sbI_n))
      refine Go.nf (h' := hc121) (st' := []) rfl rfl (Nat.le_refl _) (Nat.le_refl _) ?_
      refine g_goto (tgt := 14) dX10_common_52 rfl ?_
      exact ih_lo _ (by have := rm_lt hp hpu hpw (by omega); omega) (fw) (rm hp fu fw) hc121 rfl fr123 rk123_3 rn122_0 ((gP_step hp hpu hpw (by omega)).trans hG)
  exact lo _ (fa) (fb) hc4 rfl fr6 rk6_2 rn5_0 rfl
section
variable {p : Nat}
theorem rm_rm (h : prm p) {a m : Px p} (ha : po (fR h) a) (hm : po (fR h) m) (hd : 0 ≤ dgi h m) : rm h (rm h a m) m = rm h a m := rm_small h (rm_po h ha hm hd) hm (rm_lt h ha hm hd)
theorem rm_ml (h : prm p) {a b m : Px p} (ha : po (fR h) a) (hb : po (fR h) b) (hm : po (fR h) m) (hd : 0 ≤ dgi h m) : rm h (pml h (rm h a m) b) m = rm h (pml h a b) m := by
  have e1 := rm_mul h (rm_po h ha hm hd) hb hm hd
  have e2 := rm_mul h ha hb hm hd
  rw [rm_rm h ha hm hd] at e1
  exact e1.symm.trans e2
theorem rm_mr (h : prm p) {a b m : Px p} (ha : po (fR h) a) (hb : po (fR h) b) (hm : po (fR h) m) (hd : 0 ≤ dgi h m) : rm h (pml h a (rm h b m)) m = rm h (pml h a b) m := by
  have e : ∀ x y : Px p, pml h x y = pml h y x := fun x y => zmul_comm (fR h) x y
  rw [e, rm_ml h hb ha hm hd, e]
theorem rm_pw (h : prm p) {a m : Px p} (ha : po (fR h) a) (hm : po (fR h) m) (hd : 0 ≤ dgi h m) (n : Nat) : rm h (pwp h (rm h a m) n) m = rm h (pwp h a n) m :=
  (rm_cg h (pw_po h ha n) (pw_po h (rm_po h ha hm hd) n) hm hd (pw_dv h ha (rm_po h ha hm hd) (rm_dv h ha hm hd) n)).symm
theorem pw_dbl (h : prm p) (y : Px p) (k : Nat) : pwp h (pml h y y) k = pwp h y (2 * k) := by
  letI := pR h
  show (y * y) ^ k = y ^ (2 * k)
  rw [mul_pw (pR h), ← Lean.Grind.Semiring.pow_add, Nat.two_mul]
theorem rs_odd (h : prm p) {x y m T : Px p} (hx : po (fR h) x) (hy : po (fR h) y) (hm : po (fR h) m) (hd : 0 ≤ dgi h m) {e : Nat} (he : e % 2 = 1) (H : rm h (pml h x (pwp h y e)) m = T) : rm h (pml h (rm h (pml h x y) m) (pwp h (rm h (pml h y y) m) (e / 2))) m = T := by
  have hyy : po (fR h) (pml h y y) := mul_po hy hy
  have hxy : po (fR h) (pml h x y) := mul_po hx hy
  have p1 : po (fR h) (pwp h (rm h (pml h y y) m) (e / 2)) := pw_po h (rm_po h hyy hm hd) _
  have p2 : po (fR h) (pwp h (pml h y y) (e / 2)) := pw_po h hyy _
  rw [← rm_mr h (rm_po h hxy hm hd) p1 hm hd, rm_pw h hyy hm hd, rm_mr h (rm_po h hxy hm hd) p2 hm hd, rm_ml h hxy p2 hm hd, pw_dbl, ← H]
  congr 1
  letI := pR h
  show x * y * y ^ (2 * (e / 2)) = x * y ^ e
  have e1 : y ^ e = y ^ (2 * (e / 2)) * y := by
    rw [← pw_s (pR h)]; congr 1; omega
  rw [e1]
  generalize y ^ (2 * (e / 2)) = z
  grind
theorem rs_even (h : prm p) {x y m T : Px p} (hx : po (fR h) x) (hy : po (fR h) y) (hm : po (fR h) m) (hd : 0 ≤ dgi h m) {e : Nat} (he : e % 2 = 0) (H : rm h (pml h x (pwp h y e)) m = T) : rm h (pml h x (pwp h (rm h (pml h y y) m) (e / 2))) m = T := by
  have hyy : po (fR h) (pml h y y) := mul_po hy hy
  have p1 : po (fR h) (pwp h (rm h (pml h y y) m) (e / 2)) := pw_po h (rm_po h hyy hm hd) _
  have p2 : po (fR h) (pwp h (pml h y y) (e / 2)) := pw_po h hyy _
  rw [← rm_mr h hx p1 hm hd, rm_pw h hyy hm hd, rm_mr h hx p2 hm hd, pw_dbl, ← H, show 2 * (e / 2) = e by omega]
end
set_option maxHeartbeats 4000000 in
set_option maxRecDepth 100000 in
theorem sM_raise (N : GN) (h : GH) (B p : Nat) (hp : prm p) (hp2 : p ≤ 65536) (hf le fc pn rn hn qn : Int) (a m t n : Int) (ha : 0 ≤ a ∧ a < 34) (hm1 : 0 ≤ m ∧ m < 34) (ht : 0 ≤ t ∧ t < 34) (hmt : m ≠ t) (n0 : 0 ≤ n) (n1 : n < 9223372036854775808) (fa fm : Px p) (hm : h.2 B = some (mO B p hf le fc pn rn hn qn)) (ma : MA B h) (hGa : MG hp B h a fa) (hGm : MG hp B h m fm) (hdm : 1 ≤ dgi hp fm ∧ dgi hp fm ≤ 100) : Sp N yX10_raise mX10_raise 0 0 [.ref (B), .int (gI (a)), .long (gJ (n)), .int (gI (m)), .int (gI (t))] h (fun v h1 => v = none ∧ MF B [] [34, 35, 36, 37, t] h h1 ∧ MG hp B h1 (t) (rm hp (pwp hp fa n.toNat) fm)) := by
  refine Sp.of (by decide) rfl rfl (Nat.le_of_ble_eq_true rfl) ?_
  show Go N mX10_raise _ 0 0 h 0 [(0, .ref (B)), (1, .int (gI (a))), (2, .long (gJ (n))), (4, .int (gI (m))), (5, .int (gI (t)))] []
  have hp1 := hp.1
  have neA : NE B (B + 5) := by unfold NE; omega
  have neB : NE B (B + 6) := by unfold NE; omega
  have neC : NE (B + 5) (B + 6) := by unfold NE; omega
  have hmd : ∀ {x y : Px p}, po (fR hp) x → po (fR hp) y → dgi hp x < dgi hp fm → dgi hp y < dgi hp fm → dgi hp (pml hp x y) < 200 := fun {x y} h1 h2 h3 h4 => by
    have : dgi hp (pml hp x y) = _ := mul_dgi hp h1 h2
    rw [this]; split <;> omega
  refine g_aload_n 0 dX10_raise_0 rfl ?_
  refine g_iload_n 1 dX10_raise_1 rfl ?_
  refine g_iload 3 dX10_raise_2 rfl ?_
  refine g_bipush dX10_raise_4 (by decide) ?_
  refine g_bipush dX10_raise_6 (by decide) ?_
  refine g_callV (nc2 := 0) (ns2 := 0) (ci := 10) (As := [.int (gI (a)), .int (gI (m)), .int (gI (34)), .int (gI (35))]) (st := []) rfl dX10_raise_8 okX10_divide lX10_176 itX10_divide seX10_divide rfl hm (by decide) (by decide) rfl (Nat.le_of_ble_eq_true rfl) (sM_divide N _ B p hp hp2 hf le fc pn rn hn qn (a) (m) (34) (35) (by omega) (by omega) (by omega) (by omega) (by omega) (by omega) (fa) (fm) hm ((MF.rf [] [34, 35, 36, 37, t] ma)).2.1 hGa hGm (by omega)) (by omega) (by omega) (fun v1 hc1 q1 => ?_)
  obtain ⟨rfl, mfc2, rn2_0, rn2_1⟩ := q1
  have fk3_0 : hc1.2 (B) = some (mO B ((p : Int)) (hf) (le) (fc) (pn) (rn) (hn) (qn)) := Fr.at0 (mfc2).1 (Ni.c ⟨neA, neB⟩ (Ni.n _)) hm
  have rk3_0 : MG hp B hc1 (a) (fa) := (hGa).fr hp2 mfc2 (Nr.c (by omega) (Nr.c (by omega) Nr.n))
  have rk3_1 : MG hp B hc1 (m) (fm) := (hGm).fr hp2 mfc2 (Nr.c (by omega) (Nr.c (by omega) Nr.n))
  have fr3 : MF B [] [34, 35, 36, 37, t] h hc1 := ((MF.rf [] [34, 35, 36, 37, t] ma)).tr ((mfc2).mo sub_n (sbI_c (List.Mem.tail _ (List.Mem.head _)) (sbI_c (List.Mem.head _) sbI_n)))
  refine Go.nf (h' := hc1) (st' := []) rfl rfl (Nat.le_refl _) (Nat.le_refl _) ?_
  refine g_aload_n 0 dX10_raise_11 rfl ?_
  refine g_bipush dX10_raise_12 (by decide) ?_
  refine g_iconst dX10_raise_14 ?_
  refine g_callV (nc2 := 0) (ns2 := 0) (ci := 10) (As := [.int (gI (36)), .int (gI (1))]) (st := []) rfl dX10_raise_15 okX10_be lX10_170 itX10_be seX10_be rfl fk3_0 (by decide) (by decide) rfl (Nat.le_of_ble_eq_true rfl) (sM_be N _ B p hp hp2 hf le fc pn rn hn qn (36) (1) (by omega) (by omega) (by omega) fk3_0 (fr3).2.1) (by omega) (by omega) (fun v4 hc4 q4 => ?_)
  obtain ⟨rfl, mfc5, rn5_0⟩ := q4
  have fk6_0 : hc4.2 (B) = some (mO B ((p : Int)) (hf) (le) (fc) (pn) (rn) (hn) (qn)) := Fr.at0 (mfc5).1 (Ni.c ⟨neA, neB⟩ (Ni.n _)) fk3_0
  have rk6_0 : MG hp B hc4 (a) (fa) := (rk3_0).fr hp2 mfc5 (Nr.c (by omega) Nr.n)
  have rk6_1 : MG hp B hc4 (m) (fm) := (rk3_1).fr hp2 mfc5 (Nr.c (by omega) Nr.n)
  have rk6_2 : MG hp B hc4 (35) (rm hp (fa) (fm)) := (rn2_0).fr hp2 mfc5 (Nr.c (by omega) Nr.n)
  have rk6_3 : MG hp B hc4 (34) (qt hp (fa) (fm)) := (rn2_1).fr hp2 mfc5 (Nr.c (by omega) Nr.n)
  have fr6 : MF B [] [34, 35, 36, 37, t] h hc4 := (fr3).tr ((mfc5).mo sub_n (sbI_c (List.Mem.tail _ (List.Mem.tail _ (List.Mem.head _))) sbI_n))
  refine Go.nf (h' := hc4) (st' := []) rfl rfl (Nat.le_refl _) (Nat.le_refl _) ?_
  refine g_lload_n 2 dX10_raise_18 rfl ?_
  refine g_lstore (ls2 := [(6, .long (gJ (n))), (0, .ref (B)), (1, .int (gI (a))), (2, .long (gJ (n))), (4, .int (gI (m))), (5, .int (gI (t)))]) dX10_raise_19 (by decide) rfl ?_
  have lo : ∀ (kk : Nat) (e : Int) (X : Px p) (Y : Px p) (hlo : GH), kk = e.toNat → MF B [] [34, 35, 36, 37, t] h hlo → MG hp B hlo (m) (fm) → MG hp B hlo (35) (Y) → MG hp B hlo (36) (X) → (0 ≤ e ∧ e < 9223372036854775808) → (dgi hp X < dgi hp fm) → (dgi hp Y < dgi hp fm) → (rm hp (pml hp X (pwp hp Y e.toNat)) fm = rm hp (pwp hp fa n.toNat) fm) → Go N mX10_raise (fun v h1 => v = none ∧ MF B [] [34, 35, 36, 37, t] h h1 ∧ MG hp B h1 (t) (rm hp (pwp hp fa n.toNat) fm)) 0 0 hlo 21 [(6, .long (gJ (e))), (0, .ref (B)), (1, .int (gI (a))), (2, .long (gJ (n))), (4, .int (gI (m))), (5, .int (gI (t)))] [] := by
    refine Go.ind (fun kk ih_lo => ?_)
    intro e X Y hlo hkk_lo fr_lo cr_lo_0 cr_lo_1 cr_lo_2 he hdx hdy hE
    have cg_lo_0 : hlo.2 (B) = some (mO B ((p : Int)) (hf) (le) (fc) (pn) (rn) (hn) (qn)) := Fr.at0 (fr_lo).1 (Ni.c ⟨neA, neB⟩ (Ni.n _)) hm
    have hpx := (cr_lo_2).po
    have hpy := (cr_lo_1).po
    have hpm := hGm.po
    have hgx := dgi_ge hp hpx
    have hgy := dgi_ge hp hpy
    refine g_lload 0 dX10_raise_21 rfl ?_
    refine g_lconst0 dX10_raise_23 ?_
    refine g_lcmp dX10_raise_24 (by unfold gX; omega) (by unfold gX; omega) ?_
    refine g_if_le (tgt := 90) dX10_raise_25 rfl (gW_cmp _ _) (fun c107 => ?_) (fun c107 => ?_)
    · skip
      have hep := gcmp_le.mp c107
      refine g_aload_n 1 dX10_raise_90 rfl ?_
      refine g_bipush dX10_raise_91 (by decide) ?_
      refine g_iload 4 dX10_raise_93 rfl ?_
      refine g_bipush dX10_raise_95 (by decide) ?_
      refine g_iload 5 dX10_raise_97 rfl ?_
      refine g_callV (nc2 := 0) (ns2 := 0) (ci := 10) (As := [.int (gI (36)), .int (gI (m)), .int (gI (34)), .int (gI (t))]) (st := []) rfl dX10_raise_99 okX10_divide lX10_176 itX10_divide seX10_divide rfl cg_lo_0 (by decide) (by decide) rfl (Nat.le_of_ble_eq_true rfl) (sM_divide N _ B p hp hp2 hf le fc pn rn hn qn (36) (m) (34) (t) (by omega) (by omega) (by omega) (by omega) (by omega) (by omega) (X) (fm) cg_lo_0 (fr_lo).2.1 cr_lo_2 cr_lo_0 (by omega)) (by omega) (by omega) (fun v108 hc108 q108 => ?_)
      obtain ⟨rfl, mfc109, rn109_0, rn109_1⟩ := q108
      have fk110_0 : hc108.2 (B) = some (mO B ((p : Int)) (hf) (le) (fc) (pn) (rn) (hn) (qn)) := Fr.at0 (mfc109).1 (Ni.c ⟨neA, neB⟩ (Ni.n _)) cg_lo_0
      have rk110_0 : MG hp B hc108 (m) (fm) := (cr_lo_0).fr hp2 mfc109 (Nr.c (by omega) (Nr.c (by omega) Nr.n))
      have rk110_1 : MG hp B hc108 (35) (Y) := (cr_lo_1).fr hp2 mfc109 (Nr.c (by omega) (Nr.c (by omega) Nr.n))
      have rk110_2 : MG hp B hc108 (36) (X) := (cr_lo_2).fr hp2 mfc109 (Nr.c (by omega) (Nr.c (by omega) Nr.n))
      have fr110 : MF B [] [34, 35, 36, 37, t] h hc108 := (fr_lo).tr ((mfc109).mo sub_n (sbI_c (List.Mem.tail _ (List.Mem.tail _ (List.Mem.tail _ (List.Mem.tail _ (List.Mem.head _))))) (sbI_c (List.Mem.head _) sbI_n)))
      refine Go.nf (h' := hc108) (st' := []) rfl rfl (Nat.le_refl _) (Nat.le_refl _) ?_
      exact g_vret dX10_raise_102 rfl ⟨rfl, fr110, by
      have he0 : e = 0 := by omega
      rw [he0] at hE
      rw [← hE]
      have e9 : pml hp X (pwp hp Y (0 : Int).toNat) = X := by
        letI := pR hp
        show X * Y ^ 0 = X
        rw [pw_0 (pR hp)]; grind
      rw [e9]; exact rn109_0⟩
    · skip
      have hep : 0 < e := gcmp_gt.mp (by omega)
      refine g_lload 0 dX10_raise_28 rfl ?_
      refine g_lconst1 dX10_raise_30 ?_
      refine g_land dX10_raise_31 ?_
      refine g_lconst1 dX10_raise_32 ?_
      have han := gAndL_1 (show e.toNat < 9223372036854775808 by omega)
      rw [show ((e.toNat : Nat) : Int) = e by omega] at han
      rw [han]
      refine g_lcmp dX10_raise_33 (by unfold gX; omega) (by unfold gX; omega) ?_
      refine g_if_ne (tgt := 59) dX10_raise_34 rfl (gW_cmp _ _) (fun c111 => ?_) (fun c111 => ?_)
      · skip
        have hod : ¬ _ = _ := fun z => c111 (gcmp_eq.mpr z)
        refine g_aload_n 1 dX10_raise_59 rfl ?_
        refine g_bipush dX10_raise_60 (by decide) ?_
        refine g_bipush dX10_raise_62 (by decide) ?_
        refine g_bipush dX10_raise_64 (by decide) ?_
        refine g_callV (nc2 := 0) (ns2 := 0) (ci := 10) (As := [.int (gI (35)), .int (gI (35)), .int (gI (37))]) (st := []) rfl dX10_raise_66 okX10_product lX10_189 itX10_product seX10_product rfl cg_lo_0 (by decide) (by decide) rfl (Nat.le_of_ble_eq_true rfl) (sM_product N _ B p hp hp2 hf le fc pn rn hn qn (35) (35) (37) (by omega) (by omega) (by omega) (Y) (Y) cg_lo_0 (fr_lo).2.1 cr_lo_1 cr_lo_1 (by omega)) (by omega) (by omega) (fun v112 hc112 q112 => ?_)
        obtain ⟨rfl, mfc113, rn113_0⟩ := q112
        have fk114_0 : hc112.2 (B) = some (mO B ((p : Int)) (hf) (le) (fc) (pn) (rn) (hn) (qn)) := Fr.at0 (mfc113).1 (Ni.c ⟨neA, neB⟩ (Ni.n _)) cg_lo_0
        have rk114_0 : MG hp B hc112 (m) (fm) := (cr_lo_0).fr hp2 mfc113 (Nr.c (by omega) Nr.n)
        have rk114_1 : MG hp B hc112 (35) (Y) := (cr_lo_1).fr hp2 mfc113 (Nr.c (by omega) Nr.n)
        have rk114_2 : MG hp B hc112 (36) (X) := (cr_lo_2).fr hp2 mfc113 (Nr.c (by omega) Nr.n)
        have fr114 : MF B [] [34, 35, 36, 37, t] h hc112 := (fr_lo).tr ((mfc113).mo sub_n (sbI_c (List.Mem.tail _ (List.Mem.tail _ (List.Mem.tail _ (List.Mem.head _)))) sbI_n))
        refine Go.nf (h' := hc112) (st' := []) rfl rfl (Nat.le_refl _) (Nat.le_refl _) ?_
        refine g_aload_n 1 dX10_raise_69 rfl ?_
        refine g_bipush dX10_raise_70 (by decide) ?_
        refine g_iload 4 dX10_raise_72 rfl ?_
        refine g_bipush dX10_raise_74 (by decide) ?_
        refine g_bipush dX10_raise_76 (by decide) ?_
        refine g_callV (nc2 := 0) (ns2 := 0) (ci := 10) (As := [.int (gI (37)), .int (gI (m)), .int (gI (34)), .int (gI (35))]) (st := []) rfl dX10_raise_78 okX10_divide lX10_176 itX10_divide seX10_divide rfl fk114_0 (by decide) (by decide) rfl (Nat.le_of_ble_eq_true rfl) (sM_divide N _ B p hp hp2 hf le fc pn rn hn qn (37) (m) (34) (35) (by omega) (by omega) (by omega) (by omega) (by omega) (by omega) (pml hp (Y) (Y)) (fm) fk114_0 (fr114).2.1 rn113_0 rk114_0 (by omega)) (by omega) (by omega) (fun v115 hc115 q115 => ?_)
        obtain ⟨rfl, mfc116, rn116_0, rn116_1⟩ := q115
        have fk117_0 : hc115.2 (B) = some (mO B ((p : Int)) (hf) (le) (fc) (pn) (rn) (hn) (qn)) := Fr.at0 (mfc116).1 (Ni.c ⟨neA, neB⟩ (Ni.n _)) fk114_0
        have rk117_0 : MG hp B hc115 (m) (fm) := (rk114_0).fr hp2 mfc116 (Nr.c (by omega) (Nr.c (by omega) Nr.n))
        have rk117_2 : MG hp B hc115 (36) (X) := (rk114_2).fr hp2 mfc116 (Nr.c (by omega) (Nr.c (by omega) Nr.n))
        have rk117_3 : MG hp B hc115 (37) (pml hp (Y) (Y)) := (rn113_0).fr hp2 mfc116 (Nr.c (by omega) (Nr.c (by omega) Nr.n))
        have fr117 : MF B [] [34, 35, 36, 37, t] h hc115 := (fr114).tr ((mfc116).mo sub_n (sbI_c (List.Mem.tail _ (List.Mem.head _)) (sbI_c (List.Mem.head _) sbI_n)))
        refine Go.nf (h' := hc115) (st' := []) rfl rfl (Nat.le_refl _) (Nat.le_refl _) ?_
        refine g_lload 0 dX10_raise_81 rfl ?_
        refine g_iconst dX10_raise_83 ?_
        refine g_lshr dX10_raise_84 ?_
        have hsh := gShrL_n (show 0 ≤ e by omega) (show e < 9223372036854775808 by omega) (show (0 : Int) ≤ 1 by omega) (show (1 : Int) < 63 by omega)
        rw [hsh, show e.toNat / 2 ^ (1 : Int).toNat = e.toNat / 2 from rfl]
        refine g_lstore (ls2 := [(6, .long (gJ (((e.toNat / 2 : Nat) : Int)))), (0, .ref (B)), (1, .int (gI (a))), (2, .long (gJ (n))), (4, .int (gI (m))), (5, .int (gI (t)))]) dX10_raise_85 (by decide) rfl ?_
        refine g_goto (tgt := 21) dX10_raise_87 rfl ?_
        exact ih_lo _ (by omega) (((e.toNat / 2 : Nat) : Int)) (X) (rm hp (pml hp (Y) (Y)) (fm)) hc115 rfl fr117 rk117_0 rn116_0 rk117_2 (by omega) hdx (rm_lt hp (mul_po hpy hpy) hpm (by omega)) (by rw [Int.toNat_natCast]; exact rs_even hp hpx hpy hpm (by omega) (by omega) hE)
      · skip
        have hod := gcmp_eq.mp c111
        refine g_aload_n 1 dX10_raise_37 rfl ?_
        refine g_bipush dX10_raise_38 (by decide) ?_
        refine g_bipush dX10_raise_40 (by decide) ?_
        refine g_bipush dX10_raise_42 (by decide) ?_
        refine g_callV (nc2 := 0) (ns2 := 0) (ci := 10) (As := [.int (gI (36)), .int (gI (35)), .int (gI (37))]) (st := []) rfl dX10_raise_44 okX10_product lX10_189 itX10_product seX10_product rfl cg_lo_0 (by decide) (by decide) rfl (Nat.le_of_ble_eq_true rfl) (sM_product N _ B p hp hp2 hf le fc pn rn hn qn (36) (35) (37) (by omega) (by omega) (by omega) (X) (Y) cg_lo_0 (fr_lo).2.1 cr_lo_2 cr_lo_1 (by omega)) (by omega) (by omega) (fun v118 hc118 q118 => ?_)
        obtain ⟨rfl, mfc119, rn119_0⟩ := q118
        have fk120_0 : hc118.2 (B) = some (mO B ((p : Int)) (hf) (le) (fc) (pn) (rn) (hn) (qn)) := Fr.at0 (mfc119).1 (Ni.c ⟨neA, neB⟩ (Ni.n _)) cg_lo_0
        have rk120_0 : MG hp B hc118 (m) (fm) := (cr_lo_0).fr hp2 mfc119 (Nr.c (by omega) Nr.n)
        have rk120_1 : MG hp B hc118 (35) (Y) := (cr_lo_1).fr hp2 mfc119 (Nr.c (by omega) Nr.n)
        have rk120_2 : MG hp B hc118 (36) (X) := (cr_lo_2).fr hp2 mfc119 (Nr.c (by omega) Nr.n)
        have fr120 : MF B [] [34, 35, 36, 37, t] h hc118 := (fr_lo).tr ((mfc119).mo sub_n (sbI_c (List.Mem.tail _ (List.Mem.tail _ (List.Mem.tail _ (List.Mem.head _)))) sbI_n))
        refine Go.nf (h' := hc118) (st' := []) rfl rfl (Nat.le_refl _) (Nat.le_refl _) ?_
        refine g_aload_n 1 dX10_raise_47 rfl ?_
        refine g_bipush dX10_raise_48 (by decide) ?_
        refine g_iload 4 dX10_raise_50 rfl ?_
        refine g_bipush dX10_raise_52 (by decide) ?_
        refine g_bipush dX10_raise_54 (by decide) ?_
        refine g_callV (nc2 := 0) (ns2 := 0) (ci := 10) (As := [.int (gI (37)), .int (gI (m)), .int (gI (34)), .int (gI (36))]) (st := []) rfl dX10_raise_56 okX10_divide lX10_176 itX10_divide seX10_divide rfl fk120_0 (by decide) (by decide) rfl (Nat.le_of_ble_eq_true rfl) (sM_divide N _ B p hp hp2 hf le fc pn rn hn qn (37) (m) (34) (36) (by omega) (by omega) (by omega) (by omega) (by omega) (by omega) (pml hp (X) (Y)) (fm) fk120_0 (fr120).2.1 rn119_0 rk120_0 (by omega)) (by omega) (by omega) (fun v121 hc121 q121 => ?_)
        obtain ⟨rfl, mfc122, rn122_0, rn122_1⟩ := q121
        have fk123_0 : hc121.2 (B) = some (mO B ((p : Int)) (hf) (le) (fc) (pn) (rn) (hn) (qn)) := Fr.at0 (mfc122).1 (Ni.c ⟨neA, neB⟩ (Ni.n _)) fk120_0
        have rk123_0 : MG hp B hc121 (m) (fm) := (rk120_0).fr hp2 mfc122 (Nr.c (by omega) (Nr.c (by omega) Nr.n))
        have rk123_1 : MG hp B hc121 (35) (Y) := (rk120_1).fr hp2 mfc122 (Nr.c (by omega) (Nr.c (by omega) Nr.n))
        have rk123_3 : MG hp B hc121 (37) (pml hp (X) (Y)) := (rn119_0).fr hp2 mfc122 (Nr.c (by omega) (Nr.c (by omega) Nr.n))
        have fr123 : MF B [] [34, 35, 36, 37, t] h hc121 := (fr120).tr ((mfc122).mo sub_n (sbI_c (List.Mem.tail _ (List.Mem.tail _ (List.Mem.head _))) (sbI_c (List.Mem.head _) sbI_n)))
        refine Go.nf (h' := hc121) (st' := []) rfl rfl (Nat.le_refl _) (Nat.le_refl _) ?_
        refine g_aload_n 1 dX10_raise_59 rfl ?_
        refine g_bipush dX10_raise_60 (by decide) ?_
        refine g_bipush dX10_raise_62 (by decide) ?_
        refine g_bipush dX10_raise_64 (by decide) ?_
        refine g_callV (nc2 := 0) (ns2 := 0) (ci := 10) (As := [.int (gI (35)), .int (gI (35)), .int (gI (37))]) (st := []) rfl dX10_raise_66 okX10_product lX10_189 itX10_product seX10_product rfl fk123_0 (by decide) (by decide) rfl (Nat.le_of_ble_eq_true rfl) (sM_product N _ B p hp hp2 hf le fc pn rn hn qn (35) (35) (37) (by omega) (by omega) (by omega) (Y) (Y) fk123_0 (fr123).2.1 rk123_1 rk123_1 (by omega)) (by omega) (by omega) (fun v124 hc124 q124 => ?_)
        obtain ⟨rfl, mfc125, rn125_0⟩ := q124
        have fk126_0 : hc124.2 (B) = some (mO B ((p : Int)) (hf) (le) (fc) (pn) (rn) (hn) (qn)) := Fr.at0 (mfc125).1 (Ni.c ⟨neA, neB⟩ (Ni.n _)) fk123_0
        have rk126_0 : MG hp B hc124 (m) (fm) := (rk123_0).fr hp2 mfc125 (Nr.c (by omega) Nr.n)
        have rk126_1 : MG hp B hc124 (35) (Y) := (rk123_1).fr hp2 mfc125 (Nr.c (by omega) Nr.n)
        have rk126_3 : MG hp B hc124 (36) (rm hp (pml hp (X) (Y)) (fm)) := (rn122_0).fr hp2 mfc125 (Nr.c (by omega) Nr.n)
        have rk126_4 : MG hp B hc124 (34) (qt hp (pml hp (X) (Y)) (fm)) := (rn122_1).fr hp2 mfc125 (Nr.c (by omega) Nr.n)
        have fr126 : MF B [] [34, 35, 36, 37, t] h hc124 := (fr123).tr ((mfc125).mo sub_n (sbI_c (List.Mem.tail _ (List.Mem.tail _ (List.Mem.tail _ (List.Mem.head _)))) sbI_n))
        refine Go.nf (h' := hc124) (st' := []) rfl rfl (Nat.le_refl _) (Nat.le_refl _) ?_
        refine g_aload_n 1 dX10_raise_69 rfl ?_
        refine g_bipush dX10_raise_70 (by decide) ?_
        refine g_iload 4 dX10_raise_72 rfl ?_
        refine g_bipush dX10_raise_74 (by decide) ?_
        refine g_bipush dX10_raise_76 (by decide) ?_
        refine g_callV (nc2 := 0) (ns2 := 0) (ci := 10) (As := [.int (gI (37)), .int (gI (m)), .int (gI (34)), .int (gI (35))]) (st := []) rfl dX10_raise_78 okX10_divide lX10_176 itX10_divide seX10_divide rfl fk126_0 (by decide) (by decide) rfl (Nat.le_of_ble_eq_true rfl) (sM_divide N _ B p hp hp2 hf le fc pn rn hn qn (37) (m) (34) (35) (by omega) (by omega) (by omega) (by omega) (by omega) (by omega) (pml hp (Y) (Y)) (fm) fk126_0 (fr126).2.1 rn125_0 rk126_0 (by omega)) (by omega) (by omega) (fun v127 hc127 q127 => ?_)
        obtain ⟨rfl, mfc128, rn128_0, rn128_1⟩ := q127
        have fk129_0 : hc127.2 (B) = some (mO B ((p : Int)) (hf) (le) (fc) (pn) (rn) (hn) (qn)) := Fr.at0 (mfc128).1 (Ni.c ⟨neA, neB⟩ (Ni.n _)) fk126_0
        have rk129_0 : MG hp B hc127 (m) (fm) := (rk126_0).fr hp2 mfc128 (Nr.c (by omega) (Nr.c (by omega) Nr.n))
        have rk129_2 : MG hp B hc127 (36) (rm hp (pml hp (X) (Y)) (fm)) := (rk126_3).fr hp2 mfc128 (Nr.c (by omega) (Nr.c (by omega) Nr.n))
        have rk129_4 : MG hp B hc127 (37) (pml hp (Y) (Y)) := (rn125_0).fr hp2 mfc128 (Nr.c (by omega) (Nr.c (by omega) Nr.n))
        have fr129 : MF B [] [34, 35, 36, 37, t] h hc127 := (fr126).tr ((mfc128).mo sub_n (sbI_c (List.Mem.tail _ (List.Mem.head _)) (sbI_c (List.Mem.head _) sbI_n)))
        refine Go.nf (h' := hc127) (st' := []) rfl rfl (Nat.le_refl _) (Nat.le_refl _) ?_
        refine g_lload 0 dX10_raise_81 rfl ?_
        refine g_iconst dX10_raise_83 ?_
        refine g_lshr dX10_raise_84 ?_
        have hsh := gShrL_n (show 0 ≤ e by omega) (show e < 9223372036854775808 by omega) (show (0 : Int) ≤ 1 by omega) (show (1 : Int) < 63 by omega)
        rw [hsh, show e.toNat / 2 ^ (1 : Int).toNat = e.toNat / 2 from rfl]
        refine g_lstore (ls2 := [(6, .long (gJ (((e.toNat / 2 : Nat) : Int)))), (0, .ref (B)), (1, .int (gI (a))), (2, .long (gJ (n))), (4, .int (gI (m))), (5, .int (gI (t)))]) dX10_raise_85 (by decide) rfl ?_
        refine g_goto (tgt := 21) dX10_raise_87 rfl ?_
        exact ih_lo _ (by omega) (((e.toNat / 2 : Nat) : Int)) (rm hp (pml hp (X) (Y)) (fm)) (rm hp (pml hp (Y) (Y)) (fm)) hc127 rfl fr129 rk129_0 rn128_0 rk129_2 (by omega) (rm_lt hp (mul_po hpx hpy) hpm (by omega)) (rm_lt hp (mul_po hpy hpy) hpm (by omega)) (by rw [Int.toNat_natCast]; exact rs_odd hp hpx hpy hpm (by omega) (by omega) hE)
  exact lo _ (n) (cz hp (zi hp 1)) (rm hp fa fm) hc4 rfl fr6 rk6_1 rk6_2 rn5_0 (by omega) (by rw [cz_dgi hp (zi_ne hp (by omega) (by omega))]; omega) (rm_lt hp hGa.po hGm.po (by omega)) (by
      letI := pR hp
      rw [cz_z1, show pml hp (1 : Px p) (pwp hp (rm hp fa fm) n.toNat) = pwp hp (rm hp fa fm) n.toNat from zmul_one (fR hp) _]
      exact rm_pw hp hGa.po hGm.po (by omega) _)
