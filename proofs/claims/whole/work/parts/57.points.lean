/-! values, Newton's way -/
section
variable {p : Nat}
def ev (h : prm p) (f : Px p) (x : Fp p) : Fp p := hr h f x 84 0
theorem hr_n (h : prm p) {c : Nat → Fp p} (x : Fp p) {n m : Nat} (hn : n ≤ m) (hz : letI := fR h; ∀ i, n ≤ i → c i = 0) : hr h c x m 0 = hr h c x n 0 := by
  letI := fR h
  rw [hr_0, hr_0]
  exact sm_tail (fR h) hn (fun i hi => by rw [hz i hi]; grind)
theorem ev_n (h : prm p) {f : Px p} (hf : po (fR h) f) (x : Fp p) {n : Nat} (hn : dgi h f < n) (hn2 : n ≤ 84) : hr h f x n 0 = ev h f x := (hr_n h x hn2 (fun i hi => dgi_dl h hf i (by have := dgi_ge h hf; omega))).symm
/-- x - a -/
def lin (h : prm p) (a : Fp p) : Px p := fun k => letI := fR h; if k = 1 then 1 else if k = 0 then -a else 0
theorem lin_dg (h : prm p) (a : Fp p) : dg (fR h) (lin h a) 1 := by
  letI := fR h
  refine ⟨?_, fun k hk => ?_⟩
  · show (if 1 = 1 then (1 : Fp p) else _) ≠ 0
    rw [if_pos rfl]; exact (fld_p h).2
  · show (if k = 1 then (1 : Fp p) else if k = 0 then -a else 0) = 0
    rw [if_neg (by omega), if_neg (by omega)]
theorem lin_po (h : prm p) (a : Fp p) : po (fR h) (lin h a) := dg_po (lin_dg h a)
theorem lin_mul (h : prm p) (f : Px p) (a : Fp p) (k : Nat) : letI := fR h; pml h f (lin h a) k = (if 0 < k then f (k - 1) else 0) - a * f k := by
  have e : letI := pR h; lin h a = xm (fR h) (letI := fR h; 1) 1 + xm (fR h) (letI := fR h; -a) 0 := funext fun i => by
    letI := fR h
    show (if i = 1 then (1 : Fp p) else if i = 0 then -a else 0) = (if i = 1 then (1 : Fp p) else 0) + (if i = 0 then -a else 0)
    by_cases z : i = 1
    · rw [if_pos z, if_pos z, if_neg (by omega)]; grind
    · rw [if_neg z, if_neg z]; grind
  have e2 : letI := pR h; pml h f (lin h a) = zmul (fR h) (xm (fR h) (letI := fR h; 1) 1) f + zmul (fR h) (xm (fR h) (letI := fR h; -a) 0) f := by
    letI := pR h
    rw [e]
    show f * (xm (fR h) (letI := fR h; 1) 1 + xm (fR h) (letI := fR h; -a) 0) = xm (fR h) (letI := fR h; 1) 1 * f + xm (fR h) (letI := fR h; -a) 0 * f
    generalize xm (fR h) (letI := fR h; 1) 1 = x
    generalize xm (fR h) (letI := fR h; -a) 0 = y
    grind
  rw [e2]
  letI := fR h
  show zmul (fR h) (xm (fR h) 1 1) f k + zmul (fR h) (xm (fR h) (-a) 0) f k = _
  rw [xm_mul, xm_mul, if_pos (Nat.zero_le _), Nat.sub_zero]
  by_cases z : 0 < k
  · rw [if_pos (show 1 ≤ k by omega), if_pos z]; grind
  · rw [if_neg (show ¬ 1 ≤ k by omega), if_neg z]; grind
theorem ivr_pw (h : prm p) {a : Int} (h0 : 0 ≤ a) (h1 : a < p) : letI := fR h; zi h (ivr p a) = zi h a ^ (p - 2) := by
  letI := fR h
  have := h.1
  unfold ivr
  by_cases z : a = 1
  · rw [if_pos z, z, zi_1 h, one_pw (fR h)]
  · rw [if_neg z, zi_mod, zi_pw, show ((p : Int) - 2).toNat = p - 2 by omega]
/-- Newton's products and sums -/
def nwP (h : prm p) (xs : Nat → Fp p) : Nat → Px p
  | 0 => cz h (zi h 1)
  | k + 1 => pml h (nwP h xs k) (lin h (xs k))
def nwC (h : prm p) (O P : Px p) (x v : Fp p) : Fp p := letI := fR h; (v - ev h O x) * ev h P x ^ (p - 2)
def nwO (h : prm p) (xs vs : Nat → Fp p) : Nat → Px p
  | 0 => cz h (zi h 0)
  | k + 1 => letI := pR h; nwO h xs vs k + cz h (nwC h (nwO h xs vs k) (nwP h xs k) (xs k) (vs k)) * nwP h xs k
theorem nwP_dg (h : prm p) (xs : Nat → Fp p) (k : Nat) : po (fR h) (nwP h xs k) ∧ dgi h (nwP h xs k) = k := by
  have hp := h.1
  induction k with
  | zero => exact ⟨cz_po h _, cz_dgi h (zi_ne h (by omega) (by omega))⟩
  | succ k ih =>
    refine ⟨mul_po ih.1 (lin_po h _), ?_⟩
    have e : dgi h (pml h (nwP h xs k) (lin h (xs k))) = _ := mul_dgi h ih.1 (lin_po h _)
    show dgi h (pml h (nwP h xs k) (lin h (xs k))) = _
    rw [e, ih.2, dgi_of h (lin_dg h _), if_neg (by omega)]
    omega
theorem cz_le (h : prm p) (c : Fp p) : dgi h (cz h c) ≤ 0 := by
  have : dl (fR h) (cz h c) 1 := fun k hk => by
    letI := fR h
    show (if k = 0 then c else 0) = 0
    rw [if_neg (by omega)]
  have := dgi_le h this
  omega
theorem nwO_dg (h : prm p) (xs vs : Nat → Fp p) (k : Nat) : po (fR h) (nwO h xs vs k) ∧ dgi h (nwO h xs vs k) < k := by
  letI := pR h
  induction k with
  | zero => exact ⟨cz_po h _, by show dgi h (cz h (zi h 0)) < _; rw [cz_z0, dgi_0]; omega⟩
  | succ k ih =>
    have hP := nwP_dg h xs k
    generalize hc : nwC h (nwO h xs vs k) (nwP h xs k) (xs k) (vs k) = c
    have hm := mul_dgi h (cz_po h c) hP.1
    have hcl := cz_le h c
    have hcg := dgi_ge h (cz_po h c)
    have := add_dgi h ih.1 (mul_po (cz_po h c) hP.1) (d := k) (by omega) (by
      show dgi h (cz h c * nwP h xs k) ≤ _
      rw [hm, hP.2]; split <;> omega)
    have e : nwO h xs vs (k + 1) = nwO h xs vs k + cz h c * nwP h xs k := by
      show nwO h xs vs k + cz h (nwC h (nwO h xs vs k) (nwP h xs k) (xs k) (vs k)) * nwP h xs k = _
      rw [hc]
    refine ⟨by rw [e]; exact add_po ih.1 (mul_po (cz_po h c) hP.1), ?_⟩
    rw [e]
    have : dgi h (nwO h xs vs k + cz h c * nwP h xs k) ≤ k := this
    omega
theorem ph_ad {h : prm p} {ga gb g : Int → Int} {d e T : Int} (hd : d ≤ e) (hg : ∀ k, 0 ≤ k → k ≤ e → g k = ((if 0 ≤ k ∧ k ≤ d then ga k else 0) + T * gb k) % p) : letI := pR h; ph h ga d + cz h (zi h T) * ph h gb e = ph h g e := funext fun k => by
  letI := fR h
  show (if (k : Int) ≤ d then zi h (ga k) else 0) + zmul (fR h) (zc (fR h) (zi h T)) (ph h gb e) k = (if (k : Int) ≤ e then zi h (g k) else 0)
  rw [zmul_c]
  show (if (k : Int) ≤ d then zi h (ga k) else 0) + zi h T * (if (k : Int) ≤ e then zi h (gb k) else 0) = _
  by_cases z : (k : Int) ≤ e
  · rw [if_pos z, if_pos z, hg k (by omega) z, zi_mod, zi_add, zi_mul]
    by_cases x : (k : Int) ≤ d
    · rw [if_pos x, if_pos ⟨by omega, x⟩]
    · rw [if_neg x, if_neg (by omega), zi_0 h]
  · rw [if_neg z, if_neg z, if_neg (by omega)]; grind
/-- what multiplyByLine leaves: the numbers behind k are done -/
def mlN (g : Int → Int) (a d j : Int) : Int := (if 0 < j then g (j - 1) else 0) - a * (if 0 ≤ j ∧ j ≤ d then g j else 0)
def mlL (p : Nat) (g : Int → Int) (a d k : Int) : Int → Int := fun j => if k < j ∧ j ≤ d + 1 then mlN g a d j % p else g j
theorem mlL_0 (g : Int → Int) (a d : Int) : mlL p g a d (d + 1) = g := funext fun j => by unfold mlL; rw [if_neg (by omega)]
theorem mlL_s (g : Int → Int) {a d k : Int} (hk : k ≤ d + 1) : gup (mlL p g a d k) k (mlN g a d k % p) = mlL p g a d (k + (-1)) := funext fun j => by
  unfold gup mlL
  by_cases z : j = k
  · subst z; rw [if_pos rfl, if_pos (by omega)]
  · rw [if_neg z]
    by_cases w : k < j ∧ j ≤ d + 1
    · rw [if_pos w, if_pos (by omega)]
    · rw [if_neg w, if_neg (by omega)]
theorem mlL_lo (g : Int → Int) {a d k j : Int} (hj : j ≤ k) : mlL p g a d k j = g j := by unfold mlL; rw [if_neg (by omega)]
theorem mlL_PO {h : prm p} {g : Int → Int} {f : Px p} {a d : Int} (w : PO h d g f) (hd : 0 ≤ d) : PO h (d + 1) (mlL p g a d (-1)) (pml h f (lin h (zi h a))) := by
  have hf := w.po
  have e : dgi h (pml h f (lin h (zi h a))) = _ := mul_dgi h hf (lin_po h (zi h a))
  rw [w.dgi, dgi_of h (lin_dg h _), if_neg (by omega)] at e
  refine PO_of e ?_ (fun k k0 k1 => by unfold mlL; rw [if_pos (by omega)]; exact em_in h _)
  refine funext fun k => ?_
  rw [lin_mul]
  letI := fR h
  show _ = (if (k : Int) ≤ d + 1 then zi h (mlL p g a d (-1) k) else 0)
  have ef : ∀ i : Nat, f i = if (i : Int) ≤ d then zi h (g i) else 0 := fun i => by rw [w.2.2.2]; rfl
  rw [ef, ef]
  by_cases z : (k : Int) ≤ d + 1
  · rw [if_pos z]
    unfold mlL mlN
    rw [if_pos (show -1 < (k : Int) ∧ (k : Int) ≤ d + 1 by omega), zi_mod, zi_sub, zi_mul]
    by_cases y : 0 < k
    · rw [if_pos y, if_pos (by omega), if_pos (show (0 : Int) < k by omega), show ((k - 1 : Nat) : Int) = (k : Int) - 1 by omega]
      by_cases x : (k : Int) ≤ d
      · rw [if_pos x, if_pos ⟨by omega, x⟩]
      · rw [if_neg x, if_neg (by omega), zi_0 h]
    · rw [if_neg y, if_neg (show ¬ (0 : Int) < k by omega), zi_0 h, if_pos (by omega), if_pos (by omega)]
  · rw [if_neg z, if_pos (show 0 < k by omega), if_neg (by omega), if_neg (by omega)]; grind
end
set_option maxHeartbeats 4000000 in
set_option maxRecDepth 100000 in
theorem sT_valueOf (N : GN) (h : GH) (B r p : Nat) (hp : prm p) (hp2 : p ≤ 65536) (c : Int) (f : Px p) (x : Int) (x0 : 0 ≤ x) (x1 : x < p) (hq : h.2 (B + 24) = some (oB 3 [.ref (B + 1), .ref (B + 25), .ref (B + 26), .int (gI (c))])) (hfl : h.2 (B + 1) = some (oB 1 [.int (gI ((p : Int)))])) (hr : RP hp 84 h r f) : Sp N yX3_valueOf mX3_valueOf 0 0 [.ref (B + 24), .ref (r), .long (gJ (x))] h (fun v h1 => h1 = h ∧ v = some (.long (gJ (fv (ev hp f (zi hp x)))))) := by
  refine Sp.of (by decide) rfl rfl (Nat.le_of_ble_eq_true rfl) ?_
  show Go N mX3_valueOf _ 0 0 h 0 [(0, .ref (B + 24)), (1, .ref (r)), (2, .long (gJ (x)))] []
  have hp1 := hp.1
  have hlt := hr.lt
  have hpo := hr.po
  obtain ⟨g, ⟨hr1, hr2, hr3, hr4, hr5, hr6, hr7⟩, hP⟩ := hr
  refine g_lconst0 dX3_valueOf_0 ?_
  refine g_lstore (ls2 := [(4, .long (gJ (0))), (0, .ref (B + 24)), (1, .ref (r)), (2, .long (gJ (x)))]) dX3_valueOf_1 (by decide) rfl ?_
  refine g_aload_n 2 dX3_valueOf_3 rfl ?_
  refine g_getf 1 dX3_valueOf_4 kX5 (by decide) fX3_45 hr1 rfl ?_
  refine g_istore (ls2 := [(6, .int (gI (dgi hp f))), (4, .long (gJ (0))), (0, .ref (B + 24)), (1, .ref (r)), (2, .long (gJ (x)))]) dX3_valueOf_7 (by decide) rfl ?_
  have li : ∀ (kk : Nat) (i : Int) (w : Int) (hli : GH), kk = (i + 1).toNat → Fr [] h hli → (-1 ≤ i ∧ i ≤ dgi hp f) → (w = fv (hr hp f (zi hp x) 84 (i + 1).toNat)) → Go N mX3_valueOf (fun v h1 => h1 = h ∧ v = some (.long (gJ (fv (ev hp f (zi hp x)))))) 0 0 hli 9 [(6, .int (gI (i))), (4, .long (gJ (w))), (0, .ref (B + 24)), (1, .ref (r)), (2, .long (gJ (x)))] [] := by
    refine Go.ind (fun kk ih_li => ?_)
    intro i w hli hkk_li fr_li hi hr_
    have cg_li_0 : hli.2 (B + 24) = some (oB 3 [.ref (B + 1), .ref (B + 25), .ref (B + 26), .int (gI (c))]) := Fr.at0 fr_li (Ni.n _) hq
    have cg_li_1 : hli.2 (B + 1) = some (oB 1 [.int (gI ((p : Int)))]) := Fr.at0 fr_li (Ni.n _) hfl
    have cg_li_2 : hli.2 (r) = some (oB 5 [.ref (r + 1), .int (gI (dgi hp f))]) := Fr.at0 fr_li (Ni.n _) hr1
    have cg_li_3 : hli.2 (r + 1) = some (aJ 84 (g)) := Fr.at0 fr_li (Ni.n _) hr2
    have hwb : 0 ≤ w ∧ w < p := by rw [hr_]; have := fv_lt (hr hp f (zi hp x) 84 (i + 1).toNat); omega
    have bp := g_prod hwb.1 hwb.2 x0 x1 (show (p : Int) ≤ 65536 by omega)
    refine g_iload 0 dX3_valueOf_9 rfl ?_
    refine g_if_lt (tgt := 41) dX3_valueOf_11 rfl (by unfold gW; omega) (fun c101 => ?_) (fun c101 => ?_)
    · skip
      refine g_lload 1 dX3_valueOf_41 rfl ?_
      exact g_lret dX3_valueOf_43 rfl ⟨Fr.e0 fr_li, by
      have hi1 : i = -1 := by omega
      rw [hr_, hi1]
      rfl⟩
    · skip
      refine g_aload_n 2 dX3_valueOf_14 rfl ?_
      refine g_getf 0 dX3_valueOf_15 kX3 (by decide) fX3_18 cg_li_0 rfl ?_
      refine g_lload 1 dX3_valueOf_18 rfl ?_
      refine g_lload_n 4 dX3_valueOf_20 rfl ?_
      refine g_lmul dX3_valueOf_21 ?_
      refine g_aload_n 3 dX3_valueOf_22 rfl ?_
      refine g_getf 0 dX3_valueOf_23 kX5 (by decide) fX3_48 cg_li_2 rfl ?_
      refine g_iload 0 dX3_valueOf_26 rfl ?_
      refine g_laload dX3_valueOf_28 cg_li_3 (by omega) (by omega) (by omega) ?_
      have bk := hP.2.1 i (by omega) (by omega)
      refine g_ladd dX3_valueOf_29 ?_
      refine g_callV (nc2 := 0) (ns2 := 0) (ci := 1) (As := [.long (gJ (((w) * (x)) + ((g) (i))))]) (st := []) rfl dX3_valueOf_30 okX1_mod lX3_36 itX1_mod seX1_mod rfl cg_li_1 (by decide) (by decide) rfl (Nat.le_of_ble_eq_true rfl) (sX1_mod N _ (B + 1) (p : Int) (((w) * (x)) + ((g) (i))) (by unfold gX; omega) (by omega) (by omega) cg_li_1) (by omega) (by omega) (fun v102 hc102 q102 => ?_)
      obtain ⟨hq103, rfl⟩ := q102
      rw [gMod_em (show (0 : Int) < p by omega)]
      refine Go.nf (h' := hli) (st' := [.long (gJ ((((w) * (x)) + ((g) (i))) % (p : Int)))]) hq103 rfl (Nat.le_refl _) (Nat.le_refl _) ?_
      refine g_lstore (ls2 := [(4, .long (gJ ((((w) * (x)) + ((g) (i))) % (p : Int)))), (6, .int (gI (i))), (0, .ref (B + 24)), (1, .ref (r)), (2, .long (gJ (x)))]) dX3_valueOf_33 (by decide) rfl ?_
      refine g_iinc 1 (ls2 := [(6, .int (gI (i + (-1)))), (4, .long (gJ ((((w) * (x)) + ((g) (i))) % (p : Int)))), (0, .ref (B + 24)), (1, .ref (r)), (2, .long (gJ (x)))]) dX3_valueOf_35 rfl (by decide) rfl ?_
      refine g_goto (tgt := 9) dX3_valueOf_38 rfl ?_
      exact ih_li _ (by omega) (i + (-1)) ((((w) * (x)) + ((g) (i))) % (p : Int)) hli rfl fr_li (by omega) (by
        rw [hr_, fv_st, show (i + (-1) + 1).toNat = i.toNat by omega, hr_s hp _ _ (show i.toNat < 84 by omega), PO_cf hP (by omega) (by omega), show i.toNat + 1 = (i + 1).toNat by omega]
        have e9 := cf_zi hp f i.toNat
        rw [show ((i.toNat : Nat) : Int) = i by omega] at e9
        rw [e9])
  exact li _ (dgi hp f) (0) h rfl (Fr.rf [] h) (by omega) (by
        rw [hr_z hp (zi hp x) (fun i hi => dgi_dl hp hpo i (by omega)), f_zero hp])
set_option maxHeartbeats 4000000 in
set_option maxRecDepth 100000 in
theorem sT_line (N : GN) (h : GH) (B r p : Nat) (hp : prm p) (hp2 : p ≤ 65536) (c : Int) (f : Px p) (a : Int) (a0 : 0 ≤ a) (a1 : a < p) (hq : h.2 (B + 24) = some (oB 3 [.ref (B + 1), .ref (B + 25), .ref (B + 26), .int (gI (c))])) (hfl : h.2 (B + 1) = some (oB 1 [.int (gI ((p : Int)))])) (hr : RP hp 84 h r f) (hd : 0 ≤ dgi hp f) (hd2 : dgi hp f < 83) (or1 : B + 25 ≤ r) : Sp N yX3_multiplyByLine mX3_multiplyByLine 0 0 [.ref (B + 24), .ref (r), .long (gJ (a))] h (fun v h1 => v = none ∧ Fr [r] h h1 ∧ RP hp 84 h1 r (pml hp f (lin hp (zi hp a)))) := by
  refine Sp.of (by decide) rfl rfl (Nat.le_of_ble_eq_true rfl) ?_
  show Go N mX3_multiplyByLine _ 0 0 h 0 [(0, .ref (B + 24)), (1, .ref (r)), (2, .long (gJ (a)))] []
  have hp1 := hp.1
  have ne0 : NE (B + 24) (B + 1) := by unfold NE; omega
  have ne1 : NE (B + 24) (r) := by unfold NE; omega
  have ne2 : NE (B + 24) (r + 1) := by unfold NE; omega
  have ne3 : NE (B + 1) (r) := by unfold NE; omega
  have ne4 : NE (B + 1) (r + 1) := by unfold NE; omega
  have ne5 : NE (r) (r + 1) := by unfold NE; omega
  have hlt := hr.lt
  obtain ⟨g, ⟨hr1, hr2, hr3, hr4, hr5, hr6, hr7⟩, hP⟩ := hr
  refine g_aload_n 1 dX3_multiplyByLine_0 rfl ?_
  refine g_getf 1 dX3_multiplyByLine_1 kX5 (by decide) fX3_45 hr1 rfl ?_
  refine g_iconst dX3_multiplyByLine_4 ?_
  refine g_iadd dX3_multiplyByLine_5 ?_
  refine g_istore (ls2 := [(4, .int (gI ((dgi hp f) + (1)))), (0, .ref (B + 24)), (1, .ref (r)), (2, .long (gJ (a)))]) dX3_multiplyByLine_6 (by decide) rfl ?_
  refine g_iload 0 dX3_multiplyByLine_8 rfl ?_
  refine g_istore (ls2 := [(5, .int (gI ((dgi hp f) + (1)))), (4, .int (gI ((dgi hp f) + (1)))), (0, .ref (B + 24)), (1, .ref (r)), (2, .long (gJ (a)))]) dX3_multiplyByLine_10 (by decide) rfl ?_
  have lk : ∀ (kk : Nat) (k : Int) (hlk : GH), kk = (k + 1).toNat → Fr [r] h hlk → hlk.2 (r) = some (oB 5 [.ref (r + 1), .int (gI (dgi hp f))]) → hlk.2 (r + 1) = some (aJ 84 (mlL p g a (dgi hp f) k)) → (-1 ≤ k ∧ k ≤ dgi hp f + 1) → Go N mX3_multiplyByLine (fun v h1 => v = none ∧ Fr [r] h h1 ∧ RP hp 84 h1 r (pml hp f (lin hp (zi hp a)))) 0 0 hlk 12 [(5, .int (gI (k))), (4, .int (gI ((dgi hp f) + (1)))), (0, .ref (B + 24)), (1, .ref (r)), (2, .long (gJ (a)))] [] := by
    refine Go.ind (fun kk ih_lk => ?_)
    intro k hlk hkk_lk fr_lk cf_lk_0 cf_lk_1 hk
    have cg_lk_0 : hlk.2 (B + 24) = some (oB 3 [.ref (B + 1), .ref (B + 25), .ref (B + 26), .int (gI (c))]) := Fr.at0 fr_lk (Ni.c ⟨ne1, ne2⟩ (Ni.n _)) hq
    have cg_lk_1 : hlk.2 (B + 1) = some (oB 1 [.int (gI ((p : Int)))]) := Fr.at0 fr_lk (Ni.c ⟨ne3, ne4⟩ (Ni.n _)) hfl
    refine g_iload 0 dX3_multiplyByLine_12 rfl ?_
    refine g_if_lt (tgt := 68) dX3_multiplyByLine_14 rfl (by unfold gW; omega) (fun c101 => ?_) (fun c101 => ?_)
    · skip
      refine g_aload_n 3 dX3_multiplyByLine_68 rfl ?_
      refine g_iload 1 dX3_multiplyByLine_69 rfl ?_
      refine g_putf 1 dX3_multiplyByLine_71 kX5 (by decide) fX3_45 rfl cf_lk_0 (Nat.le_of_ble_eq_true rfl) rfl rfl ?_
      obtain ⟨hh102, eh102⟩ : ∃ z : GH, z = hset hlk (r) (oB 5 [.ref (r + 1), .int (gI ((dgi hp f) + (1)))]) := ⟨_, rfl⟩
      refine Go.hp eh102.symm ?_
      have fh102_0 : hh102.2 (B + 24) = some (oB 3 [.ref (B + 1), .ref (B + 25), .ref (B + 26), .int (gI (c))]) := hs_n eh102 ne1 cg_lk_0
      have fh102_1 : hh102.2 (B + 1) = some (oB 1 [.int (gI ((p : Int)))]) := hs_n eh102 ne3 cg_lk_1
      have fh102_2 : hh102.2 (r) = some (oB 5 [.ref (r + 1), .int (gI ((dgi hp f) + (1)))]) := hs_s eh102
      have fh102_3 : hh102.2 (r + 1) = some (aJ 84 (mlL p g a (dgi hp f) k)) := hs_n eh102 (ne5).s cf_lk_1
      have fr102 : Fr [r] h hh102 := Fr.w0 fr_lk (List.Mem.head _) eh102
      exact g_vret dX3_multiplyByLine_74 rfl ⟨rfl, fr102, by
      have hk1 : k = -1 := by omega
      have hE := fh102_3
      rw [hk1] at hE
      exact RP.mk fh102_2 hE ⟨by omega, by omega, by omega⟩ (mlL_PO hP hd) hp2⟩
    · skip
      refine g_iload 0 dX3_multiplyByLine_17 rfl ?_
      refine g_if_le (tgt := 34) dX3_multiplyByLine_19 rfl (by unfold gW; omega) (fun c103 => ?_) (fun c103 => ?_)
      · skip
        refine g_lconst0 dX3_multiplyByLine_34 ?_
        have hbl : (if 0 < k then g (k - 1) else 0) = 0 := if_neg (by omega)
        rw [← hbl]
        refine g_lstore (ls2 := [(6, .long (gJ (if 0 < k then g (k - 1) else 0))), (5, .int (gI (k))), (4, .int (gI ((dgi hp f) + (1)))), (0, .ref (B + 24)), (1, .ref (r)), (2, .long (gJ (a)))]) dX3_multiplyByLine_35 (by decide) rfl ?_
        refine g_aload_n 4 dX3_multiplyByLine_37 rfl ?_
        refine g_getf 0 dX3_multiplyByLine_38 kX5 (by decide) fX3_48 cf_lk_0 rfl ?_
        refine g_iload 1 dX3_multiplyByLine_41 rfl ?_
        refine g_aload_n 3 dX3_multiplyByLine_43 rfl ?_
        refine g_getf 0 dX3_multiplyByLine_44 kX3 (by decide) fX3_18 cg_lk_0 rfl ?_
        refine g_lload 0 dX3_multiplyByLine_47 rfl ?_
        refine g_lload_n 5 dX3_multiplyByLine_49 rfl ?_
        refine g_aload_n 4 dX3_multiplyByLine_50 rfl ?_
        refine g_iload 1 dX3_multiplyByLine_51 rfl ?_
        refine g_callV (nc2 := 0) (ns2 := 0) (ci := 5) (As := [.int (gI (k))]) (st := [.long (gJ (a)), .long (gJ (if 0 < k then g (k - 1) else 0)), .ref (B + 1), .int (gI (k)), .ref (r + 1)]) rfl dX3_multiplyByLine_53 okX5_number lX3_51 itX5_number seX5_number rfl cf_lk_0 (by decide) (by decide) rfl (Nat.le_of_ble_eq_true rfl) (sX5_number N _ (r) (r + 1) 84 (dgi hp f) (k) (mlL p g a (dgi hp f) k) (by omega) (by omega) (by unfold gW; omega) (by omega) (by omega) cf_lk_0 cf_lk_1) (by omega) (by omega) (fun v104 hc104 q104 => ?_)
        obtain ⟨hq105, rfl⟩ := q104
        refine Go.nf (h' := hlk) (st' := [.long (gJ (if 0 ≤ k ∧ k ≤ dgi hp f then (mlL p g a (dgi hp f) k) (k) else 0)), .long (gJ (a)), .long (gJ (if 0 < k then g (k - 1) else 0)), .ref (B + 1), .int (gI (k)), .ref (r + 1)]) hq105 rfl (Nat.le_refl _) (Nat.le_refl _) ?_
        rw [mlL_lo g (Int.le_refl k)]
        have bn : 0 ≤ (if 0 ≤ k ∧ k ≤ dgi hp f then g k else 0) ∧ (if 0 ≤ k ∧ k ≤ dgi hp f then g k else 0) < p := by
          split
          · rename_i z; exact hP.2.1 k z.1 z.2
          · omega
        have bb : 0 ≤ (if 0 < k then g (k - 1) else 0) ∧ (if 0 < k then g (k - 1) else 0) < p := by
          split
          · exact hP.2.1 (k - 1) (by omega) (by omega)
          · omega
        have bp := g_prod a0 a1 bn.1 bn.2 (show (p : Int) ≤ 65536 by omega)
        have bx : gX ((if 0 < k then g (k - 1) else 0) - a * (if 0 ≤ k ∧ k ≤ dgi hp f then g k else 0)) := by
          unfold gX
          generalize a * (if 0 ≤ k ∧ k ≤ dgi hp f then g k else 0) = z1 at *
          generalize (if 0 < k then g (k - 1) else 0) = z2 at *
          omega
        refine g_lmul dX3_multiplyByLine_56 ?_
        refine g_lsub dX3_multiplyByLine_57 ?_
        refine g_callV (nc2 := 0) (ns2 := 0) (ci := 1) (As := [.long (gJ ((if 0 < k then g (k - 1) else 0) - ((a) * (if 0 ≤ k ∧ k ≤ dgi hp f then g k else 0))))]) (st := [.int (gI (k)), .ref (r + 1)]) rfl dX3_multiplyByLine_58 okX1_mod lX3_36 itX1_mod seX1_mod rfl cg_lk_1 (by decide) (by decide) rfl (Nat.le_of_ble_eq_true rfl) (sX1_mod N _ (B + 1) (p : Int) ((if 0 < k then g (k - 1) else 0) - ((a) * (if 0 ≤ k ∧ k ≤ dgi hp f then g k else 0))) bx (by omega) (by omega) cg_lk_1) (by omega) (by omega) (fun v106 hc106 q106 => ?_)
        obtain ⟨hq107, rfl⟩ := q106
        rw [gMod_em (show (0 : Int) < p by omega)]
        refine Go.nf (h' := hlk) (st' := [.long (gJ (((if 0 < k then g (k - 1) else 0) - ((a) * (if 0 ≤ k ∧ k ≤ dgi hp f then g k else 0))) % (p : Int))), .int (gI (k)), .ref (r + 1)]) hq107 rfl (Nat.le_refl _) (Nat.le_refl _) ?_
        refine g_lastore dX3_multiplyByLine_61 cf_lk_1 (by omega) (by omega) (by omega) ?_
        obtain ⟨hh108, eh108⟩ : ∃ z : GH, z = hset hlk (r + 1) (aJ 84 (gup (mlL p g a (dgi hp f) k) (k) (((if 0 < k then g (k - 1) else 0) - ((a) * (if 0 ≤ k ∧ k ≤ dgi hp f then g k else 0))) % (p : Int)))) := ⟨_, rfl⟩
        refine Go.hp eh108.symm ?_
        have fh108_0 : hh108.2 (B + 24) = some (oB 3 [.ref (B + 1), .ref (B + 25), .ref (B + 26), .int (gI (c))]) := hs_n eh108 ne2 cg_lk_0
        have fh108_1 : hh108.2 (B + 1) = some (oB 1 [.int (gI ((p : Int)))]) := hs_n eh108 ne4 cg_lk_1
        have fh108_2 : hh108.2 (r) = some (oB 5 [.ref (r + 1), .int (gI (dgi hp f))]) := hs_n eh108 ne5 cf_lk_0
        have fh108_3 : hh108.2 (r + 1) = some (aJ 84 (gup (mlL p g a (dgi hp f) k) (k) (((if 0 < k then g (k - 1) else 0) - ((a) * (if 0 ≤ k ∧ k ≤ dgi hp f then g k else 0))) % (p : Int)))) := hs_s eh108
        have fr108 : Fr [r] h hh108 := Fr.w1 fr_lk (List.Mem.head _) eh108
        refine g_iinc 1 (ls2 := [(5, .int (gI (k + (-1)))), (6, .long (gJ (if 0 < k then g (k - 1) else 0))), (4, .int (gI ((dgi hp f) + (1)))), (0, .ref (B + 24)), (1, .ref (r)), (2, .long (gJ (a)))]) dX3_multiplyByLine_62 rfl (by decide) rfl ?_
        refine g_goto (tgt := 12) dX3_multiplyByLine_65 rfl ?_
        refine Go.sub [0, 2, 3, 4, 5] rfl ?_
        exact ih_lk _ (by omega) (k + (-1)) hh108 rfl fr108 fh108_2 (by rw [← mlL_s g hk.2]; exact fh108_3) (by omega)
      · skip
        refine g_aload_n 3 dX3_multiplyByLine_22 rfl ?_
        refine g_getf 0 dX3_multiplyByLine_23 kX5 (by decide) fX3_48 cf_lk_0 rfl ?_
        refine g_iload 0 dX3_multiplyByLine_26 rfl ?_
        refine g_iconst dX3_multiplyByLine_28 ?_
        refine g_isub dX3_multiplyByLine_29 ?_
        refine g_laload dX3_multiplyByLine_30 cf_lk_1 (by omega) (by omega) (by omega) ?_
        refine g_goto (tgt := 35) dX3_multiplyByLine_31 rfl ?_
        rw [mlL_lo g (show k - 1 ≤ k by omega)]
        have hbl : (if 0 < k then g (k - 1) else 0) = g (k - 1) := if_pos (by omega)
        rw [← hbl]
        refine g_lstore (ls2 := [(6, .long (gJ (if 0 < k then g (k - 1) else 0))), (5, .int (gI (k))), (4, .int (gI ((dgi hp f) + (1)))), (0, .ref (B + 24)), (1, .ref (r)), (2, .long (gJ (a)))]) dX3_multiplyByLine_35 (by decide) rfl ?_
        refine g_aload_n 4 dX3_multiplyByLine_37 rfl ?_
        refine g_getf 0 dX3_multiplyByLine_38 kX5 (by decide) fX3_48 cf_lk_0 rfl ?_
        refine g_iload 1 dX3_multiplyByLine_41 rfl ?_
        refine g_aload_n 3 dX3_multiplyByLine_43 rfl ?_
        refine g_getf 0 dX3_multiplyByLine_44 kX3 (by decide) fX3_18 cg_lk_0 rfl ?_
        refine g_lload 0 dX3_multiplyByLine_47 rfl ?_
        refine g_lload_n 5 dX3_multiplyByLine_49 rfl ?_
        refine g_aload_n 4 dX3_multiplyByLine_50 rfl ?_
        refine g_iload 1 dX3_multiplyByLine_51 rfl ?_
        refine g_callV (nc2 := 0) (ns2 := 0) (ci := 5) (As := [.int (gI (k))]) (st := [.long (gJ (a)), .long (gJ (if 0 < k then g (k - 1) else 0)), .ref (B + 1), .int (gI (k)), .ref (r + 1)]) rfl dX3_multiplyByLine_53 okX5_number lX3_51 itX5_number seX5_number rfl cf_lk_0 (by decide) (by decide) rfl (Nat.le_of_ble_eq_true rfl) (sX5_number N _ (r) (r + 1) 84 (dgi hp f) (k) (mlL p g a (dgi hp f) k) (by omega) (by omega) (by unfold gW; omega) (by omega) (by omega) cf_lk_0 cf_lk_1) (by omega) (by omega) (fun v109 hc109 q109 => ?_)
        obtain ⟨hq110, rfl⟩ := q109
        refine Go.nf (h' := hlk) (st' := [.long (gJ (if 0 ≤ k ∧ k ≤ dgi hp f then (mlL p g a (dgi hp f) k) (k) else 0)), .long (gJ (a)), .long (gJ (if 0 < k then g (k - 1) else 0)), .ref (B + 1), .int (gI (k)), .ref (r + 1)]) hq110 rfl (Nat.le_refl _) (Nat.le_refl _) ?_
        rw [mlL_lo g (Int.le_refl k)]
        have bn : 0 ≤ (if 0 ≤ k ∧ k ≤ dgi hp f then g k else 0) ∧ (if 0 ≤ k ∧ k ≤ dgi hp f then g k else 0) < p := by
          split
          · rename_i z; exact hP.2.1 k z.1 z.2
          · omega
        have bb : 0 ≤ (if 0 < k then g (k - 1) else 0) ∧ (if 0 < k then g (k - 1) else 0) < p := by
          split
          · exact hP.2.1 (k - 1) (by omega) (by omega)
          · omega
        have bp := g_prod a0 a1 bn.1 bn.2 (show (p : Int) ≤ 65536 by omega)
        have bx : gX ((if 0 < k then g (k - 1) else 0) - a * (if 0 ≤ k ∧ k ≤ dgi hp f then g k else 0)) := by
          unfold gX
          generalize a * (if 0 ≤ k ∧ k ≤ dgi hp f then g k else 0) = z1 at *
          generalize (if 0 < k then g (k - 1) else 0) = z2 at *
          omega
        refine g_lmul dX3_multiplyByLine_56 ?_
        refine g_lsub dX3_multiplyByLine_57 ?_
        refine g_callV (nc2 := 0) (ns2 := 0) (ci := 1) (As := [.long (gJ ((if 0 < k then g (k - 1) else 0) - ((a) * (if 0 ≤ k ∧ k ≤ dgi hp f then g k else 0))))]) (st := [.int (gI (k)), .ref (r + 1)]) rfl dX3_multiplyByLine_58 okX1_mod lX3_36 itX1_mod seX1_mod rfl cg_lk_1 (by decide) (by decide) rfl (Nat.le_of_ble_eq_true rfl) (sX1_mod N _ (B + 1) (p : Int) ((if 0 < k then g (k - 1) else 0) - ((a) * (if 0 ≤ k ∧ k ≤ dgi hp f then g k else 0))) bx (by omega) (by omega) cg_lk_1) (by omega) (by omega) (fun v111 hc111 q111 => ?_)
        obtain ⟨hq112, rfl⟩ := q111
        rw [gMod_em (show (0 : Int) < p by omega)]
        refine Go.nf (h' := hlk) (st' := [.long (gJ (((if 0 < k then g (k - 1) else 0) - ((a) * (if 0 ≤ k ∧ k ≤ dgi hp f then g k else 0))) % (p : Int))), .int (gI (k)), .ref (r + 1)]) hq112 rfl (Nat.le_refl _) (Nat.le_refl _) ?_
        refine g_lastore dX3_multiplyByLine_61 cf_lk_1 (by omega) (by omega) (by omega) ?_
        obtain ⟨hh113, eh113⟩ : ∃ z : GH, z = hset hlk (r + 1) (aJ 84 (gup (mlL p g a (dgi hp f) k) (k) (((if 0 < k then g (k - 1) else 0) - ((a) * (if 0 ≤ k ∧ k ≤ dgi hp f then g k else 0))) % (p : Int)))) := ⟨_, rfl⟩
        refine Go.hp eh113.symm ?_
        have fh113_0 : hh113.2 (B + 24) = some (oB 3 [.ref (B + 1), .ref (B + 25), .ref (B + 26), .int (gI (c))]) := hs_n eh113 ne2 cg_lk_0
        have fh113_1 : hh113.2 (B + 1) = some (oB 1 [.int (gI ((p : Int)))]) := hs_n eh113 ne4 cg_lk_1
        have fh113_2 : hh113.2 (r) = some (oB 5 [.ref (r + 1), .int (gI (dgi hp f))]) := hs_n eh113 ne5 cf_lk_0
        have fh113_3 : hh113.2 (r + 1) = some (aJ 84 (gup (mlL p g a (dgi hp f) k) (k) (((if 0 < k then g (k - 1) else 0) - ((a) * (if 0 ≤ k ∧ k ≤ dgi hp f then g k else 0))) % (p : Int)))) := hs_s eh113
        have fr113 : Fr [r] h hh113 := Fr.w1 fr_lk (List.Mem.head _) eh113
        refine g_iinc 1 (ls2 := [(5, .int (gI (k + (-1)))), (6, .long (gJ (if 0 < k then g (k - 1) else 0))), (4, .int (gI ((dgi hp f) + (1)))), (0, .ref (B + 24)), (1, .ref (r)), (2, .long (gJ (a)))]) dX3_multiplyByLine_62 rfl (by decide) rfl ?_
        refine g_goto (tgt := 12) dX3_multiplyByLine_65 rfl ?_
        refine Go.sub [0, 2, 3, 4, 5] rfl ?_
        exact ih_lk _ (by omega) (k + (-1)) hh113 rfl fr113 fh113_2 (by rw [← mlL_s g hk.2]; exact fh113_3) (by omega)
  exact lk _ (dgi hp f + 1) h rfl (Fr.rf [r] h) hr1 (by rw [mlL_0]; exact hr2) (by omega)
set_option maxHeartbeats 4000000 in
set_option maxRecDepth 100000 in
theorem sT_meet (N : GN) (h : GH) (B o q p : Nat) (hp : prm p) (hp2 : p ≤ 65536) (c : Int) (gx gv : Int → Int) (hq : h.2 (B + 24) = some (oB 3 [.ref (B + 1), .ref (B + 25), .ref (B + 26), .int (gI (c))])) (hfl : h.2 (B + 1) = some (oB 1 [.int (gI ((p : Int)))])) (hxa : h.2 (B + 25) = some (aJ 41 gx)) (hva : h.2 (B + 26) = some (aJ 41 gv)) (hc : 0 ≤ c ∧ c ≤ 41) (hx : ∀ k, 0 ≤ k → k < c → 0 ≤ gx k ∧ gx k < p) (hv : ∀ k, 0 ≤ k → k < c → 0 ≤ gv k ∧ gv k < p) (ho : RA 84 h o) (hqr : RA 84 h q) (aoq : AP o q) (oo : B + 27 ≤ o) (oq : B + 27 ≤ q) : Sp N yX3_meet mX3_meet 0 0 [.ref (B + 24), .ref (o), .ref (q)] h (fun v h1 => v = none ∧ Fr [o, q] h h1 ∧ RP hp 84 h1 o (nwO hp (fun i => zi hp (gx i)) (fun i => zi hp (gv i)) (c).toNat) ∧ RA 84 h1 q) := by
  refine Sp.of (by decide) rfl rfl (Nat.le_of_ble_eq_true rfl) ?_
  show Go N mX3_meet _ 0 0 h 0 [(0, .ref (B + 24)), (1, .ref (o)), (2, .ref (q))] []
  have hp1 := hp.1
  have ne0 : NE (B + 24) (B + 1) := by unfold NE; omega
  have ne1 : NE (B + 24) (B + 25) := by unfold NE; omega
  have ne2 : NE (B + 24) (B + 26) := by unfold NE; omega
  have ne3 : NE (B + 24) (o) := by unfold NE; omega
  have ne4 : NE (B + 24) (o + 1) := by unfold NE; omega
  have ne5 : NE (B + 24) (q) := by unfold NE; omega
  have ne6 : NE (B + 24) (q + 1) := by unfold NE; omega
  have ne7 : NE (B + 1) (B + 25) := by unfold NE; omega
  have ne8 : NE (B + 1) (B + 26) := by unfold NE; omega
  have ne9 : NE (B + 1) (o) := by unfold NE; omega
  have ne10 : NE (B + 1) (o + 1) := by unfold NE; omega
  have ne11 : NE (B + 1) (q) := by unfold NE; omega
  have ne12 : NE (B + 1) (q + 1) := by unfold NE; omega
  have ne13 : NE (B + 25) (B + 26) := by unfold NE; omega
  have ne14 : NE (B + 25) (o) := by unfold NE; omega
  have ne15 : NE (B + 25) (o + 1) := by unfold NE; omega
  have ne16 : NE (B + 25) (q) := by unfold NE; omega
  have ne17 : NE (B + 25) (q + 1) := by unfold NE; omega
  have ne18 : NE (B + 26) (o) := by unfold NE; omega
  have ne19 : NE (B + 26) (o + 1) := by unfold NE; omega
  have ne20 : NE (B + 26) (q) := by unfold NE; omega
  have ne21 : NE (B + 26) (q + 1) := by unfold NE; omega
  have ne22 : NE (o) (o + 1) := by unfold NE; omega
  have ne23 : NE (o) (q) := aoq.n00
  have ne24 : NE (o) (q + 1) := aoq.n01
  have ne25 : NE (o + 1) (q) := aoq.n10
  have ne26 : NE (o + 1) (q + 1) := aoq.n11
  have ne27 : NE (q) (q + 1) := by unfold NE; omega
  refine g_aload_n 1 dX3_meet_0 rfl ?_
  refine g_lconst0 dX3_meet_1 ?_
  refine g_callV (nc2 := 0) (ns2 := 0) (ci := 5) (As := [.long (gJ (0))]) (st := []) rfl dX3_meet_2 okX5_become lX3_26 itX5_become seX5_become rfl (Classical.choose_spec (RA.o ho)) (by decide) (by decide) rfl (Nat.le_of_ble_eq_true rfl) (sP_become N _ (o) 84 p hp hp2 (0) (by omega) (by omega) ho) (by omega) (by omega) (fun v1 hc1 q1 => ?_)
  obtain ⟨rfl, frc2, rn2_0⟩ := q1
  have fk3_0 : hc1.2 (B + 24) = some (oB 3 [.ref (B + 1), .ref (B + 25), .ref (B + 26), .int (gI (c))]) := Fr.at0 frc2 (Ni.c ⟨ne3, ne4⟩ (Ni.n _)) hq
  have fk3_1 : hc1.2 (B + 1) = some (oB 1 [.int (gI ((p : Int)))]) := Fr.at0 frc2 (Ni.c ⟨ne9, ne10⟩ (Ni.n _)) hfl
  have fk3_2 : hc1.2 (B + 25) = some (aJ 41 (gx)) := Fr.at0 frc2 (Ni.c ⟨ne14, ne15⟩ (Ni.n _)) hxa
  have fk3_3 : hc1.2 (B + 26) = some (aJ 41 (gv)) := Fr.at0 frc2 (Ni.c ⟨ne18, ne19⟩ (Ni.n _)) hva
  have rk3_1 : RA 84 hc1 (q) := (hqr).fr frc2 (Ai.c (aoq).s (Ai.n _))
  have fr3 : Fr [o, q] h hc1 := ((Fr.rf [o, q] h)).tr ((frc2).mo (sub_c (List.Mem.head _) sub_n))
  refine Go.nf (h' := hc1) (st' := []) rfl rfl (Nat.le_refl _) (Nat.le_refl _) ?_
  refine g_aload_n 2 dX3_meet_5 rfl ?_
  refine g_lconst1 dX3_meet_6 ?_
  refine g_callV (nc2 := 0) (ns2 := 0) (ci := 5) (As := [.long (gJ (1))]) (st := []) rfl dX3_meet_7 okX5_become lX3_26 itX5_become seX5_become rfl (Classical.choose_spec (RA.o rk3_1)) (by decide) (by decide) rfl (Nat.le_of_ble_eq_true rfl) (sP_become N _ (q) 84 p hp hp2 (1) (by omega) (by omega) rk3_1) (by omega) (by omega) (fun v4 hc4 q4 => ?_)
  obtain ⟨rfl, frc5, rn5_0⟩ := q4
  have fk6_0 : hc4.2 (B + 24) = some (oB 3 [.ref (B + 1), .ref (B + 25), .ref (B + 26), .int (gI (c))]) := Fr.at0 frc5 (Ni.c ⟨ne5, ne6⟩ (Ni.n _)) fk3_0
  have fk6_1 : hc4.2 (B + 1) = some (oB 1 [.int (gI ((p : Int)))]) := Fr.at0 frc5 (Ni.c ⟨ne11, ne12⟩ (Ni.n _)) fk3_1
  have fk6_2 : hc4.2 (B + 25) = some (aJ 41 (gx)) := Fr.at0 frc5 (Ni.c ⟨ne16, ne17⟩ (Ni.n _)) fk3_2
  have fk6_3 : hc4.2 (B + 26) = some (aJ 41 (gv)) := Fr.at0 frc5 (Ni.c ⟨ne20, ne21⟩ (Ni.n _)) fk3_3
  have rk6_1 : RP hp 84 hc4 (o) (cz hp (zi hp (0))) := (rn2_0).fr frc5 (Ai.c aoq (Ai.n _))
  have fr6 : Fr [o, q] h hc4 := (fr3).tr ((frc5).mo (sub_c (List.Mem.tail _ (List.Mem.head _)) sub_n))
  refine Go.nf (h' := hc4) (st' := []) rfl rfl (Nat.le_refl _) (Nat.le_refl _) ?_
  refine g_iconst dX3_meet_10 ?_
  refine g_istore_n (ls2 := [(3, .int (gI (0))), (0, .ref (B + 24)), (1, .ref (o)), (2, .ref (q))]) dX3_meet_11 rfl (by decide) rfl ?_
  have lk : ∀ (kk : Nat) (k : Int) (hlk : GH), kk = (c - k).toNat → Fr [o, q] h hlk → RP hp 84 hlk (o) (nwO hp (fun i => zi hp (gx i)) (fun i => zi hp (gv i)) (k).toNat) → RP hp 84 hlk (q) (nwP hp (fun i => zi hp (gx i)) (k).toNat) → (0 ≤ k ∧ k ≤ c) → Go N mX3_meet (fun v h1 => v = none ∧ Fr [o, q] h h1 ∧ RP hp 84 h1 o (nwO hp (fun i => zi hp (gx i)) (fun i => zi hp (gv i)) (c).toNat) ∧ RA 84 h1 q) 0 0 hlk 12 [(3, .int (gI (k))), (0, .ref (B + 24)), (1, .ref (o)), (2, .ref (q))] [] := by
    refine Go.ind (fun kk ih_lk => ?_)
    intro k hlk hkk_lk fr_lk cr_lk_0 cr_lk_1 hk
    have cg_lk_0 : hlk.2 (B + 24) = some (oB 3 [.ref (B + 1), .ref (B + 25), .ref (B + 26), .int (gI (c))]) := Fr.at0 fr_lk (Ni.c ⟨ne3, ne4⟩ (Ni.c ⟨ne5, ne6⟩ (Ni.n _))) hq
    have cg_lk_1 : hlk.2 (B + 1) = some (oB 1 [.int (gI ((p : Int)))]) := Fr.at0 fr_lk (Ni.c ⟨ne9, ne10⟩ (Ni.c ⟨ne11, ne12⟩ (Ni.n _))) hfl
    have cg_lk_2 : hlk.2 (B + 25) = some (aJ 41 (gx)) := Fr.at0 fr_lk (Ni.c ⟨ne14, ne15⟩ (Ni.c ⟨ne16, ne17⟩ (Ni.n _))) hxa
    have cg_lk_3 : hlk.2 (B + 26) = some (aJ 41 (gv)) := Fr.at0 fr_lk (Ni.c ⟨ne18, ne19⟩ (Ni.c ⟨ne20, ne21⟩ (Ni.n _))) hva
    have hPd := nwP_dg hp (fun i => zi hp (gx i)) k.toNat
    have hOd := nwO_dg hp (fun i => zi hp (gx i)) (fun i => zi hp (gv i)) k.toNat
    refine g_iload_n 0 dX3_meet_12 rfl ?_
    refine g_aload_n 1 dX3_meet_13 rfl ?_
    refine g_getf 3 dX3_meet_14 kX3 (by decide) fX3_22 cg_lk_0 rfl ?_
    refine g_icmp_ge (tgt := 151) dX3_meet_17 rfl (by unfold gW; omega) (by unfold gW; omega) (fun c107 => ?_) (fun c107 => ?_)
    · skip
      exact g_vret dX3_meet_151 rfl ⟨rfl, fr_lk, by
      have hkc : k = c := by omega
      rw [← hkc]
      exact cr_lk_0, (cr_lk_1).ra⟩
    · skip
      refine g_aload_n 1 dX3_meet_20 rfl ?_
      refine g_getf 0 dX3_meet_21 kX3 (by decide) fX3_18 cg_lk_0 rfl ?_
      refine g_aload_n 1 dX3_meet_24 rfl ?_
      refine g_getf 2 dX3_meet_25 kX3 (by decide) fX3_15 cg_lk_0 rfl ?_
      have hxk := hx k hk.1 (by omega)
      have hvk := hv k hk.1 (by omega)
      refine g_iload_n 0 dX3_meet_28 rfl ?_
      refine g_laload dX3_meet_29 cg_lk_3 (by omega) (by omega) (by omega) ?_
      refine g_aload_n 1 dX3_meet_30 rfl ?_
      refine g_aload_n 2 dX3_meet_31 rfl ?_
      refine g_aload_n 1 dX3_meet_32 rfl ?_
      refine g_getf 1 dX3_meet_33 kX3 (by decide) fX3_9 cg_lk_0 rfl ?_
      refine g_iload_n 0 dX3_meet_36 rfl ?_
      refine g_laload dX3_meet_37 cg_lk_2 (by omega) (by omega) (by omega) ?_
      refine g_callV (nc2 := 0) (ns2 := 0) (ci := 3) (As := [.ref (o), .long (gJ ((gx) (k)))]) (st := [.long (gJ ((gv) (k))), .ref (B + 1)]) rfl dX3_meet_38 okX3_valueOf lX3_32 itX3_valueOf seX3_valueOf rfl cg_lk_0 (by decide) (by decide) rfl (Nat.le_of_ble_eq_true rfl) (sT_valueOf N _ B (o) p hp hp2 c (nwO hp (fun i => zi hp (gx i)) (fun i => zi hp (gv i)) (k).toNat) ((gx) (k)) hxk.1 hxk.2 cg_lk_0 cg_lk_1 cr_lk_0) (by omega) (by omega) (fun v108 hc108 q108 => ?_)
      obtain ⟨hq109, rfl⟩ := q108
      refine Go.nf (h' := hlk) (st' := [.long (gJ (fv (ev hp (nwO hp (fun i => zi hp (gx i)) (fun i => zi hp (gv i)) (k).toNat) (zi hp ((gx) (k)))))), .long (gJ ((gv) (k))), .ref (B + 1)]) hq109 rfl (Nat.le_refl _) (Nat.le_refl _) ?_
      refine g_lsub dX3_meet_41 ?_
      have hl1 := fv_lt (ev hp (nwO hp (fun i => zi hp (gx i)) (fun i => zi hp (gv i)) (k).toNat) (zi hp (gx k)))
      refine g_callV (nc2 := 0) (ns2 := 0) (ci := 1) (As := [.long (gJ (((gv) (k)) - (fv (ev hp (nwO hp (fun i => zi hp (gx i)) (fun i => zi hp (gv i)) (k).toNat) (zi hp ((gx) (k)))))))]) (st := []) rfl dX3_meet_42 okX1_mod lX3_36 itX1_mod seX1_mod rfl cg_lk_1 (by decide) (by decide) rfl (Nat.le_of_ble_eq_true rfl) (sX1_mod N _ (B + 1) (p : Int) (((gv) (k)) - (fv (ev hp (nwO hp (fun i => zi hp (gx i)) (fun i => zi hp (gv i)) (k).toNat) (zi hp ((gx) (k)))))) (by unfold gX; omega) (by omega) (by omega) cg_lk_1) (by omega) (by omega) (fun v110 hc110 q110 => ?_)
      obtain ⟨hq111, rfl⟩ := q110
      rw [gMod_em (show (0 : Int) < p by omega)]
      refine Go.nf (h' := hlk) (st' := [.long (gJ ((((gv) (k)) - (fv (ev hp (nwO hp (fun i => zi hp (gx i)) (fun i => zi hp (gv i)) (k).toNat) (zi hp ((gx) (k)))))) % (p : Int)))]) hq111 rfl (Nat.le_refl _) (Nat.le_refl _) ?_
      obtain ⟨G, hG⟩ : ∃ G : Int, G = (((gv) (k)) - (fv (ev hp (nwO hp (fun i => zi hp (gx i)) (fun i => zi hp (gv i)) (k).toNat) (zi hp ((gx) (k)))))) % (p : Int) := ⟨_, rfl⟩
      have hGb : 0 ≤ G ∧ G < p := by rw [hG]; exact em_in hp _
      rw [← hG]
      refine g_lstore (ls2 := [(4, .long (gJ (G))), (3, .int (gI (k))), (0, .ref (B + 24)), (1, .ref (o)), (2, .ref (q))]) dX3_meet_45 (by decide) rfl ?_
      refine g_aload_n 2 dX3_meet_47 rfl ?_
      refine g_getf 0 dX3_meet_48 kX3 (by decide) fX3_18 cg_lk_0 rfl ?_
      refine g_lload 0 dX3_meet_51 rfl ?_
      refine g_aload_n 2 dX3_meet_53 rfl ?_
      refine g_getf 0 dX3_meet_54 kX3 (by decide) fX3_18 cg_lk_0 rfl ?_
      refine g_aload_n 2 dX3_meet_57 rfl ?_
      refine g_aload_n 4 dX3_meet_58 rfl ?_
      refine g_aload_n 2 dX3_meet_59 rfl ?_
      refine g_getf 1 dX3_meet_60 kX3 (by decide) fX3_9 cg_lk_0 rfl ?_
      refine g_iload_n 1 dX3_meet_63 rfl ?_
      refine g_laload dX3_meet_64 cg_lk_2 (by omega) (by omega) (by omega) ?_
      refine g_callV (nc2 := 0) (ns2 := 0) (ci := 3) (As := [.ref (q), .long (gJ ((gx) (k)))]) (st := [.ref (B + 1), .long (gJ (G)), .ref (B + 1)]) rfl dX3_meet_65 okX3_valueOf lX3_32 itX3_valueOf seX3_valueOf rfl cg_lk_0 (by decide) (by decide) rfl (Nat.le_of_ble_eq_true rfl) (sT_valueOf N _ B (q) p hp hp2 c (nwP hp (fun i => zi hp (gx i)) (k).toNat) ((gx) (k)) hxk.1 hxk.2 cg_lk_0 cg_lk_1 cr_lk_1) (by omega) (by omega) (fun v112 hc112 q112 => ?_)
      obtain ⟨hq113, rfl⟩ := q112
      refine Go.nf (h' := hlk) (st' := [.long (gJ (fv (ev hp (nwP hp (fun i => zi hp (gx i)) (k).toNat) (zi hp ((gx) (k)))))), .ref (B + 1), .long (gJ (G)), .ref (B + 1)]) hq113 rfl (Nat.le_refl _) (Nat.le_refl _) ?_
      refine g_callV (nc2 := 0) (ns2 := 0) (ci := 1) (As := [.long (gJ (fv (ev hp (nwP hp (fun i => zi hp (gx i)) (k).toNat) (zi hp ((gx) (k))))))]) (st := [.long (gJ (G)), .ref (B + 1)]) rfl dX3_meet_68 okX1_inverse lX3_42 itX1_inverse seX1_inverse rfl cg_lk_1 (by decide) (by decide) rfl (Nat.le_of_ble_eq_true rfl) (sP_inverse N _ (B + 1) p (by omega) hp2 (fv (ev hp (nwP hp (fun i => zi hp (gx i)) (k).toNat) (zi hp ((gx) (k))))) (by omega) (by have := fv_lt (ev hp (nwP hp (fun i => zi hp (gx i)) (k).toNat) (zi hp (gx k))); omega) cg_lk_1) (by omega) (by omega) (fun v114 hc114 q114 => ?_)
      obtain ⟨hq115, rfl⟩ := q114
      refine Go.nf (h' := hlk) (st' := [.long (gJ (ivr p (fv (ev hp (nwP hp (fun i => zi hp (gx i)) (k).toNat) (zi hp ((gx) (k))))))), .long (gJ (G)), .ref (B + 1)]) hq115 rfl (Nat.le_refl _) (Nat.le_refl _) ?_
      have hiv := ivr_in hp (fv (ev hp (nwP hp (fun i => zi hp (gx i)) (k).toNat) (zi hp (gx k))))
      have hgp := g_prod hGb.1 hGb.2 hiv.1 hiv.2 (show (p : Int) ≤ 65536 by omega)
      refine g_lmul dX3_meet_71 ?_
      refine g_callV (nc2 := 0) (ns2 := 0) (ci := 1) (As := [.long (gJ ((G) * (ivr p (fv (ev hp (nwP hp (fun i => zi hp (gx i)) (k).toNat) (zi hp ((gx) (k))))))))]) (st := []) rfl dX3_meet_72 okX1_mod lX3_36 itX1_mod seX1_mod rfl cg_lk_1 (by decide) (by decide) rfl (Nat.le_of_ble_eq_true rfl) (sX1_mod N _ (B + 1) (p : Int) ((G) * (ivr p (fv (ev hp (nwP hp (fun i => zi hp (gx i)) (k).toNat) (zi hp ((gx) (k))))))) (by unfold gX; omega) (by omega) (by omega) cg_lk_1) (by omega) (by omega) (fun v116 hc116 q116 => ?_)
      obtain ⟨hq117, rfl⟩ := q116
      rw [gMod_em (show (0 : Int) < p by omega)]
      refine Go.nf (h' := hlk) (st' := [.long (gJ (((G) * (ivr p (fv (ev hp (nwP hp (fun i => zi hp (gx i)) (k).toNat) (zi hp ((gx) (k))))))) % (p : Int)))]) hq117 rfl (Nat.le_refl _) (Nat.le_refl _) ?_
      obtain ⟨T, hT⟩ : ∃ T : Int, T = ((G) * (ivr p (fv (ev hp (nwP hp (fun i => zi hp (gx i)) (k).toNat) (zi hp ((gx) (k))))))) % (p : Int) := ⟨_, rfl⟩
      have hTb : 0 ≤ T ∧ T < p := by rw [hT]; exact em_in hp _
      rw [← hT]
      have hTc : zi hp T = nwC hp (nwO hp (fun i => zi hp (gx i)) (fun i => zi hp (gv i)) (k).toNat) (nwP hp (fun i => zi hp (gx i)) (k).toNat) (zi hp (gx k)) (zi hp (gv k)) := by
        letI := fR hp
        unfold nwC
        have hl2 := fv_lt (ev hp (nwP hp (fun i => zi hp (gx i)) (k).toNat) (zi hp (gx k)))
        rw [hT, zi_mod, zi_mul, hG, zi_mod, zi_sub, zi_of, ivr_pw hp (by omega) (by omega), zi_of]
      refine g_lstore (ls2 := [(6, .long (gJ (T))), (4, .long (gJ (G))), (3, .int (gI (k))), (0, .ref (B + 24)), (1, .ref (o)), (2, .ref (q))]) dX3_meet_75 (by decide) rfl ?_
      refine g_iconst dX3_meet_77 ?_
      refine g_istore (ls2 := [(8, .int (gI (0))), (6, .long (gJ (T))), (4, .long (gJ (G))), (3, .int (gI (k))), (0, .ref (B + 24)), (1, .ref (o)), (2, .ref (q))]) dX3_meet_78 (by decide) rfl ?_
      have hq0 := cr_lk_1
      obtain ⟨g, ⟨x1, x2, x3, x4, x5, x6, x7⟩, xP⟩ := cr_lk_0
      obtain ⟨gq, ⟨y1, y2, y3, y4, y5, y6, y7⟩, yP⟩ := cr_lk_1
      have li : ∀ (kk : Nat) (i : Int) (hli : GH), kk = (dgi hp (nwP hp (fun i => zi hp (gx i)) (k).toNat) + 1 - i).toNat → Fr [o, q] h hli → hli.2 (o) = some (oB 5 [.ref (o + 1), .int (gI (dgi hp (nwO hp (fun i => zi hp (gx i)) (fun i => zi hp (gv i)) (k).toNat)))]) → hli.2 (o + 1) = some (aJ 84 (gF g (fun i => ((if 0 ≤ i ∧ i ≤ dgi hp (nwO hp (fun i => zi hp (gx i)) (fun i => zi hp (gv i)) (k).toNat) then g i else 0) + T * gq i) % p) i)) → hli.2 (q) = some (oB 5 [.ref (q + 1), .int (gI (dgi hp (nwP hp (fun i => zi hp (gx i)) (k).toNat)))]) → hli.2 (q + 1) = some (aJ 84 (gq)) → (0 ≤ i) → (i ≤ dgi hp (nwP hp (fun i => zi hp (gx i)) (k).toNat) + 1) → Go N mX3_meet (fun v h1 => v = none ∧ Fr [o, q] h h1 ∧ RP hp 84 h1 o (nwO hp (fun i => zi hp (gx i)) (fun i => zi hp (gv i)) (c).toNat) ∧ RA 84 h1 q) 0 0 hli 80 [(8, .int (gI (i))), (6, .long (gJ (T))), (4, .long (gJ (G))), (3, .int (gI (k))), (0, .ref (B + 24)), (1, .ref (o)), (2, .ref (q))] [] := by
        refine Go.ind (fun kk ih_li => ?_)
        intro i hli hkk_li fr_li cf_li_0 cf_li_1 cf_li_2 cf_li_3 hi0 hi1
        have cg_li_0 : hli.2 (B + 24) = some (oB 3 [.ref (B + 1), .ref (B + 25), .ref (B + 26), .int (gI (c))]) := Fr.at0 fr_li (Ni.c ⟨ne3, ne4⟩ (Ni.c ⟨ne5, ne6⟩ (Ni.n _))) hq
        have cg_li_1 : hli.2 (B + 1) = some (oB 1 [.int (gI ((p : Int)))]) := Fr.at0 fr_li (Ni.c ⟨ne9, ne10⟩ (Ni.c ⟨ne11, ne12⟩ (Ni.n _))) hfl
        have cg_li_2 : hli.2 (B + 25) = some (aJ 41 (gx)) := Fr.at0 fr_li (Ni.c ⟨ne14, ne15⟩ (Ni.c ⟨ne16, ne17⟩ (Ni.n _))) hxa
        have cg_li_3 : hli.2 (B + 26) = some (aJ 41 (gv)) := Fr.at0 fr_li (Ni.c ⟨ne18, ne19⟩ (Ni.c ⟨ne20, ne21⟩ (Ni.n _))) hva
        refine g_iload 0 dX3_meet_80 rfl ?_
        refine g_aload_n 6 dX3_meet_82 rfl ?_
        refine g_getf 1 dX3_meet_83 kX5 (by decide) fX3_45 cf_li_2 rfl ?_
        refine g_icmp_gt (tgt := 126) dX3_meet_86 rfl (by unfold gW; omega) (by unfold gW; omega) (fun c218 => ?_) (fun c218 => ?_)
        · skip
          have hii : i = dgi hp (nwP hp (fun i => zi hp (gx i)) (k).toNat) + 1 := by omega
          refine g_aload_n 5 dX3_meet_126 rfl ?_
          refine g_aload_n 6 dX3_meet_127 rfl ?_
          refine g_getf 1 dX3_meet_128 kX5 (by decide) fX3_45 cf_li_2 rfl ?_
          refine g_callV (nc2 := 0) (ns2 := 0) (ci := 5) (As := [.int (gI (dgi hp (nwP hp (fun i => zi hp (gx i)) (k).toNat)))]) (st := []) rfl dX3_meet_131 okX5_settle lX3_55 itX5_settle seX5_settle rfl cf_li_0 (by decide) (by decide) rfl (Nat.le_of_ble_eq_true rfl) (sP_settle N _ (o) 84 p hp hp2 (dgi hp (nwO hp (fun i => zi hp (gx i)) (fun i => zi hp (gv i)) (k).toNat)) (dgi hp (nwP hp (fun i => zi hp (gx i)) (k).toNat)) (gF g (fun i => ((if 0 ≤ i ∧ i ≤ dgi hp (nwO hp (fun i => zi hp (gx i)) (fun i => zi hp (gv i)) (k).toNat) then g i else 0) + T * gq i) % p) i) (nwO hp (fun i => zi hp (gx i)) (fun i => zi hp (gv i)) (k.toNat + 1)) (by omega) (by omega) (by omega) (by omega) (fun j j0 j1 => by unfold gF; rw [if_pos (by omega)]; exact em_in hp _) (by
        have e1 : nwO hp (fun i => zi hp (gx i)) (fun i => zi hp (gv i)) (k.toNat + 1) = (letI := pR hp; nwO hp (fun i => zi hp (gx i)) (fun i => zi hp (gv i)) (k).toNat + cz hp (zi hp T) * nwP hp (fun i => zi hp (gx i)) (k).toNat) := by
          rw [hTc, show gx k = gx ((k.toNat : Nat) : Int) by rw [show ((k.toNat : Nat) : Int) = k by omega], show gv k = gv ((k.toNat : Nat) : Int) by rw [show ((k.toNat : Nat) : Int) = k by omega]]
          rfl
        have e2 : (letI := pR hp; nwO hp (fun i => zi hp (gx i)) (fun i => zi hp (gv i)) (k).toNat + cz hp (zi hp T) * nwP hp (fun i => zi hp (gx i)) (k).toNat) = (letI := pR hp; ph hp g (dgi hp (nwO hp (fun i => zi hp (gx i)) (fun i => zi hp (gv i)) (k).toNat)) + cz hp (zi hp T) * ph hp gq (dgi hp (nwP hp (fun i => zi hp (gx i)) (k).toNat))) := by
          conv => lhs; rw [xP.2.2.2, yP.2.2.2]
        rw [e1, e2]
        exact ph_ad (by omega) (fun j j0 j1 => by unfold gF; rw [if_pos (by omega)])) cf_li_0 cf_li_1) (by omega) (by omega) (fun v219 hc219 q219 => ?_)
          obtain ⟨rfl, frc220, rn220⟩ := q219
          have fk221_0 : hc219.2 (B + 24) = some (oB 3 [.ref (B + 1), .ref (B + 25), .ref (B + 26), .int (gI (c))]) := Fr.at0 frc220 (Ni.c ⟨ne3, ne4⟩ (Ni.n _)) cg_li_0
          have fk221_1 : hc219.2 (B + 1) = some (oB 1 [.int (gI ((p : Int)))]) := Fr.at0 frc220 (Ni.c ⟨ne9, ne10⟩ (Ni.n _)) cg_li_1
          have fk221_2 : hc219.2 (B + 25) = some (aJ 41 (gx)) := Fr.at0 frc220 (Ni.c ⟨ne14, ne15⟩ (Ni.n _)) cg_li_2
          have fk221_3 : hc219.2 (B + 26) = some (aJ 41 (gv)) := Fr.at0 frc220 (Ni.c ⟨ne18, ne19⟩ (Ni.n _)) cg_li_3
          have fk221_6 : hc219.2 (q) = some (oB 5 [.ref (q + 1), .int (gI (dgi hp (nwP hp (fun i => zi hp (gx i)) (k).toNat)))]) := Fr.at0 frc220 (Ni.c ⟨(ne23).s, (ne25).s⟩ (Ni.n _)) cf_li_2
          have fk221_7 : hc219.2 (q + 1) = some (aJ 84 (gq)) := Fr.at0 frc220 (Ni.c ⟨(ne24).s, (ne26).s⟩ (Ni.n _)) cf_li_3
          have fr221 : Fr [o, q] h hc219 := (fr_li).tr ((frc220).mo (sub_c (List.Mem.head _) sub_n))
          refine Go.nf (h' := hc219) (st' := []) rfl rfl (Nat.le_refl _) (Nat.le_refl _) ?_
          have rq222 : RP hp 84 hc219 q (nwP hp (fun i => zi hp (gx i)) (k).toNat) := ⟨gq, ⟨fk221_6, fk221_7, y3, y4, y5, y6, y7⟩, yP⟩
          refine g_aload_n 4 dX3_meet_134 rfl ?_
          refine g_aload_n 6 dX3_meet_135 rfl ?_
          refine g_aload_n 4 dX3_meet_136 rfl ?_
          refine g_getf 1 dX3_meet_137 kX3 (by decide) fX3_9 fk221_0 rfl ?_
          refine g_iload_n 3 dX3_meet_140 rfl ?_
          refine g_laload dX3_meet_141 fk221_2 (by omega) (by omega) (by omega) ?_
          refine g_callV (nc2 := 0) (ns2 := 0) (ci := 3) (As := [.ref (q), .long (gJ ((gx) (k)))]) (st := []) rfl dX3_meet_142 okX3_multiplyByLine lX3_59 itX3_multiplyByLine seX3_multiplyByLine rfl fk221_0 (by decide) (by decide) rfl (Nat.le_of_ble_eq_true rfl) (sT_line N _ B q p hp hp2 c (nwP hp (fun i => zi hp (gx i)) (k).toNat) ((gx) (k)) hxk.1 hxk.2 fk221_0 fk221_1 rq222 (by omega) (by omega) (by omega)) (by omega) (by omega) (fun v223 hc223 q223 => ?_)
          obtain ⟨rfl, frc224, rn224_0⟩ := q223
          have fk225_0 : hc223.2 (B + 24) = some (oB 3 [.ref (B + 1), .ref (B + 25), .ref (B + 26), .int (gI (c))]) := Fr.at0 frc224 (Ni.c ⟨ne5, ne6⟩ (Ni.n _)) fk221_0
          have fk225_1 : hc223.2 (B + 1) = some (oB 1 [.int (gI ((p : Int)))]) := Fr.at0 frc224 (Ni.c ⟨ne11, ne12⟩ (Ni.n _)) fk221_1
          have fk225_2 : hc223.2 (B + 25) = some (aJ 41 (gx)) := Fr.at0 frc224 (Ni.c ⟨ne16, ne17⟩ (Ni.n _)) fk221_2
          have fk225_3 : hc223.2 (B + 26) = some (aJ 41 (gv)) := Fr.at0 frc224 (Ni.c ⟨ne20, ne21⟩ (Ni.n _)) fk221_3
          have rk225_0 : RP hp 84 hc223 (o) (nwO hp (fun i => zi hp (gx i)) (fun i => zi hp (gv i)) (k.toNat + 1)) := (rn220).fr frc224 (Ai.c aoq (Ai.n _))
          have fr225 : Fr [o, q] h hc223 := (fr221).tr ((frc224).mo (sub_c (List.Mem.tail _ (List.Mem.head _)) sub_n))
          refine Go.nf (h' := hc223) (st' := []) rfl rfl (Nat.le_refl _) (Nat.le_refl _) ?_
          refine g_iinc 3 (ls2 := [(3, .int (gI (k + 1))), (8, .int (gI (i))), (6, .long (gJ (T))), (4, .long (gJ (G))), (0, .ref (B + 24)), (1, .ref (o)), (2, .ref (q))]) dX3_meet_145 rfl (by decide) rfl ?_
          refine g_goto (tgt := 12) dX3_meet_148 rfl ?_
          refine Go.sub [0, 4, 5, 6] rfl ?_
          exact ih_lk _ (by omega) (k + 1) hc223 rfl fr225 (by
        rw [show (k + 1).toNat = k.toNat + 1 by omega]
        exact rk225_0) (by
        rw [show (k + 1).toNat = k.toNat + 1 by omega]
        have e9 := rn224_0
        rw [show gx k = gx ((k.toNat : Nat) : Int) by rw [show ((k.toNat : Nat) : Int) = k by omega]] at e9
        exact e9) (by omega)
        · skip
          refine g_aload_n 5 dX3_meet_89 rfl ?_
          refine g_getf 0 dX3_meet_90 kX5 (by decide) fX3_48 cf_li_0 rfl ?_
          refine g_iload 0 dX3_meet_93 rfl ?_
          refine g_aload_n 4 dX3_meet_95 rfl ?_
          refine g_getf 0 dX3_meet_96 kX3 (by decide) fX3_18 cg_li_0 rfl ?_
          refine g_aload_n 5 dX3_meet_99 rfl ?_
          refine g_iload 0 dX3_meet_100 rfl ?_
          refine g_callV (nc2 := 0) (ns2 := 0) (ci := 5) (As := [.int (gI (i))]) (st := [.ref (B + 1), .int (gI (i)), .ref (o + 1)]) rfl dX3_meet_102 okX5_number lX3_51 itX5_number seX5_number rfl cf_li_0 (by decide) (by decide) rfl (Nat.le_of_ble_eq_true rfl) (sX5_number N _ (o) (o + 1) 84 (dgi hp (nwO hp (fun i => zi hp (gx i)) (fun i => zi hp (gv i)) (k).toNat)) (i) (gF g (fun i => ((if 0 ≤ i ∧ i ≤ dgi hp (nwO hp (fun i => zi hp (gx i)) (fun i => zi hp (gv i)) (k).toNat) then g i else 0) + T * gq i) % p) i) (by omega) (by omega) (by unfold gW; omega) (by omega) (by omega) cf_li_0 cf_li_1) (by omega) (by omega) (fun v226 hc226 q226 => ?_)
          obtain ⟨hq227, rfl⟩ := q226
          refine Go.nf (h' := hli) (st' := [.long (gJ (if 0 ≤ i ∧ i ≤ dgi hp (nwO hp (fun i => zi hp (gx i)) (fun i => zi hp (gv i)) (k).toNat) then (gF g (fun i => ((if 0 ≤ i ∧ i ≤ dgi hp (nwO hp (fun i => zi hp (gx i)) (fun i => zi hp (gv i)) (k).toNat) then g i else 0) + T * gq i) % p) i) (i) else 0)), .ref (B + 1), .int (gI (i)), .ref (o + 1)]) hq227 rfl (Nat.le_refl _) (Nat.le_refl _) ?_
          rw [gF_at]
          have bn : 0 ≤ (if 0 ≤ i ∧ i ≤ dgi hp (nwO hp (fun i => zi hp (gx i)) (fun i => zi hp (gv i)) (k).toNat) then g i else 0) ∧ (if 0 ≤ i ∧ i ≤ dgi hp (nwO hp (fun i => zi hp (gx i)) (fun i => zi hp (gv i)) (k).toNat) then g i else 0) < p := by
            split
            · rename_i z; exact xP.2.1 i z.1 z.2
            · omega
          refine g_lload 1 dX3_meet_105 rfl ?_
          refine g_aload_n 6 dX3_meet_107 rfl ?_
          refine g_getf 0 dX3_meet_108 kX5 (by decide) fX3_48 cf_li_2 rfl ?_
          refine g_iload 0 dX3_meet_111 rfl ?_
          refine g_laload dX3_meet_113 cf_li_3 (by omega) (by omega) (by omega) ?_
          have bq := yP.2.1 i hi0 (by omega)
          have bt := g_prod hTb.1 hTb.2 bq.1 bq.2 (show (p : Int) ≤ 65536 by omega)
          have bx : gX ((if 0 ≤ i ∧ i ≤ dgi hp (nwO hp (fun i => zi hp (gx i)) (fun i => zi hp (gv i)) (k).toNat) then g i else 0) + T * gq i) := by unfold gX; generalize (if 0 ≤ i ∧ i ≤ dgi hp (nwO hp (fun i => zi hp (gx i)) (fun i => zi hp (gv i)) (k).toNat) then g i else 0) = z1 at *; generalize T * gq i = z2 at *; omega
          refine g_lmul dX3_meet_114 ?_
          refine g_ladd dX3_meet_115 ?_
          refine g_callV (nc2 := 0) (ns2 := 0) (ci := 1) (As := [.long (gJ ((if 0 ≤ i ∧ i ≤ dgi hp (nwO hp (fun i => zi hp (gx i)) (fun i => zi hp (gv i)) (k).toNat) then g i else 0) + ((T) * ((gq) (i)))))]) (st := [.int (gI (i)), .ref (o + 1)]) rfl dX3_meet_116 okX1_mod lX3_36 itX1_mod seX1_mod rfl cg_li_1 (by decide) (by decide) rfl (Nat.le_of_ble_eq_true rfl) (sX1_mod N _ (B + 1) (p : Int) ((if 0 ≤ i ∧ i ≤ dgi hp (nwO hp (fun i => zi hp (gx i)) (fun i => zi hp (gv i)) (k).toNat) then g i else 0) + ((T) * ((gq) (i)))) bx (by omega) (by omega) cg_li_1) (by omega) (by omega) (fun v228 hc228 q228 => ?_)
          obtain ⟨hq229, rfl⟩ := q228
          rw [gMod_em (show (0 : Int) < p by omega)]
          refine Go.nf (h' := hli) (st' := [.long (gJ (((if 0 ≤ i ∧ i ≤ dgi hp (nwO hp (fun i => zi hp (gx i)) (fun i => zi hp (gv i)) (k).toNat) then g i else 0) + ((T) * ((gq) (i)))) % (p : Int))), .int (gI (i)), .ref (o + 1)]) hq229 rfl (Nat.le_refl _) (Nat.le_refl _) ?_
          refine g_lastore dX3_meet_119 cf_li_1 (by omega) (by omega) (by omega) ?_
          obtain ⟨hh230, eh230⟩ : ∃ z : GH, z = hset hli (o + 1) (aJ 84 (gup (gF g (fun i => ((if 0 ≤ i ∧ i ≤ dgi hp (nwO hp (fun i => zi hp (gx i)) (fun i => zi hp (gv i)) (k).toNat) then g i else 0) + T * gq i) % p) i) (i) (((if 0 ≤ i ∧ i ≤ dgi hp (nwO hp (fun i => zi hp (gx i)) (fun i => zi hp (gv i)) (k).toNat) then g i else 0) + ((T) * ((gq) (i)))) % (p : Int)))) := ⟨_, rfl⟩
          refine Go.hp eh230.symm ?_
          have fh230_0 : hh230.2 (B + 24) = some (oB 3 [.ref (B + 1), .ref (B + 25), .ref (B + 26), .int (gI (c))]) := hs_n eh230 ne4 cg_li_0
          have fh230_1 : hh230.2 (B + 1) = some (oB 1 [.int (gI ((p : Int)))]) := hs_n eh230 ne10 cg_li_1
          have fh230_2 : hh230.2 (B + 25) = some (aJ 41 (gx)) := hs_n eh230 ne15 cg_li_2
          have fh230_3 : hh230.2 (B + 26) = some (aJ 41 (gv)) := hs_n eh230 ne19 cg_li_3
          have fh230_4 : hh230.2 (o) = some (oB 5 [.ref (o + 1), .int (gI (dgi hp (nwO hp (fun i => zi hp (gx i)) (fun i => zi hp (gv i)) (k).toNat)))]) := hs_n eh230 ne22 cf_li_0
          have fh230_5 : hh230.2 (o + 1) = some (aJ 84 (gup (gF g (fun i => ((if 0 ≤ i ∧ i ≤ dgi hp (nwO hp (fun i => zi hp (gx i)) (fun i => zi hp (gv i)) (k).toNat) then g i else 0) + T * gq i) % p) i) (i) (((if 0 ≤ i ∧ i ≤ dgi hp (nwO hp (fun i => zi hp (gx i)) (fun i => zi hp (gv i)) (k).toNat) then g i else 0) + ((T) * ((gq) (i)))) % (p : Int)))) := hs_s eh230
          have fh230_6 : hh230.2 (q) = some (oB 5 [.ref (q + 1), .int (gI (dgi hp (nwP hp (fun i => zi hp (gx i)) (k).toNat)))]) := hs_n eh230 (ne25).s cf_li_2
          have fh230_7 : hh230.2 (q + 1) = some (aJ 84 (gq)) := hs_n eh230 (ne26).s cf_li_3
          have fr230 : Fr [o, q] h hh230 := Fr.w1 fr_li (List.Mem.head _) eh230
          refine g_iinc 0 (ls2 := [(8, .int (gI (i + 1))), (6, .long (gJ (T))), (4, .long (gJ (G))), (3, .int (gI (k))), (0, .ref (B + 24)), (1, .ref (o)), (2, .ref (q))]) dX3_meet_120 rfl (by decide) rfl ?_
          refine g_goto (tgt := 80) dX3_meet_123 rfl ?_
          exact ih_li _ (by omega) (i + 1) hh230 rfl fr230 fh230_4 (by rw [← gF_s g (fun i => ((if 0 ≤ i ∧ i ≤ dgi hp (nwO hp (fun i => zi hp (gx i)) (fun i => zi hp (gv i)) (k).toNat) then g i else 0) + T * gq i) % p) hi0]; exact fh230_5) fh230_6 fh230_7 (by omega) (by omega)
      exact li _ (0) hlk rfl fr_lk x1 (by rw [gF_0]; exact x2) y1 y2 (by omega) (by omega)
  exact lk _ (0) hc4 rfl fr6 rk6_1 rn5_0 (by omega)
set_option maxHeartbeats 4000000 in
set_option maxRecDepth 100000 in
theorem sT_put (N : GN) (h : GH) (B  p : Nat) (hp : prm p) (hp2 : p ≤ 65536) (c : Int) (x v : Int) (gx gv : Int → Int) (x0 : 0 ≤ x ∧ x < p) (hq : h.2 (B + 24) = some (oB 3 [.ref (B + 1), .ref (B + 25), .ref (B + 26), .int (gI (c))])) (hxa : h.2 (B + 25) = some (aJ 41 gx)) (hva : h.2 (B + 26) = some (aJ 41 gv)) (hc : 0 ≤ c ∧ c ≤ 41) (hx : ∀ k, 0 ≤ k → k < c → 0 ≤ gx k ∧ gx k < p) : Sp N yX3_put mX3_put 0 0 [.ref (B + 24), .long (gJ (x)), .long (gJ (v))] h (fun r h1 => Fr [B + 24, B + 25] h h1 ∧ ((r = some (.int (gI 0)) ∧ (41 ≤ c ∨ ∃ k, 0 ≤ k ∧ k < c ∧ gx k = x) ∧ h1.2 (B + 24) = some (oB 3 [.ref (B + 1), .ref (B + 25), .ref (B + 26), .int (gI (c))]) ∧ h1.2 (B + 25) = some (aJ 41 gx) ∧ h1.2 (B + 26) = some (aJ 41 gv)) ∨ (r = some (.int (gI 1)) ∧ c < 41 ∧ (∀ k, 0 ≤ k → k < c → gx k ≠ x) ∧ h1.2 (B + 24) = some (oB 3 [.ref (B + 1), .ref (B + 25), .ref (B + 26), .int (gI (c + 1))]) ∧ h1.2 (B + 25) = some (aJ 41 (gup gx c x)) ∧ h1.2 (B + 26) = some (aJ 41 (gup gv c v))))) := by
  refine Sp.of (by decide) rfl rfl (Nat.le_of_ble_eq_true rfl) ?_
  show Go N mX3_put _ 0 0 h 0 [(0, .ref (B + 24)), (1, .long (gJ (x))), (3, .long (gJ (v)))] []
  have hp1 := hp.1
  refine g_aload_n 0 dX3_put_0 rfl ?_
  refine g_getf 3 dX3_put_1 kX3 (by decide) fX3_22 hq rfl ?_
  refine g_bipush dX3_put_4 (by decide) ?_
  refine g_icmp_lt (tgt := 11) dX3_put_6 rfl (by unfold gW; omega) (by unfold gW; omega) (fun c1 => ?_) (fun c1 => ?_)
  · skip
    refine g_iconst dX3_put_11 ?_
    refine g_istore (ls2 := [(5, .int (gI (0))), (0, .ref (B + 24)), (1, .long (gJ (x))), (3, .long (gJ (v)))]) dX3_put_12 (by decide) rfl ?_
    have lk : ∀ (kk : Nat) (k : Int) (hlk : GH), kk = (c - k).toNat → Fr [B + 24, B + 25] h hlk → hlk.2 (B + 24) = some (oB 3 [.ref (B + 1), .ref (B + 25), .ref (B + 26), .int (gI (c))]) → hlk.2 (B + 25) = some (aJ 41 (gx)) → hlk.2 (B + 26) = some (aJ 41 (gv)) → (0 ≤ k ∧ k ≤ c) → (∀ m, 0 ≤ m → m < k → gx m ≠ x) → Go N mX3_put (fun r h1 => Fr [B + 24, B + 25] h h1 ∧ ((r = some (.int (gI 0)) ∧ (41 ≤ c ∨ ∃ k, 0 ≤ k ∧ k < c ∧ gx k = x) ∧ h1.2 (B + 24) = some (oB 3 [.ref (B + 1), .ref (B + 25), .ref (B + 26), .int (gI (c))]) ∧ h1.2 (B + 25) = some (aJ 41 gx) ∧ h1.2 (B + 26) = some (aJ 41 gv)) ∨ (r = some (.int (gI 1)) ∧ c < 41 ∧ (∀ k, 0 ≤ k → k < c → gx k ≠ x) ∧ h1.2 (B + 24) = some (oB 3 [.ref (B + 1), .ref (B + 25), .ref (B + 26), .int (gI (c + 1))]) ∧ h1.2 (B + 25) = some (aJ 41 (gup gx c x)) ∧ h1.2 (B + 26) = some (aJ 41 (gup gv c v))))) 0 0 hlk 14 [(5, .int (gI (k))), (0, .ref (B + 24)), (1, .long (gJ (x))), (3, .long (gJ (v)))] [] := by
      refine Go.ind (fun kk ih_lk => ?_)
      intro k hlk hkk_lk fr_lk cf_lk_0 cf_lk_1 cf_lk_2 hk hE
      refine g_iload 0 dX3_put_14 rfl ?_
      refine g_aload_n 1 dX3_put_16 rfl ?_
      refine g_getf 3 dX3_put_17 kX3 (by decide) fX3_22 cf_lk_0 rfl ?_
      refine g_icmp_ge (tgt := 43) dX3_put_20 rfl (by unfold gW; omega) (by unfold gW; omega) (fun c102 => ?_) (fun c102 => ?_)
      · skip
        refine g_aload_n 1 dX3_put_43 rfl ?_
        refine g_getf 1 dX3_put_44 kX3 (by decide) fX3_9 cf_lk_0 rfl ?_
        refine g_aload_n 1 dX3_put_47 rfl ?_
        refine g_getf 3 dX3_put_48 kX3 (by decide) fX3_22 cf_lk_0 rfl ?_
        refine g_lload_n 2 dX3_put_51 rfl ?_
        refine g_lastore dX3_put_52 cf_lk_1 (by omega) (by omega) (by omega) ?_
        obtain ⟨hh103, eh103⟩ : ∃ z : GH, z = hset hlk (B + 25) (aJ 41 (gup (gx) (c) (x))) := ⟨_, rfl⟩
        refine Go.hp eh103.symm ?_
        have fh103_0 : hh103.2 (B + 24) = some (oB 3 [.ref (B + 1), .ref (B + 25), .ref (B + 26), .int (gI (c))]) := hs_n eh103 (show NE (B + 24) (B + 25) by unfold NE; omega) cf_lk_0
        have fh103_1 : hh103.2 (B + 25) = some (aJ 41 (gup (gx) (c) (x))) := hs_s eh103
        have fh103_2 : hh103.2 (B + 26) = some (aJ 41 (gv)) := hs_n eh103 (show NE (B + 26) (B + 25) by unfold NE; omega) cf_lk_2
        have fr103 : Fr [B + 24, B + 25] h hh103 := Fr.w1 fr_lk (List.Mem.head _) eh103
        refine g_aload_n 1 dX3_put_53 rfl ?_
        refine g_getf 2 dX3_put_54 kX3 (by decide) fX3_15 fh103_0 rfl ?_
        refine g_aload_n 1 dX3_put_57 rfl ?_
        refine g_getf 3 dX3_put_58 kX3 (by decide) fX3_22 fh103_0 rfl ?_
        refine g_lload_n 3 dX3_put_61 rfl ?_
        refine g_lastore dX3_put_62 fh103_2 (by omega) (by omega) (by omega) ?_
        obtain ⟨hh104, eh104⟩ : ∃ z : GH, z = hset hh103 (B + 26) (aJ 41 (gup (gv) (c) (v))) := ⟨_, rfl⟩
        refine Go.hp eh104.symm ?_
        have fh104_0 : hh104.2 (B + 24) = some (oB 3 [.ref (B + 1), .ref (B + 25), .ref (B + 26), .int (gI (c))]) := hs_n eh104 (show NE (B + 24) (B + 26) by unfold NE; omega) fh103_0
        have fh104_1 : hh104.2 (B + 25) = some (aJ 41 (gup (gx) (c) (x))) := hs_n eh104 (show NE (B + 25) (B + 26) by unfold NE; omega) fh103_1
        have fh104_2 : hh104.2 (B + 26) = some (aJ 41 (gup (gv) (c) (v))) := hs_s eh104
        have fr104 : Fr [B + 24, B + 25] h hh104 := Fr.w1 fr103 (List.Mem.tail _ (List.Mem.head _)) eh104
        refine g_aload_n 1 dX3_put_63 rfl ?_
        refine g_dup dX3_put_64 rfl ?_
        refine g_getf 3 dX3_put_65 kX3 (by decide) fX3_22 fh104_0 rfl ?_
        refine g_iconst dX3_put_68 ?_
        refine g_iadd dX3_put_69 ?_
        refine g_putf 3 dX3_put_70 kX3 (by decide) fX3_22 rfl fh104_0 (Nat.le_of_ble_eq_true rfl) rfl rfl ?_
        obtain ⟨hh105, eh105⟩ : ∃ z : GH, z = hset hh104 (B + 24) (oB 3 [.ref (B + 1), .ref (B + 25), .ref (B + 26), .int (gI ((c) + (1)))]) := ⟨_, rfl⟩
        refine Go.hp eh105.symm ?_
        have fh105_0 : hh105.2 (B + 24) = some (oB 3 [.ref (B + 1), .ref (B + 25), .ref (B + 26), .int (gI ((c) + (1)))]) := hs_s eh105
        have fh105_1 : hh105.2 (B + 25) = some (aJ 41 (gup (gx) (c) (x))) := hs_n eh105 (show NE (B + 25) (B + 24) by unfold NE; omega) fh104_1
        have fh105_2 : hh105.2 (B + 26) = some (aJ 41 (gup (gv) (c) (v))) := hs_n eh105 (show NE (B + 26) (B + 24) by unfold NE; omega) fh104_2
        have fr105 : Fr [B + 24, B + 25] h hh105 := Fr.w0 fr104 (List.Mem.head _) eh105
        refine g_iconst dX3_put_73 ?_
        exact g_zret dX3_put_74 rfl (by omega) ⟨fr105, Or.inr ⟨rfl, by omega, fun m m0 m1 => hE m m0 (by omega), fh105_0, fh105_1, fh105_2⟩⟩
      · skip
        refine g_aload_n 1 dX3_put_23 rfl ?_
        refine g_getf 1 dX3_put_24 kX3 (by decide) fX3_9 cf_lk_0 rfl ?_
        refine g_iload 0 dX3_put_27 rfl ?_
        refine g_laload dX3_put_29 cf_lk_1 (by omega) (by omega) (by omega) ?_
        refine g_lload_n 2 dX3_put_30 rfl ?_
        have bk := hx k hk.1 (by omega)
        refine g_lcmp dX3_put_31 (by unfold gX; omega) (by unfold gX; omega) ?_
        refine g_if_ne (tgt := 37) dX3_put_32 rfl (gW_cmp _ _) (fun c106 => ?_) (fun c106 => ?_)
        · skip
          have hz : ¬ _ = _ := fun z => c106 (gcmp_eq.mpr z)
          refine g_iinc 0 (ls2 := [(5, .int (gI (k + 1))), (0, .ref (B + 24)), (1, .long (gJ (x))), (3, .long (gJ (v)))]) dX3_put_37 rfl (by decide) rfl ?_
          refine g_goto (tgt := 14) dX3_put_40 rfl ?_
          exact ih_lk _ (by omega) (k + 1) hlk rfl fr_lk cf_lk_0 cf_lk_1 cf_lk_2 (by omega) (fun m m0 m1 => by
        rcases Int.lt_or_le m k with z | z
        · exact hE m m0 z
        · rw [show m = k by omega]; exact hz)
        · skip
          have hz := gcmp_eq.mp c106
          refine g_iconst dX3_put_35 ?_
          exact g_zret dX3_put_36 rfl (by omega) ⟨fr_lk, Or.inl ⟨rfl, Or.inr ⟨k, hk.1, by omega, hz⟩, ⟨cf_lk_0, cf_lk_1, cf_lk_2⟩⟩⟩
    exact lk _ (0) h rfl (Fr.rf [B + 24, B + 25] h) hq hxa hva (by omega) (fun m m0 m1 => by omega)
  · skip
    refine g_iconst dX3_put_9 ?_
    exact g_zret dX3_put_10 rfl (by omega) ⟨(Fr.rf [B + 24, B + 25] h), Or.inl ⟨rfl, Or.inl (by omega), ⟨hq, hxa, hva⟩⟩⟩
