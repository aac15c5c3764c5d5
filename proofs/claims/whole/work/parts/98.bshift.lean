/-! what shifts leave together: a vector of the kernel is constant there -/
section
variable {p : Nat}
theorem cz_dv0 (h : prm p) {g : Px p} {y : Fp p} (hg : irr (fR h) g) (hd : dv (fR h) g (cz h y)) : letI := fR h; y = 0 := by
  letI := fR h
  by_cases z : y = 0
  · exact z
  · exfalso
    obtain ⟨n, n1, n2⟩ := hg.2.1
    have := dv_deg (fld_p h) n2 (cz_dg h z) hd
    omega
theorem irr_un (h : prm p) {g v : Px p} {c d : Fp p} (hg : irr (fR h) g) (h1 : letI := pR h; dv (fR h) g (v - cz h c)) (h2 : letI := pR h; dv (fR h) g (v - cz h d)) : c = d := by
  letI := fR h
  letI := pR h
  have e := dv_sub h2 h1
  have e2 : v - cz h d - (v - cz h c) = cz h (c - d) := by
    rw [cz_sub]
    generalize cz h c = x
    generalize cz h d = y
    grind
  rw [show (zR (fR h)) = pR h from rfl] at e
  rw [e2] at e
  have := cz_dv0 h hg e
  grind
theorem sqf_dv (h : prm p) {f w : Px p} (hw : sqf h w) (hd : dv (fR h) f w) : sqf h f := fun g hg q => hw g hg (dv_tr q hd)
/-- what all of f's irreducible parts divide, f divides -/
theorem sqf_all (h : prm p) {f x : Px p} {n : Nat} (hf : dg (fR h) f n) (hs : sqf h f) (hx : po (fR h) x) (H : ∀ g, irr (fR h) g → dv (fR h) g f → dv (fR h) g x) : dv (fR h) f x := by
  letI := pR h
  have hF := fld_p h
  obtain ⟨m, hm⟩ := hx
  have hfp : po (fR h) f := ⟨_, hf.2⟩
  obtain ⟨d, u, v, d1, d2, d3, d4, ⟨k, k1, k2⟩, d6⟩ := bezout hF m f x hfp hm
  have k3 : f = k * d := k2
  rcases po_dg k1 with z | ⟨e, he⟩
  · exfalso
    refine dg_ne hf ?_
    rw [k3, z]
    show (0 : Px p) * d = 0
    grind
  · rcases Nat.eq_zero_or_pos e with y | y
    · rw [y] at he
      obtain ⟨t, t1, t2⟩ := unit_of hF he
      have t3 : (1 : Px p) = t * k := t2
      refine dv_tr ⟨t, t1, ?_⟩ d6
      show d = t * f
      rw [k3]
      have e9 : t * (k * d) = t * k * d := by grind
      rw [e9, ← t3]; grind
    · exfalso
      obtain ⟨g, g1, g2⟩ := irr_ex hF e k k1 y he
      have gf : dv (fR h) g f := by rw [k2]; exact dv_mulr _ d1 g2
      have gd : dv (fR h) g d := by
        rw [d4]
        exact dv_add (dv_mul _ d2 gf) (dv_mul _ d3 (H g g1 gf))
      obtain ⟨a, a1, a2⟩ := g2
      obtain ⟨b, b1, b2⟩ := gd
      refine hs g g1 ⟨zmul (fR h) a b, mul_po a1 b1, ?_⟩
      show f = a * b * (g * g)
      have a3 : k = a * g := a2
      have b3 : d = b * g := b2
      rw [k3, a3, b3]; grind
/-- the test that parts: a square that is not 0; p = 2: 0 -/
def tst (h : prm p) (x : Fp p) : Prop := letI := fR h; if p = 2 then x = 0 else x ^ ((p - 1) / 2) = 1
def tpl (h : prm p) (t : Px p) : Px p := letI := pR h; if p = 2 then t else t ^ ((p - 1) / 2) - 1
theorem tst_ex (h : prm p) {c d : Fp p} (hne : c ≠ d) : letI := fR h; ∃ s : Fp p, ¬ (tst h (c + s) ↔ tst h (d + s)) := by
  letI := fR h
  unfold tst
  by_cases z : p = 2
  · refine ⟨-c, fun q => ?_⟩
    rw [if_pos z, if_pos z] at q
    have h1 : d + -c = 0 := q.mp (by grind)
    exact hne (by grind)
  · obtain ⟨s, hs⟩ := shift_ex h hne (m := (p - 1) / 2) (by have := h.1; omega)
    refine ⟨s, fun q => ?_⟩
    rw [if_neg z, if_neg z] at q
    exact hs q
theorem tpl_po (h : prm p) {t : Px p} (ht : po (fR h) t) : po (fR h) (tpl h t) := by
  letI := pR h
  unfold tpl
  split
  · exact ht
  · exact sub_po (pw_po h ht _) (one_po (fR h))
theorem tst_dv (h : prm p) {g t v : Px p} {c s : Fp p} (hg : irr (fR h) g) (ht : po (fR h) t) (hc : letI := pR h; dv (fR h) g (v - cz h c)) (hd : letI := pR h; dv (fR h) g (t - (v + cz h s))) : letI := fR h; (dv (fR h) g (tpl h t) ↔ tst h (c + s)) := by
  letI := fR h
  letI := pR h
  have h1 : dv (fR h) g (t - cz h (c + s)) := by
    have e := dv_add hd hc
    have e2 : t - (v + cz h s) + (v - cz h c) = t - cz h (c + s) := by
      rw [cz_add]
      generalize cz h c = x
      generalize cz h s = y
      grind
    rw [← e2]; exact e
  unfold tst tpl
  by_cases z : p = 2
  · rw [if_pos z, if_pos z]
    constructor
    · intro q
      have e := dv_sub q h1
      have e2 : t - (t - cz h (c + s)) = cz h (c + s) := by
        generalize cz h (c + s) = x
        grind
      have e3 : dv (fR h) g (cz h (c + s)) := by rw [← e2]; exact e
      exact cz_dv0 h hg e3
    · intro q
      rw [q, cz_0 h] at h1
      have e2 : t - 0 = t := by grind
      rw [e2] at h1; exact h1
  · rw [if_neg z, if_neg z]
    have h2 := pw_dv h ht (cz_po h (c + s)) h1 ((p - 1) / 2)
    rw [← cz_pw] at h2
    have e1 : (1 : Px p) = cz h 1 := rfl
    constructor
    · intro q
      have e := dv_sub q h2
      have e2 : t ^ ((p - 1) / 2) - 1 - (t ^ ((p - 1) / 2) - cz h ((c + s) ^ ((p - 1) / 2))) = cz h ((c + s) ^ ((p - 1) / 2) - 1) := by
        rw [cz_sub, ← e1]
        generalize cz h ((c + s) ^ ((p - 1) / 2)) = x
        generalize t ^ ((p - 1) / 2) = y
        grind
      have e3 : dv (fR h) g (cz h ((c + s) ^ ((p - 1) / 2) - 1)) := by rw [← e2]; exact e
      have := cz_dv0 h hg e3
      generalize (c + s) ^ ((p - 1) / 2) = x at this ⊢
      grind
    · intro q
      rw [q, ← e1] at h2
      exact h2
/-- at the shift s, all of f's irreducible parts are alike -/
def alk (h : prm p) (v f : Px p) (s : Fp p) : Prop := letI := fR h; letI := pR h; ∀ g1 g2 c d, irr (fR h) g1 → irr (fR h) g2 → dv (fR h) g1 f → dv (fR h) g2 f → dv (fR h) g1 (v - cz h c) → dv (fR h) g2 (v - cz h d) → (tst h (c + s) ↔ tst h (d + s))
theorem alk_dv (h : prm p) {v f f2 : Px p} {s : Fp p} (a : alk h v f s) (hd : dv (fR h) f2 f) : alk h v f2 s := fun g1 g2 c d i1 i2 d1 d2 => a g1 g2 c d i1 i2 (dv_tr d1 hd) (dv_tr d2 hd)
/-- a constant vector is alike everywhere -/
theorem alk_c (h : prm p) {v f : Px p} {c : Fp p} (hc : letI := pR h; dv (fR h) f (v - cz h c)) (s : Fp p) : alk h v f s := fun g1 g2 c1 c2 i1 i2 d1 d2 h1 h2 => by
  rw [irr_un h i1 h1 (dv_tr d1 hc), irr_un h i2 h2 (dv_tr d2 hc)]
theorem alk_all (h : prm p) {w v f : Px p} {m : Nat} (hsq : sqf h w) (hf : dg (fR h) f m) (hm : 1 ≤ m) (hd : dv (fR h) f w) (hk : ker h w v) (H : ∀ s, alk h v f s) : letI := pR h; ∃ c : Fp p, dv (fR h) f (v - cz h c) := by
  letI := fR h
  letI := pR h
  have hF := fld_p h
  obtain ⟨g0, i0, d0⟩ := irr_ex hF m f ⟨_, hf.2⟩ hm hf
  obtain ⟨c0, h0⟩ := own_pw h i0 hk.1 (dv_tr (dv_tr d0 hd) hk.2)
  refine ⟨c0, sqf_all h hf (sqf_dv h hsq hd) (sub_po hk.1 (cz_po h c0)) (fun g ig dg_ => ?_)⟩
  obtain ⟨c, hc⟩ := own_pw h ig hk.1 (dv_tr (dv_tr dg_ hd) hk.2)
  have e : c = c0 := by
    by_cases z : c = c0
    · exact z
    · exfalso
      obtain ⟨s, hs⟩ := tst_ex h z
      exact hs (H s g g0 c c0 ig i0 dg_ d0 hc h0)
  rw [← e]; exact hc
/-- the part that the test cuts off, and the rest: alike each -/
theorem cut_alk (h : prm p) {w v f t d k : Px p} {s : Fp p} (hsq : sqf h f) (hfp : po (fR h) f) (hk : ker h w v) (hd : dv (fR h) f w) (ht : po (fR h) t) (htv : letI := pR h; dv (fR h) f (t - (v + cz h s))) (hg : isG h (tpl h t) f d) (hkp : po (fR h) k) (e : f = zmul (fR h) d k) : alk h v d s ∧ alk h v k s := by
  letI := fR h
  letI := pR h
  have hdf : dv (fR h) d f := hg.2.2.1
  have hkf : dv (fR h) k f := by rw [e]; exact dv_r hg.1
  constructor
  · intro g1 g2 c1 c2 i1 i2 d1 d2 h1 h2
    have a1 := (tst_dv h i1 ht h1 (dv_tr (dv_tr d1 hdf) htv)).mp (dv_tr d1 hg.2.1)
    have a2 := (tst_dv h i2 ht h2 (dv_tr (dv_tr d2 hdf) htv)).mp (dv_tr d2 hg.2.1)
    exact ⟨fun _ => a2, fun _ => a1⟩
  · have no : ∀ g c, irr (fR h) g → dv (fR h) g k → dv (fR h) g (v - cz h c) → ¬ tst h (c + s) := fun g c ig dk hc q => by
      have b1 := (tst_dv h ig ht hc (dv_tr (dv_tr dk hkf) htv)).mpr q
      obtain ⟨u, x, u1, x1, ed⟩ := hg.2.2.2.1
      have b2 : dv (fR h) g d := by
        rw [ed]
        exact dv_add (dv_mul _ u1 b1) (dv_mul _ x1 (dv_tr dk hkf))
      obtain ⟨a, a1, a2⟩ := b2
      obtain ⟨b, y1, y2⟩ := dk
      refine hsq g ig ⟨zmul (fR h) a b, mul_po a1 y1, ?_⟩
      show f = a * b * (g * g)
      have a3 : d = a * g := a2
      have y3 : k = b * g := y2
      have e3 : f = d * k := e
      rw [e3, a3, y3]; grind
    intro g1 g2 c1 c2 i1 i2 d1 d2 h1 h2
    exact ⟨fun q => absurd q (no g1 c1 i1 d1 h1), fun q => absurd q (no g2 c2 i2 d2 h2)⟩
/-- nothing is cut off: all are alike -/
theorem cut_no (h : prm p) {w v f t d : Px p} {s : Fp p} {n : Nat} (hsq : sqf h f) (hf : dg (fR h) f n) (hk : ker h w v) (hd : dv (fR h) f w) (ht : po (fR h) t) (htv : letI := pR h; dv (fR h) f (t - (v + cz h s))) (hg : isG h (tpl h t) f d) (h0 : dgi h d < 1 ∨ dgi h f ≤ dgi h d) : alk h v f s := by
  letI := fR h
  letI := pR h
  have hF := fld_p h
  have hfp : po (fR h) f := ⟨_, hf.2⟩
  obtain ⟨k, k1, k2⟩ := hg.2.2.1
  have k3 : f = zmul (fR h) d k := k2.trans (zmul_comm (fR h) k d)
  have a := cut_alk h hsq hfp hk hd ht htv hg k1 k3
  have hdd : ∃ e, dg (fR h) d e := by
    rcases po_dg hg.1 with z | z
    · exfalso
      refine dg_ne hf ?_
      rw [k2, z]
      show k * (0 : Px p) = 0
      grind
    · exact z
  have hkd : ∃ e, dg (fR h) k e := by
    rcases po_dg k1 with z | z
    · exfalso
      refine dg_ne hf ?_
      rw [k2, z]
      show (0 : Px p) * d = 0
      grind
    · exact z
  obtain ⟨e1, he1⟩ := hdd
  obtain ⟨e2, he2⟩ := hkd
  have e3 : n = e1 + e2 := dg_un hf (by rw [k3]; exact mul_dg hF he1 he2)
  rw [dgi_of h he1, dgi_of h hf] at h0
  rcases h0 with z | z
  · have z1 : e1 = 0 := by omega
    rw [z1] at he1
    obtain ⟨t2, t3, t4⟩ := unit_of hF he1
    refine alk_dv h a.2 ⟨t2, t3, ?_⟩
    show k = t2 * f
    have t5 : (1 : Px p) = t2 * d := t4
    have k4 : f = d * k := k3
    rw [k4]
    have e9 : t2 * (d * k) = t2 * d * k := by grind
    rw [e9, ← t5]; grind
  · have z1 : e2 = 0 := by omega
    rw [z1] at he2
    obtain ⟨t2, t3, t4⟩ := unit_of hF he2
    refine alk_dv h a.1 ⟨t2, t3, ?_⟩
    show d = t2 * f
    have t5 : (1 : Px p) = t2 * k := t4
    have k4 : f = d * k := k3
    rw [k4]
    have e9 : t2 * (d * k) = t2 * k * d := by grind
    rw [e9, ← t5]; grind
end
