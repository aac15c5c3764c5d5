section
variable {p : Nat}
/-- what a call gives: a refusal, or a new polynomial; the answer w and the places T2 that follow -/
abbrev Rs (p : Nat) : Type := Int ⊕ Pxy p
def Ou (T : PT p) (r : Rs p) (w : Int) (T2 : PT p) : Prop := match r with
  | .inl c => w = c ∧ T2 = T
  | .inr F => isK T w ∧ T2 = putT T w F
theorem Ou_un {T : PT p} {r : Rs p} {w w2 : Int} {T2 T3 : PT p} (a : Ou T r w T2) (b : Ou T r w2 T3) : w = w2 ∧ T2 = T3 := by
  cases r with
  | inl c =>
    have a : w = c ∧ T2 = T := a
    have b : w2 = c ∧ T3 = T := b
    exact ⟨a.1.trans b.1.symm, a.2.trans b.2.symm⟩
  | inr F =>
    have a : isK T w ∧ T2 = putT T w F := a
    have b : isK T w2 ∧ T3 = putT T w2 F := b
    have e := isK_un a.1 b.1
    subst e
    exact ⟨rfl, a.2.trans b.2.symm⟩
def gT (T : PT p) (a : Int) : Option (Pxy p) := if 0 ≤ a ∧ a < 100 then T a.toNat else none
theorem gT_s {T : PT p} {a : Int} {F : Pxy p} (a0 : 0 ≤ a) (a1 : a < 100) (h : T a.toNat = some F) : gT T a = some F := by unfold gT; rw [if_pos ⟨a0, a1⟩]; exact h
theorem gT_n {T : PT p} {a : Int} (n : ¬ (0 ≤ a ∧ a < 100 ∧ ∃ F, T a.toNat = some F)) : gT T a = none := by
  unfold gT
  split
  · rename_i z
    cases e : T a.toNat with
    | none => rfl
    | some F => exact absurd ⟨z.1, z.2, F, e⟩ n
  · rfl
def ap1 (T : PT p) (a : Int) (f : Pxy p → Rs p) : Rs p := match gT T a with
  | some F => f F
  | none => .inl (-1)
def ap2 (T : PT p) (a b : Int) (f : Pxy p → Pxy p → Rs p) : Rs p := match gT T a with
  | some F => (match gT T b with
    | some G => f F G
    | none => .inl (-1))
  | none => .inl (-1)
theorem ap1_s {T : PT p} {a : Int} {F : Pxy p} {f : Pxy p → Rs p} (h : gT T a = some F) : ap1 T a f = f F := by unfold ap1; rw [h]
theorem ap1_n {T : PT p} {a : Int} {f : Pxy p → Rs p} (h : gT T a = none) : ap1 T a f = .inl (-1) := by unfold ap1; rw [h]
theorem ap2_s {T : PT p} {a b : Int} {F G : Pxy p} {f : Pxy p → Pxy p → Rs p} (h : gT T a = some F) (h2 : gT T b = some G) : ap2 T a b f = f F G := by unfold ap2; rw [h, h2]
theorem ap2_na {T : PT p} {a b : Int} {f : Pxy p → Pxy p → Rs p} (h : gT T a = none) : ap2 T a b f = .inl (-1) := by unfold ap2; rw [h]
theorem ap2_nb {T : PT p} {a b : Int} {f : Pxy p → Pxy p → Rs p} (h : gT T b = none) : ap2 T a b f = .inl (-1) := by
  unfold ap2
  split
  · rw [h]
  · rfl
/-- a plain one, where its degree isn't too high -/
noncomputable def kR (h : prm p) (f : Px p) : Rs p := if 40 < dgi h f then .inl (-4) else .inr (pF h f)
def oR (x : Option (Pxy p)) : Rs p := match x with
  | some H => .inr H
  | none => .inl (-4)
noncomputable def pl2 (h : prm p) (F G : Pxy p) (r : Rs p) : Rs p := if dY h F < 1 ∧ dY h G < 1 then r else .inl (-2)
noncomputable def pa8 (h : prm p) (f g : Px p) : Rs p := if dgi h g < 0 then .inl (-3) else kR h (qt h f g)
noncomputable def pa9 (h : prm p) (f g : Px p) : Rs p := if dgi h g < 0 then .inl (-3) else kR h (rm h f g)
noncomputable def pa10 (h : prm p) (f g : Px p) : Rs p := kR h (gP h f g)
noncomputable def pa11 (h : prm p) (f g : Px p) : Rs p := letI := Classical.propDecidable (1 ≤ dgi h g ∧ ∃ x, isI h f g x); if 1 ≤ dgi h g ∧ ∃ x, isI h f g x then kR h (ivM h f g) else .inl (-3)
noncomputable def pa13 (h : prm p) (f g : Px p) : Rs p := if dgi h f < 0 ∨ dgi h g < 0 then .inl (-3) else kR h (cz h (rsD h (dgi h f).toNat (dgi h g).toNat f g))
noncomputable def pa12 (h : prm p) (F G : Pxy p) : Rs p := if dY h F < 1 ∨ dY h G < 1 ∨ 6 < dX h F ∨ 6 < dX h G then .inl (-2) else kR h (resY h F G)
noncomputable def rac (h : prm p) (k : Nat) (F G : Pxy p) : Rs p := match k with
  | 0 => .inr (cmb h 1 F G)
  | 1 => .inr (cmb h (-1) F G)
  | 2 => oR (mulC h F G)
  | 4 => oR (hS h F G true (dX h F) (dX h F + 1).toNat)
  | 5 => oR (hS h F G false (dY h F) (dY h F + 1).toNat)
  | 8 => pl2 h F G (pa8 h (F 0) (G 0))
  | 9 => pl2 h F G (pa9 h (F 0) (G 0))
  | 10 => pl2 h F G (pa10 h (F 0) (G 0))
  | 11 => pl2 h F G (pa11 h (F 0) (G 0))
  | 12 => pa12 h F G
  | _ => pl2 h F G (pa13 h (F 0) (G 0))
noncomputable def rac1 (h : prm p) (k : Nat) (F : Pxy p) : Rs p := match k with
  | 3 => .inr (cmb h (-1) (zF h) F)
  | 6 => .inr (dvx h F)
  | _ => .inr (dvy h F)
noncomputable def rpw (h : prm p) (n : Int) (F G : Pxy p) : Rs p := if dY h F < 1 ∧ dY h G < 1 ∧ 0 ≤ n then (if dgi h (G 0) < 1 then .inl (-3) else kR h (rm h (pwp h (F 0) n.toNat) (G 0))) else .inl (-2)
/-- the reference's tables that any act may use -/
def MS (B : Nat) (h : GH) : Prop := MA B h ∧ MWA B h ∧ (∃ g, h.2 (B + 4) = some (aI 1500 g)) ∧ (∃ g, h.2 (B + 7) = some (aJ 6400 g)) ∧ ∃ g, h.2 (B + 8) = some (aI 11520 g)
theorem cmb_NW (h : prm p) {F G : Pxy p} {s : Int} {f g t : Int → Int} (hF : NW F f) (hG : NW G g) (hb : ∀ k, 0 ≤ k → k < 287 → 0 ≤ t k ∧ t k < p) (ht : ∀ k, 0 ≤ k → k < 287 → zi h (t k) = zi h (f k + s * g k)) : NW (cmb h s F G) t := by
  refine NW_of h hb (fun j i hj hi => ?_)
  rw [ht _ (by omega) (by omega), zi_add, zi_mul, hF.zi h hj hi, hG.zi h hj hi]
  rfl
theorem ng_NW (h : prm p) {F : Pxy p} {f t : Int → Int} (hF : NW F f) (hb : ∀ k, 0 ≤ k → k < 287 → 0 ≤ t k ∧ t k < p) (ht : ∀ k, 0 ≤ k → k < 287 → zi h (t k) = zi h (p - f k)) : NW (cmb h (-1) (zF h) F) t := by
  refine NW_of h hb (fun j i hj hi => ?_)
  rw [ht _ (by omega) (by omega), zi_sub, zi_p, hF.zi h hj hi]
  letI := fR h
  show (0 : Fp p) - F j i = 0 + zi h (-1) * F j i
  rw [zi_neg, zi_1]
  generalize F j i = x
  grind
end
theorem sM_keepR (N : GN) (h : GH) (B p : Nat) (hp : prm p) (hp2 : p ≤ 65536) (hf le fc pn rn hn qn : Int) (T : PT p) (r : Int) (f : Px p) (gm : Int → Int) (hm : h.2 B = some (mO B p hf le fc pn rn hn qn)) (hT : MP hp B h T) (hw : MWA B h) (h4 : h.2 (B + 4) = some (aI 1500 gm)) (hG : MG hp B h r f) : Sp N yX10_keepRegister mX10_keepRegister 0 0 [.ref (B), .int (gI (r))] h (fun v h1 => MF B [B + 1, B + 3] [] h h1 ∧ h1.2 (B + 4) = some (aI 1500 gm) ∧ MWA B h1 ∧ ∃ w T2, Ou T (kR hp f) w T2 ∧ v = some (.int (gI w)) ∧ MP hp B h1 T2) :=
  Sp.imp (sM_keepRegister N h B p hp hp2 hf le fc pn rn hn qn T r f hm gm hT hw h4 hG) (fun v h1 ⟨a, b, c, d⟩ => ⟨a, b, c, by
    rcases d with ⟨d1, d2, d3⟩ | ⟨d1, w, d2, d3, d4⟩
    · exact ⟨-4, T, by unfold kR; rw [if_pos d1]; exact ⟨rfl, rfl⟩, d2, d3⟩
    · exact ⟨w, _, by unfold kR; rw [if_neg (by omega)]; exact ⟨d2, rfl⟩, d3, d4⟩⟩)
section
variable {p : Nat}
theorem ivI_is (h : prm p) {a b u v s t : Px p} {c : Int} (ha : po (fR h) a) (hb : po (fR h) b) (hu : po (fR h) u) (hu0 : dgi h u = 0) (hc : c = cf u 0) (H : ivI h a b u v s t) : isI h a b (ivM h a b) := by
  have hy := ivI_yes h ha hb hu hu0 hc H
  letI := pR h
  have hcb := cf_in u h 0
  obtain ⟨hs, ht, -, -, h5, -, h7, -⟩ := H
  have hd : po (fR h) (cz h (zi h (ivr p c))) := cz_po h _
  have hne : letI := fR h; u 0 ≠ 0 := by
    have := dgi_dg h hu (by omega)
    rw [show (dgi h u).toNat = 0 by omega] at this
    exact this.1
  have c0 : 0 < c := by
    rw [hc]
    rcases Int.lt_or_le 0 (cf u 0) with z | z
    · exact z
    · exfalso
      apply hne
      have e9 := cf_zi h u 0
      rw [show ((0 : Nat) : Int) = 0 from rfl, show cf u 0 = 0 by omega, zi_0] at e9
      exact e9.symm
  have hu1 : u = cz h (zi h c) := funext fun k => by
    letI := fR h
    show u k = if k = 0 then zi h c else 0
    by_cases z : k = 0
    · subst z; rw [if_pos rfl, hc]; exact (cf_zi h u 0).symm
    · rw [if_neg z]; exact dgi_dl h hu k (by omega)
  have e1 : cz h (zi h (ivr p c)) * u = 1 := by
    rw [hu1, ← cz_mul, ivr_zi h c0 (by rw [hc]; exact hcb.2)]
    rfl
  rw [← hy.1]
  refine ⟨mul_po hd hs, ?_, ?_⟩
  · have : dgi h (pml h (cz h (zi h (ivr p c))) s) = _ := mul_dgi h hd hs
    rw [this, cz_dgi h hy.2.1]
    have := dgi_ge h hb
    have := dgi_ge h hs
    have := hy.2.2
    split <;> omega
  · have e2 : a * (cz h (zi h (ivr p c)) * s) - 1 = cz h (zi h (ivr p c)) * (a * s - u) := by
      generalize cz h (zi h (ivr p c)) = d at e1 ⊢
      grind
    show dv (fR h) b (a * (cz h (zi h (ivr p c)) * s) - 1)
    rw [e2]
    exact dv_mul _ hd h5
end
set_option maxHeartbeats 4000000 in
set_option maxRecDepth 100000 in
theorem sM_plainAct8 (N : GN) (h : GH) (B p : Nat) (hp : prm p) (hp2 : p ≤ 65536) (hf le fc pn rn hn qn : Int) (T : PT p) (fa fb : Px p) (hm : h.2 B = some (mO B p hf le fc pn rn hn qn)) (hT : MP hp B h T) (ms : MS B h) (hGa : MG hp B h 0 fa) (hGb : MG hp B h 1 fb) : Sp N yX10_plainAct mX10_plainAct 0 0 [.ref (B), .int (gI (8))] h (fun v h1 => Fr [B + 1, B + 3, B + 5, B + 7] h h1 ∧ MS B h1 ∧ ∃ w T2, Ou T (pa8 hp fa fb) w T2 ∧ v = some (.int (gI w)) ∧ MP hp B h1 T2) := by
  refine Sp.of (by decide) rfl rfl (Nat.le_of_ble_eq_true rfl) ?_
  show Go N mX10_plainAct _ 0 0 h 0 [(0, .ref (B)), (1, .int (gI (8)))] []
  have hp1 := hp.1
  have neA : NE B (B + 5) := by unfold NE; omega
  have neB : NE B (B + 6) := by unfold NE; omega
  have neC : NE (B + 5) (B + 6) := by unfold NE; omega
  have ne0 : NE (B) (B + 1) := by unfold NE; omega
  have ne1 : NE (B) (B + 2) := by unfold NE; omega
  have ne2 : NE (B) (B + 3) := by unfold NE; omega
  have ne3 : NE (B) (B + 4) := by unfold NE; omega
  have ne4 : NE (B) (B + 5) := by unfold NE; omega
  have ne5 : NE (B) (B + 6) := by unfold NE; omega
  have ne6 : NE (B) (B + 7) := by unfold NE; omega
  have ne7 : NE (B) (B + 8) := by unfold NE; omega
  have ne8 : NE (B + 1) (B + 2) := by unfold NE; omega
  have ne9 : NE (B + 1) (B + 3) := by unfold NE; omega
  have ne10 : NE (B + 1) (B + 4) := by unfold NE; omega
  have ne11 : NE (B + 1) (B + 5) := by unfold NE; omega
  have ne12 : NE (B + 1) (B + 6) := by unfold NE; omega
  have ne13 : NE (B + 1) (B + 7) := by unfold NE; omega
  have ne14 : NE (B + 1) (B + 8) := by unfold NE; omega
  have ne15 : NE (B + 2) (B + 3) := by unfold NE; omega
  have ne16 : NE (B + 2) (B + 4) := by unfold NE; omega
  have ne17 : NE (B + 2) (B + 5) := by unfold NE; omega
  have ne18 : NE (B + 2) (B + 6) := by unfold NE; omega
  have ne19 : NE (B + 2) (B + 7) := by unfold NE; omega
  have ne20 : NE (B + 2) (B + 8) := by unfold NE; omega
  have ne21 : NE (B + 3) (B + 4) := by unfold NE; omega
  have ne22 : NE (B + 3) (B + 5) := by unfold NE; omega
  have ne23 : NE (B + 3) (B + 6) := by unfold NE; omega
  have ne24 : NE (B + 3) (B + 7) := by unfold NE; omega
  have ne25 : NE (B + 3) (B + 8) := by unfold NE; omega
  have ne26 : NE (B + 4) (B + 5) := by unfold NE; omega
  have ne27 : NE (B + 4) (B + 6) := by unfold NE; omega
  have ne28 : NE (B + 4) (B + 7) := by unfold NE; omega
  have ne29 : NE (B + 4) (B + 8) := by unfold NE; omega
  have ne30 : NE (B + 5) (B + 6) := by unfold NE; omega
  have ne31 : NE (B + 5) (B + 7) := by unfold NE; omega
  have ne32 : NE (B + 5) (B + 8) := by unfold NE; omega
  have ne33 : NE (B + 6) (B + 7) := by unfold NE; omega
  have ne34 : NE (B + 6) (B + 8) := by unfold NE; omega
  have ne35 : NE (B + 7) (B + 8) := by unfold NE; omega
  obtain ⟨ma, hw, ⟨gm, h4⟩, ⟨g7, h7⟩, ⟨g8, h8⟩⟩ := ms
  have hpa := hGa.po
  have hpb := hGb.po
  have hla := hGa.lt
  have hlb := hGb.lt
  refine g_iload_n 1 dX10_plainAct_0 rfl ?_
  refine g_bipush dX10_plainAct_1 (by decide) ?_
  refine g_icmp_eq (tgt := 12) dX10_plainAct_3 rfl (by unfold gW; omega) (by unfold gW; omega) (fun c1 => ?_) (fun c1 => absurd c1 (by omega))
  refine g_aload_n 0 dX10_plainAct_12 rfl ?_
  refine g_getf 6 dX10_plainAct_13 kX10 (by decide) fX10_26 hm rfl ?_
  refine g_iconst dX10_plainAct_16 ?_
  obtain ⟨dz2, ez2, fz2⟩ := MG.get hGb
  refine g_iaload dX10_plainAct_17 ez2 (by omega) (by omega) (by omega) ?_
  rw [fz2]
  refine g_if_ge (tgt := 24) dX10_plainAct_18 rfl (by unfold gW; omega) (fun c3 => ?_) (fun c3 => ?_)
  · skip
    refine g_aload_n 0 dX10_plainAct_24 rfl ?_
    refine g_iconst dX10_plainAct_25 ?_
    refine g_iconst dX10_plainAct_26 ?_
    refine g_iconst dX10_plainAct_27 ?_
    refine g_iconst dX10_plainAct_28 ?_
    refine g_callV (nc2 := 0) (ns2 := 0) (ci := 10) (As := [.int (gI (0)), .int (gI (1)), .int (gI (2)), .int (gI (3))]) (st := []) rfl dX10_plainAct_29 okX10_divide lX10_176 itX10_divide seX10_divide rfl hm (by decide) (by decide) rfl (Nat.le_of_ble_eq_true rfl) (sM_divide N _ B p hp hp2 hf le fc pn rn hn qn (0) (1) (2) (3) (by omega) (by omega) (by omega) (by omega) (by omega) (by omega) (fa) (fb) hm ((MF.rf [B + 1, B + 3] [2, 3] ma)).2.1 hGa hGb (by omega)) (by omega) (by omega) (fun v4 hc4 q4 => ?_)
    obtain ⟨rfl, mfc5, rn5_0, rn5_1⟩ := q4
    have fk6_0 : hc4.2 (B) = some (mO B ((p : Int)) (hf) (le) (fc) (pn) (rn) (hn) (qn)) := Fr.at0 (mfc5).1 (Ni.c ⟨ne4, ne5⟩ (Ni.n _)) hm
    have fk6_1 : hc4.2 (B + 4) = some (aI 1500 (gm)) := Fr.at0 (mfc5).1 (Ni.c ⟨ne26, ne27⟩ (Ni.n _)) h4
    have fk6_2 : hc4.2 (B + 7) = some (aJ 6400 (g7)) := Fr.at0 (mfc5).1 (Ni.c ⟨(ne31).s, (ne33).s⟩ (Ni.n _)) h7
    have fk6_3 : hc4.2 (B + 8) = some (aI 11520 (g8)) := Fr.at0 (mfc5).1 (Ni.c ⟨(ne32).s, (ne34).s⟩ (Ni.n _)) h8
    have rk6_0 : MP hp B hc4 (T) := (hT).fr (mfc5).1 (Ni.c ⟨ne11, ne12⟩ (Ni.n _)) (Ni.c ⟨ne17, ne18⟩ (Ni.n _))
    have rk6_1 : MWA B hc4 := (hw).fr (mfc5).1 (Ni.c ⟨ne22, ne23⟩ (Ni.n _))
    have rk6_2 : MG hp B hc4 (0) (fa) := (hGa).fr hp2 mfc5 (Nr.c (by omega) (Nr.c (by omega) Nr.n))
    have rk6_3 : MG hp B hc4 (1) (fb) := (hGb).fr hp2 mfc5 (Nr.c (by omega) (Nr.c (by omega) Nr.n))
    have fr6 : MF B [B + 1, B + 3] [2, 3] h hc4 := ((MF.rf [B + 1, B + 3] [2, 3] ma)).tr ((mfc5).mo sub_n (sbI_c (List.Mem.tail _ (List.Mem.head _)) (sbI_c (List.Mem.head _) sbI_n)))
    refine Go.nf (h' := hc4) (st' := []) rfl rfl (Nat.le_refl _) (Nat.le_refl _) ?_
    refine g_aload_n 0 dX10_plainAct_32 rfl ?_
    refine g_iload_n 1 dX10_plainAct_33 rfl ?_
    refine g_bipush dX10_plainAct_34 (by decide) ?_
    refine g_icmp_ne (tgt := 43) dX10_plainAct_36 rfl (by unfold gW; omega) (by unfold gW; omega) (fun c7 => absurd c7 (by omega)) (fun c7 => ?_)
    refine g_iconst dX10_plainAct_39 ?_
    refine g_goto (tgt := 44) dX10_plainAct_40 rfl ?_
    refine g_callV (nc2 := 0) (ns2 := 0) (ci := 10) (As := [.int (gI (2))]) (st := []) rfl dX10_plainAct_44 okX10_keepRegister lX10_182 itX10_keepRegister seX10_keepRegister rfl fk6_0 (by decide) (by decide) rfl (Nat.le_of_ble_eq_true rfl) (sM_keepR N _ B p hp hp2 hf le fc pn rn hn qn T (2) (qt hp (fa) (fb)) (gm) fk6_0 rk6_0 rk6_1 fk6_1 rn5_1) (by omega) (by omega) (fun v8 hc8 q8 => ?_)
    obtain ⟨mfc9, f4_9, mwa9, w9, T2_9, hO9, rfl, mp9⟩ := q8
    have fk10_0 : hc8.2 (B) = some (mO B ((p : Int)) (hf) (le) (fc) (pn) (rn) (hn) (qn)) := Fr.at0 (mfc9).1 (Ni.c ⟨ne4, ne5⟩ (Ni.c ⟨ne0, ne1⟩ (Ni.c ⟨ne2, ne3⟩ (Ni.n _)))) fk6_0
    have fk10_2 : hc8.2 (B + 7) = some (aJ 6400 (g7)) := Fr.at0 (mfc9).1 (Ni.c ⟨(ne31).s, (ne33).s⟩ (Ni.c ⟨(ne13).s, (ne19).s⟩ (Ni.c ⟨(ne24).s, (ne28).s⟩ (Ni.n _)))) fk6_2
    have fk10_3 : hc8.2 (B + 8) = some (aI 11520 (g8)) := Fr.at0 (mfc9).1 (Ni.c ⟨(ne32).s, (ne34).s⟩ (Ni.c ⟨(ne14).s, (ne20).s⟩ (Ni.c ⟨(ne25).s, (ne29).s⟩ (Ni.n _)))) fk6_3
    have rk10_2 : MG hp B hc8 (0) (fa) := (rk6_2).fr hp2 mfc9 Nr.n
    have rk10_3 : MG hp B hc8 (1) (fb) := (rk6_3).fr hp2 mfc9 Nr.n
    have rk10_4 : MG hp B hc8 (3) (rm hp (fa) (fb)) := (rn5_0).fr hp2 mfc9 Nr.n
    have rk10_5 : MG hp B hc8 (2) (qt hp (fa) (fb)) := (rn5_1).fr hp2 mfc9 Nr.n
    have fr10 : MF B [B + 1, B + 3] [2, 3] h hc8 := (fr6).tr ((mfc9).mo (sub_c (List.Mem.head _) (sub_c (List.Mem.tail _ (List.Mem.head _)) sub_n)) sbI_n)
    refine Go.nf (h' := hc8) (st' := [.int (gI (w9))]) rfl rfl (Nat.le_refl _) (Nat.le_refl _) ?_
    exact g_iret dX10_plainAct_47 rfl ⟨((fr10).1.mo (sub_c (List.Mem.tail _ (List.Mem.tail _ (List.Mem.head _))) (sub_c (List.Mem.head _) (sub_c (List.Mem.tail _ (List.Mem.head _)) sub_n)))), ⟨(fr10).2.1, mwa9, ⟨_, f4_9⟩, ⟨_, fk10_2⟩, ⟨_, fk10_3⟩⟩, w9, T2_9, (by unfold pa8; rw [if_neg (by omega)]; exact hO9), rfl, mp9⟩
  · skip
    refine g_bipush dX10_plainAct_21 (by decide) ?_
    exact g_iret dX10_plainAct_23 rfl ⟨(((MF.rf [B + 1, B + 3] [2, 3] ma)).1.mo (sub_c (List.Mem.tail _ (List.Mem.tail _ (List.Mem.head _))) (sub_c (List.Mem.head _) (sub_c (List.Mem.tail _ (List.Mem.head _)) sub_n)))), ⟨((MF.rf [B + 1, B + 3] [2, 3] ma)).2.1, hw, ⟨_, h4⟩, ⟨_, h7⟩, ⟨_, h8⟩⟩, (-3), T, (by unfold pa8; rw [if_pos (by omega)]; exact ⟨rfl, rfl⟩), rfl, hT⟩
set_option maxHeartbeats 4000000 in
set_option maxRecDepth 100000 in
theorem sM_plainAct9 (N : GN) (h : GH) (B p : Nat) (hp : prm p) (hp2 : p ≤ 65536) (hf le fc pn rn hn qn : Int) (T : PT p) (fa fb : Px p) (hm : h.2 B = some (mO B p hf le fc pn rn hn qn)) (hT : MP hp B h T) (ms : MS B h) (hGa : MG hp B h 0 fa) (hGb : MG hp B h 1 fb) : Sp N yX10_plainAct mX10_plainAct 0 0 [.ref (B), .int (gI (9))] h (fun v h1 => Fr [B + 1, B + 3, B + 5, B + 7] h h1 ∧ MS B h1 ∧ ∃ w T2, Ou T (pa9 hp fa fb) w T2 ∧ v = some (.int (gI w)) ∧ MP hp B h1 T2) := by
  refine Sp.of (by decide) rfl rfl (Nat.le_of_ble_eq_true rfl) ?_
  show Go N mX10_plainAct _ 0 0 h 0 [(0, .ref (B)), (1, .int (gI (9)))] []
  have hp1 := hp.1
  have neA : NE B (B + 5) := by unfold NE; omega
  have neB : NE B (B + 6) := by unfold NE; omega
  have neC : NE (B + 5) (B + 6) := by unfold NE; omega
  have ne0 : NE (B) (B + 1) := by unfold NE; omega
  have ne1 : NE (B) (B + 2) := by unfold NE; omega
  have ne2 : NE (B) (B + 3) := by unfold NE; omega
  have ne3 : NE (B) (B + 4) := by unfold NE; omega
  have ne4 : NE (B) (B + 5) := by unfold NE; omega
  have ne5 : NE (B) (B + 6) := by unfold NE; omega
  have ne6 : NE (B) (B + 7) := by unfold NE; omega
  have ne7 : NE (B) (B + 8) := by unfold NE; omega
  have ne8 : NE (B + 1) (B + 2) := by unfold NE; omega
  have ne9 : NE (B + 1) (B + 3) := by unfold NE; omega
  have ne10 : NE (B + 1) (B + 4) := by unfold NE; omega
  have ne11 : NE (B + 1) (B + 5) := by unfold NE; omega
  have ne12 : NE (B + 1) (B + 6) := by unfold NE; omega
  have ne13 : NE (B + 1) (B + 7) := by unfold NE; omega
  have ne14 : NE (B + 1) (B + 8) := by unfold NE; omega
  have ne15 : NE (B + 2) (B + 3) := by unfold NE; omega
  have ne16 : NE (B + 2) (B + 4) := by unfold NE; omega
  have ne17 : NE (B + 2) (B + 5) := by unfold NE; omega
  have ne18 : NE (B + 2) (B + 6) := by unfold NE; omega
  have ne19 : NE (B + 2) (B + 7) := by unfold NE; omega
  have ne20 : NE (B + 2) (B + 8) := by unfold NE; omega
  have ne21 : NE (B + 3) (B + 4) := by unfold NE; omega
  have ne22 : NE (B + 3) (B + 5) := by unfold NE; omega
  have ne23 : NE (B + 3) (B + 6) := by unfold NE; omega
  have ne24 : NE (B + 3) (B + 7) := by unfold NE; omega
  have ne25 : NE (B + 3) (B + 8) := by unfold NE; omega
  have ne26 : NE (B + 4) (B + 5) := by unfold NE; omega
  have ne27 : NE (B + 4) (B + 6) := by unfold NE; omega
  have ne28 : NE (B + 4) (B + 7) := by unfold NE; omega
  have ne29 : NE (B + 4) (B + 8) := by unfold NE; omega
  have ne30 : NE (B + 5) (B + 6) := by unfold NE; omega
  have ne31 : NE (B + 5) (B + 7) := by unfold NE; omega
  have ne32 : NE (B + 5) (B + 8) := by unfold NE; omega
  have ne33 : NE (B + 6) (B + 7) := by unfold NE; omega
  have ne34 : NE (B + 6) (B + 8) := by unfold NE; omega
  have ne35 : NE (B + 7) (B + 8) := by unfold NE; omega
  obtain ⟨ma, hw, ⟨gm, h4⟩, ⟨g7, h7⟩, ⟨g8, h8⟩⟩ := ms
  have hpa := hGa.po
  have hpb := hGb.po
  have hla := hGa.lt
  have hlb := hGb.lt
  refine g_iload_n 1 dX10_plainAct_0 rfl ?_
  refine g_bipush dX10_plainAct_1 (by decide) ?_
  refine g_icmp_eq (tgt := 12) dX10_plainAct_3 rfl (by unfold gW; omega) (by unfold gW; omega) (fun c1 => absurd c1 (by omega)) (fun c1 => ?_)
  refine g_iload_n 1 dX10_plainAct_6 rfl ?_
  refine g_bipush dX10_plainAct_7 (by decide) ?_
  refine g_icmp_ne (tgt := 48) dX10_plainAct_9 rfl (by unfold gW; omega) (by unfold gW; omega) (fun c2 => absurd c2 (by omega)) (fun c2 => ?_)
  refine g_aload_n 0 dX10_plainAct_12 rfl ?_
  refine g_getf 6 dX10_plainAct_13 kX10 (by decide) fX10_26 hm rfl ?_
  refine g_iconst dX10_plainAct_16 ?_
  obtain ⟨dz3, ez3, fz3⟩ := MG.get hGb
  refine g_iaload dX10_plainAct_17 ez3 (by omega) (by omega) (by omega) ?_
  rw [fz3]
  refine g_if_ge (tgt := 24) dX10_plainAct_18 rfl (by unfold gW; omega) (fun c4 => ?_) (fun c4 => ?_)
  · skip
    refine g_aload_n 0 dX10_plainAct_24 rfl ?_
    refine g_iconst dX10_plainAct_25 ?_
    refine g_iconst dX10_plainAct_26 ?_
    refine g_iconst dX10_plainAct_27 ?_
    refine g_iconst dX10_plainAct_28 ?_
    refine g_callV (nc2 := 0) (ns2 := 0) (ci := 10) (As := [.int (gI (0)), .int (gI (1)), .int (gI (2)), .int (gI (3))]) (st := []) rfl dX10_plainAct_29 okX10_divide lX10_176 itX10_divide seX10_divide rfl hm (by decide) (by decide) rfl (Nat.le_of_ble_eq_true rfl) (sM_divide N _ B p hp hp2 hf le fc pn rn hn qn (0) (1) (2) (3) (by omega) (by omega) (by omega) (by omega) (by omega) (by omega) (fa) (fb) hm ((MF.rf [B + 1, B + 3] [2, 3] ma)).2.1 hGa hGb (by omega)) (by omega) (by omega) (fun v5 hc5 q5 => ?_)
    obtain ⟨rfl, mfc6, rn6_0, rn6_1⟩ := q5
    have fk7_0 : hc5.2 (B) = some (mO B ((p : Int)) (hf) (le) (fc) (pn) (rn) (hn) (qn)) := Fr.at0 (mfc6).1 (Ni.c ⟨ne4, ne5⟩ (Ni.n _)) hm
    have fk7_1 : hc5.2 (B + 4) = some (aI 1500 (gm)) := Fr.at0 (mfc6).1 (Ni.c ⟨ne26, ne27⟩ (Ni.n _)) h4
    have fk7_2 : hc5.2 (B + 7) = some (aJ 6400 (g7)) := Fr.at0 (mfc6).1 (Ni.c ⟨(ne31).s, (ne33).s⟩ (Ni.n _)) h7
    have fk7_3 : hc5.2 (B + 8) = some (aI 11520 (g8)) := Fr.at0 (mfc6).1 (Ni.c ⟨(ne32).s, (ne34).s⟩ (Ni.n _)) h8
    have rk7_0 : MP hp B hc5 (T) := (hT).fr (mfc6).1 (Ni.c ⟨ne11, ne12⟩ (Ni.n _)) (Ni.c ⟨ne17, ne18⟩ (Ni.n _))
    have rk7_1 : MWA B hc5 := (hw).fr (mfc6).1 (Ni.c ⟨ne22, ne23⟩ (Ni.n _))
    have rk7_2 : MG hp B hc5 (0) (fa) := (hGa).fr hp2 mfc6 (Nr.c (by omega) (Nr.c (by omega) Nr.n))
    have rk7_3 : MG hp B hc5 (1) (fb) := (hGb).fr hp2 mfc6 (Nr.c (by omega) (Nr.c (by omega) Nr.n))
    have fr7 : MF B [B + 1, B + 3] [2, 3] h hc5 := ((MF.rf [B + 1, B + 3] [2, 3] ma)).tr ((mfc6).mo sub_n (sbI_c (List.Mem.tail _ (List.Mem.head _)) (sbI_c (List.Mem.head _) sbI_n)))
    refine Go.nf (h' := hc5) (st' := []) rfl rfl (Nat.le_refl _) (Nat.le_refl _) ?_
    refine g_aload_n 0 dX10_plainAct_32 rfl ?_
    refine g_iload_n 1 dX10_plainAct_33 rfl ?_
    refine g_bipush dX10_plainAct_34 (by decide) ?_
    refine g_icmp_ne (tgt := 43) dX10_plainAct_36 rfl (by unfold gW; omega) (by unfold gW; omega) (fun c8 => ?_) (fun c8 => absurd c8 (by omega))
    refine g_iconst dX10_plainAct_43 ?_
    refine g_callV (nc2 := 0) (ns2 := 0) (ci := 10) (As := [.int (gI (3))]) (st := []) rfl dX10_plainAct_44 okX10_keepRegister lX10_182 itX10_keepRegister seX10_keepRegister rfl fk7_0 (by decide) (by decide) rfl (Nat.le_of_ble_eq_true rfl) (sM_keepR N _ B p hp hp2 hf le fc pn rn hn qn T (3) (rm hp (fa) (fb)) (gm) fk7_0 rk7_0 rk7_1 fk7_1 rn6_0) (by omega) (by omega) (fun v9 hc9 q9 => ?_)
    obtain ⟨mfc10, f4_10, mwa10, w10, T2_10, hO10, rfl, mp10⟩ := q9
    have fk11_0 : hc9.2 (B) = some (mO B ((p : Int)) (hf) (le) (fc) (pn) (rn) (hn) (qn)) := Fr.at0 (mfc10).1 (Ni.c ⟨ne4, ne5⟩ (Ni.c ⟨ne0, ne1⟩ (Ni.c ⟨ne2, ne3⟩ (Ni.n _)))) fk7_0
    have fk11_2 : hc9.2 (B + 7) = some (aJ 6400 (g7)) := Fr.at0 (mfc10).1 (Ni.c ⟨(ne31).s, (ne33).s⟩ (Ni.c ⟨(ne13).s, (ne19).s⟩ (Ni.c ⟨(ne24).s, (ne28).s⟩ (Ni.n _)))) fk7_2
    have fk11_3 : hc9.2 (B + 8) = some (aI 11520 (g8)) := Fr.at0 (mfc10).1 (Ni.c ⟨(ne32).s, (ne34).s⟩ (Ni.c ⟨(ne14).s, (ne20).s⟩ (Ni.c ⟨(ne25).s, (ne29).s⟩ (Ni.n _)))) fk7_3
    have rk11_2 : MG hp B hc9 (0) (fa) := (rk7_2).fr hp2 mfc10 Nr.n
    have rk11_3 : MG hp B hc9 (1) (fb) := (rk7_3).fr hp2 mfc10 Nr.n
    have rk11_4 : MG hp B hc9 (3) (rm hp (fa) (fb)) := (rn6_0).fr hp2 mfc10 Nr.n
    have rk11_5 : MG hp B hc9 (2) (qt hp (fa) (fb)) := (rn6_1).fr hp2 mfc10 Nr.n
    have fr11 : MF B [B + 1, B + 3] [2, 3] h hc9 := (fr7).tr ((mfc10).mo (sub_c (List.Mem.head _) (sub_c (List.Mem.tail _ (List.Mem.head _)) sub_n)) sbI_n)
    refine Go.nf (h' := hc9) (st' := [.int (gI (w10))]) rfl rfl (Nat.le_refl _) (Nat.le_refl _) ?_
    exact g_iret dX10_plainAct_47 rfl ⟨((fr11).1.mo (sub_c (List.Mem.tail _ (List.Mem.tail _ (List.Mem.head _))) (sub_c (List.Mem.head _) (sub_c (List.Mem.tail _ (List.Mem.head _)) sub_n)))), ⟨(fr11).2.1, mwa10, ⟨_, f4_10⟩, ⟨_, fk11_2⟩, ⟨_, fk11_3⟩⟩, w10, T2_10, (by unfold pa9; rw [if_neg (by omega)]; exact hO10), rfl, mp10⟩
  · skip
    refine g_bipush dX10_plainAct_21 (by decide) ?_
    exact g_iret dX10_plainAct_23 rfl ⟨(((MF.rf [B + 1, B + 3] [2, 3] ma)).1.mo (sub_c (List.Mem.tail _ (List.Mem.tail _ (List.Mem.head _))) (sub_c (List.Mem.head _) (sub_c (List.Mem.tail _ (List.Mem.head _)) sub_n)))), ⟨((MF.rf [B + 1, B + 3] [2, 3] ma)).2.1, hw, ⟨_, h4⟩, ⟨_, h7⟩, ⟨_, h8⟩⟩, (-3), T, (by unfold pa9; rw [if_pos (by omega)]; exact ⟨rfl, rfl⟩), rfl, hT⟩
set_option maxHeartbeats 4000000 in
set_option maxRecDepth 100000 in
theorem sM_plainAct10 (N : GN) (h : GH) (B p : Nat) (hp : prm p) (hp2 : p ≤ 65536) (hf le fc pn rn hn qn : Int) (T : PT p) (fa fb : Px p) (hm : h.2 B = some (mO B p hf le fc pn rn hn qn)) (hT : MP hp B h T) (ms : MS B h) (hGa : MG hp B h 0 fa) (hGb : MG hp B h 1 fb) : Sp N yX10_plainAct mX10_plainAct 0 0 [.ref (B), .int (gI (10))] h (fun v h1 => Fr [B + 1, B + 3, B + 5, B + 7] h h1 ∧ MS B h1 ∧ ∃ w T2, Ou T (pa10 hp fa fb) w T2 ∧ v = some (.int (gI w)) ∧ MP hp B h1 T2) := by
  refine Sp.of (by decide) rfl rfl (Nat.le_of_ble_eq_true rfl) ?_
  show Go N mX10_plainAct _ 0 0 h 0 [(0, .ref (B)), (1, .int (gI (10)))] []
  have hp1 := hp.1
  have neA : NE B (B + 5) := by unfold NE; omega
  have neB : NE B (B + 6) := by unfold NE; omega
  have neC : NE (B + 5) (B + 6) := by unfold NE; omega
  have ne0 : NE (B) (B + 1) := by unfold NE; omega
  have ne1 : NE (B) (B + 2) := by unfold NE; omega
  have ne2 : NE (B) (B + 3) := by unfold NE; omega
  have ne3 : NE (B) (B + 4) := by unfold NE; omega
  have ne4 : NE (B) (B + 5) := by unfold NE; omega
  have ne5 : NE (B) (B + 6) := by unfold NE; omega
  have ne6 : NE (B) (B + 7) := by unfold NE; omega
  have ne7 : NE (B) (B + 8) := by unfold NE; omega
  have ne8 : NE (B + 1) (B + 2) := by unfold NE; omega
  have ne9 : NE (B + 1) (B + 3) := by unfold NE; omega
  have ne10 : NE (B + 1) (B + 4) := by unfold NE; omega
  have ne11 : NE (B + 1) (B + 5) := by unfold NE; omega
  have ne12 : NE (B + 1) (B + 6) := by unfold NE; omega
  have ne13 : NE (B + 1) (B + 7) := by unfold NE; omega
  have ne14 : NE (B + 1) (B + 8) := by unfold NE; omega
  have ne15 : NE (B + 2) (B + 3) := by unfold NE; omega
  have ne16 : NE (B + 2) (B + 4) := by unfold NE; omega
  have ne17 : NE (B + 2) (B + 5) := by unfold NE; omega
  have ne18 : NE (B + 2) (B + 6) := by unfold NE; omega
  have ne19 : NE (B + 2) (B + 7) := by unfold NE; omega
  have ne20 : NE (B + 2) (B + 8) := by unfold NE; omega
  have ne21 : NE (B + 3) (B + 4) := by unfold NE; omega
  have ne22 : NE (B + 3) (B + 5) := by unfold NE; omega
  have ne23 : NE (B + 3) (B + 6) := by unfold NE; omega
  have ne24 : NE (B + 3) (B + 7) := by unfold NE; omega
  have ne25 : NE (B + 3) (B + 8) := by unfold NE; omega
  have ne26 : NE (B + 4) (B + 5) := by unfold NE; omega
  have ne27 : NE (B + 4) (B + 6) := by unfold NE; omega
  have ne28 : NE (B + 4) (B + 7) := by unfold NE; omega
  have ne29 : NE (B + 4) (B + 8) := by unfold NE; omega
  have ne30 : NE (B + 5) (B + 6) := by unfold NE; omega
  have ne31 : NE (B + 5) (B + 7) := by unfold NE; omega
  have ne32 : NE (B + 5) (B + 8) := by unfold NE; omega
  have ne33 : NE (B + 6) (B + 7) := by unfold NE; omega
  have ne34 : NE (B + 6) (B + 8) := by unfold NE; omega
  have ne35 : NE (B + 7) (B + 8) := by unfold NE; omega
  obtain ⟨ma, hw, ⟨gm, h4⟩, ⟨g7, h7⟩, ⟨g8, h8⟩⟩ := ms
  have hpa := hGa.po
  have hpb := hGb.po
  have hla := hGa.lt
  have hlb := hGb.lt
  refine g_iload_n 1 dX10_plainAct_0 rfl ?_
  refine g_bipush dX10_plainAct_1 (by decide) ?_
  refine g_icmp_eq (tgt := 12) dX10_plainAct_3 rfl (by unfold gW; omega) (by unfold gW; omega) (fun c1 => absurd c1 (by omega)) (fun c1 => ?_)
  refine g_iload_n 1 dX10_plainAct_6 rfl ?_
  refine g_bipush dX10_plainAct_7 (by decide) ?_
  refine g_icmp_ne (tgt := 48) dX10_plainAct_9 rfl (by unfold gW; omega) (by unfold gW; omega) (fun c2 => ?_) (fun c2 => absurd c2 (by omega))
  refine g_iload_n 1 dX10_plainAct_48 rfl ?_
  refine g_bipush dX10_plainAct_49 (by decide) ?_
  refine g_icmp_ne (tgt := 67) dX10_plainAct_51 rfl (by unfold gW; omega) (by unfold gW; omega) (fun c3 => absurd c3 (by omega)) (fun c3 => ?_)
  refine g_aload_n 0 dX10_plainAct_54 rfl ?_
  refine g_iconst dX10_plainAct_55 ?_
  refine g_iconst dX10_plainAct_56 ?_
  refine g_iconst dX10_plainAct_57 ?_
  refine g_callV (nc2 := 0) (ns2 := 0) (ci := 10) (As := [.int (gI (0)), .int (gI (1)), .int (gI (2))]) (st := []) rfl dX10_plainAct_58 okX10_common lX10_185 itX10_common seX10_common rfl hm (by decide) (by decide) rfl (Nat.le_of_ble_eq_true rfl) (sM_common N _ B p hp hp2 hf le fc pn rn hn qn (0) (1) (2) (by omega) (by omega) (by omega) (fa) (fb) hm ((MF.rf [B + 1, B + 3] [30, 31, 32, 33, 2] ma)).2.1 hGa hGb) (by omega) (by omega) (fun v4 hc4 q4 => ?_)
  obtain ⟨rfl, mfc5, rn5_0⟩ := q4
  have fk6_0 : hc4.2 (B) = some (mO B ((p : Int)) (hf) (le) (fc) (pn) (rn) (hn) (qn)) := Fr.at0 (mfc5).1 (Ni.c ⟨ne4, ne5⟩ (Ni.n _)) hm
  have fk6_1 : hc4.2 (B + 4) = some (aI 1500 (gm)) := Fr.at0 (mfc5).1 (Ni.c ⟨ne26, ne27⟩ (Ni.n _)) h4
  have fk6_2 : hc4.2 (B + 7) = some (aJ 6400 (g7)) := Fr.at0 (mfc5).1 (Ni.c ⟨(ne31).s, (ne33).s⟩ (Ni.n _)) h7
  have fk6_3 : hc4.2 (B + 8) = some (aI 11520 (g8)) := Fr.at0 (mfc5).1 (Ni.c ⟨(ne32).s, (ne34).s⟩ (Ni.n _)) h8
  have rk6_0 : MP hp B hc4 (T) := (hT).fr (mfc5).1 (Ni.c ⟨ne11, ne12⟩ (Ni.n _)) (Ni.c ⟨ne17, ne18⟩ (Ni.n _))
  have rk6_1 : MWA B hc4 := (hw).fr (mfc5).1 (Ni.c ⟨ne22, ne23⟩ (Ni.n _))
  have rk6_2 : MG hp B hc4 (0) (fa) := (hGa).fr hp2 mfc5 (Nr.c (by omega) (Nr.c (by omega) (Nr.c (by omega) (Nr.c (by omega) (Nr.c (by omega) Nr.n)))))
  have rk6_3 : MG hp B hc4 (1) (fb) := (hGb).fr hp2 mfc5 (Nr.c (by omega) (Nr.c (by omega) (Nr.c (by omega) (Nr.c (by omega) (Nr.c (by omega) Nr.n)))))
  have fr6 : MF B [B + 1, B + 3] [30, 31, 32, 33, 2] h hc4 := ((MF.rf [B + 1, B + 3] [30, 31, 32, 33, 2] ma)).tr ((mfc5).mo sub_n (sbI_c (List.Mem.head _) (sbI_c (List.Mem.tail _ (List.Mem.head _)) (sbI_c (List.Mem.tail _ (List.Mem.tail _ (List.Mem.head _))) (sbI_c (List.Mem.tail _ (List.Mem.tail _ (List.Mem.tail _ (List.Mem.head _)))) (sbI_c (List.Mem.tail _ (List.Mem.tail _ (List.Mem.tail _ (List.Mem.tail _ (List.Mem.head _))))) sbI_n))))))
  refine Go.nf (h' := hc4) (st' := []) rfl rfl (Nat.le_refl _) (Nat.le_refl _) ?_
  refine g_aload_n 0 dX10_plainAct_61 rfl ?_
  refine g_iconst dX10_plainAct_62 ?_
  refine g_callV (nc2 := 0) (ns2 := 0) (ci := 10) (As := [.int (gI (2))]) (st := []) rfl dX10_plainAct_63 okX10_keepRegister lX10_182 itX10_keepRegister seX10_keepRegister rfl fk6_0 (by decide) (by decide) rfl (Nat.le_of_ble_eq_true rfl) (sM_keepR N _ B p hp hp2 hf le fc pn rn hn qn T (2) (gP hp (fa) (fb)) (gm) fk6_0 rk6_0 rk6_1 fk6_1 rn5_0) (by omega) (by omega) (fun v7 hc7 q7 => ?_)
  obtain ⟨mfc8, f4_8, mwa8, w8, T2_8, hO8, rfl, mp8⟩ := q7
  have fk9_0 : hc7.2 (B) = some (mO B ((p : Int)) (hf) (le) (fc) (pn) (rn) (hn) (qn)) := Fr.at0 (mfc8).1 (Ni.c ⟨ne4, ne5⟩ (Ni.c ⟨ne0, ne1⟩ (Ni.c ⟨ne2, ne3⟩ (Ni.n _)))) fk6_0
  have fk9_2 : hc7.2 (B + 7) = some (aJ 6400 (g7)) := Fr.at0 (mfc8).1 (Ni.c ⟨(ne31).s, (ne33).s⟩ (Ni.c ⟨(ne13).s, (ne19).s⟩ (Ni.c ⟨(ne24).s, (ne28).s⟩ (Ni.n _)))) fk6_2
  have fk9_3 : hc7.2 (B + 8) = some (aI 11520 (g8)) := Fr.at0 (mfc8).1 (Ni.c ⟨(ne32).s, (ne34).s⟩ (Ni.c ⟨(ne14).s, (ne20).s⟩ (Ni.c ⟨(ne25).s, (ne29).s⟩ (Ni.n _)))) fk6_3
  have rk9_2 : MG hp B hc7 (0) (fa) := (rk6_2).fr hp2 mfc8 Nr.n
  have rk9_3 : MG hp B hc7 (1) (fb) := (rk6_3).fr hp2 mfc8 Nr.n
  have rk9_4 : MG hp B hc7 (2) (gP hp (fa) (fb)) := (rn5_0).fr hp2 mfc8 Nr.n
  have fr9 : MF B [B + 1, B + 3] [30, 31, 32, 33, 2] h hc7 := (fr6).tr ((mfc8).mo (sub_c (List.Mem.head _) (sub_c (List.Mem.tail _ (List.Mem.head _)) sub_n)) sbI_n)
  refine Go.nf (h' := hc7) (st' := [.int (gI (w8))]) rfl rfl (Nat.le_refl _) (Nat.le_refl _) ?_
  exact g_iret dX10_plainAct_66 rfl ⟨((fr9).1.mo (sub_c (List.Mem.tail _ (List.Mem.tail _ (List.Mem.head _))) (sub_c (List.Mem.head _) (sub_c (List.Mem.tail _ (List.Mem.head _)) sub_n)))), ⟨(fr9).2.1, mwa8, ⟨_, f4_8⟩, ⟨_, fk9_2⟩, ⟨_, fk9_3⟩⟩, w8, T2_8, hO8, rfl, mp8⟩
set_option maxHeartbeats 4000000 in
set_option maxRecDepth 100000 in
theorem sM_plainAct11 (N : GN) (h : GH) (B p : Nat) (hp : prm p) (hp2 : p ≤ 65536) (hf le fc pn rn hn qn : Int) (T : PT p) (fa fb : Px p) (hm : h.2 B = some (mO B p hf le fc pn rn hn qn)) (hT : MP hp B h T) (ms : MS B h) (hGa : MG hp B h 0 fa) (hGb : MG hp B h 1 fb) : Sp N yX10_plainAct mX10_plainAct 0 0 [.ref (B), .int (gI (11))] h (fun v h1 => Fr [B + 1, B + 3, B + 5, B + 7] h h1 ∧ MS B h1 ∧ ∃ w T2, Ou T (pa11 hp fa fb) w T2 ∧ v = some (.int (gI w)) ∧ MP hp B h1 T2) := by
  refine Sp.of (by decide) rfl rfl (Nat.le_of_ble_eq_true rfl) ?_
  show Go N mX10_plainAct _ 0 0 h 0 [(0, .ref (B)), (1, .int (gI (11)))] []
  have hp1 := hp.1
  have neA : NE B (B + 5) := by unfold NE; omega
  have neB : NE B (B + 6) := by unfold NE; omega
  have neC : NE (B + 5) (B + 6) := by unfold NE; omega
  have ne0 : NE (B) (B + 1) := by unfold NE; omega
  have ne1 : NE (B) (B + 2) := by unfold NE; omega
  have ne2 : NE (B) (B + 3) := by unfold NE; omega
  have ne3 : NE (B) (B + 4) := by unfold NE; omega
  have ne4 : NE (B) (B + 5) := by unfold NE; omega
  have ne5 : NE (B) (B + 6) := by unfold NE; omega
  have ne6 : NE (B) (B + 7) := by unfold NE; omega
  have ne7 : NE (B) (B + 8) := by unfold NE; omega
  have ne8 : NE (B + 1) (B + 2) := by unfold NE; omega
  have ne9 : NE (B + 1) (B + 3) := by unfold NE; omega
  have ne10 : NE (B + 1) (B + 4) := by unfold NE; omega
  have ne11 : NE (B + 1) (B + 5) := by unfold NE; omega
  have ne12 : NE (B + 1) (B + 6) := by unfold NE; omega
  have ne13 : NE (B + 1) (B + 7) := by unfold NE; omega
  have ne14 : NE (B + 1) (B + 8) := by unfold NE; omega
  have ne15 : NE (B + 2) (B + 3) := by unfold NE; omega
  have ne16 : NE (B + 2) (B + 4) := by unfold NE; omega
  have ne17 : NE (B + 2) (B + 5) := by unfold NE; omega
  have ne18 : NE (B + 2) (B + 6) := by unfold NE; omega
  have ne19 : NE (B + 2) (B + 7) := by unfold NE; omega
  have ne20 : NE (B + 2) (B + 8) := by unfold NE; omega
  have ne21 : NE (B + 3) (B + 4) := by unfold NE; omega
  have ne22 : NE (B + 3) (B + 5) := by unfold NE; omega
  have ne23 : NE (B + 3) (B + 6) := by unfold NE; omega
  have ne24 : NE (B + 3) (B + 7) := by unfold NE; omega
  have ne25 : NE (B + 3) (B + 8) := by unfold NE; omega
  have ne26 : NE (B + 4) (B + 5) := by unfold NE; omega
  have ne27 : NE (B + 4) (B + 6) := by unfold NE; omega
  have ne28 : NE (B + 4) (B + 7) := by unfold NE; omega
  have ne29 : NE (B + 4) (B + 8) := by unfold NE; omega
  have ne30 : NE (B + 5) (B + 6) := by unfold NE; omega
  have ne31 : NE (B + 5) (B + 7) := by unfold NE; omega
  have ne32 : NE (B + 5) (B + 8) := by unfold NE; omega
  have ne33 : NE (B + 6) (B + 7) := by unfold NE; omega
  have ne34 : NE (B + 6) (B + 8) := by unfold NE; omega
  have ne35 : NE (B + 7) (B + 8) := by unfold NE; omega
  obtain ⟨ma, hw, ⟨gm, h4⟩, ⟨g7, h7⟩, ⟨g8, h8⟩⟩ := ms
  have hpa := hGa.po
  have hpb := hGb.po
  have hla := hGa.lt
  have hlb := hGb.lt
  refine g_iload_n 1 dX10_plainAct_0 rfl ?_
  refine g_bipush dX10_plainAct_1 (by decide) ?_
  refine g_icmp_eq (tgt := 12) dX10_plainAct_3 rfl (by unfold gW; omega) (by unfold gW; omega) (fun c1 => absurd c1 (by omega)) (fun c1 => ?_)
  refine g_iload_n 1 dX10_plainAct_6 rfl ?_
  refine g_bipush dX10_plainAct_7 (by decide) ?_
  refine g_icmp_ne (tgt := 48) dX10_plainAct_9 rfl (by unfold gW; omega) (by unfold gW; omega) (fun c2 => ?_) (fun c2 => absurd c2 (by omega))
  refine g_iload_n 1 dX10_plainAct_48 rfl ?_
  refine g_bipush dX10_plainAct_49 (by decide) ?_
  refine g_icmp_ne (tgt := 67) dX10_plainAct_51 rfl (by unfold gW; omega) (by unfold gW; omega) (fun c3 => ?_) (fun c3 => absurd c3 (by omega))
  refine g_aload_n 0 dX10_plainAct_67 rfl ?_
  refine g_getf 6 dX10_plainAct_68 kX10 (by decide) fX10_26 hm rfl ?_
  refine g_iconst dX10_plainAct_71 ?_
  obtain ⟨dz4, ez4, fz4⟩ := MG.get hGb
  refine g_iaload dX10_plainAct_72 ez4 (by omega) (by omega) (by omega) ?_
  rw [fz4]
  refine g_iconst dX10_plainAct_73 ?_
  refine g_icmp_ge (tgt := 80) dX10_plainAct_74 rfl (by unfold gW; omega) (by unfold gW; omega) (fun c5 => ?_) (fun c5 => ?_)
  · skip
    refine g_aload_n 0 dX10_plainAct_80 rfl ?_
    refine g_iconst dX10_plainAct_81 ?_
    refine g_iconst dX10_plainAct_82 ?_
    refine g_callV (nc2 := 0) (ns2 := 0) (ci := 10) (As := [.int (gI (1)), .int (gI (4))]) (st := []) rfl dX10_plainAct_83 okX10_copy lX10_167 itX10_copy seX10_copy rfl hm (by decide) (by decide) rfl (Nat.le_of_ble_eq_true rfl) (sM_copy N _ B p hp hp2 hf le fc pn rn hn qn (1) (4) (by omega) (by omega) (fb) hm ((MF.rf [B + 1, B + 3] [2, 3, 4, 5, 6, 7, 8, 9] ma)).2.1 hGb) (by omega) (by omega) (fun v6 hc6 q6 => ?_)
    obtain ⟨rfl, mfc7, rn7_0⟩ := q6
    have fk8_0 : hc6.2 (B) = some (mO B ((p : Int)) (hf) (le) (fc) (pn) (rn) (hn) (qn)) := Fr.at0 (mfc7).1 (Ni.c ⟨ne4, ne5⟩ (Ni.n _)) hm
    have fk8_1 : hc6.2 (B + 4) = some (aI 1500 (gm)) := Fr.at0 (mfc7).1 (Ni.c ⟨ne26, ne27⟩ (Ni.n _)) h4
    have fk8_2 : hc6.2 (B + 7) = some (aJ 6400 (g7)) := Fr.at0 (mfc7).1 (Ni.c ⟨(ne31).s, (ne33).s⟩ (Ni.n _)) h7
    have fk8_3 : hc6.2 (B + 8) = some (aI 11520 (g8)) := Fr.at0 (mfc7).1 (Ni.c ⟨(ne32).s, (ne34).s⟩ (Ni.n _)) h8
    have rk8_0 : MP hp B hc6 (T) := (hT).fr (mfc7).1 (Ni.c ⟨ne11, ne12⟩ (Ni.n _)) (Ni.c ⟨ne17, ne18⟩ (Ni.n _))
    have rk8_1 : MWA B hc6 := (hw).fr (mfc7).1 (Ni.c ⟨ne22, ne23⟩ (Ni.n _))
    have rk8_2 : MG hp B hc6 (0) (fa) := (hGa).fr hp2 mfc7 (Nr.c (by omega) Nr.n)
    have rk8_3 : MG hp B hc6 (1) (fb) := (hGb).fr hp2 mfc7 (Nr.c (by omega) Nr.n)
    have fr8 : MF B [B + 1, B + 3] [2, 3, 4, 5, 6, 7, 8, 9] h hc6 := ((MF.rf [B + 1, B + 3] [2, 3, 4, 5, 6, 7, 8, 9] ma)).tr ((mfc7).mo sub_n (sbI_c (List.Mem.tail _ (List.Mem.tail _ (List.Mem.head _))) sbI_n))
    refine Go.nf (h' := hc6) (st' := []) rfl rfl (Nat.le_refl _) (Nat.le_refl _) ?_
    refine g_aload_n 0 dX10_plainAct_86 rfl ?_
    refine g_iconst dX10_plainAct_87 ?_
    refine g_iconst dX10_plainAct_88 ?_
    refine g_iconst dX10_plainAct_89 ?_
    refine g_iconst dX10_plainAct_90 ?_
    refine g_callV (nc2 := 0) (ns2 := 0) (ci := 10) (As := [.int (gI (0)), .int (gI (1)), .int (gI (2)), .int (gI (5))]) (st := []) rfl dX10_plainAct_91 okX10_divide lX10_176 itX10_divide seX10_divide rfl fk8_0 (by decide) (by decide) rfl (Nat.le_of_ble_eq_true rfl) (sM_divide N _ B p hp hp2 hf le fc pn rn hn qn (0) (1) (2) (5) (by omega) (by omega) (by omega) (by omega) (by omega) (by omega) (fa) (fb) fk8_0 (fr8).2.1 rk8_2 rk8_3 (by omega)) (by omega) (by omega) (fun v9 hc9 q9 => ?_)
    obtain ⟨rfl, mfc10, rn10_0, rn10_1⟩ := q9
    have fk11_0 : hc9.2 (B) = some (mO B ((p : Int)) (hf) (le) (fc) (pn) (rn) (hn) (qn)) := Fr.at0 (mfc10).1 (Ni.c ⟨ne4, ne5⟩ (Ni.n _)) fk8_0
    have fk11_1 : hc9.2 (B + 4) = some (aI 1500 (gm)) := Fr.at0 (mfc10).1 (Ni.c ⟨ne26, ne27⟩ (Ni.n _)) fk8_1
    have fk11_2 : hc9.2 (B + 7) = some (aJ 6400 (g7)) := Fr.at0 (mfc10).1 (Ni.c ⟨(ne31).s, (ne33).s⟩ (Ni.n _)) fk8_2
    have fk11_3 : hc9.2 (B + 8) = some (aI 11520 (g8)) := Fr.at0 (mfc10).1 (Ni.c ⟨(ne32).s, (ne34).s⟩ (Ni.n _)) fk8_3
    have rk11_0 : MP hp B hc9 (T) := (rk8_0).fr (mfc10).1 (Ni.c ⟨ne11, ne12⟩ (Ni.n _)) (Ni.c ⟨ne17, ne18⟩ (Ni.n _))
    have rk11_1 : MWA B hc9 := (rk8_1).fr (mfc10).1 (Ni.c ⟨ne22, ne23⟩ (Ni.n _))
    have rk11_2 : MG hp B hc9 (0) (fa) := (rk8_2).fr hp2 mfc10 (Nr.c (by omega) (Nr.c (by omega) Nr.n))
    have rk11_3 : MG hp B hc9 (1) (fb) := (rk8_3).fr hp2 mfc10 (Nr.c (by omega) (Nr.c (by omega) Nr.n))
    have rk11_4 : MG hp B hc9 (4) (fb) := (rn7_0).fr hp2 mfc10 (Nr.c (by omega) (Nr.c (by omega) Nr.n))
    have fr11 : MF B [B + 1, B + 3] [2, 3, 4, 5, 6, 7, 8, 9] h hc9 := (fr8).tr ((mfc10).mo sub_n (sbI_c (List.Mem.tail _ (List.Mem.tail _ (List.Mem.tail _ (List.Mem.head _)))) (sbI_c (List.Mem.head _) sbI_n)))
    refine Go.nf (h' := hc9) (st' := []) rfl rfl (Nat.le_refl _) (Nat.le_refl _) ?_
    refine g_aload_n 0 dX10_plainAct_94 rfl ?_
    refine g_bipush dX10_plainAct_95 (by decide) ?_
    refine g_iconst dX10_plainAct_97 ?_
    refine g_callV (nc2 := 0) (ns2 := 0) (ci := 10) (As := [.int (gI (6)), .int (gI (0))]) (st := []) rfl dX10_plainAct_98 okX10_be lX10_170 itX10_be seX10_be rfl fk11_0 (by decide) (by decide) rfl (Nat.le_of_ble_eq_true rfl) (sM_be N _ B p hp hp2 hf le fc pn rn hn qn (6) (0) (by omega) (by omega) (by omega) fk11_0 (fr11).2.1) (by omega) (by omega) (fun v12 hc12 q12 => ?_)
    obtain ⟨rfl, mfc13, rn13_0⟩ := q12
    have fk14_0 : hc12.2 (B) = some (mO B ((p : Int)) (hf) (le) (fc) (pn) (rn) (hn) (qn)) := Fr.at0 (mfc13).1 (Ni.c ⟨ne4, ne5⟩ (Ni.n _)) fk11_0
    have fk14_1 : hc12.2 (B + 4) = some (aI 1500 (gm)) := Fr.at0 (mfc13).1 (Ni.c ⟨ne26, ne27⟩ (Ni.n _)) fk11_1
    have fk14_2 : hc12.2 (B + 7) = some (aJ 6400 (g7)) := Fr.at0 (mfc13).1 (Ni.c ⟨(ne31).s, (ne33).s⟩ (Ni.n _)) fk11_2
    have fk14_3 : hc12.2 (B + 8) = some (aI 11520 (g8)) := Fr.at0 (mfc13).1 (Ni.c ⟨(ne32).s, (ne34).s⟩ (Ni.n _)) fk11_3
    have rk14_0 : MP hp B hc12 (T) := (rk11_0).fr (mfc13).1 (Ni.c ⟨ne11, ne12⟩ (Ni.n _)) (Ni.c ⟨ne17, ne18⟩ (Ni.n _))
    have rk14_1 : MWA B hc12 := (rk11_1).fr (mfc13).1 (Ni.c ⟨ne22, ne23⟩ (Ni.n _))
    have rk14_2 : MG hp B hc12 (0) (fa) := (rk11_2).fr hp2 mfc13 (Nr.c (by omega) Nr.n)
    have rk14_3 : MG hp B hc12 (1) (fb) := (rk11_3).fr hp2 mfc13 (Nr.c (by omega) Nr.n)
    have rk14_4 : MG hp B hc12 (4) (fb) := (rk11_4).fr hp2 mfc13 (Nr.c (by omega) Nr.n)
    have rk14_5 : MG hp B hc12 (5) (rm hp (fa) (fb)) := (rn10_0).fr hp2 mfc13 (Nr.c (by omega) Nr.n)
    have rk14_6 : MG hp B hc12 (2) (qt hp (fa) (fb)) := (rn10_1).fr hp2 mfc13 (Nr.c (by omega) Nr.n)
    have fr14 : MF B [B + 1, B + 3] [2, 3, 4, 5, 6, 7, 8, 9] h hc12 := (fr11).tr ((mfc13).mo sub_n (sbI_c (List.Mem.tail _ (List.Mem.tail _ (List.Mem.tail _ (List.Mem.tail _ (List.Mem.head _))))) sbI_n))
    refine Go.nf (h' := hc12) (st' := []) rfl rfl (Nat.le_refl _) (Nat.le_refl _) ?_
    refine g_aload_n 0 dX10_plainAct_101 rfl ?_
    refine g_bipush dX10_plainAct_102 (by decide) ?_
    refine g_iconst dX10_plainAct_104 ?_
    refine g_callV (nc2 := 0) (ns2 := 0) (ci := 10) (As := [.int (gI (7)), .int (gI (1))]) (st := []) rfl dX10_plainAct_105 okX10_be lX10_170 itX10_be seX10_be rfl fk14_0 (by decide) (by decide) rfl (Nat.le_of_ble_eq_true rfl) (sM_be N _ B p hp hp2 hf le fc pn rn hn qn (7) (1) (by omega) (by omega) (by omega) fk14_0 (fr14).2.1) (by omega) (by omega) (fun v15 hc15 q15 => ?_)
    obtain ⟨rfl, mfc16, rn16_0⟩ := q15
    have fk17_0 : hc15.2 (B) = some (mO B ((p : Int)) (hf) (le) (fc) (pn) (rn) (hn) (qn)) := Fr.at0 (mfc16).1 (Ni.c ⟨ne4, ne5⟩ (Ni.n _)) fk14_0
    have fk17_1 : hc15.2 (B + 4) = some (aI 1500 (gm)) := Fr.at0 (mfc16).1 (Ni.c ⟨ne26, ne27⟩ (Ni.n _)) fk14_1
    have fk17_2 : hc15.2 (B + 7) = some (aJ 6400 (g7)) := Fr.at0 (mfc16).1 (Ni.c ⟨(ne31).s, (ne33).s⟩ (Ni.n _)) fk14_2
    have fk17_3 : hc15.2 (B + 8) = some (aI 11520 (g8)) := Fr.at0 (mfc16).1 (Ni.c ⟨(ne32).s, (ne34).s⟩ (Ni.n _)) fk14_3
    have rk17_0 : MP hp B hc15 (T) := (rk14_0).fr (mfc16).1 (Ni.c ⟨ne11, ne12⟩ (Ni.n _)) (Ni.c ⟨ne17, ne18⟩ (Ni.n _))
    have rk17_1 : MWA B hc15 := (rk14_1).fr (mfc16).1 (Ni.c ⟨ne22, ne23⟩ (Ni.n _))
    have rk17_2 : MG hp B hc15 (0) (fa) := (rk14_2).fr hp2 mfc16 (Nr.c (by omega) Nr.n)
    have rk17_3 : MG hp B hc15 (1) (fb) := (rk14_3).fr hp2 mfc16 (Nr.c (by omega) Nr.n)
    have rk17_4 : MG hp B hc15 (4) (fb) := (rk14_4).fr hp2 mfc16 (Nr.c (by omega) Nr.n)
    have rk17_5 : MG hp B hc15 (5) (rm hp (fa) (fb)) := (rk14_5).fr hp2 mfc16 (Nr.c (by omega) Nr.n)
    have rk17_6 : MG hp B hc15 (2) (qt hp (fa) (fb)) := (rk14_6).fr hp2 mfc16 (Nr.c (by omega) Nr.n)
    have rk17_7 : MG hp B hc15 (6) (cz hp (zi hp (0))) := (rn13_0).fr hp2 mfc16 (Nr.c (by omega) Nr.n)
    have fr17 : MF B [B + 1, B + 3] [2, 3, 4, 5, 6, 7, 8, 9] h hc15 := (fr14).tr ((mfc16).mo sub_n (sbI_c (List.Mem.tail _ (List.Mem.tail _ (List.Mem.tail _ (List.Mem.tail _ (List.Mem.tail _ (List.Mem.head _)))))) sbI_n))
    refine Go.nf (h' := hc15) (st' := []) rfl rfl (Nat.le_refl _) (Nat.le_refl _) ?_
    have lo : ∀ (kk : Nat) (u : Px p) (v : Px p) (sx : Px p) (t : Px p) (hlo : GH), kk = (dgi hp v + 1).toNat → MF B [B + 1, B + 3] [2, 3, 4, 5, 6, 7, 8, 9] h hlo → hlo.2 (B + 4) = some (aI 1500 (gm)) → MP hp B hlo (T) → MWA B hlo → MG hp B hlo (1) (fb) → MG hp B hlo (4) (u) → MG hp B hlo (5) (v) → MG hp B hlo (6) (sx) → MG hp B hlo (7) (t) → (ivI hp fa fb u v sx t) → (0 < dgi hp u) → Go N mX10_plainAct (fun v h1 => Fr [B + 1, B + 3, B + 5, B + 7] h h1 ∧ MS B h1 ∧ ∃ w T2, Ou T (pa11 hp fa fb) w T2 ∧ v = some (.int (gI w)) ∧ MP hp B h1 T2) 0 0 hlo 108 [(0, .ref (B)), (1, .int (gI (11)))] [] := by
      refine Go.ind (fun kk ih_lo => ?_)
      intro u v sx t hlo hkk_lo fr_lo cf_lo_0 cr_lo_0 cr_lo_1 cr_lo_2 cr_lo_3 cr_lo_4 cr_lo_5 cr_lo_6 hI hu
      have cg_lo_0 : hlo.2 (B) = some (mO B ((p : Int)) (hf) (le) (fc) (pn) (rn) (hn) (qn)) := Fr.at0 (fr_lo).1 (Ni.c ⟨ne4, ne5⟩ (Ni.c ⟨ne0, ne1⟩ (Ni.c ⟨ne2, ne3⟩ (Ni.n _)))) hm
      have cg_lo_2 : hlo.2 (B + 7) = some (aJ 6400 (g7)) := Fr.at0 (fr_lo).1 (Ni.c ⟨(ne31).s, (ne33).s⟩ (Ni.c ⟨(ne13).s, (ne19).s⟩ (Ni.c ⟨(ne24).s, (ne28).s⟩ (Ni.n _)))) h7
      have cg_lo_3 : hlo.2 (B + 8) = some (aI 11520 (g8)) := Fr.at0 (fr_lo).1 (Ni.c ⟨(ne32).s, (ne34).s⟩ (Ni.c ⟨(ne14).s, (ne20).s⟩ (Ni.c ⟨(ne25).s, (ne29).s⟩ (Ni.n _)))) h8
      have hpu := (cr_lo_3).po
      have hpv := (cr_lo_4).po
      have hlv := (cr_lo_4).lt
      have hlu := (cr_lo_3).lt
      have hlt := (cr_lo_6).lt
      refine g_aload_n 0 dX10_plainAct_108 rfl ?_
      refine g_getf 6 dX10_plainAct_109 kX10 (by decide) fX10_26 cg_lo_0 rfl ?_
      refine g_iconst dX10_plainAct_112 ?_
      obtain ⟨dz118, ez118, fz118⟩ := MG.get cr_lo_4
      refine g_iaload dX10_plainAct_113 ez118 (by omega) (by omega) (by omega) ?_
      rw [fz118]
      refine g_if_le (tgt := 175) dX10_plainAct_114 rfl (by unfold gW; omega) (fun c119 => ?_) (fun c119 => ?_)
      · skip
        refine g_aload_n 0 dX10_plainAct_175 rfl ?_
        refine g_getf 6 dX10_plainAct_176 kX10 (by decide) fX10_26 cg_lo_0 rfl ?_
        refine g_iconst dX10_plainAct_179 ?_
        obtain ⟨dz120, ez120, fz120⟩ := MG.get cr_lo_4
        refine g_iaload dX10_plainAct_180 ez120 (by omega) (by omega) (by omega) ?_
        rw [fz120]
        refine g_if_ge (tgt := 187) dX10_plainAct_181 rfl (by unfold gW; omega) (fun c121 => ?_) (fun c121 => ?_)
        · skip
          obtain ⟨R9, hR9, hv9⟩ := MG.num cr_lo_4
          refine g_aload_n 0 dX10_plainAct_187 rfl ?_
          refine g_aload_n 0 dX10_plainAct_188 rfl ?_
          refine g_getf 5 dX10_plainAct_189 kX10 (by decide) fX10_23 cg_lo_0 rfl ?_
          refine g_sipush dX10_plainAct_192 (by decide) ?_
          refine g_iaload dX10_plainAct_195 hR9 (by omega) (by omega) (by omega) ?_
          have hr9 : ar R9 1000 = cf v 0 := by
            rw [show (1000 : Int) = 200 * 5 by omega, ar_r0]; exact hv9 0 (by omega) (by omega)
          rw [hr9]
          have hcb := cf_in v hp 0
          have hiv := ivr_in hp (cf v 0)
          have hpt := hI.2.1
          have hst := (ivI_s hp hpa hpb hpu hpv (by omega) hI).2
          have hyy := ivI_yes hp hpa hpb hpv (by omega) rfl hst
          have hdc : dgi hp (cz hp (zi hp (ivr p (cf v 0)))) = 0 := cz_dgi hp hyy.2.1
          refine g_callV (nc2 := 0) (ns2 := 0) (ci := 10) (As := [.int (gI (cf v 0))]) (st := []) rfl dX10_plainAct_196 okX10_inverse lX10_173 itX10_inverse seX10_inverse rfl cg_lo_0 (by decide) (by decide) rfl (Nat.le_of_ble_eq_true rfl) (sM_inverse N _ B p hp hp2 hf le fc pn rn hn qn (cf v 0) cg_lo_0 (by omega) (by omega)) (by omega) (by omega) (fun v122 hc122 q122 => ?_)
          obtain ⟨hq123, rfl⟩ := q122
          refine Go.nf (h' := hlo) (st' := [.int (gI (ivr p (cf v 0)))]) hq123 rfl (Nat.le_refl _) (Nat.le_refl _) ?_
          refine g_istore_n (ls2 := [(2, .int (gI (ivr p (cf v 0)))), (0, .ref (B)), (1, .int (gI (11)))]) dX10_plainAct_199 rfl (by decide) rfl ?_
          refine g_aload_n 1 dX10_plainAct_200 rfl ?_
          refine g_bipush dX10_plainAct_201 (by decide) ?_
          refine g_iload_n 0 dX10_plainAct_203 rfl ?_
          refine g_callV (nc2 := 0) (ns2 := 0) (ci := 10) (As := [.int (gI (8)), .int (gI (ivr p (cf v 0)))]) (st := []) rfl dX10_plainAct_204 okX10_be lX10_170 itX10_be seX10_be rfl cg_lo_0 (by decide) (by decide) rfl (Nat.le_of_ble_eq_true rfl) (sM_be N _ B p hp hp2 hf le fc pn rn hn qn (8) (ivr p (cf v 0)) (by omega) (by omega) (by omega) cg_lo_0 (fr_lo).2.1) (by omega) (by omega) (fun v124 hc124 q124 => ?_)
          obtain ⟨rfl, mfc125, rn125_0⟩ := q124
          have fk126_0 : hc124.2 (B) = some (mO B ((p : Int)) (hf) (le) (fc) (pn) (rn) (hn) (qn)) := Fr.at0 (mfc125).1 (Ni.c ⟨ne4, ne5⟩ (Ni.n _)) cg_lo_0
          have fk126_1 : hc124.2 (B + 7) = some (aJ 6400 (g7)) := Fr.at0 (mfc125).1 (Ni.c ⟨(ne31).s, (ne33).s⟩ (Ni.n _)) cg_lo_2
          have fk126_2 : hc124.2 (B + 8) = some (aI 11520 (g8)) := Fr.at0 (mfc125).1 (Ni.c ⟨(ne32).s, (ne34).s⟩ (Ni.n _)) cg_lo_3
          have fk126_3 : hc124.2 (B + 4) = some (aI 1500 (gm)) := Fr.at0 (mfc125).1 (Ni.c ⟨ne26, ne27⟩ (Ni.n _)) cf_lo_0
          have rk126_0 : MP hp B hc124 (T) := (cr_lo_0).fr (mfc125).1 (Ni.c ⟨ne11, ne12⟩ (Ni.n _)) (Ni.c ⟨ne17, ne18⟩ (Ni.n _))
          have rk126_1 : MWA B hc124 := (cr_lo_1).fr (mfc125).1 (Ni.c ⟨ne22, ne23⟩ (Ni.n _))
          have rk126_2 : MG hp B hc124 (1) (fb) := (cr_lo_2).fr hp2 mfc125 (Nr.c (by omega) Nr.n)
          have rk126_3 : MG hp B hc124 (4) (u) := (cr_lo_3).fr hp2 mfc125 (Nr.c (by omega) Nr.n)
          have rk126_4 : MG hp B hc124 (5) (v) := (cr_lo_4).fr hp2 mfc125 (Nr.c (by omega) Nr.n)
          have rk126_5 : MG hp B hc124 (6) (sx) := (cr_lo_5).fr hp2 mfc125 (Nr.c (by omega) Nr.n)
          have rk126_6 : MG hp B hc124 (7) (t) := (cr_lo_6).fr hp2 mfc125 (Nr.c (by omega) Nr.n)
          have fr126 : MF B [B + 1, B + 3] [2, 3, 4, 5, 6, 7, 8, 9] h hc124 := (fr_lo).tr ((mfc125).mo sub_n (sbI_c (List.Mem.tail _ (List.Mem.tail _ (List.Mem.tail _ (List.Mem.tail _ (List.Mem.tail _ (List.Mem.tail _ (List.Mem.head _))))))) sbI_n))
          refine Go.nf (h' := hc124) (st' := []) rfl rfl (Nat.le_refl _) (Nat.le_refl _) ?_
          refine g_aload_n 1 dX10_plainAct_207 rfl ?_
          refine g_bipush dX10_plainAct_208 (by decide) ?_
          refine g_bipush dX10_plainAct_210 (by decide) ?_
          refine g_bipush dX10_plainAct_212 (by decide) ?_
          refine g_callV (nc2 := 0) (ns2 := 0) (ci := 10) (As := [.int (gI (7)), .int (gI (8)), .int (gI (9))]) (st := []) rfl dX10_plainAct_214 okX10_product lX10_189 itX10_product seX10_product rfl fk126_0 (by decide) (by decide) rfl (Nat.le_of_ble_eq_true rfl) (sM_product N _ B p hp hp2 hf le fc pn rn hn qn (7) (8) (9) (by omega) (by omega) (by omega) (t) (cz hp (zi hp (ivr p (cf v 0)))) fk126_0 (fr126).2.1 rk126_6 rn125_0 (by omega)) (by omega) (by omega) (fun v127 hc127 q127 => ?_)
          obtain ⟨rfl, mfc128, rn128_0⟩ := q127
          have fk129_0 : hc127.2 (B) = some (mO B ((p : Int)) (hf) (le) (fc) (pn) (rn) (hn) (qn)) := Fr.at0 (mfc128).1 (Ni.c ⟨ne4, ne5⟩ (Ni.n _)) fk126_0
          have fk129_1 : hc127.2 (B + 7) = some (aJ 6400 (g7)) := Fr.at0 (mfc128).1 (Ni.c ⟨(ne31).s, (ne33).s⟩ (Ni.n _)) fk126_1
          have fk129_2 : hc127.2 (B + 8) = some (aI 11520 (g8)) := Fr.at0 (mfc128).1 (Ni.c ⟨(ne32).s, (ne34).s⟩ (Ni.n _)) fk126_2
          have fk129_3 : hc127.2 (B + 4) = some (aI 1500 (gm)) := Fr.at0 (mfc128).1 (Ni.c ⟨ne26, ne27⟩ (Ni.n _)) fk126_3
          have rk129_0 : MP hp B hc127 (T) := (rk126_0).fr (mfc128).1 (Ni.c ⟨ne11, ne12⟩ (Ni.n _)) (Ni.c ⟨ne17, ne18⟩ (Ni.n _))
          have rk129_1 : MWA B hc127 := (rk126_1).fr (mfc128).1 (Ni.c ⟨ne22, ne23⟩ (Ni.n _))
          have rk129_2 : MG hp B hc127 (1) (fb) := (rk126_2).fr hp2 mfc128 (Nr.c (by omega) Nr.n)
          have rk129_3 : MG hp B hc127 (4) (u) := (rk126_3).fr hp2 mfc128 (Nr.c (by omega) Nr.n)
          have rk129_4 : MG hp B hc127 (5) (v) := (rk126_4).fr hp2 mfc128 (Nr.c (by omega) Nr.n)
          have rk129_5 : MG hp B hc127 (6) (sx) := (rk126_5).fr hp2 mfc128 (Nr.c (by omega) Nr.n)
          have rk129_6 : MG hp B hc127 (7) (t) := (rk126_6).fr hp2 mfc128 (Nr.c (by omega) Nr.n)
          have rk129_7 : MG hp B hc127 (8) (cz hp (zi hp (ivr p (cf v 0)))) := (rn125_0).fr hp2 mfc128 (Nr.c (by omega) Nr.n)
          have fr129 : MF B [B + 1, B + 3] [2, 3, 4, 5, 6, 7, 8, 9] h hc127 := (fr126).tr ((mfc128).mo sub_n (sbI_c (List.Mem.tail _ (List.Mem.tail _ (List.Mem.tail _ (List.Mem.tail _ (List.Mem.tail _ (List.Mem.tail _ (List.Mem.tail _ (List.Mem.head _)))))))) sbI_n))
          refine Go.nf (h' := hc127) (st' := []) rfl rfl (Nat.le_refl _) (Nat.le_refl _) ?_
          refine g_aload_n 1 dX10_plainAct_217 rfl ?_
          refine g_bipush dX10_plainAct_218 (by decide) ?_
          refine g_iconst dX10_plainAct_220 ?_
          refine g_iconst dX10_plainAct_221 ?_
          refine g_iconst dX10_plainAct_222 ?_
          refine g_callV (nc2 := 0) (ns2 := 0) (ci := 10) (As := [.int (gI (9)), .int (gI (1)), .int (gI (2)), .int (gI (3))]) (st := []) rfl dX10_plainAct_223 okX10_divide lX10_176 itX10_divide seX10_divide rfl fk129_0 (by decide) (by decide) rfl (Nat.le_of_ble_eq_true rfl) (sM_divide N _ B p hp hp2 hf le fc pn rn hn qn (9) (1) (2) (3) (by omega) (by omega) (by omega) (by omega) (by omega) (by omega) (pml hp (t) (cz hp (zi hp (ivr p (cf v 0))))) (fb) fk129_0 (fr129).2.1 rn128_0 rk129_2 (by omega)) (by omega) (by omega) (fun v130 hc130 q130 => ?_)
          obtain ⟨rfl, mfc131, rn131_0, rn131_1⟩ := q130
          have fk132_0 : hc130.2 (B) = some (mO B ((p : Int)) (hf) (le) (fc) (pn) (rn) (hn) (qn)) := Fr.at0 (mfc131).1 (Ni.c ⟨ne4, ne5⟩ (Ni.n _)) fk129_0
          have fk132_1 : hc130.2 (B + 7) = some (aJ 6400 (g7)) := Fr.at0 (mfc131).1 (Ni.c ⟨(ne31).s, (ne33).s⟩ (Ni.n _)) fk129_1
          have fk132_2 : hc130.2 (B + 8) = some (aI 11520 (g8)) := Fr.at0 (mfc131).1 (Ni.c ⟨(ne32).s, (ne34).s⟩ (Ni.n _)) fk129_2
          have fk132_3 : hc130.2 (B + 4) = some (aI 1500 (gm)) := Fr.at0 (mfc131).1 (Ni.c ⟨ne26, ne27⟩ (Ni.n _)) fk129_3
          have rk132_0 : MP hp B hc130 (T) := (rk129_0).fr (mfc131).1 (Ni.c ⟨ne11, ne12⟩ (Ni.n _)) (Ni.c ⟨ne17, ne18⟩ (Ni.n _))
          have rk132_1 : MWA B hc130 := (rk129_1).fr (mfc131).1 (Ni.c ⟨ne22, ne23⟩ (Ni.n _))
          have rk132_2 : MG hp B hc130 (1) (fb) := (rk129_2).fr hp2 mfc131 (Nr.c (by omega) (Nr.c (by omega) Nr.n))
          have rk132_3 : MG hp B hc130 (4) (u) := (rk129_3).fr hp2 mfc131 (Nr.c (by omega) (Nr.c (by omega) Nr.n))
          have rk132_4 : MG hp B hc130 (5) (v) := (rk129_4).fr hp2 mfc131 (Nr.c (by omega) (Nr.c (by omega) Nr.n))
          have rk132_5 : MG hp B hc130 (6) (sx) := (rk129_5).fr hp2 mfc131 (Nr.c (by omega) (Nr.c (by omega) Nr.n))
          have rk132_6 : MG hp B hc130 (7) (t) := (rk129_6).fr hp2 mfc131 (Nr.c (by omega) (Nr.c (by omega) Nr.n))
          have rk132_7 : MG hp B hc130 (8) (cz hp (zi hp (ivr p (cf v 0)))) := (rk129_7).fr hp2 mfc131 (Nr.c (by omega) (Nr.c (by omega) Nr.n))
          have rk132_8 : MG hp B hc130 (9) (pml hp (t) (cz hp (zi hp (ivr p (cf v 0))))) := (rn128_0).fr hp2 mfc131 (Nr.c (by omega) (Nr.c (by omega) Nr.n))
          have fr132 : MF B [B + 1, B + 3] [2, 3, 4, 5, 6, 7, 8, 9] h hc130 := (fr129).tr ((mfc131).mo sub_n (sbI_c (List.Mem.tail _ (List.Mem.head _)) (sbI_c (List.Mem.head _) sbI_n)))
          refine Go.nf (h' := hc130) (st' := []) rfl rfl (Nat.le_refl _) (Nat.le_refl _) ?_
          have hrs : rm hp (pml hp (t) (cz hp (zi hp (ivr p (cf v 0))))) (fb) = ivM hp fa fb := by
            have e9 : pml hp t (cz hp (zi hp (ivr p (cf v 0)))) = ivM hp fa fb := (zmul_comm (fR hp) _ _).trans hyy.1
            rw [e9]
            have e8 : dgi hp (ivM hp fa fb) < dgi hp fb := by
              rw [← e9]
              have : dgi hp (pml hp t (cz hp (zi hp (ivr p (cf v 0))))) = _ := mul_dgi hp hpt (cz_po hp _)
              rw [this, hdc]; split <;> omega
            exact rm_small hp (by rw [← e9]; exact mul_po hpt (cz_po hp _)) hpb e8
          have hyes := ivI_is hp hpa hpb hpv (by omega) rfl hst
          refine g_aload_n 1 dX10_plainAct_226 rfl ?_
          refine g_iconst dX10_plainAct_227 ?_
          refine g_callV (nc2 := 0) (ns2 := 0) (ci := 10) (As := [.int (gI (3))]) (st := []) rfl dX10_plainAct_228 okX10_keepRegister lX10_182 itX10_keepRegister seX10_keepRegister rfl fk132_0 (by decide) (by decide) rfl (Nat.le_of_ble_eq_true rfl) (sM_keepR N _ B p hp hp2 hf le fc pn rn hn qn T (3) (rm hp (pml hp (t) (cz hp (zi hp (ivr p (cf v 0))))) (fb)) (gm) fk132_0 rk132_0 rk132_1 fk132_3 rn131_0) (by omega) (by omega) (fun v133 hc133 q133 => ?_)
          obtain ⟨mfc134, f4_134, mwa134, w134, T2_134, hO134, rfl, mp134⟩ := q133
          have fk135_0 : hc133.2 (B) = some (mO B ((p : Int)) (hf) (le) (fc) (pn) (rn) (hn) (qn)) := Fr.at0 (mfc134).1 (Ni.c ⟨ne4, ne5⟩ (Ni.c ⟨ne0, ne1⟩ (Ni.c ⟨ne2, ne3⟩ (Ni.n _)))) fk132_0
          have fk135_1 : hc133.2 (B + 7) = some (aJ 6400 (g7)) := Fr.at0 (mfc134).1 (Ni.c ⟨(ne31).s, (ne33).s⟩ (Ni.c ⟨(ne13).s, (ne19).s⟩ (Ni.c ⟨(ne24).s, (ne28).s⟩ (Ni.n _)))) fk132_1
          have fk135_2 : hc133.2 (B + 8) = some (aI 11520 (g8)) := Fr.at0 (mfc134).1 (Ni.c ⟨(ne32).s, (ne34).s⟩ (Ni.c ⟨(ne14).s, (ne20).s⟩ (Ni.c ⟨(ne25).s, (ne29).s⟩ (Ni.n _)))) fk132_2
          have rk135_2 : MG hp B hc133 (1) (fb) := (rk132_2).fr hp2 mfc134 Nr.n
          have rk135_3 : MG hp B hc133 (4) (u) := (rk132_3).fr hp2 mfc134 Nr.n
          have rk135_4 : MG hp B hc133 (5) (v) := (rk132_4).fr hp2 mfc134 Nr.n
          have rk135_5 : MG hp B hc133 (6) (sx) := (rk132_5).fr hp2 mfc134 Nr.n
          have rk135_6 : MG hp B hc133 (7) (t) := (rk132_6).fr hp2 mfc134 Nr.n
          have rk135_7 : MG hp B hc133 (8) (cz hp (zi hp (ivr p (cf v 0)))) := (rk132_7).fr hp2 mfc134 Nr.n
          have rk135_8 : MG hp B hc133 (9) (pml hp (t) (cz hp (zi hp (ivr p (cf v 0))))) := (rk132_8).fr hp2 mfc134 Nr.n
          have rk135_9 : MG hp B hc133 (3) (rm hp (pml hp (t) (cz hp (zi hp (ivr p (cf v 0))))) (fb)) := (rn131_0).fr hp2 mfc134 Nr.n
          have rk135_10 : MG hp B hc133 (2) (qt hp (pml hp (t) (cz hp (zi hp (ivr p (cf v 0))))) (fb)) := (rn131_1).fr hp2 mfc134 Nr.n
          have fr135 : MF B [B + 1, B + 3] [2, 3, 4, 5, 6, 7, 8, 9] h hc133 := (fr132).tr ((mfc134).mo (sub_c (List.Mem.head _) (sub_c (List.Mem.tail _ (List.Mem.head _)) sub_n)) sbI_n)
          refine Go.nf (h' := hc133) (st' := [.int (gI (w134))]) rfl rfl (Nat.le_refl _) (Nat.le_refl _) ?_
          exact g_iret dX10_plainAct_231 rfl ⟨((fr135).1.mo (sub_c (List.Mem.tail _ (List.Mem.tail _ (List.Mem.head _))) (sub_c (List.Mem.head _) (sub_c (List.Mem.tail _ (List.Mem.head _)) sub_n)))), ⟨(fr135).2.1, mwa134, ⟨_, f4_134⟩, ⟨_, fk135_1⟩, ⟨_, fk135_2⟩⟩, w134, T2_134, (by
        have e9 := hO134
        rw [hrs] at e9
        unfold pa11; rw [if_pos ⟨by omega, _, hyes⟩]; exact e9), rfl, mp134⟩
        · skip
          refine g_bipush dX10_plainAct_184 (by decide) ?_
          exact g_iret dX10_plainAct_186 rfl ⟨((fr_lo).1.mo (sub_c (List.Mem.tail _ (List.Mem.tail _ (List.Mem.head _))) (sub_c (List.Mem.head _) (sub_c (List.Mem.tail _ (List.Mem.head _)) sub_n)))), ⟨(fr_lo).2.1, cr_lo_1, ⟨_, cf_lo_0⟩, ⟨_, cg_lo_2⟩, ⟨_, cg_lo_3⟩⟩, (-3), T, (by unfold pa11; rw [if_neg (fun z => ivI_no hp hpa hpb hpu hpv (by omega) (by omega) hI z.2)]; exact ⟨rfl, rfl⟩), rfl, cr_lo_0⟩
      · skip
        refine g_aload_n 0 dX10_plainAct_117 rfl ?_
        refine g_iconst dX10_plainAct_118 ?_
        refine g_iconst dX10_plainAct_119 ?_
        refine g_iconst dX10_plainAct_120 ?_
        refine g_iconst dX10_plainAct_121 ?_
        refine g_callV (nc2 := 0) (ns2 := 0) (ci := 10) (As := [.int (gI (4)), .int (gI (5)), .int (gI (2)), .int (gI (3))]) (st := []) rfl dX10_plainAct_122 okX10_divide lX10_176 itX10_divide seX10_divide rfl cg_lo_0 (by decide) (by decide) rfl (Nat.le_of_ble_eq_true rfl) (sM_divide N _ B p hp hp2 hf le fc pn rn hn qn (4) (5) (2) (3) (by omega) (by omega) (by omega) (by omega) (by omega) (by omega) (u) (v) cg_lo_0 (fr_lo).2.1 cr_lo_3 cr_lo_4 (by omega)) (by omega) (by omega) (fun v136 hc136 q136 => ?_)
        obtain ⟨rfl, mfc137, rn137_0, rn137_1⟩ := q136
        have fk138_0 : hc136.2 (B) = some (mO B ((p : Int)) (hf) (le) (fc) (pn) (rn) (hn) (qn)) := Fr.at0 (mfc137).1 (Ni.c ⟨ne4, ne5⟩ (Ni.n _)) cg_lo_0
        have fk138_1 : hc136.2 (B + 7) = some (aJ 6400 (g7)) := Fr.at0 (mfc137).1 (Ni.c ⟨(ne31).s, (ne33).s⟩ (Ni.n _)) cg_lo_2
        have fk138_2 : hc136.2 (B + 8) = some (aI 11520 (g8)) := Fr.at0 (mfc137).1 (Ni.c ⟨(ne32).s, (ne34).s⟩ (Ni.n _)) cg_lo_3
        have fk138_3 : hc136.2 (B + 4) = some (aI 1500 (gm)) := Fr.at0 (mfc137).1 (Ni.c ⟨ne26, ne27⟩ (Ni.n _)) cf_lo_0
        have rk138_0 : MP hp B hc136 (T) := (cr_lo_0).fr (mfc137).1 (Ni.c ⟨ne11, ne12⟩ (Ni.n _)) (Ni.c ⟨ne17, ne18⟩ (Ni.n _))
        have rk138_1 : MWA B hc136 := (cr_lo_1).fr (mfc137).1 (Ni.c ⟨ne22, ne23⟩ (Ni.n _))
        have rk138_2 : MG hp B hc136 (1) (fb) := (cr_lo_2).fr hp2 mfc137 (Nr.c (by omega) (Nr.c (by omega) Nr.n))
        have rk138_3 : MG hp B hc136 (4) (u) := (cr_lo_3).fr hp2 mfc137 (Nr.c (by omega) (Nr.c (by omega) Nr.n))
        have rk138_4 : MG hp B hc136 (5) (v) := (cr_lo_4).fr hp2 mfc137 (Nr.c (by omega) (Nr.c (by omega) Nr.n))
        have rk138_5 : MG hp B hc136 (6) (sx) := (cr_lo_5).fr hp2 mfc137 (Nr.c (by omega) (Nr.c (by omega) Nr.n))
        have rk138_6 : MG hp B hc136 (7) (t) := (cr_lo_6).fr hp2 mfc137 (Nr.c (by omega) (Nr.c (by omega) Nr.n))
        have fr138 : MF B [B + 1, B + 3] [2, 3, 4, 5, 6, 7, 8, 9] h hc136 := (fr_lo).tr ((mfc137).mo sub_n (sbI_c (List.Mem.tail _ (List.Mem.head _)) (sbI_c (List.Mem.head _) sbI_n)))
        refine Go.nf (h' := hc136) (st' := []) rfl rfl (Nat.le_refl _) (Nat.le_refl _) ?_
        have hqd := (ivI_s hp hpa hpb hpu hpv (by omega) hI).1
        refine g_aload_n 0 dX10_plainAct_125 rfl ?_
        refine g_iconst dX10_plainAct_126 ?_
        refine g_iconst dX10_plainAct_127 ?_
        refine g_callV (nc2 := 0) (ns2 := 0) (ci := 10) (As := [.int (gI (5)), .int (gI (4))]) (st := []) rfl dX10_plainAct_128 okX10_copy lX10_167 itX10_copy seX10_copy rfl fk138_0 (by decide) (by decide) rfl (Nat.le_of_ble_eq_true rfl) (sM_copy N _ B p hp hp2 hf le fc pn rn hn qn (5) (4) (by omega) (by omega) (v) fk138_0 (fr138).2.1 rk138_4) (by omega) (by omega) (fun v139 hc139 q139 => ?_)
        obtain ⟨rfl, mfc140, rn140_0⟩ := q139
        have fk141_0 : hc139.2 (B) = some (mO B ((p : Int)) (hf) (le) (fc) (pn) (rn) (hn) (qn)) := Fr.at0 (mfc140).1 (Ni.c ⟨ne4, ne5⟩ (Ni.n _)) fk138_0
        have fk141_1 : hc139.2 (B + 7) = some (aJ 6400 (g7)) := Fr.at0 (mfc140).1 (Ni.c ⟨(ne31).s, (ne33).s⟩ (Ni.n _)) fk138_1
        have fk141_2 : hc139.2 (B + 8) = some (aI 11520 (g8)) := Fr.at0 (mfc140).1 (Ni.c ⟨(ne32).s, (ne34).s⟩ (Ni.n _)) fk138_2
        have fk141_3 : hc139.2 (B + 4) = some (aI 1500 (gm)) := Fr.at0 (mfc140).1 (Ni.c ⟨ne26, ne27⟩ (Ni.n _)) fk138_3
        have rk141_0 : MP hp B hc139 (T) := (rk138_0).fr (mfc140).1 (Ni.c ⟨ne11, ne12⟩ (Ni.n _)) (Ni.c ⟨ne17, ne18⟩ (Ni.n _))
        have rk141_1 : MWA B hc139 := (rk138_1).fr (mfc140).1 (Ni.c ⟨ne22, ne23⟩ (Ni.n _))
        have rk141_2 : MG hp B hc139 (1) (fb) := (rk138_2).fr hp2 mfc140 (Nr.c (by omega) Nr.n)
        have rk141_4 : MG hp B hc139 (5) (v) := (rk138_4).fr hp2 mfc140 (Nr.c (by omega) Nr.n)
        have rk141_5 : MG hp B hc139 (6) (sx) := (rk138_5).fr hp2 mfc140 (Nr.c (by omega) Nr.n)
        have rk141_6 : MG hp B hc139 (7) (t) := (rk138_6).fr hp2 mfc140 (Nr.c (by omega) Nr.n)
        have rk141_7 : MG hp B hc139 (3) (rm hp (u) (v)) := (rn137_0).fr hp2 mfc140 (Nr.c (by omega) Nr.n)
        have rk141_8 : MG hp B hc139 (2) (qt hp (u) (v)) := (rn137_1).fr hp2 mfc140 (Nr.c (by omega) Nr.n)
        have fr141 : MF B [B + 1, B + 3] [2, 3, 4, 5, 6, 7, 8, 9] h hc139 := (fr138).tr ((mfc140).mo sub_n (sbI_c (List.Mem.tail _ (List.Mem.tail _ (List.Mem.head _))) sbI_n))
        refine Go.nf (h' := hc139) (st' := []) rfl rfl (Nat.le_refl _) (Nat.le_refl _) ?_
        refine g_aload_n 0 dX10_plainAct_131 rfl ?_
        refine g_iconst dX10_plainAct_132 ?_
        refine g_iconst dX10_plainAct_133 ?_
        refine g_callV (nc2 := 0) (ns2 := 0) (ci := 10) (As := [.int (gI (3)), .int (gI (5))]) (st := []) rfl dX10_plainAct_134 okX10_copy lX10_167 itX10_copy seX10_copy rfl fk141_0 (by decide) (by decide) rfl (Nat.le_of_ble_eq_true rfl) (sM_copy N _ B p hp hp2 hf le fc pn rn hn qn (3) (5) (by omega) (by omega) (rm hp (u) (v)) fk141_0 (fr141).2.1 rk141_7) (by omega) (by omega) (fun v142 hc142 q142 => ?_)
        obtain ⟨rfl, mfc143, rn143_0⟩ := q142
        have fk144_0 : hc142.2 (B) = some (mO B ((p : Int)) (hf) (le) (fc) (pn) (rn) (hn) (qn)) := Fr.at0 (mfc143).1 (Ni.c ⟨ne4, ne5⟩ (Ni.n _)) fk141_0
        have fk144_1 : hc142.2 (B + 7) = some (aJ 6400 (g7)) := Fr.at0 (mfc143).1 (Ni.c ⟨(ne31).s, (ne33).s⟩ (Ni.n _)) fk141_1
        have fk144_2 : hc142.2 (B + 8) = some (aI 11520 (g8)) := Fr.at0 (mfc143).1 (Ni.c ⟨(ne32).s, (ne34).s⟩ (Ni.n _)) fk141_2
        have fk144_3 : hc142.2 (B + 4) = some (aI 1500 (gm)) := Fr.at0 (mfc143).1 (Ni.c ⟨ne26, ne27⟩ (Ni.n _)) fk141_3
        have rk144_0 : MP hp B hc142 (T) := (rk141_0).fr (mfc143).1 (Ni.c ⟨ne11, ne12⟩ (Ni.n _)) (Ni.c ⟨ne17, ne18⟩ (Ni.n _))
        have rk144_1 : MWA B hc142 := (rk141_1).fr (mfc143).1 (Ni.c ⟨ne22, ne23⟩ (Ni.n _))
        have rk144_2 : MG hp B hc142 (1) (fb) := (rk141_2).fr hp2 mfc143 (Nr.c (by omega) Nr.n)
        have rk144_4 : MG hp B hc142 (6) (sx) := (rk141_5).fr hp2 mfc143 (Nr.c (by omega) Nr.n)
        have rk144_5 : MG hp B hc142 (7) (t) := (rk141_6).fr hp2 mfc143 (Nr.c (by omega) Nr.n)
        have rk144_6 : MG hp B hc142 (3) (rm hp (u) (v)) := (rk141_7).fr hp2 mfc143 (Nr.c (by omega) Nr.n)
        have rk144_7 : MG hp B hc142 (2) (qt hp (u) (v)) := (rk141_8).fr hp2 mfc143 (Nr.c (by omega) Nr.n)
        have rk144_8 : MG hp B hc142 (4) (v) := (rn140_0).fr hp2 mfc143 (Nr.c (by omega) Nr.n)
        have fr144 : MF B [B + 1, B + 3] [2, 3, 4, 5, 6, 7, 8, 9] h hc142 := (fr141).tr ((mfc143).mo sub_n (sbI_c (List.Mem.tail _ (List.Mem.tail _ (List.Mem.tail _ (List.Mem.head _)))) sbI_n))
        refine Go.nf (h' := hc142) (st' := []) rfl rfl (Nat.le_refl _) (Nat.le_refl _) ?_
        refine g_aload_n 0 dX10_plainAct_137 rfl ?_
        refine g_iconst dX10_plainAct_138 ?_
        refine g_bipush dX10_plainAct_139 (by decide) ?_
        refine g_bipush dX10_plainAct_141 (by decide) ?_
        refine g_callV (nc2 := 0) (ns2 := 0) (ci := 10) (As := [.int (gI (2)), .int (gI (7)), .int (gI (8))]) (st := []) rfl dX10_plainAct_143 okX10_product lX10_189 itX10_product seX10_product rfl fk144_0 (by decide) (by decide) rfl (Nat.le_of_ble_eq_true rfl) (sM_product N _ B p hp hp2 hf le fc pn rn hn qn (2) (7) (8) (by omega) (by omega) (by omega) (qt hp (u) (v)) (t) fk144_0 (fr144).2.1 rk144_7 rk144_5 (by omega)) (by omega) (by omega) (fun v145 hc145 q145 => ?_)
        obtain ⟨rfl, mfc146, rn146_0⟩ := q145
        have fk147_0 : hc145.2 (B) = some (mO B ((p : Int)) (hf) (le) (fc) (pn) (rn) (hn) (qn)) := Fr.at0 (mfc146).1 (Ni.c ⟨ne4, ne5⟩ (Ni.n _)) fk144_0
        have fk147_1 : hc145.2 (B + 7) = some (aJ 6400 (g7)) := Fr.at0 (mfc146).1 (Ni.c ⟨(ne31).s, (ne33).s⟩ (Ni.n _)) fk144_1
        have fk147_2 : hc145.2 (B + 8) = some (aI 11520 (g8)) := Fr.at0 (mfc146).1 (Ni.c ⟨(ne32).s, (ne34).s⟩ (Ni.n _)) fk144_2
        have fk147_3 : hc145.2 (B + 4) = some (aI 1500 (gm)) := Fr.at0 (mfc146).1 (Ni.c ⟨ne26, ne27⟩ (Ni.n _)) fk144_3
        have rk147_0 : MP hp B hc145 (T) := (rk144_0).fr (mfc146).1 (Ni.c ⟨ne11, ne12⟩ (Ni.n _)) (Ni.c ⟨ne17, ne18⟩ (Ni.n _))
        have rk147_1 : MWA B hc145 := (rk144_1).fr (mfc146).1 (Ni.c ⟨ne22, ne23⟩ (Ni.n _))
        have rk147_2 : MG hp B hc145 (1) (fb) := (rk144_2).fr hp2 mfc146 (Nr.c (by omega) Nr.n)
        have rk147_3 : MG hp B hc145 (6) (sx) := (rk144_4).fr hp2 mfc146 (Nr.c (by omega) Nr.n)
        have rk147_4 : MG hp B hc145 (7) (t) := (rk144_5).fr hp2 mfc146 (Nr.c (by omega) Nr.n)
        have rk147_5 : MG hp B hc145 (3) (rm hp (u) (v)) := (rk144_6).fr hp2 mfc146 (Nr.c (by omega) Nr.n)
        have rk147_6 : MG hp B hc145 (2) (qt hp (u) (v)) := (rk144_7).fr hp2 mfc146 (Nr.c (by omega) Nr.n)
        have rk147_7 : MG hp B hc145 (4) (v) := (rk144_8).fr hp2 mfc146 (Nr.c (by omega) Nr.n)
        have rk147_8 : MG hp B hc145 (5) (rm hp (u) (v)) := (rn143_0).fr hp2 mfc146 (Nr.c (by omega) Nr.n)
        have fr147 : MF B [B + 1, B + 3] [2, 3, 4, 5, 6, 7, 8, 9] h hc145 := (fr144).tr ((mfc146).mo sub_n (sbI_c (List.Mem.tail _ (List.Mem.tail _ (List.Mem.tail _ (List.Mem.tail _ (List.Mem.tail _ (List.Mem.tail _ (List.Mem.head _))))))) sbI_n))
        refine Go.nf (h' := hc145) (st' := []) rfl rfl (Nat.le_refl _) (Nat.le_refl _) ?_
        refine g_aload_n 0 dX10_plainAct_146 rfl ?_
        refine g_bipush dX10_plainAct_147 (by decide) ?_
        refine g_bipush dX10_plainAct_149 (by decide) ?_
        refine g_bipush dX10_plainAct_151 (by decide) ?_
        refine g_callV (nc2 := 0) (ns2 := 0) (ci := 10) (As := [.int (gI (6)), .int (gI (8)), .int (gI (9))]) (st := []) rfl dX10_plainAct_153 okX10_minus lX10_192 itX10_minus seX10_minus rfl fk147_0 (by decide) (by decide) rfl (Nat.le_of_ble_eq_true rfl) (sM_minus N _ B p hp hp2 hf le fc pn rn hn qn (6) (8) (9) (by omega) (sx) (pml hp (qt hp (u) (v)) (t)) fk147_0 (fr147).2.1 rk147_3 rn146_0) (by omega) (by omega) (fun v148 hc148 q148 => ?_)
        obtain ⟨rfl, mfc149, rn149_0⟩ := q148
        have fk150_0 : hc148.2 (B) = some (mO B ((p : Int)) (hf) (le) (fc) (pn) (rn) (hn) (qn)) := Fr.at0 (mfc149).1 (Ni.c ⟨ne4, ne5⟩ (Ni.n _)) fk147_0
        have fk150_1 : hc148.2 (B + 7) = some (aJ 6400 (g7)) := Fr.at0 (mfc149).1 (Ni.c ⟨(ne31).s, (ne33).s⟩ (Ni.n _)) fk147_1
        have fk150_2 : hc148.2 (B + 8) = some (aI 11520 (g8)) := Fr.at0 (mfc149).1 (Ni.c ⟨(ne32).s, (ne34).s⟩ (Ni.n _)) fk147_2
        have fk150_3 : hc148.2 (B + 4) = some (aI 1500 (gm)) := Fr.at0 (mfc149).1 (Ni.c ⟨ne26, ne27⟩ (Ni.n _)) fk147_3
        have rk150_0 : MP hp B hc148 (T) := (rk147_0).fr (mfc149).1 (Ni.c ⟨ne11, ne12⟩ (Ni.n _)) (Ni.c ⟨ne17, ne18⟩ (Ni.n _))
        have rk150_1 : MWA B hc148 := (rk147_1).fr (mfc149).1 (Ni.c ⟨ne22, ne23⟩ (Ni.n _))
        have rk150_2 : MG hp B hc148 (1) (fb) := (rk147_2).fr hp2 mfc149 (Nr.c (by omega) Nr.n)
        have rk150_3 : MG hp B hc148 (6) (sx) := (rk147_3).fr hp2 mfc149 (Nr.c (by omega) Nr.n)
        have rk150_4 : MG hp B hc148 (7) (t) := (rk147_4).fr hp2 mfc149 (Nr.c (by omega) Nr.n)
        have rk150_5 : MG hp B hc148 (3) (rm hp (u) (v)) := (rk147_5).fr hp2 mfc149 (Nr.c (by omega) Nr.n)
        have rk150_6 : MG hp B hc148 (2) (qt hp (u) (v)) := (rk147_6).fr hp2 mfc149 (Nr.c (by omega) Nr.n)
        have rk150_7 : MG hp B hc148 (4) (v) := (rk147_7).fr hp2 mfc149 (Nr.c (by omega) Nr.n)
        have rk150_8 : MG hp B hc148 (5) (rm hp (u) (v)) := (rk147_8).fr hp2 mfc149 (Nr.c (by omega) Nr.n)
        have rk150_9 : MG hp B hc148 (8) (pml hp (qt hp (u) (v)) (t)) := (rn146_0).fr hp2 mfc149 (Nr.c (by omega) Nr.n)
        have fr150 : MF B [B + 1, B + 3] [2, 3, 4, 5, 6, 7, 8, 9] h hc148 := (fr147).tr ((mfc149).mo sub_n (sbI_c (List.Mem.tail _ (List.Mem.tail _ (List.Mem.tail _ (List.Mem.tail _ (List.Mem.tail _ (List.Mem.tail _ (List.Mem.tail _ (List.Mem.head _)))))))) sbI_n))
        refine Go.nf (h' := hc148) (st' := []) rfl rfl (Nat.le_refl _) (Nat.le_refl _) ?_
        refine g_aload_n 0 dX10_plainAct_156 rfl ?_
        refine g_bipush dX10_plainAct_157 (by decide) ?_
        refine g_bipush dX10_plainAct_159 (by decide) ?_
        refine g_callV (nc2 := 0) (ns2 := 0) (ci := 10) (As := [.int (gI (7)), .int (gI (6))]) (st := []) rfl dX10_plainAct_161 okX10_copy lX10_167 itX10_copy seX10_copy rfl fk150_0 (by decide) (by decide) rfl (Nat.le_of_ble_eq_true rfl) (sM_copy N _ B p hp hp2 hf le fc pn rn hn qn (7) (6) (by omega) (by omega) (t) fk150_0 (fr150).2.1 rk150_4) (by omega) (by omega) (fun v151 hc151 q151 => ?_)
        obtain ⟨rfl, mfc152, rn152_0⟩ := q151
        have fk153_0 : hc151.2 (B) = some (mO B ((p : Int)) (hf) (le) (fc) (pn) (rn) (hn) (qn)) := Fr.at0 (mfc152).1 (Ni.c ⟨ne4, ne5⟩ (Ni.n _)) fk150_0
        have fk153_1 : hc151.2 (B + 7) = some (aJ 6400 (g7)) := Fr.at0 (mfc152).1 (Ni.c ⟨(ne31).s, (ne33).s⟩ (Ni.n _)) fk150_1
        have fk153_2 : hc151.2 (B + 8) = some (aI 11520 (g8)) := Fr.at0 (mfc152).1 (Ni.c ⟨(ne32).s, (ne34).s⟩ (Ni.n _)) fk150_2
        have fk153_3 : hc151.2 (B + 4) = some (aI 1500 (gm)) := Fr.at0 (mfc152).1 (Ni.c ⟨ne26, ne27⟩ (Ni.n _)) fk150_3
        have rk153_0 : MP hp B hc151 (T) := (rk150_0).fr (mfc152).1 (Ni.c ⟨ne11, ne12⟩ (Ni.n _)) (Ni.c ⟨ne17, ne18⟩ (Ni.n _))
        have rk153_1 : MWA B hc151 := (rk150_1).fr (mfc152).1 (Ni.c ⟨ne22, ne23⟩ (Ni.n _))
        have rk153_2 : MG hp B hc151 (1) (fb) := (rk150_2).fr hp2 mfc152 (Nr.c (by omega) Nr.n)
        have rk153_4 : MG hp B hc151 (7) (t) := (rk150_4).fr hp2 mfc152 (Nr.c (by omega) Nr.n)
        have rk153_5 : MG hp B hc151 (3) (rm hp (u) (v)) := (rk150_5).fr hp2 mfc152 (Nr.c (by omega) Nr.n)
        have rk153_6 : MG hp B hc151 (2) (qt hp (u) (v)) := (rk150_6).fr hp2 mfc152 (Nr.c (by omega) Nr.n)
        have rk153_7 : MG hp B hc151 (4) (v) := (rk150_7).fr hp2 mfc152 (Nr.c (by omega) Nr.n)
        have rk153_8 : MG hp B hc151 (5) (rm hp (u) (v)) := (rk150_8).fr hp2 mfc152 (Nr.c (by omega) Nr.n)
        have rk153_9 : MG hp B hc151 (8) (pml hp (qt hp (u) (v)) (t)) := (rk150_9).fr hp2 mfc152 (Nr.c (by omega) Nr.n)
        have rk153_10 : MG hp B hc151 (9) (psb hp (sx) (pml hp (qt hp (u) (v)) (t))) := (rn149_0).fr hp2 mfc152 (Nr.c (by omega) Nr.n)
        have fr153 : MF B [B + 1, B + 3] [2, 3, 4, 5, 6, 7, 8, 9] h hc151 := (fr150).tr ((mfc152).mo sub_n (sbI_c (List.Mem.tail _ (List.Mem.tail _ (List.Mem.tail _ (List.Mem.tail _ (List.Mem.head _))))) sbI_n))
        refine Go.nf (h' := hc151) (st' := []) rfl rfl (Nat.le_refl _) (Nat.le_refl _) ?_
        refine g_aload_n 0 dX10_plainAct_164 rfl ?_
        refine g_bipush dX10_plainAct_165 (by decide) ?_
        refine g_bipush dX10_plainAct_167 (by decide) ?_
        refine g_callV (nc2 := 0) (ns2 := 0) (ci := 10) (As := [.int (gI (9)), .int (gI (7))]) (st := []) rfl dX10_plainAct_169 okX10_copy lX10_167 itX10_copy seX10_copy rfl fk153_0 (by decide) (by decide) rfl (Nat.le_of_ble_eq_true rfl) (sM_copy N _ B p hp hp2 hf le fc pn rn hn qn (9) (7) (by omega) (by omega) (psb hp (sx) (pml hp (qt hp (u) (v)) (t))) fk153_0 (fr153).2.1 rk153_10) (by omega) (by omega) (fun v154 hc154 q154 => ?_)
        obtain ⟨rfl, mfc155, rn155_0⟩ := q154
        have fk156_0 : hc154.2 (B) = some (mO B ((p : Int)) (hf) (le) (fc) (pn) (rn) (hn) (qn)) := Fr.at0 (mfc155).1 (Ni.c ⟨ne4, ne5⟩ (Ni.n _)) fk153_0
        have fk156_1 : hc154.2 (B + 7) = some (aJ 6400 (g7)) := Fr.at0 (mfc155).1 (Ni.c ⟨(ne31).s, (ne33).s⟩ (Ni.n _)) fk153_1
        have fk156_2 : hc154.2 (B + 8) = some (aI 11520 (g8)) := Fr.at0 (mfc155).1 (Ni.c ⟨(ne32).s, (ne34).s⟩ (Ni.n _)) fk153_2
        have fk156_3 : hc154.2 (B + 4) = some (aI 1500 (gm)) := Fr.at0 (mfc155).1 (Ni.c ⟨ne26, ne27⟩ (Ni.n _)) fk153_3
        have rk156_0 : MP hp B hc154 (T) := (rk153_0).fr (mfc155).1 (Ni.c ⟨ne11, ne12⟩ (Ni.n _)) (Ni.c ⟨ne17, ne18⟩ (Ni.n _))
        have rk156_1 : MWA B hc154 := (rk153_1).fr (mfc155).1 (Ni.c ⟨ne22, ne23⟩ (Ni.n _))
        have rk156_2 : MG hp B hc154 (1) (fb) := (rk153_2).fr hp2 mfc155 (Nr.c (by omega) Nr.n)
        have rk156_4 : MG hp B hc154 (3) (rm hp (u) (v)) := (rk153_5).fr hp2 mfc155 (Nr.c (by omega) Nr.n)
        have rk156_5 : MG hp B hc154 (2) (qt hp (u) (v)) := (rk153_6).fr hp2 mfc155 (Nr.c (by omega) Nr.n)
        have rk156_6 : MG hp B hc154 (4) (v) := (rk153_7).fr hp2 mfc155 (Nr.c (by omega) Nr.n)
        have rk156_7 : MG hp B hc154 (5) (rm hp (u) (v)) := (rk153_8).fr hp2 mfc155 (Nr.c (by omega) Nr.n)
        have rk156_8 : MG hp B hc154 (8) (pml hp (qt hp (u) (v)) (t)) := (rk153_9).fr hp2 mfc155 (Nr.c (by omega) Nr.n)
        have rk156_9 : MG hp B hc154 (9) (psb hp (sx) (pml hp (qt hp (u) (v)) (t))) := (rk153_10).fr hp2 mfc155 (Nr.c (by omega) Nr.n)
        have rk156_10 : MG hp B hc154 (6) (t) := (rn152_0).fr hp2 mfc155 (Nr.c (by omega) Nr.n)
        have fr156 : MF B [B + 1, B + 3] [2, 3, 4, 5, 6, 7, 8, 9] h hc154 := (fr153).tr ((mfc155).mo sub_n (sbI_c (List.Mem.tail _ (List.Mem.tail _ (List.Mem.tail _ (List.Mem.tail _ (List.Mem.tail _ (List.Mem.head _)))))) sbI_n))
        refine Go.nf (h' := hc154) (st' := []) rfl rfl (Nat.le_refl _) (Nat.le_refl _) ?_
        refine g_goto (tgt := 108) dX10_plainAct_172 rfl ?_
        exact ih_lo _ (by have := rm_lt hp hpu hpv (by omega); omega) (v) (rm hp u v) (t) (psb hp sx (pml hp (qt hp u v) t)) hc154 rfl fr156 fk156_3 rk156_0 rk156_1 rk156_2 rk156_6 rk156_7 rk156_10 rn155_0 ((ivI_s hp hpa hpb hpu hpv (by omega) hI).2) (by omega)
    exact lo _ (fb) (rm hp fa fb) (cz hp (zi hp 0)) (cz hp (zi hp 1)) hc15 rfl fr17 fk17_1 rk17_0 rk17_1 rk17_3 rk17_4 rk17_5 rk17_7 rn16_0 (ivI_0 hp hpa hpb (by omega)) (by omega)
  · skip
    refine g_bipush dX10_plainAct_77 (by decide) ?_
    exact g_iret dX10_plainAct_79 rfl ⟨(((MF.rf [B + 1, B + 3] [2, 3, 4, 5, 6, 7, 8, 9] ma)).1.mo (sub_c (List.Mem.tail _ (List.Mem.tail _ (List.Mem.head _))) (sub_c (List.Mem.head _) (sub_c (List.Mem.tail _ (List.Mem.head _)) sub_n)))), ⟨((MF.rf [B + 1, B + 3] [2, 3, 4, 5, 6, 7, 8, 9] ma)).2.1, hw, ⟨_, h4⟩, ⟨_, h7⟩, ⟨_, h8⟩⟩, (-3), T, (by unfold pa11; rw [if_neg (fun z => by omega)]; exact ⟨rfl, rfl⟩), rfl, hT⟩
set_option maxHeartbeats 4000000 in
set_option maxRecDepth 100000 in
theorem sM_applyB (N : GN) (h : GH) (B p : Nat) (hp : prm p) (hp2 : p ≤ 65536) (hf le fc pn rn hn qn : Int) (T : PT p) (k a b : Int) (gW_k : gW k) (hk : k < 0 ∨ 13 < k) (hm : h.2 B = some (mO B p hf le fc pn rn hn qn)) (hT : MP hp B h T) (ms : MS B h)  : Sp N yX10_apply mX10_apply 0 0 [.ref (B), .int (gI (k)), .int (gI (a)), .int (gI (b))] h (fun v h1 => Fr [B + 1, B + 3, B + 5, B + 7] h h1 ∧ MS B h1 ∧ ∃ w T2, Ou T (.inl (-2)) w T2 ∧ v = some (.int (gI w)) ∧ MP hp B h1 T2) := by
  refine Sp.of (by decide) rfl rfl (Nat.le_of_ble_eq_true rfl) ?_
  show Go N mX10_apply _ 0 0 h 0 [(0, .ref (B)), (1, .int (gI (k))), (2, .int (gI (a))), (3, .int (gI (b)))] []
  have hp1 := hp.1
  have neA : NE B (B + 5) := by unfold NE; omega
  have neB : NE B (B + 6) := by unfold NE; omega
  have neC : NE (B + 5) (B + 6) := by unfold NE; omega
  have ne0 : NE (B) (B + 1) := by unfold NE; omega
  have ne1 : NE (B) (B + 2) := by unfold NE; omega
  have ne2 : NE (B) (B + 3) := by unfold NE; omega
  have ne3 : NE (B) (B + 4) := by unfold NE; omega
  have ne4 : NE (B) (B + 5) := by unfold NE; omega
  have ne5 : NE (B) (B + 6) := by unfold NE; omega
  have ne6 : NE (B) (B + 7) := by unfold NE; omega
  have ne7 : NE (B) (B + 8) := by unfold NE; omega
  have ne8 : NE (B + 1) (B + 2) := by unfold NE; omega
  have ne9 : NE (B + 1) (B + 3) := by unfold NE; omega
  have ne10 : NE (B + 1) (B + 4) := by unfold NE; omega
  have ne11 : NE (B + 1) (B + 5) := by unfold NE; omega
  have ne12 : NE (B + 1) (B + 6) := by unfold NE; omega
  have ne13 : NE (B + 1) (B + 7) := by unfold NE; omega
  have ne14 : NE (B + 1) (B + 8) := by unfold NE; omega
  have ne15 : NE (B + 2) (B + 3) := by unfold NE; omega
  have ne16 : NE (B + 2) (B + 4) := by unfold NE; omega
  have ne17 : NE (B + 2) (B + 5) := by unfold NE; omega
  have ne18 : NE (B + 2) (B + 6) := by unfold NE; omega
  have ne19 : NE (B + 2) (B + 7) := by unfold NE; omega
  have ne20 : NE (B + 2) (B + 8) := by unfold NE; omega
  have ne21 : NE (B + 3) (B + 4) := by unfold NE; omega
  have ne22 : NE (B + 3) (B + 5) := by unfold NE; omega
  have ne23 : NE (B + 3) (B + 6) := by unfold NE; omega
  have ne24 : NE (B + 3) (B + 7) := by unfold NE; omega
  have ne25 : NE (B + 3) (B + 8) := by unfold NE; omega
  have ne26 : NE (B + 4) (B + 5) := by unfold NE; omega
  have ne27 : NE (B + 4) (B + 6) := by unfold NE; omega
  have ne28 : NE (B + 4) (B + 7) := by unfold NE; omega
  have ne29 : NE (B + 4) (B + 8) := by unfold NE; omega
  have ne30 : NE (B + 5) (B + 6) := by unfold NE; omega
  have ne31 : NE (B + 5) (B + 7) := by unfold NE; omega
  have ne32 : NE (B + 5) (B + 8) := by unfold NE; omega
  have ne33 : NE (B + 6) (B + 7) := by unfold NE; omega
  have ne34 : NE (B + 6) (B + 8) := by unfold NE; omega
  have ne35 : NE (B + 7) (B + 8) := by unfold NE; omega
  obtain ⟨ma, hw, ⟨gm, h4⟩, ⟨g7, h7⟩, ⟨g8, h8⟩⟩ := ms
  refine g_iload_n 1 dX10_apply_0 rfl ?_
  refine g_if_lt (tgt := 10) dX10_apply_1 rfl (by first | exact gW_k | (unfold gW; omega)) (fun c1 => ?_) (fun c1 => ?_)
  · skip
    refine g_bipush dX10_apply_10 (by decide) ?_
    exact g_iret dX10_apply_12 rfl ⟨(((MF.rf [B + 1, B + 3] [] ma)).1.mo (sub_c (List.Mem.tail _ (List.Mem.tail _ (List.Mem.head _))) (sub_c (List.Mem.head _) (sub_c (List.Mem.tail _ (List.Mem.head _)) sub_n)))), ⟨((MF.rf [B + 1, B + 3] [] ma)).2.1, hw, ⟨_, h4⟩, ⟨_, h7⟩, ⟨_, h8⟩⟩, (-2), T, ⟨rfl, rfl⟩, rfl, hT⟩
  · skip
    refine g_iload_n 1 dX10_apply_4 rfl ?_
    refine g_bipush dX10_apply_5 (by decide) ?_
    refine g_icmp_le (tgt := 13) dX10_apply_7 rfl (by first | exact gW_k | (unfold gW; omega)) (by first | exact gW_k | (unfold gW; omega)) (fun c2 => ?_) (fun c2 => ?_)
    · skip
      exfalso; omega
    · skip
      refine g_bipush dX10_apply_10 (by decide) ?_
      exact g_iret dX10_apply_12 rfl ⟨(((MF.rf [B + 1, B + 3] [] ma)).1.mo (sub_c (List.Mem.tail _ (List.Mem.tail _ (List.Mem.head _))) (sub_c (List.Mem.head _) (sub_c (List.Mem.tail _ (List.Mem.head _)) sub_n)))), ⟨((MF.rf [B + 1, B + 3] [] ma)).2.1, hw, ⟨_, h4⟩, ⟨_, h7⟩, ⟨_, h8⟩⟩, (-2), T, ⟨rfl, rfl⟩, rfl, hT⟩
set_option maxHeartbeats 4000000 in
set_option maxRecDepth 100000 in
theorem sM_apply0 (N : GN) (h : GH) (B p : Nat) (hp : prm p) (hp2 : p ≤ 65536) (hf le fc pn rn hn qn : Int) (T : PT p) (a b : Int) (gW_a : gW a) (gW_b : gW b) (hm : h.2 B = some (mO B p hf le fc pn rn hn qn)) (hT : MP hp B h T) (ms : MS B h)  : Sp N yX10_apply mX10_apply 0 0 [.ref (B), .int (gI (0)), .int (gI (a)), .int (gI (b))] h (fun v h1 => Fr [B + 1, B + 3, B + 5, B + 7] h h1 ∧ MS B h1 ∧ ∃ w T2, Ou T (ap2 T a b (rac hp 0)) w T2 ∧ v = some (.int (gI w)) ∧ MP hp B h1 T2) := by
  refine Sp.of (by decide) rfl rfl (Nat.le_of_ble_eq_true rfl) ?_
  show Go N mX10_apply _ 0 0 h 0 [(0, .ref (B)), (1, .int (gI (0))), (2, .int (gI (a))), (3, .int (gI (b)))] []
  have hp1 := hp.1
  have neA : NE B (B + 5) := by unfold NE; omega
  have neB : NE B (B + 6) := by unfold NE; omega
  have neC : NE (B + 5) (B + 6) := by unfold NE; omega
  have ne0 : NE (B) (B + 1) := by unfold NE; omega
  have ne1 : NE (B) (B + 2) := by unfold NE; omega
  have ne2 : NE (B) (B + 3) := by unfold NE; omega
  have ne3 : NE (B) (B + 4) := by unfold NE; omega
  have ne4 : NE (B) (B + 5) := by unfold NE; omega
  have ne5 : NE (B) (B + 6) := by unfold NE; omega
  have ne6 : NE (B) (B + 7) := by unfold NE; omega
  have ne7 : NE (B) (B + 8) := by unfold NE; omega
  have ne8 : NE (B + 1) (B + 2) := by unfold NE; omega
  have ne9 : NE (B + 1) (B + 3) := by unfold NE; omega
  have ne10 : NE (B + 1) (B + 4) := by unfold NE; omega
  have ne11 : NE (B + 1) (B + 5) := by unfold NE; omega
  have ne12 : NE (B + 1) (B + 6) := by unfold NE; omega
  have ne13 : NE (B + 1) (B + 7) := by unfold NE; omega
  have ne14 : NE (B + 1) (B + 8) := by unfold NE; omega
  have ne15 : NE (B + 2) (B + 3) := by unfold NE; omega
  have ne16 : NE (B + 2) (B + 4) := by unfold NE; omega
  have ne17 : NE (B + 2) (B + 5) := by unfold NE; omega
  have ne18 : NE (B + 2) (B + 6) := by unfold NE; omega
  have ne19 : NE (B + 2) (B + 7) := by unfold NE; omega
  have ne20 : NE (B + 2) (B + 8) := by unfold NE; omega
  have ne21 : NE (B + 3) (B + 4) := by unfold NE; omega
  have ne22 : NE (B + 3) (B + 5) := by unfold NE; omega
  have ne23 : NE (B + 3) (B + 6) := by unfold NE; omega
  have ne24 : NE (B + 3) (B + 7) := by unfold NE; omega
  have ne25 : NE (B + 3) (B + 8) := by unfold NE; omega
  have ne26 : NE (B + 4) (B + 5) := by unfold NE; omega
  have ne27 : NE (B + 4) (B + 6) := by unfold NE; omega
  have ne28 : NE (B + 4) (B + 7) := by unfold NE; omega
  have ne29 : NE (B + 4) (B + 8) := by unfold NE; omega
  have ne30 : NE (B + 5) (B + 6) := by unfold NE; omega
  have ne31 : NE (B + 5) (B + 7) := by unfold NE; omega
  have ne32 : NE (B + 5) (B + 8) := by unfold NE; omega
  have ne33 : NE (B + 6) (B + 7) := by unfold NE; omega
  have ne34 : NE (B + 6) (B + 8) := by unfold NE; omega
  have ne35 : NE (B + 7) (B + 8) := by unfold NE; omega
  obtain ⟨ma, hw, ⟨gm, h4⟩, ⟨g7, h7⟩, ⟨g8, h8⟩⟩ := ms
  refine g_iload_n 1 dX10_apply_0 rfl ?_
  refine g_if_lt (tgt := 10) dX10_apply_1 rfl (by first | exact gW_a | exact gW_b | (unfold gW; omega) | (unfold gW; split <;> omega)) (fun c1 => absurd c1 (by omega)) (fun c1 => ?_)
  refine g_iload_n 1 dX10_apply_4 rfl ?_
  refine g_bipush dX10_apply_5 (by decide) ?_
  refine g_icmp_le (tgt := 13) dX10_apply_7 rfl (by first | exact gW_a | exact gW_b | (unfold gW; omega) | (unfold gW; split <;> omega)) (by first | exact gW_a | exact gW_b | (unfold gW; omega) | (unfold gW; split <;> omega)) (fun c2 => ?_) (fun c2 => absurd c2 (by omega))
  refine g_iload_n 1 dX10_apply_13 rfl ?_
  refine g_iconst dX10_apply_14 ?_
  refine g_icmp_eq (tgt := 30) dX10_apply_15 rfl (by first | exact gW_a | exact gW_b | (unfold gW; omega) | (unfold gW; split <;> omega)) (by first | exact gW_a | exact gW_b | (unfold gW; omega) | (unfold gW; split <;> omega)) (fun c3 => absurd c3 (by omega)) (fun c3 => ?_)
  refine g_iload_n 1 dX10_apply_18 rfl ?_
  refine g_bipush dX10_apply_19 (by decide) ?_
  refine g_icmp_eq (tgt := 30) dX10_apply_21 rfl (by first | exact gW_a | exact gW_b | (unfold gW; omega) | (unfold gW; split <;> omega)) (by first | exact gW_a | exact gW_b | (unfold gW; omega) | (unfold gW; split <;> omega)) (fun c4 => absurd c4 (by omega)) (fun c4 => ?_)
  refine g_iload_n 1 dX10_apply_24 rfl ?_
  refine g_bipush dX10_apply_25 (by decide) ?_
  refine g_icmp_ne (tgt := 34) dX10_apply_27 rfl (by first | exact gW_a | exact gW_b | (unfold gW; omega) | (unfold gW; split <;> omega)) (by first | exact gW_a | exact gW_b | (unfold gW; omega) | (unfold gW; split <;> omega)) (fun c5 => ?_) (fun c5 => absurd c5 (by omega))
  refine g_iconst dX10_apply_34 ?_
  refine g_istore (ls2 := [(4, .int (gI (0))), (0, .ref (B)), (1, .int (gI (0))), (2, .int (gI (a))), (3, .int (gI (b)))]) dX10_apply_35 (by decide) rfl ?_
  refine g_aload_n 1 dX10_apply_37 rfl ?_
  refine g_iload_n 3 dX10_apply_38 rfl ?_
  refine g_callV (nc2 := 0) (ns2 := 0) (ci := 10) (As := [.int (gI (a))]) (st := []) rfl dX10_apply_39 okX10_isPlace lX10_118 itX10_isPlace seX10_isPlace rfl hm (by decide) (by decide) rfl (Nat.le_of_ble_eq_true rfl) (sM_isPlace N _ B p hp hp2 hf le fc pn rn hn qn T (a) gW_a hm hT) (by omega) (by omega) (fun v6 hc6 q6 => ?_)
  obtain ⟨hq7, hr7⟩ := q6
  rcases hr7 with ⟨rfl, a0, a1, F, ha⟩ | ⟨rfl, na⟩
  · skip
    refine Go.nf (h' := h) (st' := [.int (gI (1))]) hq7 rfl (Nat.le_refl _) (Nat.le_refl _) ?_
    refine g_if_eq (tgt := 58) dX10_apply_42 rfl (by first | exact gW_a | exact gW_b | (unfold gW; omega) | (unfold gW; split <;> omega)) (fun c8 => absurd c8 (by omega)) (fun c8 => ?_)
    refine g_iload 0 dX10_apply_45 rfl ?_
    refine g_if_ne (tgt := 60) dX10_apply_47 rfl (by first | exact gW_a | exact gW_b | (unfold gW; omega) | (unfold gW; split <;> omega)) (fun c9 => absurd c9 (by omega)) (fun c9 => ?_)
    refine g_aload_n 1 dX10_apply_50 rfl ?_
    refine g_iload_n 4 dX10_apply_51 rfl ?_
    refine g_callV (nc2 := 0) (ns2 := 0) (ci := 10) (As := [.int (gI (b))]) (st := []) rfl dX10_apply_52 okX10_isPlace lX10_118 itX10_isPlace seX10_isPlace rfl hm (by decide) (by decide) rfl (Nat.le_of_ble_eq_true rfl) (sM_isPlace N _ B p hp hp2 hf le fc pn rn hn qn T (b) gW_b hm hT) (by omega) (by omega) (fun v10 hc10 q10 => ?_)
    obtain ⟨hq11, hr11⟩ := q10
    rcases hr11 with ⟨rfl, b0, b1, G, hb⟩ | ⟨rfl, nb⟩
    · skip
      refine Go.nf (h' := h) (st' := [.int (gI (1))]) hq11 rfl (Nat.le_refl _) (Nat.le_refl _) ?_
      refine g_if_ne (tgt := 60) dX10_apply_55 rfl (by first | exact gW_a | exact gW_b | (unfold gW; omega) | (unfold gW; split <;> omega)) (fun c12 => ?_) (fun c12 => absurd c12 (by omega))
      refine g_iload_n 2 dX10_apply_60 rfl ?_
      refine g_bipush dX10_apply_61 (by decide) ?_
      refine g_icmp_lt (tgt := 91) dX10_apply_63 rfl (by first | exact gW_a | exact gW_b | (unfold gW; omega) | (unfold gW; split <;> omega)) (by first | exact gW_a | exact gW_b | (unfold gW; omega) | (unfold gW; split <;> omega)) (fun c13 => ?_) (fun c13 => absurd c13 (by omega))
      refine g_iload_n 2 dX10_apply_91 rfl ?_
      refine g_iconst dX10_apply_92 ?_
      refine g_icmp_le (tgt := 101) dX10_apply_93 rfl (by first | exact gW_a | exact gW_b | (unfold gW; omega) | (unfold gW; split <;> omega)) (by first | exact gW_a | exact gW_b | (unfold gW; omega) | (unfold gW; split <;> omega)) (fun c14 => ?_) (fun c14 => absurd c14 (by omega))
      have hT9 := hT
      obtain ⟨gt, gn, w1, w2, w3⟩ := hT9
      obtain ⟨hB, hN⟩ := MP_at w3 a0 a1 ha
      obtain ⟨hC, hNb⟩ := MP_at w3 b0 b1 hb
      refine g_aload_n 1 dX10_apply_101 rfl ?_
      refine g_callV (nc2 := 0) (ns2 := 0) (ci := 10) (As := []) (st := []) rfl dX10_apply_102 okX10_clear lX10_107 itX10_clear seX10_clear rfl hm (by decide) (by decide) rfl (Nat.le_of_ble_eq_true rfl) (sM_clear N _ B p hp hp2 hf le fc pn rn hn qn (gm) hm hw h4) (by omega) (by omega) (fun v15 hc15 q15 => ?_)
      obtain ⟨rfl, frc16, rn16_0, rn16_1⟩ := q15
      have mfz17 : MF B [B + 3] [] h hc15 := MF.of frc16 ((MF.rf [B + 1, B + 3] [] ma)).2.1 (Ni.c ⟨(ne22).s, (ne26).s⟩ (Ni.n _)) (Ni.c ⟨(ne23).s, (ne27).s⟩ (Ni.n _)) []
      have fk18_0 : hc15.2 (B) = some (mO B ((p : Int)) (hf) (le) (fc) (pn) (rn) (hn) (qn)) := Fr.at0 (mfz17).1 (Ni.c ⟨ne4, ne5⟩ (Ni.c ⟨ne2, ne3⟩ (Ni.n _))) hm
      have fk18_2 : hc15.2 (B + 7) = some (aJ 6400 (g7)) := Fr.at0 (mfz17).1 (Ni.c ⟨(ne31).s, (ne33).s⟩ (Ni.c ⟨(ne24).s, (ne28).s⟩ (Ni.n _))) h7
      have fk18_3 : hc15.2 (B + 8) = some (aI 11520 (g8)) := Fr.at0 (mfz17).1 (Ni.c ⟨(ne32).s, (ne34).s⟩ (Ni.c ⟨(ne25).s, (ne29).s⟩ (Ni.n _))) h8
      have fk18_4 : hc15.2 (B + 2) = some (aI 28700 (gn)) := Fr.at0 (mfz17).1 (Ni.c ⟨ne17, ne18⟩ (Ni.c ⟨ne15, ne16⟩ (Ni.n _))) w2
      have rk18_0 : MP hp B hc15 (T) := (hT).fr (mfz17).1 (Ni.c ⟨ne11, ne12⟩ (Ni.c ⟨ne9, ne10⟩ (Ni.n _))) (Ni.c ⟨ne17, ne18⟩ (Ni.c ⟨ne15, ne16⟩ (Ni.n _)))
      have fr18 : MF B [B + 1, B + 3] [] h hc15 := ((MF.rf [B + 1, B + 3] [] ma)).tr ((mfz17).mo (sub_c (List.Mem.tail _ (List.Mem.head _)) sub_n) sbI_n)
      refine Go.nf (h' := hc15) (st' := []) rfl rfl (Nat.le_refl _) (Nat.le_refl _) ?_
      refine g_iconst dX10_apply_105 ?_
      refine g_istore (ls2 := [(5, .int (gI (0))), (4, .int (gI (0))), (0, .ref (B)), (1, .int (gI (0))), (2, .int (gI (a))), (3, .int (gI (b)))]) dX10_apply_106 (by decide) rfl ?_
      obtain ⟨zB, gz, z3, zN, zV⟩ := rn16_1
      have lo : ∀ (kk : Nat) (m : Int) (hlo : GH), kk = (287 - m).toNat → MF B [B + 1, B + 3] [] h hlo → hlo.2 (B + 2) = some (aI 28700 (gn)) → hlo.2 (B + 4) = some (aI 1500 (gm)) → hlo.2 (B + 3) = some (aI 1500 (gF gz (fun m => (gn (287 * a + m) + gn (287 * b + m)) % p) m)) → MP hp B hlo (T) → (0 ≤ m) → (m ≤ 287) → Go N mX10_apply (fun v h1 => Fr [B + 1, B + 3, B + 5, B + 7] h h1 ∧ MS B h1 ∧ ∃ w T2, Ou T (ap2 T a b (rac hp 0)) w T2 ∧ v = some (.int (gI w)) ∧ MP hp B h1 T2) 0 0 hlo 108 [(5, .int (gI (m))), (4, .int (gI (0))), (0, .ref (B)), (1, .int (gI (0))), (2, .int (gI (a))), (3, .int (gI (b)))] [] := by
        refine Go.ind (fun kk ih_lo => ?_)
        intro m hlo hkk_lo fr_lo cf_lo_0 cf_lo_1 cf_lo_2 cr_lo_0 hm0 hm1
        have cg_lo_0 : hlo.2 (B) = some (mO B ((p : Int)) (hf) (le) (fc) (pn) (rn) (hn) (qn)) := Fr.at0 (fr_lo).1 (Ni.c ⟨ne4, ne5⟩ (Ni.c ⟨ne0, ne1⟩ (Ni.c ⟨ne2, ne3⟩ (Ni.n _)))) hm
        have cg_lo_2 : hlo.2 (B + 7) = some (aJ 6400 (g7)) := Fr.at0 (fr_lo).1 (Ni.c ⟨(ne31).s, (ne33).s⟩ (Ni.c ⟨(ne13).s, (ne19).s⟩ (Ni.c ⟨(ne24).s, (ne28).s⟩ (Ni.n _)))) h7
        have cg_lo_3 : hlo.2 (B + 8) = some (aI 11520 (g8)) := Fr.at0 (fr_lo).1 (Ni.c ⟨(ne32).s, (ne34).s⟩ (Ni.c ⟨(ne14).s, (ne20).s⟩ (Ni.c ⟨(ne25).s, (ne29).s⟩ (Ni.n _)))) h8
        refine g_iload 0 dX10_apply_108 rfl ?_
        refine g_sipush dX10_apply_110 (by decide) ?_
        refine g_icmp_ge (tgt := 220) dX10_apply_113 rfl (by first | exact gW_a | exact gW_b | (unfold gW; omega) | (unfold gW; split <;> omega)) (by first | exact gW_a | exact gW_b | (unfold gW; omega) | (unfold gW; split <;> omega)) (fun c119 => ?_) (fun c119 => ?_)
        · skip
          have hm9 : m = 287 := by omega
          have mw120 : MW hp B hlo (cmb hp 1 F G) := ⟨cmb_PB hp 1 hB hC, _, cf_lo_2, cmb_NW hp hN hNb (fun q q0 q1 => by rw [hm9]; unfold gF; rw [if_pos ⟨q0, q1⟩]; exact em_in hp _) (fun q q0 q1 => by rw [hm9]; unfold gF; rw [if_pos ⟨q0, q1⟩, Int.one_mul]; exact zi_mod hp _), fun q q0 q1 => by
              unfold gF
              split
              · exact em_in hp _
              · exact zV q q0 q1⟩
          refine g_aload_n 2 dX10_apply_220 rfl ?_
          refine g_callV (nc2 := 0) (ns2 := 0) (ci := 10) (As := []) (st := []) rfl dX10_apply_221 okX10_keep lX10_114 itX10_keep seX10_keep rfl cg_lo_0 (by decide) (by decide) rfl (Nat.le_of_ble_eq_true rfl) (sM_keep N _ B p hp hp2 hf le fc pn rn hn qn T (cmb hp 1 F G) cg_lo_0 cr_lo_0 mw120) (by omega) (by omega) (fun v121 hc121 q121 => ?_)
          obtain ⟨frc122, w122, hK122, rfl, mp122⟩ := q121
          have mfz123 : MF B [B + 1] [] hlo hc121 := MF.of frc122 (fr_lo).2.1 (Ni.c ⟨(ne11).s, (ne17).s⟩ (Ni.n _)) (Ni.c ⟨(ne12).s, (ne18).s⟩ (Ni.n _)) []
          have fk124_0 : hc121.2 (B) = some (mO B ((p : Int)) (hf) (le) (fc) (pn) (rn) (hn) (qn)) := Fr.at0 (mfz123).1 (Ni.c ⟨ne4, ne5⟩ (Ni.c ⟨ne0, ne1⟩ (Ni.n _))) cg_lo_0
          have fk124_1 : hc121.2 (B + 7) = some (aJ 6400 (g7)) := Fr.at0 (mfz123).1 (Ni.c ⟨(ne31).s, (ne33).s⟩ (Ni.c ⟨(ne13).s, (ne19).s⟩ (Ni.n _))) cg_lo_2
          have fk124_2 : hc121.2 (B + 8) = some (aI 11520 (g8)) := Fr.at0 (mfz123).1 (Ni.c ⟨(ne32).s, (ne34).s⟩ (Ni.c ⟨(ne14).s, (ne20).s⟩ (Ni.n _))) cg_lo_3
          have fk124_4 : hc121.2 (B + 4) = some (aI 1500 (gm)) := Fr.at0 (mfz123).1 (Ni.c ⟨ne26, ne27⟩ (Ni.c ⟨(ne10).s, (ne16).s⟩ (Ni.n _))) cf_lo_1
          have rk124_1 : MW hp B hc121 (cmb hp 1 F G) := (mw120).fr (mfz123).1 (Ni.c ⟨ne22, ne23⟩ (Ni.c ⟨(ne9).s, (ne15).s⟩ (Ni.n _)))
          have fr124 : MF B [B + 1, B + 3] [] h hc121 := (fr_lo).tr ((mfz123).mo (sub_c (List.Mem.head _) sub_n) sbI_n)
          refine Go.nf (h' := hc121) (st' := [.int (gI (w122))]) rfl rfl (Nat.le_refl _) (Nat.le_refl _) ?_
          exact g_iret dX10_apply_224 rfl ⟨((fr124).1.mo (sub_c (List.Mem.tail _ (List.Mem.tail _ (List.Mem.head _))) (sub_c (List.Mem.head _) (sub_c (List.Mem.tail _ (List.Mem.head _)) sub_n)))), ⟨(fr124).2.1, (rk124_1).a, ⟨_, fk124_4⟩, ⟨_, fk124_1⟩, ⟨_, fk124_2⟩⟩, w122, _, (by rw [ap2_s (gT_s a0 a1 ha) (gT_s b0 b1 hb)]; exact ⟨hK122, rfl⟩), rfl, mp122⟩
        · skip
          refine g_aload_n 2 dX10_apply_116 rfl ?_
          refine g_getf 2 dX10_apply_117 kX10 (by decide) fX10_13 cg_lo_0 rfl ?_
          refine g_sipush dX10_apply_120 (by decide) ?_
          refine g_iload_n 4 dX10_apply_123 rfl ?_
          refine g_imul dX10_apply_124 ?_
          refine g_iload 0 dX10_apply_125 rfl ?_
          refine g_iadd dX10_apply_127 ?_
          refine g_iaload dX10_apply_128 cf_lo_0 (by omega) (by omega) (by omega) ?_
          have b1 : 0 ≤ gn (287 * a + m) ∧ gn (287 * a + m) < p := hN.bd hp (k := m) (by omega) (by omega)
          refine g_istore (ls2 := [(6, .int (gI ((gn) (((287) * (a)) + (m))))), (5, .int (gI (m))), (4, .int (gI (0))), (0, .ref (B)), (1, .int (gI (0))), (2, .int (gI (a))), (3, .int (gI (b)))]) dX10_apply_129 (by decide) rfl ?_
          refine g_iload 2 dX10_apply_131 rfl ?_
          refine g_if_eq (tgt := 140) dX10_apply_133 rfl (by first | exact gW_a | exact gW_b | (unfold gW; omega) | (unfold gW; split <;> omega)) (fun c125 => ?_) (fun c125 => absurd c125 (by omega))
          refine g_aload_n 3 dX10_apply_140 rfl ?_
          refine g_getf 2 dX10_apply_141 kX10 (by decide) fX10_13 cg_lo_0 rfl ?_
          refine g_sipush dX10_apply_144 (by decide) ?_
          refine g_iload_n 6 dX10_apply_147 rfl ?_
          refine g_imul dX10_apply_148 ?_
          refine g_iload 1 dX10_apply_149 rfl ?_
          refine g_iadd dX10_apply_151 ?_
          refine g_iaload dX10_apply_152 cf_lo_0 (by omega) (by omega) (by omega) ?_
          have b2 : 0 ≤ gn (287 * b + m) ∧ gn (287 * b + m) < p := hNb.bd hp (k := m) (by omega) (by omega)
          refine g_istore (ls2 := [(7, .int (gI ((gn) (((287) * (b)) + (m))))), (6, .int (gI ((gn) (((287) * (a)) + (m))))), (5, .int (gI (m))), (4, .int (gI (0))), (0, .ref (B)), (1, .int (gI (0))), (2, .int (gI (a))), (3, .int (gI (b)))]) dX10_apply_153 (by decide) rfl ?_
          refine g_aload_n 4 dX10_apply_155 rfl ?_
          refine g_getf 3 dX10_apply_156 kX10 (by decide) fX10_17 cg_lo_0 rfl ?_
          refine g_iload 2 dX10_apply_159 rfl ?_
          refine g_iload_n 5 dX10_apply_161 rfl ?_
          refine g_if_ne (tgt := 178) dX10_apply_162 rfl (by first | exact gW_a | exact gW_b | (unfold gW; omega) | (unfold gW; split <;> omega)) (fun c126 => absurd c126 (by omega)) (fun c126 => ?_)
          refine g_iload 1 dX10_apply_165 rfl ?_
          refine g_iload 0 dX10_apply_167 rfl ?_
          refine g_iadd dX10_apply_169 ?_
          refine g_aload_n 4 dX10_apply_170 rfl ?_
          refine g_getf 0 dX10_apply_171 kX10 (by decide) fX10_78 cg_lo_0 rfl ?_
          refine g_irem dX10_apply_174 (by unfold gW; omega) (by unfold gW; omega) (by omega) ?_
          rw [tm_em (show 0 ≤ ((gn) (((287) * (a)) + (m))) + ((gn) (((287) * (b)) + (m))) by omega)]
          refine g_goto (tgt := 213) dX10_apply_175 rfl ?_
          refine g_iastore dX10_apply_213 cf_lo_2 (by omega) (by omega) (by omega) ?_
          obtain ⟨hh127, eh127⟩ : ∃ z : GH, z = hset hlo (B + 3) (aI 1500 (gup (gF gz (fun m => (gn (287 * a + m) + gn (287 * b + m)) % p) m) (m) ((((gn) (((287) * (a)) + (m))) + ((gn) (((287) * (b)) + (m)))) % (p : Int)))) := ⟨_, rfl⟩
          refine Go.hp eh127.symm ?_
          have fx127 : Fr [B + 3] hlo hh127 := Fr.w0 (Fr.rf _ _) (List.Mem.head _) eh127
          have fh127_4 : hh127.2 (B + 4) = some (aI 1500 (gm)) := hs_n eh127 (ne21).s cf_lo_1
          have fhw127 : hh127.2 (B + 3) = some (aI 1500 (gup (gF gz (fun m => (gn (287 * a + m) + gn (287 * b + m)) % p) m) (m) ((((gn) (((287) * (a)) + (m))) + ((gn) (((287) * (b)) + (m)))) % (p : Int)))) := hs_s eh127
          have mfz128 : MF B [B + 3] [] hlo hh127 := MF.of fx127 (fr_lo).2.1 (Ni.c ⟨(ne22).s, (ne26).s⟩ (Ni.n _)) (Ni.c ⟨(ne23).s, (ne27).s⟩ (Ni.n _)) []
          have fk129_0 : hh127.2 (B) = some (mO B ((p : Int)) (hf) (le) (fc) (pn) (rn) (hn) (qn)) := Fr.at0 (mfz128).1 (Ni.c ⟨ne4, ne5⟩ (Ni.c ⟨ne2, ne3⟩ (Ni.n _))) cg_lo_0
          have fk129_1 : hh127.2 (B + 7) = some (aJ 6400 (g7)) := Fr.at0 (mfz128).1 (Ni.c ⟨(ne31).s, (ne33).s⟩ (Ni.c ⟨(ne24).s, (ne28).s⟩ (Ni.n _))) cg_lo_2
          have fk129_2 : hh127.2 (B + 8) = some (aI 11520 (g8)) := Fr.at0 (mfz128).1 (Ni.c ⟨(ne32).s, (ne34).s⟩ (Ni.c ⟨(ne25).s, (ne29).s⟩ (Ni.n _))) cg_lo_3
          have fk129_3 : hh127.2 (B + 2) = some (aI 28700 (gn)) := Fr.at0 (mfz128).1 (Ni.c ⟨ne17, ne18⟩ (Ni.c ⟨ne15, ne16⟩ (Ni.n _))) cf_lo_0
          have rk129_0 : MP hp B hh127 (T) := (cr_lo_0).fr (mfz128).1 (Ni.c ⟨ne11, ne12⟩ (Ni.c ⟨ne9, ne10⟩ (Ni.n _))) (Ni.c ⟨ne17, ne18⟩ (Ni.c ⟨ne15, ne16⟩ (Ni.n _)))
          have fr129 : MF B [B + 1, B + 3] [] h hh127 := (fr_lo).tr ((mfz128).mo (sub_c (List.Mem.tail _ (List.Mem.head _)) sub_n) sbI_n)
          refine g_iinc 2 (ls2 := [(5, .int (gI (m + 1))), (7, .int (gI ((gn) (((287) * (b)) + (m))))), (6, .int (gI ((gn) (((287) * (a)) + (m))))), (4, .int (gI (0))), (0, .ref (B)), (1, .int (gI (0))), (2, .int (gI (a))), (3, .int (gI (b)))]) dX10_apply_214 rfl (by decide) rfl ?_
          refine g_goto (tgt := 108) dX10_apply_217 rfl ?_
          refine Go.sub [0, 3, 4, 5, 6, 7] rfl ?_
          exact ih_lo _ (by omega) (m + 1) hh127 rfl fr129 fk129_3 fh127_4 (by rw [← gF_s gz (fun m => (gn (287 * a + m) + gn (287 * b + m)) % p) hm0]; exact fhw127) rk129_0 (by omega) (by omega)
      exact lo _ (0) hc15 rfl fr18 fk18_4 rn16_0 (by rw [gF_0]; exact z3) rk18_0 (by omega) (by omega)
    · skip
      refine Go.nf (h' := h) (st' := [.int (gI (0))]) hq11 rfl (Nat.le_refl _) (Nat.le_refl _) ?_
      refine g_if_ne (tgt := 60) dX10_apply_55 rfl (by first | exact gW_a | exact gW_b | (unfold gW; omega) | (unfold gW; split <;> omega)) (fun c230 => absurd c230 (by omega)) (fun c230 => ?_)
      refine g_iconst dX10_apply_58 ?_
      exact g_iret dX10_apply_59 rfl ⟨(((MF.rf [B + 1, B + 3] [] ma)).1.mo (sub_c (List.Mem.tail _ (List.Mem.tail _ (List.Mem.head _))) (sub_c (List.Mem.head _) (sub_c (List.Mem.tail _ (List.Mem.head _)) sub_n)))), ⟨((MF.rf [B + 1, B + 3] [] ma)).2.1, hw, ⟨_, h4⟩, ⟨_, h7⟩, ⟨_, h8⟩⟩, (-1), T, (by rw [ap2_nb (gT_n nb)]; exact ⟨rfl, rfl⟩), rfl, hT⟩
  · skip
    refine Go.nf (h' := h) (st' := [.int (gI (0))]) hq7 rfl (Nat.le_refl _) (Nat.le_refl _) ?_
    refine g_if_eq (tgt := 58) dX10_apply_42 rfl (by first | exact gW_a | exact gW_b | (unfold gW; omega) | (unfold gW; split <;> omega)) (fun c231 => ?_) (fun c231 => absurd c231 (by omega))
    refine g_iconst dX10_apply_58 ?_
    exact g_iret dX10_apply_59 rfl ⟨(((MF.rf [B + 1, B + 3] [] ma)).1.mo (sub_c (List.Mem.tail _ (List.Mem.tail _ (List.Mem.head _))) (sub_c (List.Mem.head _) (sub_c (List.Mem.tail _ (List.Mem.head _)) sub_n)))), ⟨((MF.rf [B + 1, B + 3] [] ma)).2.1, hw, ⟨_, h4⟩, ⟨_, h7⟩, ⟨_, h8⟩⟩, (-1), T, (by rw [ap2_na (gT_n na)]; exact ⟨rfl, rfl⟩), rfl, hT⟩
set_option maxHeartbeats 4000000 in
set_option maxRecDepth 100000 in
theorem sM_apply1 (N : GN) (h : GH) (B p : Nat) (hp : prm p) (hp2 : p ≤ 65536) (hf le fc pn rn hn qn : Int) (T : PT p) (a b : Int) (gW_a : gW a) (gW_b : gW b) (hm : h.2 B = some (mO B p hf le fc pn rn hn qn)) (hT : MP hp B h T) (ms : MS B h)  : Sp N yX10_apply mX10_apply 0 0 [.ref (B), .int (gI (1)), .int (gI (a)), .int (gI (b))] h (fun v h1 => Fr [B + 1, B + 3, B + 5, B + 7] h h1 ∧ MS B h1 ∧ ∃ w T2, Ou T (ap2 T a b (rac hp 1)) w T2 ∧ v = some (.int (gI w)) ∧ MP hp B h1 T2) := by
  refine Sp.of (by decide) rfl rfl (Nat.le_of_ble_eq_true rfl) ?_
  show Go N mX10_apply _ 0 0 h 0 [(0, .ref (B)), (1, .int (gI (1))), (2, .int (gI (a))), (3, .int (gI (b)))] []
  have hp1 := hp.1
  have neA : NE B (B + 5) := by unfold NE; omega
  have neB : NE B (B + 6) := by unfold NE; omega
  have neC : NE (B + 5) (B + 6) := by unfold NE; omega
  have ne0 : NE (B) (B + 1) := by unfold NE; omega
  have ne1 : NE (B) (B + 2) := by unfold NE; omega
  have ne2 : NE (B) (B + 3) := by unfold NE; omega
  have ne3 : NE (B) (B + 4) := by unfold NE; omega
  have ne4 : NE (B) (B + 5) := by unfold NE; omega
  have ne5 : NE (B) (B + 6) := by unfold NE; omega
  have ne6 : NE (B) (B + 7) := by unfold NE; omega
  have ne7 : NE (B) (B + 8) := by unfold NE; omega
  have ne8 : NE (B + 1) (B + 2) := by unfold NE; omega
  have ne9 : NE (B + 1) (B + 3) := by unfold NE; omega
  have ne10 : NE (B + 1) (B + 4) := by unfold NE; omega
  have ne11 : NE (B + 1) (B + 5) := by unfold NE; omega
  have ne12 : NE (B + 1) (B + 6) := by unfold NE; omega
  have ne13 : NE (B + 1) (B + 7) := by unfold NE; omega
  have ne14 : NE (B + 1) (B + 8) := by unfold NE; omega
  have ne15 : NE (B + 2) (B + 3) := by unfold NE; omega
  have ne16 : NE (B + 2) (B + 4) := by unfold NE; omega
  have ne17 : NE (B + 2) (B + 5) := by unfold NE; omega
  have ne18 : NE (B + 2) (B + 6) := by unfold NE; omega
  have ne19 : NE (B + 2) (B + 7) := by unfold NE; omega
  have ne20 : NE (B + 2) (B + 8) := by unfold NE; omega
  have ne21 : NE (B + 3) (B + 4) := by unfold NE; omega
  have ne22 : NE (B + 3) (B + 5) := by unfold NE; omega
  have ne23 : NE (B + 3) (B + 6) := by unfold NE; omega
  have ne24 : NE (B + 3) (B + 7) := by unfold NE; omega
  have ne25 : NE (B + 3) (B + 8) := by unfold NE; omega
  have ne26 : NE (B + 4) (B + 5) := by unfold NE; omega
  have ne27 : NE (B + 4) (B + 6) := by unfold NE; omega
  have ne28 : NE (B + 4) (B + 7) := by unfold NE; omega
  have ne29 : NE (B + 4) (B + 8) := by unfold NE; omega
  have ne30 : NE (B + 5) (B + 6) := by unfold NE; omega
  have ne31 : NE (B + 5) (B + 7) := by unfold NE; omega
  have ne32 : NE (B + 5) (B + 8) := by unfold NE; omega
  have ne33 : NE (B + 6) (B + 7) := by unfold NE; omega
  have ne34 : NE (B + 6) (B + 8) := by unfold NE; omega
  have ne35 : NE (B + 7) (B + 8) := by unfold NE; omega
  obtain ⟨ma, hw, ⟨gm, h4⟩, ⟨g7, h7⟩, ⟨g8, h8⟩⟩ := ms
  refine g_iload_n 1 dX10_apply_0 rfl ?_
  refine g_if_lt (tgt := 10) dX10_apply_1 rfl (by first | exact gW_a | exact gW_b | (unfold gW; omega) | (unfold gW; split <;> omega)) (fun c1 => absurd c1 (by omega)) (fun c1 => ?_)
  refine g_iload_n 1 dX10_apply_4 rfl ?_
  refine g_bipush dX10_apply_5 (by decide) ?_
  refine g_icmp_le (tgt := 13) dX10_apply_7 rfl (by first | exact gW_a | exact gW_b | (unfold gW; omega) | (unfold gW; split <;> omega)) (by first | exact gW_a | exact gW_b | (unfold gW; omega) | (unfold gW; split <;> omega)) (fun c2 => ?_) (fun c2 => absurd c2 (by omega))
  refine g_iload_n 1 dX10_apply_13 rfl ?_
  refine g_iconst dX10_apply_14 ?_
  refine g_icmp_eq (tgt := 30) dX10_apply_15 rfl (by first | exact gW_a | exact gW_b | (unfold gW; omega) | (unfold gW; split <;> omega)) (by first | exact gW_a | exact gW_b | (unfold gW; omega) | (unfold gW; split <;> omega)) (fun c3 => absurd c3 (by omega)) (fun c3 => ?_)
  refine g_iload_n 1 dX10_apply_18 rfl ?_
  refine g_bipush dX10_apply_19 (by decide) ?_
  refine g_icmp_eq (tgt := 30) dX10_apply_21 rfl (by first | exact gW_a | exact gW_b | (unfold gW; omega) | (unfold gW; split <;> omega)) (by first | exact gW_a | exact gW_b | (unfold gW; omega) | (unfold gW; split <;> omega)) (fun c4 => absurd c4 (by omega)) (fun c4 => ?_)
  refine g_iload_n 1 dX10_apply_24 rfl ?_
  refine g_bipush dX10_apply_25 (by decide) ?_
  refine g_icmp_ne (tgt := 34) dX10_apply_27 rfl (by first | exact gW_a | exact gW_b | (unfold gW; omega) | (unfold gW; split <;> omega)) (by first | exact gW_a | exact gW_b | (unfold gW; omega) | (unfold gW; split <;> omega)) (fun c5 => ?_) (fun c5 => absurd c5 (by omega))
  refine g_iconst dX10_apply_34 ?_
  refine g_istore (ls2 := [(4, .int (gI (0))), (0, .ref (B)), (1, .int (gI (1))), (2, .int (gI (a))), (3, .int (gI (b)))]) dX10_apply_35 (by decide) rfl ?_
  refine g_aload_n 1 dX10_apply_37 rfl ?_
  refine g_iload_n 3 dX10_apply_38 rfl ?_
  refine g_callV (nc2 := 0) (ns2 := 0) (ci := 10) (As := [.int (gI (a))]) (st := []) rfl dX10_apply_39 okX10_isPlace lX10_118 itX10_isPlace seX10_isPlace rfl hm (by decide) (by decide) rfl (Nat.le_of_ble_eq_true rfl) (sM_isPlace N _ B p hp hp2 hf le fc pn rn hn qn T (a) gW_a hm hT) (by omega) (by omega) (fun v6 hc6 q6 => ?_)
  obtain ⟨hq7, hr7⟩ := q6
  rcases hr7 with ⟨rfl, a0, a1, F, ha⟩ | ⟨rfl, na⟩
  · skip
    refine Go.nf (h' := h) (st' := [.int (gI (1))]) hq7 rfl (Nat.le_refl _) (Nat.le_refl _) ?_
    refine g_if_eq (tgt := 58) dX10_apply_42 rfl (by first | exact gW_a | exact gW_b | (unfold gW; omega) | (unfold gW; split <;> omega)) (fun c8 => absurd c8 (by omega)) (fun c8 => ?_)
    refine g_iload 0 dX10_apply_45 rfl ?_
    refine g_if_ne (tgt := 60) dX10_apply_47 rfl (by first | exact gW_a | exact gW_b | (unfold gW; omega) | (unfold gW; split <;> omega)) (fun c9 => absurd c9 (by omega)) (fun c9 => ?_)
    refine g_aload_n 1 dX10_apply_50 rfl ?_
    refine g_iload_n 4 dX10_apply_51 rfl ?_
    refine g_callV (nc2 := 0) (ns2 := 0) (ci := 10) (As := [.int (gI (b))]) (st := []) rfl dX10_apply_52 okX10_isPlace lX10_118 itX10_isPlace seX10_isPlace rfl hm (by decide) (by decide) rfl (Nat.le_of_ble_eq_true rfl) (sM_isPlace N _ B p hp hp2 hf le fc pn rn hn qn T (b) gW_b hm hT) (by omega) (by omega) (fun v10 hc10 q10 => ?_)
    obtain ⟨hq11, hr11⟩ := q10
    rcases hr11 with ⟨rfl, b0, b1, G, hb⟩ | ⟨rfl, nb⟩
    · skip
      refine Go.nf (h' := h) (st' := [.int (gI (1))]) hq11 rfl (Nat.le_refl _) (Nat.le_refl _) ?_
      refine g_if_ne (tgt := 60) dX10_apply_55 rfl (by first | exact gW_a | exact gW_b | (unfold gW; omega) | (unfold gW; split <;> omega)) (fun c12 => ?_) (fun c12 => absurd c12 (by omega))
      refine g_iload_n 2 dX10_apply_60 rfl ?_
      refine g_bipush dX10_apply_61 (by decide) ?_
      refine g_icmp_lt (tgt := 91) dX10_apply_63 rfl (by first | exact gW_a | exact gW_b | (unfold gW; omega) | (unfold gW; split <;> omega)) (by first | exact gW_a | exact gW_b | (unfold gW; omega) | (unfold gW; split <;> omega)) (fun c13 => ?_) (fun c13 => absurd c13 (by omega))
      refine g_iload_n 2 dX10_apply_91 rfl ?_
      refine g_iconst dX10_apply_92 ?_
      refine g_icmp_le (tgt := 101) dX10_apply_93 rfl (by first | exact gW_a | exact gW_b | (unfold gW; omega) | (unfold gW; split <;> omega)) (by first | exact gW_a | exact gW_b | (unfold gW; omega) | (unfold gW; split <;> omega)) (fun c14 => ?_) (fun c14 => absurd c14 (by omega))
      have hT9 := hT
      obtain ⟨gt, gn, w1, w2, w3⟩ := hT9
      obtain ⟨hB, hN⟩ := MP_at w3 a0 a1 ha
      obtain ⟨hC, hNb⟩ := MP_at w3 b0 b1 hb
      refine g_aload_n 1 dX10_apply_101 rfl ?_
      refine g_callV (nc2 := 0) (ns2 := 0) (ci := 10) (As := []) (st := []) rfl dX10_apply_102 okX10_clear lX10_107 itX10_clear seX10_clear rfl hm (by decide) (by decide) rfl (Nat.le_of_ble_eq_true rfl) (sM_clear N _ B p hp hp2 hf le fc pn rn hn qn (gm) hm hw h4) (by omega) (by omega) (fun v15 hc15 q15 => ?_)
      obtain ⟨rfl, frc16, rn16_0, rn16_1⟩ := q15
      have mfz17 : MF B [B + 3] [] h hc15 := MF.of frc16 ((MF.rf [B + 1, B + 3] [] ma)).2.1 (Ni.c ⟨(ne22).s, (ne26).s⟩ (Ni.n _)) (Ni.c ⟨(ne23).s, (ne27).s⟩ (Ni.n _)) []
      have fk18_0 : hc15.2 (B) = some (mO B ((p : Int)) (hf) (le) (fc) (pn) (rn) (hn) (qn)) := Fr.at0 (mfz17).1 (Ni.c ⟨ne4, ne5⟩ (Ni.c ⟨ne2, ne3⟩ (Ni.n _))) hm
      have fk18_2 : hc15.2 (B + 7) = some (aJ 6400 (g7)) := Fr.at0 (mfz17).1 (Ni.c ⟨(ne31).s, (ne33).s⟩ (Ni.c ⟨(ne24).s, (ne28).s⟩ (Ni.n _))) h7
      have fk18_3 : hc15.2 (B + 8) = some (aI 11520 (g8)) := Fr.at0 (mfz17).1 (Ni.c ⟨(ne32).s, (ne34).s⟩ (Ni.c ⟨(ne25).s, (ne29).s⟩ (Ni.n _))) h8
      have fk18_4 : hc15.2 (B + 2) = some (aI 28700 (gn)) := Fr.at0 (mfz17).1 (Ni.c ⟨ne17, ne18⟩ (Ni.c ⟨ne15, ne16⟩ (Ni.n _))) w2
      have rk18_0 : MP hp B hc15 (T) := (hT).fr (mfz17).1 (Ni.c ⟨ne11, ne12⟩ (Ni.c ⟨ne9, ne10⟩ (Ni.n _))) (Ni.c ⟨ne17, ne18⟩ (Ni.c ⟨ne15, ne16⟩ (Ni.n _)))
      have fr18 : MF B [B + 1, B + 3] [] h hc15 := ((MF.rf [B + 1, B + 3] [] ma)).tr ((mfz17).mo (sub_c (List.Mem.tail _ (List.Mem.head _)) sub_n) sbI_n)
      refine Go.nf (h' := hc15) (st' := []) rfl rfl (Nat.le_refl _) (Nat.le_refl _) ?_
      refine g_iconst dX10_apply_105 ?_
      refine g_istore (ls2 := [(5, .int (gI (0))), (4, .int (gI (0))), (0, .ref (B)), (1, .int (gI (1))), (2, .int (gI (a))), (3, .int (gI (b)))]) dX10_apply_106 (by decide) rfl ?_
      obtain ⟨zB, gz, z3, zN, zV⟩ := rn16_1
      have lo : ∀ (kk : Nat) (m : Int) (hlo : GH), kk = (287 - m).toNat → MF B [B + 1, B + 3] [] h hlo → hlo.2 (B + 2) = some (aI 28700 (gn)) → hlo.2 (B + 4) = some (aI 1500 (gm)) → hlo.2 (B + 3) = some (aI 1500 (gF gz (fun m => (gn (287 * a + m) - gn (287 * b + m) + p) % p) m)) → MP hp B hlo (T) → (0 ≤ m) → (m ≤ 287) → Go N mX10_apply (fun v h1 => Fr [B + 1, B + 3, B + 5, B + 7] h h1 ∧ MS B h1 ∧ ∃ w T2, Ou T (ap2 T a b (rac hp 1)) w T2 ∧ v = some (.int (gI w)) ∧ MP hp B h1 T2) 0 0 hlo 108 [(5, .int (gI (m))), (4, .int (gI (0))), (0, .ref (B)), (1, .int (gI (1))), (2, .int (gI (a))), (3, .int (gI (b)))] [] := by
        refine Go.ind (fun kk ih_lo => ?_)
        intro m hlo hkk_lo fr_lo cf_lo_0 cf_lo_1 cf_lo_2 cr_lo_0 hm0 hm1
        have cg_lo_0 : hlo.2 (B) = some (mO B ((p : Int)) (hf) (le) (fc) (pn) (rn) (hn) (qn)) := Fr.at0 (fr_lo).1 (Ni.c ⟨ne4, ne5⟩ (Ni.c ⟨ne0, ne1⟩ (Ni.c ⟨ne2, ne3⟩ (Ni.n _)))) hm
        have cg_lo_2 : hlo.2 (B + 7) = some (aJ 6400 (g7)) := Fr.at0 (fr_lo).1 (Ni.c ⟨(ne31).s, (ne33).s⟩ (Ni.c ⟨(ne13).s, (ne19).s⟩ (Ni.c ⟨(ne24).s, (ne28).s⟩ (Ni.n _)))) h7
        have cg_lo_3 : hlo.2 (B + 8) = some (aI 11520 (g8)) := Fr.at0 (fr_lo).1 (Ni.c ⟨(ne32).s, (ne34).s⟩ (Ni.c ⟨(ne14).s, (ne20).s⟩ (Ni.c ⟨(ne25).s, (ne29).s⟩ (Ni.n _)))) h8
        refine g_iload 0 dX10_apply_108 rfl ?_
        refine g_sipush dX10_apply_110 (by decide) ?_
        refine g_icmp_ge (tgt := 220) dX10_apply_113 rfl (by first | exact gW_a | exact gW_b | (unfold gW; omega) | (unfold gW; split <;> omega)) (by first | exact gW_a | exact gW_b | (unfold gW; omega) | (unfold gW; split <;> omega)) (fun c119 => ?_) (fun c119 => ?_)
        · skip
          have hm9 : m = 287 := by omega
          have mw120 : MW hp B hlo (cmb hp (-1) F G) := ⟨cmb_PB hp (-1) hB hC, _, cf_lo_2, cmb_NW hp hN hNb (fun q q0 q1 => by rw [hm9]; unfold gF; rw [if_pos ⟨q0, q1⟩]; exact em_in hp _) (fun q q0 q1 => by
              rw [hm9]; unfold gF; rw [if_pos ⟨q0, q1⟩]; refine (zi_mod hp _).trans (zi_eq hp ?_)
              show (gn (287 * a + q) - gn (287 * b + q) + p) % (p : Int) = (gn (287 * a + q) + -1 * gn (287 * b + q)) % (p : Int)
              rw [Int.add_emod_right]; congr 1; omega), fun q q0 q1 => by
              unfold gF
              split
              · exact em_in hp _
              · exact zV q q0 q1⟩
          refine g_aload_n 2 dX10_apply_220 rfl ?_
          refine g_callV (nc2 := 0) (ns2 := 0) (ci := 10) (As := []) (st := []) rfl dX10_apply_221 okX10_keep lX10_114 itX10_keep seX10_keep rfl cg_lo_0 (by decide) (by decide) rfl (Nat.le_of_ble_eq_true rfl) (sM_keep N _ B p hp hp2 hf le fc pn rn hn qn T (cmb hp (-1) F G) cg_lo_0 cr_lo_0 mw120) (by omega) (by omega) (fun v121 hc121 q121 => ?_)
          obtain ⟨frc122, w122, hK122, rfl, mp122⟩ := q121
          have mfz123 : MF B [B + 1] [] hlo hc121 := MF.of frc122 (fr_lo).2.1 (Ni.c ⟨(ne11).s, (ne17).s⟩ (Ni.n _)) (Ni.c ⟨(ne12).s, (ne18).s⟩ (Ni.n _)) []
          have fk124_0 : hc121.2 (B) = some (mO B ((p : Int)) (hf) (le) (fc) (pn) (rn) (hn) (qn)) := Fr.at0 (mfz123).1 (Ni.c ⟨ne4, ne5⟩ (Ni.c ⟨ne0, ne1⟩ (Ni.n _))) cg_lo_0
          have fk124_1 : hc121.2 (B + 7) = some (aJ 6400 (g7)) := Fr.at0 (mfz123).1 (Ni.c ⟨(ne31).s, (ne33).s⟩ (Ni.c ⟨(ne13).s, (ne19).s⟩ (Ni.n _))) cg_lo_2
          have fk124_2 : hc121.2 (B + 8) = some (aI 11520 (g8)) := Fr.at0 (mfz123).1 (Ni.c ⟨(ne32).s, (ne34).s⟩ (Ni.c ⟨(ne14).s, (ne20).s⟩ (Ni.n _))) cg_lo_3
          have fk124_4 : hc121.2 (B + 4) = some (aI 1500 (gm)) := Fr.at0 (mfz123).1 (Ni.c ⟨ne26, ne27⟩ (Ni.c ⟨(ne10).s, (ne16).s⟩ (Ni.n _))) cf_lo_1
          have rk124_1 : MW hp B hc121 (cmb hp (-1) F G) := (mw120).fr (mfz123).1 (Ni.c ⟨ne22, ne23⟩ (Ni.c ⟨(ne9).s, (ne15).s⟩ (Ni.n _)))
          have fr124 : MF B [B + 1, B + 3] [] h hc121 := (fr_lo).tr ((mfz123).mo (sub_c (List.Mem.head _) sub_n) sbI_n)
          refine Go.nf (h' := hc121) (st' := [.int (gI (w122))]) rfl rfl (Nat.le_refl _) (Nat.le_refl _) ?_
          exact g_iret dX10_apply_224 rfl ⟨((fr124).1.mo (sub_c (List.Mem.tail _ (List.Mem.tail _ (List.Mem.head _))) (sub_c (List.Mem.head _) (sub_c (List.Mem.tail _ (List.Mem.head _)) sub_n)))), ⟨(fr124).2.1, (rk124_1).a, ⟨_, fk124_4⟩, ⟨_, fk124_1⟩, ⟨_, fk124_2⟩⟩, w122, _, (by rw [ap2_s (gT_s a0 a1 ha) (gT_s b0 b1 hb)]; exact ⟨hK122, rfl⟩), rfl, mp122⟩
        · skip
          refine g_aload_n 2 dX10_apply_116 rfl ?_
          refine g_getf 2 dX10_apply_117 kX10 (by decide) fX10_13 cg_lo_0 rfl ?_
          refine g_sipush dX10_apply_120 (by decide) ?_
          refine g_iload_n 4 dX10_apply_123 rfl ?_
          refine g_imul dX10_apply_124 ?_
          refine g_iload 0 dX10_apply_125 rfl ?_
          refine g_iadd dX10_apply_127 ?_
          refine g_iaload dX10_apply_128 cf_lo_0 (by omega) (by omega) (by omega) ?_
          have b1 : 0 ≤ gn (287 * a + m) ∧ gn (287 * a + m) < p := hN.bd hp (k := m) (by omega) (by omega)
          refine g_istore (ls2 := [(6, .int (gI ((gn) (((287) * (a)) + (m))))), (5, .int (gI (m))), (4, .int (gI (0))), (0, .ref (B)), (1, .int (gI (1))), (2, .int (gI (a))), (3, .int (gI (b)))]) dX10_apply_129 (by decide) rfl ?_
          refine g_iload 2 dX10_apply_131 rfl ?_
          refine g_if_eq (tgt := 140) dX10_apply_133 rfl (by first | exact gW_a | exact gW_b | (unfold gW; omega) | (unfold gW; split <;> omega)) (fun c125 => ?_) (fun c125 => absurd c125 (by omega))
          refine g_aload_n 3 dX10_apply_140 rfl ?_
          refine g_getf 2 dX10_apply_141 kX10 (by decide) fX10_13 cg_lo_0 rfl ?_
          refine g_sipush dX10_apply_144 (by decide) ?_
          refine g_iload_n 6 dX10_apply_147 rfl ?_
          refine g_imul dX10_apply_148 ?_
          refine g_iload 1 dX10_apply_149 rfl ?_
          refine g_iadd dX10_apply_151 ?_
          refine g_iaload dX10_apply_152 cf_lo_0 (by omega) (by omega) (by omega) ?_
          have b2 : 0 ≤ gn (287 * b + m) ∧ gn (287 * b + m) < p := hNb.bd hp (k := m) (by omega) (by omega)
          refine g_istore (ls2 := [(7, .int (gI ((gn) (((287) * (b)) + (m))))), (6, .int (gI ((gn) (((287) * (a)) + (m))))), (5, .int (gI (m))), (4, .int (gI (0))), (0, .ref (B)), (1, .int (gI (1))), (2, .int (gI (a))), (3, .int (gI (b)))]) dX10_apply_153 (by decide) rfl ?_
          refine g_aload_n 4 dX10_apply_155 rfl ?_
          refine g_getf 3 dX10_apply_156 kX10 (by decide) fX10_17 cg_lo_0 rfl ?_
          refine g_iload 2 dX10_apply_159 rfl ?_
          refine g_iload_n 5 dX10_apply_161 rfl ?_
          refine g_if_ne (tgt := 178) dX10_apply_162 rfl (by first | exact gW_a | exact gW_b | (unfold gW; omega) | (unfold gW; split <;> omega)) (fun c126 => ?_) (fun c126 => absurd c126 (by omega))
          refine g_iload_n 5 dX10_apply_178 rfl ?_
          refine g_iconst dX10_apply_179 ?_
          refine g_icmp_ne (tgt := 201) dX10_apply_180 rfl (by first | exact gW_a | exact gW_b | (unfold gW; omega) | (unfold gW; split <;> omega)) (by first | exact gW_a | exact gW_b | (unfold gW; omega) | (unfold gW; split <;> omega)) (fun c127 => absurd c127 (by omega)) (fun c127 => ?_)
          refine g_iload 1 dX10_apply_183 rfl ?_
          refine g_iload 0 dX10_apply_185 rfl ?_
          refine g_isub dX10_apply_187 ?_
          refine g_aload_n 4 dX10_apply_188 rfl ?_
          refine g_getf 0 dX10_apply_189 kX10 (by decide) fX10_78 cg_lo_0 rfl ?_
          refine g_iadd dX10_apply_192 ?_
          refine g_aload_n 4 dX10_apply_193 rfl ?_
          refine g_getf 0 dX10_apply_194 kX10 (by decide) fX10_78 cg_lo_0 rfl ?_
          refine g_irem dX10_apply_197 (by unfold gW; omega) (by unfold gW; omega) (by omega) ?_
          rw [tm_em (show 0 ≤ (((gn) (((287) * (a)) + (m))) - ((gn) (((287) * (b)) + (m)))) + ((p : Int)) by omega)]
          refine g_goto (tgt := 213) dX10_apply_198 rfl ?_
          refine g_iastore dX10_apply_213 cf_lo_2 (by omega) (by omega) (by omega) ?_
          obtain ⟨hh128, eh128⟩ : ∃ z : GH, z = hset hlo (B + 3) (aI 1500 (gup (gF gz (fun m => (gn (287 * a + m) - gn (287 * b + m) + p) % p) m) (m) (((((gn) (((287) * (a)) + (m))) - ((gn) (((287) * (b)) + (m)))) + ((p : Int))) % (p : Int)))) := ⟨_, rfl⟩
          refine Go.hp eh128.symm ?_
          have fx128 : Fr [B + 3] hlo hh128 := Fr.w0 (Fr.rf _ _) (List.Mem.head _) eh128
          have fh128_4 : hh128.2 (B + 4) = some (aI 1500 (gm)) := hs_n eh128 (ne21).s cf_lo_1
          have fhw128 : hh128.2 (B + 3) = some (aI 1500 (gup (gF gz (fun m => (gn (287 * a + m) - gn (287 * b + m) + p) % p) m) (m) (((((gn) (((287) * (a)) + (m))) - ((gn) (((287) * (b)) + (m)))) + ((p : Int))) % (p : Int)))) := hs_s eh128
          have mfz129 : MF B [B + 3] [] hlo hh128 := MF.of fx128 (fr_lo).2.1 (Ni.c ⟨(ne22).s, (ne26).s⟩ (Ni.n _)) (Ni.c ⟨(ne23).s, (ne27).s⟩ (Ni.n _)) []
          have fk130_0 : hh128.2 (B) = some (mO B ((p : Int)) (hf) (le) (fc) (pn) (rn) (hn) (qn)) := Fr.at0 (mfz129).1 (Ni.c ⟨ne4, ne5⟩ (Ni.c ⟨ne2, ne3⟩ (Ni.n _))) cg_lo_0
          have fk130_1 : hh128.2 (B + 7) = some (aJ 6400 (g7)) := Fr.at0 (mfz129).1 (Ni.c ⟨(ne31).s, (ne33).s⟩ (Ni.c ⟨(ne24).s, (ne28).s⟩ (Ni.n _))) cg_lo_2
          have fk130_2 : hh128.2 (B + 8) = some (aI 11520 (g8)) := Fr.at0 (mfz129).1 (Ni.c ⟨(ne32).s, (ne34).s⟩ (Ni.c ⟨(ne25).s, (ne29).s⟩ (Ni.n _))) cg_lo_3
          have fk130_3 : hh128.2 (B + 2) = some (aI 28700 (gn)) := Fr.at0 (mfz129).1 (Ni.c ⟨ne17, ne18⟩ (Ni.c ⟨ne15, ne16⟩ (Ni.n _))) cf_lo_0
          have rk130_0 : MP hp B hh128 (T) := (cr_lo_0).fr (mfz129).1 (Ni.c ⟨ne11, ne12⟩ (Ni.c ⟨ne9, ne10⟩ (Ni.n _))) (Ni.c ⟨ne17, ne18⟩ (Ni.c ⟨ne15, ne16⟩ (Ni.n _)))
          have fr130 : MF B [B + 1, B + 3] [] h hh128 := (fr_lo).tr ((mfz129).mo (sub_c (List.Mem.tail _ (List.Mem.head _)) sub_n) sbI_n)
          refine g_iinc 2 (ls2 := [(5, .int (gI (m + 1))), (7, .int (gI ((gn) (((287) * (b)) + (m))))), (6, .int (gI ((gn) (((287) * (a)) + (m))))), (4, .int (gI (0))), (0, .ref (B)), (1, .int (gI (1))), (2, .int (gI (a))), (3, .int (gI (b)))]) dX10_apply_214 rfl (by decide) rfl ?_
          refine g_goto (tgt := 108) dX10_apply_217 rfl ?_
          refine Go.sub [0, 3, 4, 5, 6, 7] rfl ?_
          exact ih_lo _ (by omega) (m + 1) hh128 rfl fr130 fk130_3 fh128_4 (by rw [← gF_s gz (fun m => (gn (287 * a + m) - gn (287 * b + m) + p) % p) hm0]; exact fhw128) rk130_0 (by omega) (by omega)
      exact lo _ (0) hc15 rfl fr18 fk18_4 rn16_0 (by rw [gF_0]; exact z3) rk18_0 (by omega) (by omega)
    · skip
      refine Go.nf (h' := h) (st' := [.int (gI (0))]) hq11 rfl (Nat.le_refl _) (Nat.le_refl _) ?_
      refine g_if_ne (tgt := 60) dX10_apply_55 rfl (by first | exact gW_a | exact gW_b | (unfold gW; omega) | (unfold gW; split <;> omega)) (fun c231 => absurd c231 (by omega)) (fun c231 => ?_)
      refine g_iconst dX10_apply_58 ?_
      exact g_iret dX10_apply_59 rfl ⟨(((MF.rf [B + 1, B + 3] [] ma)).1.mo (sub_c (List.Mem.tail _ (List.Mem.tail _ (List.Mem.head _))) (sub_c (List.Mem.head _) (sub_c (List.Mem.tail _ (List.Mem.head _)) sub_n)))), ⟨((MF.rf [B + 1, B + 3] [] ma)).2.1, hw, ⟨_, h4⟩, ⟨_, h7⟩, ⟨_, h8⟩⟩, (-1), T, (by rw [ap2_nb (gT_n nb)]; exact ⟨rfl, rfl⟩), rfl, hT⟩
  · skip
    refine Go.nf (h' := h) (st' := [.int (gI (0))]) hq7 rfl (Nat.le_refl _) (Nat.le_refl _) ?_
    refine g_if_eq (tgt := 58) dX10_apply_42 rfl (by first | exact gW_a | exact gW_b | (unfold gW; omega) | (unfold gW; split <;> omega)) (fun c232 => ?_) (fun c232 => absurd c232 (by omega))
    refine g_iconst dX10_apply_58 ?_
    exact g_iret dX10_apply_59 rfl ⟨(((MF.rf [B + 1, B + 3] [] ma)).1.mo (sub_c (List.Mem.tail _ (List.Mem.tail _ (List.Mem.head _))) (sub_c (List.Mem.head _) (sub_c (List.Mem.tail _ (List.Mem.head _)) sub_n)))), ⟨((MF.rf [B + 1, B + 3] [] ma)).2.1, hw, ⟨_, h4⟩, ⟨_, h7⟩, ⟨_, h8⟩⟩, (-1), T, (by rw [ap2_na (gT_n na)]; exact ⟨rfl, rfl⟩), rfl, hT⟩
set_option maxHeartbeats 4000000 in
set_option maxRecDepth 100000 in
theorem sM_apply2 (N : GN) (h : GH) (B p : Nat) (hp : prm p) (hp2 : p ≤ 65536) (hf le fc pn rn hn qn : Int) (T : PT p) (a b : Int) (gW_a : gW a) (gW_b : gW b) (hm : h.2 B = some (mO B p hf le fc pn rn hn qn)) (hT : MP hp B h T) (ms : MS B h)  : Sp N yX10_apply mX10_apply 0 0 [.ref (B), .int (gI (2)), .int (gI (a)), .int (gI (b))] h (fun v h1 => Fr [B + 1, B + 3, B + 5, B + 7] h h1 ∧ MS B h1 ∧ ∃ w T2, Ou T (ap2 T a b (rac hp 2)) w T2 ∧ v = some (.int (gI w)) ∧ MP hp B h1 T2) := by
  refine Sp.of (by decide) rfl rfl (Nat.le_of_ble_eq_true rfl) ?_
  show Go N mX10_apply _ 0 0 h 0 [(0, .ref (B)), (1, .int (gI (2))), (2, .int (gI (a))), (3, .int (gI (b)))] []
  have hp1 := hp.1
  have neA : NE B (B + 5) := by unfold NE; omega
  have neB : NE B (B + 6) := by unfold NE; omega
  have neC : NE (B + 5) (B + 6) := by unfold NE; omega
  have ne0 : NE (B) (B + 1) := by unfold NE; omega
  have ne1 : NE (B) (B + 2) := by unfold NE; omega
  have ne2 : NE (B) (B + 3) := by unfold NE; omega
  have ne3 : NE (B) (B + 4) := by unfold NE; omega
  have ne4 : NE (B) (B + 5) := by unfold NE; omega
  have ne5 : NE (B) (B + 6) := by unfold NE; omega
  have ne6 : NE (B) (B + 7) := by unfold NE; omega
  have ne7 : NE (B) (B + 8) := by unfold NE; omega
  have ne8 : NE (B + 1) (B + 2) := by unfold NE; omega
  have ne9 : NE (B + 1) (B + 3) := by unfold NE; omega
  have ne10 : NE (B + 1) (B + 4) := by unfold NE; omega
  have ne11 : NE (B + 1) (B + 5) := by unfold NE; omega
  have ne12 : NE (B + 1) (B + 6) := by unfold NE; omega
  have ne13 : NE (B + 1) (B + 7) := by unfold NE; omega
  have ne14 : NE (B + 1) (B + 8) := by unfold NE; omega
  have ne15 : NE (B + 2) (B + 3) := by unfold NE; omega
  have ne16 : NE (B + 2) (B + 4) := by unfold NE; omega
  have ne17 : NE (B + 2) (B + 5) := by unfold NE; omega
  have ne18 : NE (B + 2) (B + 6) := by unfold NE; omega
  have ne19 : NE (B + 2) (B + 7) := by unfold NE; omega
  have ne20 : NE (B + 2) (B + 8) := by unfold NE; omega
  have ne21 : NE (B + 3) (B + 4) := by unfold NE; omega
  have ne22 : NE (B + 3) (B + 5) := by unfold NE; omega
  have ne23 : NE (B + 3) (B + 6) := by unfold NE; omega
  have ne24 : NE (B + 3) (B + 7) := by unfold NE; omega
  have ne25 : NE (B + 3) (B + 8) := by unfold NE; omega
  have ne26 : NE (B + 4) (B + 5) := by unfold NE; omega
  have ne27 : NE (B + 4) (B + 6) := by unfold NE; omega
  have ne28 : NE (B + 4) (B + 7) := by unfold NE; omega
  have ne29 : NE (B + 4) (B + 8) := by unfold NE; omega
  have ne30 : NE (B + 5) (B + 6) := by unfold NE; omega
  have ne31 : NE (B + 5) (B + 7) := by unfold NE; omega
  have ne32 : NE (B + 5) (B + 8) := by unfold NE; omega
  have ne33 : NE (B + 6) (B + 7) := by unfold NE; omega
  have ne34 : NE (B + 6) (B + 8) := by unfold NE; omega
  have ne35 : NE (B + 7) (B + 8) := by unfold NE; omega
  obtain ⟨ma, hw, ⟨gm, h4⟩, ⟨g7, h7⟩, ⟨g8, h8⟩⟩ := ms
  refine g_iload_n 1 dX10_apply_0 rfl ?_
  refine g_if_lt (tgt := 10) dX10_apply_1 rfl (by first | exact gW_a | exact gW_b | (unfold gW; omega) | (unfold gW; split <;> omega)) (fun c1 => absurd c1 (by omega)) (fun c1 => ?_)
  refine g_iload_n 1 dX10_apply_4 rfl ?_
  refine g_bipush dX10_apply_5 (by decide) ?_
  refine g_icmp_le (tgt := 13) dX10_apply_7 rfl (by first | exact gW_a | exact gW_b | (unfold gW; omega) | (unfold gW; split <;> omega)) (by first | exact gW_a | exact gW_b | (unfold gW; omega) | (unfold gW; split <;> omega)) (fun c2 => ?_) (fun c2 => absurd c2 (by omega))
  refine g_iload_n 1 dX10_apply_13 rfl ?_
  refine g_iconst dX10_apply_14 ?_
  refine g_icmp_eq (tgt := 30) dX10_apply_15 rfl (by first | exact gW_a | exact gW_b | (unfold gW; omega) | (unfold gW; split <;> omega)) (by first | exact gW_a | exact gW_b | (unfold gW; omega) | (unfold gW; split <;> omega)) (fun c3 => absurd c3 (by omega)) (fun c3 => ?_)
  refine g_iload_n 1 dX10_apply_18 rfl ?_
  refine g_bipush dX10_apply_19 (by decide) ?_
  refine g_icmp_eq (tgt := 30) dX10_apply_21 rfl (by first | exact gW_a | exact gW_b | (unfold gW; omega) | (unfold gW; split <;> omega)) (by first | exact gW_a | exact gW_b | (unfold gW; omega) | (unfold gW; split <;> omega)) (fun c4 => absurd c4 (by omega)) (fun c4 => ?_)
  refine g_iload_n 1 dX10_apply_24 rfl ?_
  refine g_bipush dX10_apply_25 (by decide) ?_
  refine g_icmp_ne (tgt := 34) dX10_apply_27 rfl (by first | exact gW_a | exact gW_b | (unfold gW; omega) | (unfold gW; split <;> omega)) (by first | exact gW_a | exact gW_b | (unfold gW; omega) | (unfold gW; split <;> omega)) (fun c5 => ?_) (fun c5 => absurd c5 (by omega))
  refine g_iconst dX10_apply_34 ?_
  refine g_istore (ls2 := [(4, .int (gI (0))), (0, .ref (B)), (1, .int (gI (2))), (2, .int (gI (a))), (3, .int (gI (b)))]) dX10_apply_35 (by decide) rfl ?_
  refine g_aload_n 1 dX10_apply_37 rfl ?_
  refine g_iload_n 3 dX10_apply_38 rfl ?_
  refine g_callV (nc2 := 0) (ns2 := 0) (ci := 10) (As := [.int (gI (a))]) (st := []) rfl dX10_apply_39 okX10_isPlace lX10_118 itX10_isPlace seX10_isPlace rfl hm (by decide) (by decide) rfl (Nat.le_of_ble_eq_true rfl) (sM_isPlace N _ B p hp hp2 hf le fc pn rn hn qn T (a) gW_a hm hT) (by omega) (by omega) (fun v6 hc6 q6 => ?_)
  obtain ⟨hq7, hr7⟩ := q6
  rcases hr7 with ⟨rfl, a0, a1, F, ha⟩ | ⟨rfl, na⟩
  · skip
    refine Go.nf (h' := h) (st' := [.int (gI (1))]) hq7 rfl (Nat.le_refl _) (Nat.le_refl _) ?_
    refine g_if_eq (tgt := 58) dX10_apply_42 rfl (by first | exact gW_a | exact gW_b | (unfold gW; omega) | (unfold gW; split <;> omega)) (fun c8 => absurd c8 (by omega)) (fun c8 => ?_)
    refine g_iload 0 dX10_apply_45 rfl ?_
    refine g_if_ne (tgt := 60) dX10_apply_47 rfl (by first | exact gW_a | exact gW_b | (unfold gW; omega) | (unfold gW; split <;> omega)) (fun c9 => absurd c9 (by omega)) (fun c9 => ?_)
    refine g_aload_n 1 dX10_apply_50 rfl ?_
    refine g_iload_n 4 dX10_apply_51 rfl ?_
    refine g_callV (nc2 := 0) (ns2 := 0) (ci := 10) (As := [.int (gI (b))]) (st := []) rfl dX10_apply_52 okX10_isPlace lX10_118 itX10_isPlace seX10_isPlace rfl hm (by decide) (by decide) rfl (Nat.le_of_ble_eq_true rfl) (sM_isPlace N _ B p hp hp2 hf le fc pn rn hn qn T (b) gW_b hm hT) (by omega) (by omega) (fun v10 hc10 q10 => ?_)
    obtain ⟨hq11, hr11⟩ := q10
    rcases hr11 with ⟨rfl, b0, b1, G, hb⟩ | ⟨rfl, nb⟩
    · skip
      refine Go.nf (h' := h) (st' := [.int (gI (1))]) hq11 rfl (Nat.le_refl _) (Nat.le_refl _) ?_
      refine g_if_ne (tgt := 60) dX10_apply_55 rfl (by first | exact gW_a | exact gW_b | (unfold gW; omega) | (unfold gW; split <;> omega)) (fun c12 => ?_) (fun c12 => absurd c12 (by omega))
      refine g_iload_n 2 dX10_apply_60 rfl ?_
      refine g_bipush dX10_apply_61 (by decide) ?_
      refine g_icmp_lt (tgt := 91) dX10_apply_63 rfl (by first | exact gW_a | exact gW_b | (unfold gW; omega) | (unfold gW; split <;> omega)) (by first | exact gW_a | exact gW_b | (unfold gW; omega) | (unfold gW; split <;> omega)) (fun c13 => ?_) (fun c13 => absurd c13 (by omega))
      refine g_iload_n 2 dX10_apply_91 rfl ?_
      refine g_iconst dX10_apply_92 ?_
      refine g_icmp_le (tgt := 101) dX10_apply_93 rfl (by first | exact gW_a | exact gW_b | (unfold gW; omega) | (unfold gW; split <;> omega)) (by first | exact gW_a | exact gW_b | (unfold gW; omega) | (unfold gW; split <;> omega)) (fun c14 => absurd c14 (by omega)) (fun c14 => ?_)
      refine g_iload_n 2 dX10_apply_96 rfl ?_
      refine g_iconst dX10_apply_97 ?_
      refine g_icmp_ne (tgt := 225) dX10_apply_98 rfl (by first | exact gW_a | exact gW_b | (unfold gW; omega) | (unfold gW; split <;> omega)) (by first | exact gW_a | exact gW_b | (unfold gW; omega) | (unfold gW; split <;> omega)) (fun c15 => ?_) (fun c15 => absurd c15 (by omega))
      refine g_iload_n 2 dX10_apply_225 rfl ?_
      refine g_iconst dX10_apply_226 ?_
      refine g_icmp_ne (tgt := 237) dX10_apply_227 rfl (by first | exact gW_a | exact gW_b | (unfold gW; omega) | (unfold gW; split <;> omega)) (by first | exact gW_a | exact gW_b | (unfold gW; omega) | (unfold gW; split <;> omega)) (fun c16 => absurd c16 (by omega)) (fun c16 => ?_)
      refine g_aload_n 1 dX10_apply_230 rfl ?_
      refine g_iload_n 3 dX10_apply_231 rfl ?_
      refine g_iload_n 4 dX10_apply_232 rfl ?_
      refine g_callV (nc2 := 0) (ns2 := 0) (ci := 10) (As := [.int (gI (a)), .int (gI (b))]) (st := []) rfl dX10_apply_233 okX10_times lX10_129 itX10_times seX10_times rfl hm (by decide) (by decide) rfl (Nat.le_of_ble_eq_true rfl) (sM_times N _ B p hp hp2 hf le fc pn rn hn qn T F G a b a0 a1 ha b0 b1 hb hm (gm) hT hw h4) (by omega) (by omega) (fun v17 hc17 q17 => ?_)
      obtain ⟨frc18, f4_18, mwa18, hd18⟩ := q17
      have mfz19 : MF B [B + 1, B + 3] [] h hc17 := MF.of frc18 ((MF.rf [B + 1, B + 3] [] ma)).2.1 (Ni.c ⟨(ne11).s, (ne17).s⟩ (Ni.c ⟨(ne22).s, (ne26).s⟩ (Ni.n _))) (Ni.c ⟨(ne12).s, (ne18).s⟩ (Ni.c ⟨(ne23).s, (ne27).s⟩ (Ni.n _))) []
      have fk20_0 : hc17.2 (B) = some (mO B ((p : Int)) (hf) (le) (fc) (pn) (rn) (hn) (qn)) := Fr.at0 (mfz19).1 (Ni.c ⟨ne4, ne5⟩ (Ni.c ⟨ne0, ne1⟩ (Ni.c ⟨ne2, ne3⟩ (Ni.n _)))) hm
      have fk20_2 : hc17.2 (B + 7) = some (aJ 6400 (g7)) := Fr.at0 (mfz19).1 (Ni.c ⟨(ne31).s, (ne33).s⟩ (Ni.c ⟨(ne13).s, (ne19).s⟩ (Ni.c ⟨(ne24).s, (ne28).s⟩ (Ni.n _)))) h7
      have fk20_3 : hc17.2 (B + 8) = some (aI 11520 (g8)) := Fr.at0 (mfz19).1 (Ni.c ⟨(ne32).s, (ne34).s⟩ (Ni.c ⟨(ne14).s, (ne20).s⟩ (Ni.c ⟨(ne25).s, (ne29).s⟩ (Ni.n _)))) h8
      have fr20 : MF B [B + 1, B + 3] [] h hc17 := ((MF.rf [B + 1, B + 3] [] ma)).tr ((mfz19).mo (sub_c (List.Mem.head _) (sub_c (List.Mem.tail _ (List.Mem.head _)) sub_n)) sbI_n)
      obtain ⟨w18, T2_18, hO18, hv18, mp18⟩ : ∃ w T2, Ou T (rac hp 2 F G) w T2 ∧ v17 = some (.int (gI w)) ∧ MP hp B hc17 T2 := by
        rcases hd18 with ⟨y1, y2, y3⟩ | ⟨H, w, y1, y2, y3, y4⟩
        · exact ⟨-4, T, by show Ou T (oR _) _ _; rw [y1]; exact ⟨rfl, rfl⟩, y2, y3⟩
        · exact ⟨w, _, by show Ou T (oR _) _ _; rw [y1]; exact ⟨y2, rfl⟩, y3, y4⟩
      subst hv18
      refine Go.nf (h' := hc17) (st' := [.int (gI (w18))]) rfl rfl (Nat.le_refl _) (Nat.le_refl _) ?_
      exact g_iret dX10_apply_236 rfl ⟨((fr20).1.mo (sub_c (List.Mem.tail _ (List.Mem.tail _ (List.Mem.head _))) (sub_c (List.Mem.head _) (sub_c (List.Mem.tail _ (List.Mem.head _)) sub_n)))), ⟨(fr20).2.1, mwa18, ⟨_, f4_18⟩, ⟨_, fk20_2⟩, ⟨_, fk20_3⟩⟩, w18, T2_18, (by rw [ap2_s (gT_s a0 a1 ha) (gT_s b0 b1 hb)]; exact hO18), rfl, mp18⟩
    · skip
      refine Go.nf (h' := h) (st' := [.int (gI (0))]) hq11 rfl (Nat.le_refl _) (Nat.le_refl _) ?_
      refine g_if_ne (tgt := 60) dX10_apply_55 rfl (by first | exact gW_a | exact gW_b | (unfold gW; omega) | (unfold gW; split <;> omega)) (fun c21 => absurd c21 (by omega)) (fun c21 => ?_)
      refine g_iconst dX10_apply_58 ?_
      exact g_iret dX10_apply_59 rfl ⟨(((MF.rf [B + 1, B + 3] [] ma)).1.mo (sub_c (List.Mem.tail _ (List.Mem.tail _ (List.Mem.head _))) (sub_c (List.Mem.head _) (sub_c (List.Mem.tail _ (List.Mem.head _)) sub_n)))), ⟨((MF.rf [B + 1, B + 3] [] ma)).2.1, hw, ⟨_, h4⟩, ⟨_, h7⟩, ⟨_, h8⟩⟩, (-1), T, (by rw [ap2_nb (gT_n nb)]; exact ⟨rfl, rfl⟩), rfl, hT⟩
  · skip
    refine Go.nf (h' := h) (st' := [.int (gI (0))]) hq7 rfl (Nat.le_refl _) (Nat.le_refl _) ?_
    refine g_if_eq (tgt := 58) dX10_apply_42 rfl (by first | exact gW_a | exact gW_b | (unfold gW; omega) | (unfold gW; split <;> omega)) (fun c22 => ?_) (fun c22 => absurd c22 (by omega))
    refine g_iconst dX10_apply_58 ?_
    exact g_iret dX10_apply_59 rfl ⟨(((MF.rf [B + 1, B + 3] [] ma)).1.mo (sub_c (List.Mem.tail _ (List.Mem.tail _ (List.Mem.head _))) (sub_c (List.Mem.head _) (sub_c (List.Mem.tail _ (List.Mem.head _)) sub_n)))), ⟨((MF.rf [B + 1, B + 3] [] ma)).2.1, hw, ⟨_, h4⟩, ⟨_, h7⟩, ⟨_, h8⟩⟩, (-1), T, (by rw [ap2_na (gT_n na)]; exact ⟨rfl, rfl⟩), rfl, hT⟩
set_option maxHeartbeats 4000000 in
set_option maxRecDepth 100000 in
theorem sM_apply3 (N : GN) (h : GH) (B p : Nat) (hp : prm p) (hp2 : p ≤ 65536) (hf le fc pn rn hn qn : Int) (T : PT p) (a b : Int) (gW_a : gW a) (gW_b : gW b) (hm : h.2 B = some (mO B p hf le fc pn rn hn qn)) (hT : MP hp B h T) (ms : MS B h)  : Sp N yX10_apply mX10_apply 0 0 [.ref (B), .int (gI (3)), .int (gI (a)), .int (gI (b))] h (fun v h1 => Fr [B + 1, B + 3, B + 5, B + 7] h h1 ∧ MS B h1 ∧ ∃ w T2, Ou T (ap1 T a (rac1 hp 3)) w T2 ∧ v = some (.int (gI w)) ∧ MP hp B h1 T2) := by
  refine Sp.of (by decide) rfl rfl (Nat.le_of_ble_eq_true rfl) ?_
  show Go N mX10_apply _ 0 0 h 0 [(0, .ref (B)), (1, .int (gI (3))), (2, .int (gI (a))), (3, .int (gI (b)))] []
  have hp1 := hp.1
  have neA : NE B (B + 5) := by unfold NE; omega
  have neB : NE B (B + 6) := by unfold NE; omega
  have neC : NE (B + 5) (B + 6) := by unfold NE; omega
  have ne0 : NE (B) (B + 1) := by unfold NE; omega
  have ne1 : NE (B) (B + 2) := by unfold NE; omega
  have ne2 : NE (B) (B + 3) := by unfold NE; omega
  have ne3 : NE (B) (B + 4) := by unfold NE; omega
  have ne4 : NE (B) (B + 5) := by unfold NE; omega
  have ne5 : NE (B) (B + 6) := by unfold NE; omega
  have ne6 : NE (B) (B + 7) := by unfold NE; omega
  have ne7 : NE (B) (B + 8) := by unfold NE; omega
  have ne8 : NE (B + 1) (B + 2) := by unfold NE; omega
  have ne9 : NE (B + 1) (B + 3) := by unfold NE; omega
  have ne10 : NE (B + 1) (B + 4) := by unfold NE; omega
  have ne11 : NE (B + 1) (B + 5) := by unfold NE; omega
  have ne12 : NE (B + 1) (B + 6) := by unfold NE; omega
  have ne13 : NE (B + 1) (B + 7) := by unfold NE; omega
  have ne14 : NE (B + 1) (B + 8) := by unfold NE; omega
  have ne15 : NE (B + 2) (B + 3) := by unfold NE; omega
  have ne16 : NE (B + 2) (B + 4) := by unfold NE; omega
  have ne17 : NE (B + 2) (B + 5) := by unfold NE; omega
  have ne18 : NE (B + 2) (B + 6) := by unfold NE; omega
  have ne19 : NE (B + 2) (B + 7) := by unfold NE; omega
  have ne20 : NE (B + 2) (B + 8) := by unfold NE; omega
  have ne21 : NE (B + 3) (B + 4) := by unfold NE; omega
  have ne22 : NE (B + 3) (B + 5) := by unfold NE; omega
  have ne23 : NE (B + 3) (B + 6) := by unfold NE; omega
  have ne24 : NE (B + 3) (B + 7) := by unfold NE; omega
  have ne25 : NE (B + 3) (B + 8) := by unfold NE; omega
  have ne26 : NE (B + 4) (B + 5) := by unfold NE; omega
  have ne27 : NE (B + 4) (B + 6) := by unfold NE; omega
  have ne28 : NE (B + 4) (B + 7) := by unfold NE; omega
  have ne29 : NE (B + 4) (B + 8) := by unfold NE; omega
  have ne30 : NE (B + 5) (B + 6) := by unfold NE; omega
  have ne31 : NE (B + 5) (B + 7) := by unfold NE; omega
  have ne32 : NE (B + 5) (B + 8) := by unfold NE; omega
  have ne33 : NE (B + 6) (B + 7) := by unfold NE; omega
  have ne34 : NE (B + 6) (B + 8) := by unfold NE; omega
  have ne35 : NE (B + 7) (B + 8) := by unfold NE; omega
  obtain ⟨ma, hw, ⟨gm, h4⟩, ⟨g7, h7⟩, ⟨g8, h8⟩⟩ := ms
  refine g_iload_n 1 dX10_apply_0 rfl ?_
  refine g_if_lt (tgt := 10) dX10_apply_1 rfl (by first | exact gW_a | exact gW_b | (unfold gW; omega) | (unfold gW; split <;> omega)) (fun c1 => absurd c1 (by omega)) (fun c1 => ?_)
  refine g_iload_n 1 dX10_apply_4 rfl ?_
  refine g_bipush dX10_apply_5 (by decide) ?_
  refine g_icmp_le (tgt := 13) dX10_apply_7 rfl (by first | exact gW_a | exact gW_b | (unfold gW; omega) | (unfold gW; split <;> omega)) (by first | exact gW_a | exact gW_b | (unfold gW; omega) | (unfold gW; split <;> omega)) (fun c2 => ?_) (fun c2 => absurd c2 (by omega))
  refine g_iload_n 1 dX10_apply_13 rfl ?_
  refine g_iconst dX10_apply_14 ?_
  refine g_icmp_eq (tgt := 30) dX10_apply_15 rfl (by first | exact gW_a | exact gW_b | (unfold gW; omega) | (unfold gW; split <;> omega)) (by first | exact gW_a | exact gW_b | (unfold gW; omega) | (unfold gW; split <;> omega)) (fun c3 => ?_) (fun c3 => absurd c3 (by omega))
  refine g_iconst dX10_apply_30 ?_
  refine g_goto (tgt := 35) dX10_apply_31 rfl ?_
  refine g_istore (ls2 := [(4, .int (gI (1))), (0, .ref (B)), (1, .int (gI (3))), (2, .int (gI (a))), (3, .int (gI (b)))]) dX10_apply_35 (by decide) rfl ?_
  refine g_aload_n 1 dX10_apply_37 rfl ?_
  refine g_iload_n 3 dX10_apply_38 rfl ?_
  refine g_callV (nc2 := 0) (ns2 := 0) (ci := 10) (As := [.int (gI (a))]) (st := []) rfl dX10_apply_39 okX10_isPlace lX10_118 itX10_isPlace seX10_isPlace rfl hm (by decide) (by decide) rfl (Nat.le_of_ble_eq_true rfl) (sM_isPlace N _ B p hp hp2 hf le fc pn rn hn qn T (a) gW_a hm hT) (by omega) (by omega) (fun v4 hc4 q4 => ?_)
  obtain ⟨hq5, hr5⟩ := q4
  rcases hr5 with ⟨rfl, a0, a1, F, ha⟩ | ⟨rfl, na⟩
  · skip
    refine Go.nf (h' := h) (st' := [.int (gI (1))]) hq5 rfl (Nat.le_refl _) (Nat.le_refl _) ?_
    refine g_if_eq (tgt := 58) dX10_apply_42 rfl (by first | exact gW_a | exact gW_b | (unfold gW; omega) | (unfold gW; split <;> omega)) (fun c6 => absurd c6 (by omega)) (fun c6 => ?_)
    refine g_iload 0 dX10_apply_45 rfl ?_
    refine g_if_ne (tgt := 60) dX10_apply_47 rfl (by first | exact gW_a | exact gW_b | (unfold gW; omega) | (unfold gW; split <;> omega)) (fun c7 => ?_) (fun c7 => absurd c7 (by omega))
    refine g_iload_n 2 dX10_apply_60 rfl ?_
    refine g_bipush dX10_apply_61 (by decide) ?_
    refine g_icmp_lt (tgt := 91) dX10_apply_63 rfl (by first | exact gW_a | exact gW_b | (unfold gW; omega) | (unfold gW; split <;> omega)) (by first | exact gW_a | exact gW_b | (unfold gW; omega) | (unfold gW; split <;> omega)) (fun c8 => ?_) (fun c8 => absurd c8 (by omega))
    refine g_iload_n 2 dX10_apply_91 rfl ?_
    refine g_iconst dX10_apply_92 ?_
    refine g_icmp_le (tgt := 101) dX10_apply_93 rfl (by first | exact gW_a | exact gW_b | (unfold gW; omega) | (unfold gW; split <;> omega)) (by first | exact gW_a | exact gW_b | (unfold gW; omega) | (unfold gW; split <;> omega)) (fun c9 => absurd c9 (by omega)) (fun c9 => ?_)
    refine g_iload_n 2 dX10_apply_96 rfl ?_
    refine g_iconst dX10_apply_97 ?_
    refine g_icmp_ne (tgt := 225) dX10_apply_98 rfl (by first | exact gW_a | exact gW_b | (unfold gW; omega) | (unfold gW; split <;> omega)) (by first | exact gW_a | exact gW_b | (unfold gW; omega) | (unfold gW; split <;> omega)) (fun c10 => absurd c10 (by omega)) (fun c10 => ?_)
    have hT9 := hT
    obtain ⟨gt, gn, w1, w2, w3⟩ := hT9
    obtain ⟨hB, hN⟩ := MP_at w3 a0 a1 ha
    refine g_aload_n 1 dX10_apply_101 rfl ?_
    refine g_callV (nc2 := 0) (ns2 := 0) (ci := 10) (As := []) (st := []) rfl dX10_apply_102 okX10_clear lX10_107 itX10_clear seX10_clear rfl hm (by decide) (by decide) rfl (Nat.le_of_ble_eq_true rfl) (sM_clear N _ B p hp hp2 hf le fc pn rn hn qn (gm) hm hw h4) (by omega) (by omega) (fun v11 hc11 q11 => ?_)
    obtain ⟨rfl, frc12, rn12_0, rn12_1⟩ := q11
    have mfz13 : MF B [B + 3] [] h hc11 := MF.of frc12 ((MF.rf [B + 1, B + 3] [] ma)).2.1 (Ni.c ⟨(ne22).s, (ne26).s⟩ (Ni.n _)) (Ni.c ⟨(ne23).s, (ne27).s⟩ (Ni.n _)) []
    have fk14_0 : hc11.2 (B) = some (mO B ((p : Int)) (hf) (le) (fc) (pn) (rn) (hn) (qn)) := Fr.at0 (mfz13).1 (Ni.c ⟨ne4, ne5⟩ (Ni.c ⟨ne2, ne3⟩ (Ni.n _))) hm
    have fk14_2 : hc11.2 (B + 7) = some (aJ 6400 (g7)) := Fr.at0 (mfz13).1 (Ni.c ⟨(ne31).s, (ne33).s⟩ (Ni.c ⟨(ne24).s, (ne28).s⟩ (Ni.n _))) h7
    have fk14_3 : hc11.2 (B + 8) = some (aI 11520 (g8)) := Fr.at0 (mfz13).1 (Ni.c ⟨(ne32).s, (ne34).s⟩ (Ni.c ⟨(ne25).s, (ne29).s⟩ (Ni.n _))) h8
    have fk14_4 : hc11.2 (B + 2) = some (aI 28700 (gn)) := Fr.at0 (mfz13).1 (Ni.c ⟨ne17, ne18⟩ (Ni.c ⟨ne15, ne16⟩ (Ni.n _))) w2
    have rk14_0 : MP hp B hc11 (T) := (hT).fr (mfz13).1 (Ni.c ⟨ne11, ne12⟩ (Ni.c ⟨ne9, ne10⟩ (Ni.n _))) (Ni.c ⟨ne17, ne18⟩ (Ni.c ⟨ne15, ne16⟩ (Ni.n _)))
    have fr14 : MF B [B + 1, B + 3] [] h hc11 := ((MF.rf [B + 1, B + 3] [] ma)).tr ((mfz13).mo (sub_c (List.Mem.tail _ (List.Mem.head _)) sub_n) sbI_n)
    refine Go.nf (h' := hc11) (st' := []) rfl rfl (Nat.le_refl _) (Nat.le_refl _) ?_
    refine g_iconst dX10_apply_105 ?_
    refine g_istore (ls2 := [(5, .int (gI (0))), (4, .int (gI (1))), (0, .ref (B)), (1, .int (gI (3))), (2, .int (gI (a))), (3, .int (gI (b)))]) dX10_apply_106 (by decide) rfl ?_
    obtain ⟨zB, gz, z3, zN, zV⟩ := rn12_1
    have lo : ∀ (kk : Nat) (m : Int) (hlo : GH), kk = (287 - m).toNat → MF B [B + 1, B + 3] [] h hlo → hlo.2 (B + 2) = some (aI 28700 (gn)) → hlo.2 (B + 4) = some (aI 1500 (gm)) → hlo.2 (B + 3) = some (aI 1500 (gF gz (fun m => (p - gn (287 * a + m)) % p) m)) → MP hp B hlo (T) → (0 ≤ m) → (m ≤ 287) → Go N mX10_apply (fun v h1 => Fr [B + 1, B + 3, B + 5, B + 7] h h1 ∧ MS B h1 ∧ ∃ w T2, Ou T (ap1 T a (rac1 hp 3)) w T2 ∧ v = some (.int (gI w)) ∧ MP hp B h1 T2) 0 0 hlo 108 [(5, .int (gI (m))), (4, .int (gI (1))), (0, .ref (B)), (1, .int (gI (3))), (2, .int (gI (a))), (3, .int (gI (b)))] [] := by
      refine Go.ind (fun kk ih_lo => ?_)
      intro m hlo hkk_lo fr_lo cf_lo_0 cf_lo_1 cf_lo_2 cr_lo_0 hm0 hm1
      have cg_lo_0 : hlo.2 (B) = some (mO B ((p : Int)) (hf) (le) (fc) (pn) (rn) (hn) (qn)) := Fr.at0 (fr_lo).1 (Ni.c ⟨ne4, ne5⟩ (Ni.c ⟨ne0, ne1⟩ (Ni.c ⟨ne2, ne3⟩ (Ni.n _)))) hm
      have cg_lo_2 : hlo.2 (B + 7) = some (aJ 6400 (g7)) := Fr.at0 (fr_lo).1 (Ni.c ⟨(ne31).s, (ne33).s⟩ (Ni.c ⟨(ne13).s, (ne19).s⟩ (Ni.c ⟨(ne24).s, (ne28).s⟩ (Ni.n _)))) h7
      have cg_lo_3 : hlo.2 (B + 8) = some (aI 11520 (g8)) := Fr.at0 (fr_lo).1 (Ni.c ⟨(ne32).s, (ne34).s⟩ (Ni.c ⟨(ne14).s, (ne20).s⟩ (Ni.c ⟨(ne25).s, (ne29).s⟩ (Ni.n _)))) h8
      refine g_iload 0 dX10_apply_108 rfl ?_
      refine g_sipush dX10_apply_110 (by decide) ?_
      refine g_icmp_ge (tgt := 220) dX10_apply_113 rfl (by first | exact gW_a | exact gW_b | (unfold gW; omega) | (unfold gW; split <;> omega)) (by first | exact gW_a | exact gW_b | (unfold gW; omega) | (unfold gW; split <;> omega)) (fun c115 => ?_) (fun c115 => ?_)
      · skip
        have hm9 : m = 287 := by omega
        have mw116 : MW hp B hlo (cmb hp (-1) (zF hp) F) := ⟨cmb_PB hp (-1) (zF_PB hp) hB, _, cf_lo_2, ng_NW hp hN (fun q q0 q1 => by rw [hm9]; unfold gF; rw [if_pos ⟨q0, q1⟩]; exact em_in hp _) (fun q q0 q1 => by rw [hm9]; unfold gF; rw [if_pos ⟨q0, q1⟩]; exact zi_mod hp _), fun q q0 q1 => by
            unfold gF
            split
            · exact em_in hp _
            · exact zV q q0 q1⟩
        refine g_aload_n 2 dX10_apply_220 rfl ?_
        refine g_callV (nc2 := 0) (ns2 := 0) (ci := 10) (As := []) (st := []) rfl dX10_apply_221 okX10_keep lX10_114 itX10_keep seX10_keep rfl cg_lo_0 (by decide) (by decide) rfl (Nat.le_of_ble_eq_true rfl) (sM_keep N _ B p hp hp2 hf le fc pn rn hn qn T (cmb hp (-1) (zF hp) F) cg_lo_0 cr_lo_0 mw116) (by omega) (by omega) (fun v117 hc117 q117 => ?_)
        obtain ⟨frc118, w118, hK118, rfl, mp118⟩ := q117
        have mfz119 : MF B [B + 1] [] hlo hc117 := MF.of frc118 (fr_lo).2.1 (Ni.c ⟨(ne11).s, (ne17).s⟩ (Ni.n _)) (Ni.c ⟨(ne12).s, (ne18).s⟩ (Ni.n _)) []
        have fk120_0 : hc117.2 (B) = some (mO B ((p : Int)) (hf) (le) (fc) (pn) (rn) (hn) (qn)) := Fr.at0 (mfz119).1 (Ni.c ⟨ne4, ne5⟩ (Ni.c ⟨ne0, ne1⟩ (Ni.n _))) cg_lo_0
        have fk120_1 : hc117.2 (B + 7) = some (aJ 6400 (g7)) := Fr.at0 (mfz119).1 (Ni.c ⟨(ne31).s, (ne33).s⟩ (Ni.c ⟨(ne13).s, (ne19).s⟩ (Ni.n _))) cg_lo_2
        have fk120_2 : hc117.2 (B + 8) = some (aI 11520 (g8)) := Fr.at0 (mfz119).1 (Ni.c ⟨(ne32).s, (ne34).s⟩ (Ni.c ⟨(ne14).s, (ne20).s⟩ (Ni.n _))) cg_lo_3
        have fk120_4 : hc117.2 (B + 4) = some (aI 1500 (gm)) := Fr.at0 (mfz119).1 (Ni.c ⟨ne26, ne27⟩ (Ni.c ⟨(ne10).s, (ne16).s⟩ (Ni.n _))) cf_lo_1
        have rk120_1 : MW hp B hc117 (cmb hp (-1) (zF hp) F) := (mw116).fr (mfz119).1 (Ni.c ⟨ne22, ne23⟩ (Ni.c ⟨(ne9).s, (ne15).s⟩ (Ni.n _)))
        have fr120 : MF B [B + 1, B + 3] [] h hc117 := (fr_lo).tr ((mfz119).mo (sub_c (List.Mem.head _) sub_n) sbI_n)
        refine Go.nf (h' := hc117) (st' := [.int (gI (w118))]) rfl rfl (Nat.le_refl _) (Nat.le_refl _) ?_
        exact g_iret dX10_apply_224 rfl ⟨((fr120).1.mo (sub_c (List.Mem.tail _ (List.Mem.tail _ (List.Mem.head _))) (sub_c (List.Mem.head _) (sub_c (List.Mem.tail _ (List.Mem.head _)) sub_n)))), ⟨(fr120).2.1, (rk120_1).a, ⟨_, fk120_4⟩, ⟨_, fk120_1⟩, ⟨_, fk120_2⟩⟩, w118, _, (by rw [ap1_s (gT_s a0 a1 ha)]; exact ⟨hK118, rfl⟩), rfl, mp118⟩
      · skip
        refine g_aload_n 2 dX10_apply_116 rfl ?_
        refine g_getf 2 dX10_apply_117 kX10 (by decide) fX10_13 cg_lo_0 rfl ?_
        refine g_sipush dX10_apply_120 (by decide) ?_
        refine g_iload_n 4 dX10_apply_123 rfl ?_
        refine g_imul dX10_apply_124 ?_
        refine g_iload 0 dX10_apply_125 rfl ?_
        refine g_iadd dX10_apply_127 ?_
        refine g_iaload dX10_apply_128 cf_lo_0 (by omega) (by omega) (by omega) ?_
        have b1 : 0 ≤ gn (287 * a + m) ∧ gn (287 * a + m) < p := hN.bd hp (k := m) (by omega) (by omega)
        refine g_istore (ls2 := [(6, .int (gI ((gn) (((287) * (a)) + (m))))), (5, .int (gI (m))), (4, .int (gI (1))), (0, .ref (B)), (1, .int (gI (3))), (2, .int (gI (a))), (3, .int (gI (b)))]) dX10_apply_129 (by decide) rfl ?_
        refine g_iload 2 dX10_apply_131 rfl ?_
        refine g_if_eq (tgt := 140) dX10_apply_133 rfl (by first | exact gW_a | exact gW_b | (unfold gW; omega) | (unfold gW; split <;> omega)) (fun c121 => absurd c121 (by omega)) (fun c121 => ?_)
        refine g_iconst dX10_apply_136 ?_
        refine g_goto (tgt := 153) dX10_apply_137 rfl ?_
        refine g_istore (ls2 := [(7, .int (gI (0))), (6, .int (gI ((gn) (((287) * (a)) + (m))))), (5, .int (gI (m))), (4, .int (gI (1))), (0, .ref (B)), (1, .int (gI (3))), (2, .int (gI (a))), (3, .int (gI (b)))]) dX10_apply_153 (by decide) rfl ?_
        refine g_aload_n 4 dX10_apply_155 rfl ?_
        refine g_getf 3 dX10_apply_156 kX10 (by decide) fX10_17 cg_lo_0 rfl ?_
        refine g_iload 2 dX10_apply_159 rfl ?_
        refine g_iload_n 5 dX10_apply_161 rfl ?_
        refine g_if_ne (tgt := 178) dX10_apply_162 rfl (by first | exact gW_a | exact gW_b | (unfold gW; omega) | (unfold gW; split <;> omega)) (fun c122 => ?_) (fun c122 => absurd c122 (by omega))
        refine g_iload_n 5 dX10_apply_178 rfl ?_
        refine g_iconst dX10_apply_179 ?_
        refine g_icmp_ne (tgt := 201) dX10_apply_180 rfl (by first | exact gW_a | exact gW_b | (unfold gW; omega) | (unfold gW; split <;> omega)) (by first | exact gW_a | exact gW_b | (unfold gW; omega) | (unfold gW; split <;> omega)) (fun c123 => ?_) (fun c123 => absurd c123 (by omega))
        refine g_aload_n 4 dX10_apply_201 rfl ?_
        refine g_getf 0 dX10_apply_202 kX10 (by decide) fX10_78 cg_lo_0 rfl ?_
        refine g_iload 1 dX10_apply_205 rfl ?_
        refine g_isub dX10_apply_207 ?_
        refine g_aload_n 4 dX10_apply_208 rfl ?_
        refine g_getf 0 dX10_apply_209 kX10 (by decide) fX10_78 cg_lo_0 rfl ?_
        refine g_irem dX10_apply_212 (by unfold gW; omega) (by unfold gW; omega) (by omega) ?_
        rw [tm_em (show 0 ≤ ((p : Int)) - ((gn) (((287) * (a)) + (m))) by omega)]
        refine g_iastore dX10_apply_213 cf_lo_2 (by omega) (by omega) (by omega) ?_
        obtain ⟨hh124, eh124⟩ : ∃ z : GH, z = hset hlo (B + 3) (aI 1500 (gup (gF gz (fun m => (p - gn (287 * a + m)) % p) m) (m) ((((p : Int)) - ((gn) (((287) * (a)) + (m)))) % (p : Int)))) := ⟨_, rfl⟩
        refine Go.hp eh124.symm ?_
        have fx124 : Fr [B + 3] hlo hh124 := Fr.w0 (Fr.rf _ _) (List.Mem.head _) eh124
        have fh124_4 : hh124.2 (B + 4) = some (aI 1500 (gm)) := hs_n eh124 (ne21).s cf_lo_1
        have fhw124 : hh124.2 (B + 3) = some (aI 1500 (gup (gF gz (fun m => (p - gn (287 * a + m)) % p) m) (m) ((((p : Int)) - ((gn) (((287) * (a)) + (m)))) % (p : Int)))) := hs_s eh124
        have mfz125 : MF B [B + 3] [] hlo hh124 := MF.of fx124 (fr_lo).2.1 (Ni.c ⟨(ne22).s, (ne26).s⟩ (Ni.n _)) (Ni.c ⟨(ne23).s, (ne27).s⟩ (Ni.n _)) []
        have fk126_0 : hh124.2 (B) = some (mO B ((p : Int)) (hf) (le) (fc) (pn) (rn) (hn) (qn)) := Fr.at0 (mfz125).1 (Ni.c ⟨ne4, ne5⟩ (Ni.c ⟨ne2, ne3⟩ (Ni.n _))) cg_lo_0
        have fk126_1 : hh124.2 (B + 7) = some (aJ 6400 (g7)) := Fr.at0 (mfz125).1 (Ni.c ⟨(ne31).s, (ne33).s⟩ (Ni.c ⟨(ne24).s, (ne28).s⟩ (Ni.n _))) cg_lo_2
        have fk126_2 : hh124.2 (B + 8) = some (aI 11520 (g8)) := Fr.at0 (mfz125).1 (Ni.c ⟨(ne32).s, (ne34).s⟩ (Ni.c ⟨(ne25).s, (ne29).s⟩ (Ni.n _))) cg_lo_3
        have fk126_3 : hh124.2 (B + 2) = some (aI 28700 (gn)) := Fr.at0 (mfz125).1 (Ni.c ⟨ne17, ne18⟩ (Ni.c ⟨ne15, ne16⟩ (Ni.n _))) cf_lo_0
        have rk126_0 : MP hp B hh124 (T) := (cr_lo_0).fr (mfz125).1 (Ni.c ⟨ne11, ne12⟩ (Ni.c ⟨ne9, ne10⟩ (Ni.n _))) (Ni.c ⟨ne17, ne18⟩ (Ni.c ⟨ne15, ne16⟩ (Ni.n _)))
        have fr126 : MF B [B + 1, B + 3] [] h hh124 := (fr_lo).tr ((mfz125).mo (sub_c (List.Mem.tail _ (List.Mem.head _)) sub_n) sbI_n)
        refine g_iinc 2 (ls2 := [(5, .int (gI (m + 1))), (7, .int (gI (0))), (6, .int (gI ((gn) (((287) * (a)) + (m))))), (4, .int (gI (1))), (0, .ref (B)), (1, .int (gI (3))), (2, .int (gI (a))), (3, .int (gI (b)))]) dX10_apply_214 rfl (by decide) rfl ?_
        refine g_goto (tgt := 108) dX10_apply_217 rfl ?_
        refine Go.sub [0, 3, 4, 5, 6, 7] rfl ?_
        exact ih_lo _ (by omega) (m + 1) hh124 rfl fr126 fk126_3 fh124_4 (by rw [← gF_s gz (fun m => (p - gn (287 * a + m)) % p) hm0]; exact fhw124) rk126_0 (by omega) (by omega)
    exact lo _ (0) hc11 rfl fr14 fk14_4 rn12_0 (by rw [gF_0]; exact z3) rk14_0 (by omega) (by omega)
  · skip
    refine Go.nf (h' := h) (st' := [.int (gI (0))]) hq5 rfl (Nat.le_refl _) (Nat.le_refl _) ?_
    refine g_if_eq (tgt := 58) dX10_apply_42 rfl (by first | exact gW_a | exact gW_b | (unfold gW; omega) | (unfold gW; split <;> omega)) (fun c227 => ?_) (fun c227 => absurd c227 (by omega))
    refine g_iconst dX10_apply_58 ?_
    exact g_iret dX10_apply_59 rfl ⟨(((MF.rf [B + 1, B + 3] [] ma)).1.mo (sub_c (List.Mem.tail _ (List.Mem.tail _ (List.Mem.head _))) (sub_c (List.Mem.head _) (sub_c (List.Mem.tail _ (List.Mem.head _)) sub_n)))), ⟨((MF.rf [B + 1, B + 3] [] ma)).2.1, hw, ⟨_, h4⟩, ⟨_, h7⟩, ⟨_, h8⟩⟩, (-1), T, (by rw [ap1_n (gT_n na)]; exact ⟨rfl, rfl⟩), rfl, hT⟩
set_option maxHeartbeats 4000000 in
set_option maxRecDepth 100000 in
theorem sM_apply4 (N : GN) (h : GH) (B p : Nat) (hp : prm p) (hp2 : p ≤ 65536) (hf le fc pn rn hn qn : Int) (T : PT p) (a b : Int) (gW_a : gW a) (gW_b : gW b) (hm : h.2 B = some (mO B p hf le fc pn rn hn qn)) (hT : MP hp B h T) (ms : MS B h)  : Sp N yX10_apply mX10_apply 0 0 [.ref (B), .int (gI (4)), .int (gI (a)), .int (gI (b))] h (fun v h1 => Fr [B + 1, B + 3, B + 5, B + 7] h h1 ∧ MS B h1 ∧ ∃ w T2, Ou T (ap2 T a b (rac hp 4)) w T2 ∧ v = some (.int (gI w)) ∧ MP hp B h1 T2) := by
  refine Sp.of (by decide) rfl rfl (Nat.le_of_ble_eq_true rfl) ?_
  show Go N mX10_apply _ 0 0 h 0 [(0, .ref (B)), (1, .int (gI (4))), (2, .int (gI (a))), (3, .int (gI (b)))] []
  have hp1 := hp.1
  have neA : NE B (B + 5) := by unfold NE; omega
  have neB : NE B (B + 6) := by unfold NE; omega
  have neC : NE (B + 5) (B + 6) := by unfold NE; omega
  have ne0 : NE (B) (B + 1) := by unfold NE; omega
  have ne1 : NE (B) (B + 2) := by unfold NE; omega
  have ne2 : NE (B) (B + 3) := by unfold NE; omega
  have ne3 : NE (B) (B + 4) := by unfold NE; omega
  have ne4 : NE (B) (B + 5) := by unfold NE; omega
  have ne5 : NE (B) (B + 6) := by unfold NE; omega
  have ne6 : NE (B) (B + 7) := by unfold NE; omega
  have ne7 : NE (B) (B + 8) := by unfold NE; omega
  have ne8 : NE (B + 1) (B + 2) := by unfold NE; omega
  have ne9 : NE (B + 1) (B + 3) := by unfold NE; omega
  have ne10 : NE (B + 1) (B + 4) := by unfold NE; omega
  have ne11 : NE (B + 1) (B + 5) := by unfold NE; omega
  have ne12 : NE (B + 1) (B + 6) := by unfold NE; omega
  have ne13 : NE (B + 1) (B + 7) := by unfold NE; omega
  have ne14 : NE (B + 1) (B + 8) := by unfold NE; omega
  have ne15 : NE (B + 2) (B + 3) := by unfold NE; omega
  have ne16 : NE (B + 2) (B + 4) := by unfold NE; omega
  have ne17 : NE (B + 2) (B + 5) := by unfold NE; omega
  have ne18 : NE (B + 2) (B + 6) := by unfold NE; omega
  have ne19 : NE (B + 2) (B + 7) := by unfold NE; omega
  have ne20 : NE (B + 2) (B + 8) := by unfold NE; omega
  have ne21 : NE (B + 3) (B + 4) := by unfold NE; omega
  have ne22 : NE (B + 3) (B + 5) := by unfold NE; omega
  have ne23 : NE (B + 3) (B + 6) := by unfold NE; omega
  have ne24 : NE (B + 3) (B + 7) := by unfold NE; omega
  have ne25 : NE (B + 3) (B + 8) := by unfold NE; omega
  have ne26 : NE (B + 4) (B + 5) := by unfold NE; omega
  have ne27 : NE (B + 4) (B + 6) := by unfold NE; omega
  have ne28 : NE (B + 4) (B + 7) := by unfold NE; omega
  have ne29 : NE (B + 4) (B + 8) := by unfold NE; omega
  have ne30 : NE (B + 5) (B + 6) := by unfold NE; omega
  have ne31 : NE (B + 5) (B + 7) := by unfold NE; omega
  have ne32 : NE (B + 5) (B + 8) := by unfold NE; omega
  have ne33 : NE (B + 6) (B + 7) := by unfold NE; omega
  have ne34 : NE (B + 6) (B + 8) := by unfold NE; omega
  have ne35 : NE (B + 7) (B + 8) := by unfold NE; omega
  obtain ⟨ma, hw, ⟨gm, h4⟩, ⟨g7, h7⟩, ⟨g8, h8⟩⟩ := ms
  refine g_iload_n 1 dX10_apply_0 rfl ?_
  refine g_if_lt (tgt := 10) dX10_apply_1 rfl (by first | exact gW_a | exact gW_b | (unfold gW; omega) | (unfold gW; split <;> omega)) (fun c1 => absurd c1 (by omega)) (fun c1 => ?_)
  refine g_iload_n 1 dX10_apply_4 rfl ?_
  refine g_bipush dX10_apply_5 (by decide) ?_
  refine g_icmp_le (tgt := 13) dX10_apply_7 rfl (by first | exact gW_a | exact gW_b | (unfold gW; omega) | (unfold gW; split <;> omega)) (by first | exact gW_a | exact gW_b | (unfold gW; omega) | (unfold gW; split <;> omega)) (fun c2 => ?_) (fun c2 => absurd c2 (by omega))
  refine g_iload_n 1 dX10_apply_13 rfl ?_
  refine g_iconst dX10_apply_14 ?_
  refine g_icmp_eq (tgt := 30) dX10_apply_15 rfl (by first | exact gW_a | exact gW_b | (unfold gW; omega) | (unfold gW; split <;> omega)) (by first | exact gW_a | exact gW_b | (unfold gW; omega) | (unfold gW; split <;> omega)) (fun c3 => absurd c3 (by omega)) (fun c3 => ?_)
  refine g_iload_n 1 dX10_apply_18 rfl ?_
  refine g_bipush dX10_apply_19 (by decide) ?_
  refine g_icmp_eq (tgt := 30) dX10_apply_21 rfl (by first | exact gW_a | exact gW_b | (unfold gW; omega) | (unfold gW; split <;> omega)) (by first | exact gW_a | exact gW_b | (unfold gW; omega) | (unfold gW; split <;> omega)) (fun c4 => absurd c4 (by omega)) (fun c4 => ?_)
  refine g_iload_n 1 dX10_apply_24 rfl ?_
  refine g_bipush dX10_apply_25 (by decide) ?_
  refine g_icmp_ne (tgt := 34) dX10_apply_27 rfl (by first | exact gW_a | exact gW_b | (unfold gW; omega) | (unfold gW; split <;> omega)) (by first | exact gW_a | exact gW_b | (unfold gW; omega) | (unfold gW; split <;> omega)) (fun c5 => ?_) (fun c5 => absurd c5 (by omega))
  refine g_iconst dX10_apply_34 ?_
  refine g_istore (ls2 := [(4, .int (gI (0))), (0, .ref (B)), (1, .int (gI (4))), (2, .int (gI (a))), (3, .int (gI (b)))]) dX10_apply_35 (by decide) rfl ?_
  refine g_aload_n 1 dX10_apply_37 rfl ?_
  refine g_iload_n 3 dX10_apply_38 rfl ?_
  refine g_callV (nc2 := 0) (ns2 := 0) (ci := 10) (As := [.int (gI (a))]) (st := []) rfl dX10_apply_39 okX10_isPlace lX10_118 itX10_isPlace seX10_isPlace rfl hm (by decide) (by decide) rfl (Nat.le_of_ble_eq_true rfl) (sM_isPlace N _ B p hp hp2 hf le fc pn rn hn qn T (a) gW_a hm hT) (by omega) (by omega) (fun v6 hc6 q6 => ?_)
  obtain ⟨hq7, hr7⟩ := q6
  rcases hr7 with ⟨rfl, a0, a1, F, ha⟩ | ⟨rfl, na⟩
  · skip
    refine Go.nf (h' := h) (st' := [.int (gI (1))]) hq7 rfl (Nat.le_refl _) (Nat.le_refl _) ?_
    refine g_if_eq (tgt := 58) dX10_apply_42 rfl (by first | exact gW_a | exact gW_b | (unfold gW; omega) | (unfold gW; split <;> omega)) (fun c8 => absurd c8 (by omega)) (fun c8 => ?_)
    refine g_iload 0 dX10_apply_45 rfl ?_
    refine g_if_ne (tgt := 60) dX10_apply_47 rfl (by first | exact gW_a | exact gW_b | (unfold gW; omega) | (unfold gW; split <;> omega)) (fun c9 => absurd c9 (by omega)) (fun c9 => ?_)
    refine g_aload_n 1 dX10_apply_50 rfl ?_
    refine g_iload_n 4 dX10_apply_51 rfl ?_
    refine g_callV (nc2 := 0) (ns2 := 0) (ci := 10) (As := [.int (gI (b))]) (st := []) rfl dX10_apply_52 okX10_isPlace lX10_118 itX10_isPlace seX10_isPlace rfl hm (by decide) (by decide) rfl (Nat.le_of_ble_eq_true rfl) (sM_isPlace N _ B p hp hp2 hf le fc pn rn hn qn T (b) gW_b hm hT) (by omega) (by omega) (fun v10 hc10 q10 => ?_)
    obtain ⟨hq11, hr11⟩ := q10
    rcases hr11 with ⟨rfl, b0, b1, G, hb⟩ | ⟨rfl, nb⟩
    · skip
      refine Go.nf (h' := h) (st' := [.int (gI (1))]) hq11 rfl (Nat.le_refl _) (Nat.le_refl _) ?_
      refine g_if_ne (tgt := 60) dX10_apply_55 rfl (by first | exact gW_a | exact gW_b | (unfold gW; omega) | (unfold gW; split <;> omega)) (fun c12 => ?_) (fun c12 => absurd c12 (by omega))
      refine g_iload_n 2 dX10_apply_60 rfl ?_
      refine g_bipush dX10_apply_61 (by decide) ?_
      refine g_icmp_lt (tgt := 91) dX10_apply_63 rfl (by first | exact gW_a | exact gW_b | (unfold gW; omega) | (unfold gW; split <;> omega)) (by first | exact gW_a | exact gW_b | (unfold gW; omega) | (unfold gW; split <;> omega)) (fun c13 => ?_) (fun c13 => absurd c13 (by omega))
      refine g_iload_n 2 dX10_apply_91 rfl ?_
      refine g_iconst dX10_apply_92 ?_
      refine g_icmp_le (tgt := 101) dX10_apply_93 rfl (by first | exact gW_a | exact gW_b | (unfold gW; omega) | (unfold gW; split <;> omega)) (by first | exact gW_a | exact gW_b | (unfold gW; omega) | (unfold gW; split <;> omega)) (fun c14 => absurd c14 (by omega)) (fun c14 => ?_)
      refine g_iload_n 2 dX10_apply_96 rfl ?_
      refine g_iconst dX10_apply_97 ?_
      refine g_icmp_ne (tgt := 225) dX10_apply_98 rfl (by first | exact gW_a | exact gW_b | (unfold gW; omega) | (unfold gW; split <;> omega)) (by first | exact gW_a | exact gW_b | (unfold gW; omega) | (unfold gW; split <;> omega)) (fun c15 => ?_) (fun c15 => absurd c15 (by omega))
      refine g_iload_n 2 dX10_apply_225 rfl ?_
      refine g_iconst dX10_apply_226 ?_
      refine g_icmp_ne (tgt := 237) dX10_apply_227 rfl (by first | exact gW_a | exact gW_b | (unfold gW; omega) | (unfold gW; split <;> omega)) (by first | exact gW_a | exact gW_b | (unfold gW; omega) | (unfold gW; split <;> omega)) (fun c16 => ?_) (fun c16 => absurd c16 (by omega))
      refine g_iload_n 2 dX10_apply_237 rfl ?_
      refine g_iconst dX10_apply_238 ?_
      refine g_icmp_eq (tgt := 247) dX10_apply_239 rfl (by first | exact gW_a | exact gW_b | (unfold gW; omega) | (unfold gW; split <;> omega)) (by first | exact gW_a | exact gW_b | (unfold gW; omega) | (unfold gW; split <;> omega)) (fun c17 => ?_) (fun c17 => absurd c17 (by omega))
      refine g_aload_n 1 dX10_apply_247 rfl ?_
      refine g_iload_n 3 dX10_apply_248 rfl ?_
      refine g_iload_n 4 dX10_apply_249 rfl ?_
      refine g_iload_n 2 dX10_apply_250 rfl ?_
      refine g_iconst dX10_apply_251 ?_
      refine g_icmp_ne (tgt := 259) dX10_apply_252 rfl (by first | exact gW_a | exact gW_b | (unfold gW; omega) | (unfold gW; split <;> omega)) (by first | exact gW_a | exact gW_b | (unfold gW; omega) | (unfold gW; split <;> omega)) (fun c18 => absurd c18 (by omega)) (fun c18 => ?_)
      refine g_iconst dX10_apply_255 ?_
      refine g_goto (tgt := 260) dX10_apply_256 rfl ?_
      refine g_callV (nc2 := 0) (ns2 := 0) (ci := 10) (As := [.int (gI (a)), .int (gI (b)), .int (gI (1))]) (st := []) rfl dX10_apply_260 okX10_inPlace lX10_133 itX10_inPlace seX10_inPlace rfl hm (by decide) (by decide) rfl (Nat.le_of_ble_eq_true rfl) (sM_inPlaceX N _ B p hp hp2 hf le fc pn rn hn qn T F G a b a0 a1 ha b0 b1 hb hm (gm) hT hw h4) (by omega) (by omega) (fun v19 hc19 q19 => ?_)
      obtain ⟨frc20, ⟨g4_20, f4_20⟩, mwa20, hd20⟩ := q19
      have mfz21 : MF B [B + 1, B + 3] [] h hc19 := MF.of frc20 ((MF.rf [B + 1, B + 3] [] ma)).2.1 (Ni.c ⟨(ne11).s, (ne17).s⟩ (Ni.c ⟨(ne22).s, (ne26).s⟩ (Ni.n _))) (Ni.c ⟨(ne12).s, (ne18).s⟩ (Ni.c ⟨(ne23).s, (ne27).s⟩ (Ni.n _))) []
      have fk22_0 : hc19.2 (B) = some (mO B ((p : Int)) (hf) (le) (fc) (pn) (rn) (hn) (qn)) := Fr.at0 (mfz21).1 (Ni.c ⟨ne4, ne5⟩ (Ni.c ⟨ne0, ne1⟩ (Ni.c ⟨ne2, ne3⟩ (Ni.n _)))) hm
      have fk22_2 : hc19.2 (B + 7) = some (aJ 6400 (g7)) := Fr.at0 (mfz21).1 (Ni.c ⟨(ne31).s, (ne33).s⟩ (Ni.c ⟨(ne13).s, (ne19).s⟩ (Ni.c ⟨(ne24).s, (ne28).s⟩ (Ni.n _)))) h7
      have fk22_3 : hc19.2 (B + 8) = some (aI 11520 (g8)) := Fr.at0 (mfz21).1 (Ni.c ⟨(ne32).s, (ne34).s⟩ (Ni.c ⟨(ne14).s, (ne20).s⟩ (Ni.c ⟨(ne25).s, (ne29).s⟩ (Ni.n _)))) h8
      have fr22 : MF B [B + 1, B + 3] [] h hc19 := ((MF.rf [B + 1, B + 3] [] ma)).tr ((mfz21).mo (sub_c (List.Mem.head _) (sub_c (List.Mem.tail _ (List.Mem.head _)) sub_n)) sbI_n)
      obtain ⟨w20, T2_20, hO20, hv20, mp20⟩ : ∃ w T2, Ou T (rac hp 4 F G) w T2 ∧ v19 = some (.int (gI w)) ∧ MP hp B hc19 T2 := by
        rcases hd20 with ⟨y1, y2, y3⟩ | ⟨H, w, y1, y2, y3, y4⟩
        · exact ⟨-4, T, by show Ou T (oR _) _ _; rw [y1]; exact ⟨rfl, rfl⟩, y2, y3⟩
        · exact ⟨w, _, by show Ou T (oR _) _ _; rw [y1]; exact ⟨y2, rfl⟩, y3, y4⟩
      subst hv20
      refine Go.nf (h' := hc19) (st' := [.int (gI (w20))]) rfl rfl (Nat.le_refl _) (Nat.le_refl _) ?_
      exact g_iret dX10_apply_263 rfl ⟨((fr22).1.mo (sub_c (List.Mem.tail _ (List.Mem.tail _ (List.Mem.head _))) (sub_c (List.Mem.head _) (sub_c (List.Mem.tail _ (List.Mem.head _)) sub_n)))), ⟨(fr22).2.1, mwa20, ⟨_, f4_20⟩, ⟨_, fk22_2⟩, ⟨_, fk22_3⟩⟩, w20, T2_20, (by rw [ap2_s (gT_s a0 a1 ha) (gT_s b0 b1 hb)]; exact hO20), rfl, mp20⟩
    · skip
      refine Go.nf (h' := h) (st' := [.int (gI (0))]) hq11 rfl (Nat.le_refl _) (Nat.le_refl _) ?_
      refine g_if_ne (tgt := 60) dX10_apply_55 rfl (by first | exact gW_a | exact gW_b | (unfold gW; omega) | (unfold gW; split <;> omega)) (fun c23 => absurd c23 (by omega)) (fun c23 => ?_)
      refine g_iconst dX10_apply_58 ?_
      exact g_iret dX10_apply_59 rfl ⟨(((MF.rf [B + 1, B + 3] [] ma)).1.mo (sub_c (List.Mem.tail _ (List.Mem.tail _ (List.Mem.head _))) (sub_c (List.Mem.head _) (sub_c (List.Mem.tail _ (List.Mem.head _)) sub_n)))), ⟨((MF.rf [B + 1, B + 3] [] ma)).2.1, hw, ⟨_, h4⟩, ⟨_, h7⟩, ⟨_, h8⟩⟩, (-1), T, (by rw [ap2_nb (gT_n nb)]; exact ⟨rfl, rfl⟩), rfl, hT⟩
  · skip
    refine Go.nf (h' := h) (st' := [.int (gI (0))]) hq7 rfl (Nat.le_refl _) (Nat.le_refl _) ?_
    refine g_if_eq (tgt := 58) dX10_apply_42 rfl (by first | exact gW_a | exact gW_b | (unfold gW; omega) | (unfold gW; split <;> omega)) (fun c24 => ?_) (fun c24 => absurd c24 (by omega))
    refine g_iconst dX10_apply_58 ?_
    exact g_iret dX10_apply_59 rfl ⟨(((MF.rf [B + 1, B + 3] [] ma)).1.mo (sub_c (List.Mem.tail _ (List.Mem.tail _ (List.Mem.head _))) (sub_c (List.Mem.head _) (sub_c (List.Mem.tail _ (List.Mem.head _)) sub_n)))), ⟨((MF.rf [B + 1, B + 3] [] ma)).2.1, hw, ⟨_, h4⟩, ⟨_, h7⟩, ⟨_, h8⟩⟩, (-1), T, (by rw [ap2_na (gT_n na)]; exact ⟨rfl, rfl⟩), rfl, hT⟩
set_option maxHeartbeats 4000000 in
set_option maxRecDepth 100000 in
theorem sM_apply5 (N : GN) (h : GH) (B p : Nat) (hp : prm p) (hp2 : p ≤ 65536) (hf le fc pn rn hn qn : Int) (T : PT p) (a b : Int) (gW_a : gW a) (gW_b : gW b) (hm : h.2 B = some (mO B p hf le fc pn rn hn qn)) (hT : MP hp B h T) (ms : MS B h)  : Sp N yX10_apply mX10_apply 0 0 [.ref (B), .int (gI (5)), .int (gI (a)), .int (gI (b))] h (fun v h1 => Fr [B + 1, B + 3, B + 5, B + 7] h h1 ∧ MS B h1 ∧ ∃ w T2, Ou T (ap2 T a b (rac hp 5)) w T2 ∧ v = some (.int (gI w)) ∧ MP hp B h1 T2) := by
  refine Sp.of (by decide) rfl rfl (Nat.le_of_ble_eq_true rfl) ?_
  show Go N mX10_apply _ 0 0 h 0 [(0, .ref (B)), (1, .int (gI (5))), (2, .int (gI (a))), (3, .int (gI (b)))] []
  have hp1 := hp.1
  have neA : NE B (B + 5) := by unfold NE; omega
  have neB : NE B (B + 6) := by unfold NE; omega
  have neC : NE (B + 5) (B + 6) := by unfold NE; omega
  have ne0 : NE (B) (B + 1) := by unfold NE; omega
  have ne1 : NE (B) (B + 2) := by unfold NE; omega
  have ne2 : NE (B) (B + 3) := by unfold NE; omega
  have ne3 : NE (B) (B + 4) := by unfold NE; omega
  have ne4 : NE (B) (B + 5) := by unfold NE; omega
  have ne5 : NE (B) (B + 6) := by unfold NE; omega
  have ne6 : NE (B) (B + 7) := by unfold NE; omega
  have ne7 : NE (B) (B + 8) := by unfold NE; omega
  have ne8 : NE (B + 1) (B + 2) := by unfold NE; omega
  have ne9 : NE (B + 1) (B + 3) := by unfold NE; omega
  have ne10 : NE (B + 1) (B + 4) := by unfold NE; omega
  have ne11 : NE (B + 1) (B + 5) := by unfold NE; omega
  have ne12 : NE (B + 1) (B + 6) := by unfold NE; omega
  have ne13 : NE (B + 1) (B + 7) := by unfold NE; omega
  have ne14 : NE (B + 1) (B + 8) := by unfold NE; omega
  have ne15 : NE (B + 2) (B + 3) := by unfold NE; omega
  have ne16 : NE (B + 2) (B + 4) := by unfold NE; omega
  have ne17 : NE (B + 2) (B + 5) := by unfold NE; omega
  have ne18 : NE (B + 2) (B + 6) := by unfold NE; omega
  have ne19 : NE (B + 2) (B + 7) := by unfold NE; omega
  have ne20 : NE (B + 2) (B + 8) := by unfold NE; omega
  have ne21 : NE (B + 3) (B + 4) := by unfold NE; omega
  have ne22 : NE (B + 3) (B + 5) := by unfold NE; omega
  have ne23 : NE (B + 3) (B + 6) := by unfold NE; omega
  have ne24 : NE (B + 3) (B + 7) := by unfold NE; omega
  have ne25 : NE (B + 3) (B + 8) := by unfold NE; omega
  have ne26 : NE (B + 4) (B + 5) := by unfold NE; omega
  have ne27 : NE (B + 4) (B + 6) := by unfold NE; omega
  have ne28 : NE (B + 4) (B + 7) := by unfold NE; omega
  have ne29 : NE (B + 4) (B + 8) := by unfold NE; omega
  have ne30 : NE (B + 5) (B + 6) := by unfold NE; omega
  have ne31 : NE (B + 5) (B + 7) := by unfold NE; omega
  have ne32 : NE (B + 5) (B + 8) := by unfold NE; omega
  have ne33 : NE (B + 6) (B + 7) := by unfold NE; omega
  have ne34 : NE (B + 6) (B + 8) := by unfold NE; omega
  have ne35 : NE (B + 7) (B + 8) := by unfold NE; omega
  obtain ⟨ma, hw, ⟨gm, h4⟩, ⟨g7, h7⟩, ⟨g8, h8⟩⟩ := ms
  refine g_iload_n 1 dX10_apply_0 rfl ?_
  refine g_if_lt (tgt := 10) dX10_apply_1 rfl (by first | exact gW_a | exact gW_b | (unfold gW; omega) | (unfold gW; split <;> omega)) (fun c1 => absurd c1 (by omega)) (fun c1 => ?_)
  refine g_iload_n 1 dX10_apply_4 rfl ?_
  refine g_bipush dX10_apply_5 (by decide) ?_
  refine g_icmp_le (tgt := 13) dX10_apply_7 rfl (by first | exact gW_a | exact gW_b | (unfold gW; omega) | (unfold gW; split <;> omega)) (by first | exact gW_a | exact gW_b | (unfold gW; omega) | (unfold gW; split <;> omega)) (fun c2 => ?_) (fun c2 => absurd c2 (by omega))
  refine g_iload_n 1 dX10_apply_13 rfl ?_
  refine g_iconst dX10_apply_14 ?_
  refine g_icmp_eq (tgt := 30) dX10_apply_15 rfl (by first | exact gW_a | exact gW_b | (unfold gW; omega) | (unfold gW; split <;> omega)) (by first | exact gW_a | exact gW_b | (unfold gW; omega) | (unfold gW; split <;> omega)) (fun c3 => absurd c3 (by omega)) (fun c3 => ?_)
  refine g_iload_n 1 dX10_apply_18 rfl ?_
  refine g_bipush dX10_apply_19 (by decide) ?_
  refine g_icmp_eq (tgt := 30) dX10_apply_21 rfl (by first | exact gW_a | exact gW_b | (unfold gW; omega) | (unfold gW; split <;> omega)) (by first | exact gW_a | exact gW_b | (unfold gW; omega) | (unfold gW; split <;> omega)) (fun c4 => absurd c4 (by omega)) (fun c4 => ?_)
  refine g_iload_n 1 dX10_apply_24 rfl ?_
  refine g_bipush dX10_apply_25 (by decide) ?_
  refine g_icmp_ne (tgt := 34) dX10_apply_27 rfl (by first | exact gW_a | exact gW_b | (unfold gW; omega) | (unfold gW; split <;> omega)) (by first | exact gW_a | exact gW_b | (unfold gW; omega) | (unfold gW; split <;> omega)) (fun c5 => ?_) (fun c5 => absurd c5 (by omega))
  refine g_iconst dX10_apply_34 ?_
  refine g_istore (ls2 := [(4, .int (gI (0))), (0, .ref (B)), (1, .int (gI (5))), (2, .int (gI (a))), (3, .int (gI (b)))]) dX10_apply_35 (by decide) rfl ?_
  refine g_aload_n 1 dX10_apply_37 rfl ?_
  refine g_iload_n 3 dX10_apply_38 rfl ?_
  refine g_callV (nc2 := 0) (ns2 := 0) (ci := 10) (As := [.int (gI (a))]) (st := []) rfl dX10_apply_39 okX10_isPlace lX10_118 itX10_isPlace seX10_isPlace rfl hm (by decide) (by decide) rfl (Nat.le_of_ble_eq_true rfl) (sM_isPlace N _ B p hp hp2 hf le fc pn rn hn qn T (a) gW_a hm hT) (by omega) (by omega) (fun v6 hc6 q6 => ?_)
  obtain ⟨hq7, hr7⟩ := q6
  rcases hr7 with ⟨rfl, a0, a1, F, ha⟩ | ⟨rfl, na⟩
  · skip
    refine Go.nf (h' := h) (st' := [.int (gI (1))]) hq7 rfl (Nat.le_refl _) (Nat.le_refl _) ?_
    refine g_if_eq (tgt := 58) dX10_apply_42 rfl (by first | exact gW_a | exact gW_b | (unfold gW; omega) | (unfold gW; split <;> omega)) (fun c8 => absurd c8 (by omega)) (fun c8 => ?_)
    refine g_iload 0 dX10_apply_45 rfl ?_
    refine g_if_ne (tgt := 60) dX10_apply_47 rfl (by first | exact gW_a | exact gW_b | (unfold gW; omega) | (unfold gW; split <;> omega)) (fun c9 => absurd c9 (by omega)) (fun c9 => ?_)
    refine g_aload_n 1 dX10_apply_50 rfl ?_
    refine g_iload_n 4 dX10_apply_51 rfl ?_
    refine g_callV (nc2 := 0) (ns2 := 0) (ci := 10) (As := [.int (gI (b))]) (st := []) rfl dX10_apply_52 okX10_isPlace lX10_118 itX10_isPlace seX10_isPlace rfl hm (by decide) (by decide) rfl (Nat.le_of_ble_eq_true rfl) (sM_isPlace N _ B p hp hp2 hf le fc pn rn hn qn T (b) gW_b hm hT) (by omega) (by omega) (fun v10 hc10 q10 => ?_)
    obtain ⟨hq11, hr11⟩ := q10
    rcases hr11 with ⟨rfl, b0, b1, G, hb⟩ | ⟨rfl, nb⟩
    · skip
      refine Go.nf (h' := h) (st' := [.int (gI (1))]) hq11 rfl (Nat.le_refl _) (Nat.le_refl _) ?_
      refine g_if_ne (tgt := 60) dX10_apply_55 rfl (by first | exact gW_a | exact gW_b | (unfold gW; omega) | (unfold gW; split <;> omega)) (fun c12 => ?_) (fun c12 => absurd c12 (by omega))
      refine g_iload_n 2 dX10_apply_60 rfl ?_
      refine g_bipush dX10_apply_61 (by decide) ?_
      refine g_icmp_lt (tgt := 91) dX10_apply_63 rfl (by first | exact gW_a | exact gW_b | (unfold gW; omega) | (unfold gW; split <;> omega)) (by first | exact gW_a | exact gW_b | (unfold gW; omega) | (unfold gW; split <;> omega)) (fun c13 => ?_) (fun c13 => absurd c13 (by omega))
      refine g_iload_n 2 dX10_apply_91 rfl ?_
      refine g_iconst dX10_apply_92 ?_
      refine g_icmp_le (tgt := 101) dX10_apply_93 rfl (by first | exact gW_a | exact gW_b | (unfold gW; omega) | (unfold gW; split <;> omega)) (by first | exact gW_a | exact gW_b | (unfold gW; omega) | (unfold gW; split <;> omega)) (fun c14 => absurd c14 (by omega)) (fun c14 => ?_)
      refine g_iload_n 2 dX10_apply_96 rfl ?_
      refine g_iconst dX10_apply_97 ?_
      refine g_icmp_ne (tgt := 225) dX10_apply_98 rfl (by first | exact gW_a | exact gW_b | (unfold gW; omega) | (unfold gW; split <;> omega)) (by first | exact gW_a | exact gW_b | (unfold gW; omega) | (unfold gW; split <;> omega)) (fun c15 => ?_) (fun c15 => absurd c15 (by omega))
      refine g_iload_n 2 dX10_apply_225 rfl ?_
      refine g_iconst dX10_apply_226 ?_
      refine g_icmp_ne (tgt := 237) dX10_apply_227 rfl (by first | exact gW_a | exact gW_b | (unfold gW; omega) | (unfold gW; split <;> omega)) (by first | exact gW_a | exact gW_b | (unfold gW; omega) | (unfold gW; split <;> omega)) (fun c16 => ?_) (fun c16 => absurd c16 (by omega))
      refine g_iload_n 2 dX10_apply_237 rfl ?_
      refine g_iconst dX10_apply_238 ?_
      refine g_icmp_eq (tgt := 247) dX10_apply_239 rfl (by first | exact gW_a | exact gW_b | (unfold gW; omega) | (unfold gW; split <;> omega)) (by first | exact gW_a | exact gW_b | (unfold gW; omega) | (unfold gW; split <;> omega)) (fun c17 => absurd c17 (by omega)) (fun c17 => ?_)
      refine g_iload_n 2 dX10_apply_242 rfl ?_
      refine g_iconst dX10_apply_243 ?_
      refine g_icmp_ne (tgt := 264) dX10_apply_244 rfl (by first | exact gW_a | exact gW_b | (unfold gW; omega) | (unfold gW; split <;> omega)) (by first | exact gW_a | exact gW_b | (unfold gW; omega) | (unfold gW; split <;> omega)) (fun c18 => absurd c18 (by omega)) (fun c18 => ?_)
      refine g_aload_n 1 dX10_apply_247 rfl ?_
      refine g_iload_n 3 dX10_apply_248 rfl ?_
      refine g_iload_n 4 dX10_apply_249 rfl ?_
      refine g_iload_n 2 dX10_apply_250 rfl ?_
      refine g_iconst dX10_apply_251 ?_
      refine g_icmp_ne (tgt := 259) dX10_apply_252 rfl (by first | exact gW_a | exact gW_b | (unfold gW; omega) | (unfold gW; split <;> omega)) (by first | exact gW_a | exact gW_b | (unfold gW; omega) | (unfold gW; split <;> omega)) (fun c19 => ?_) (fun c19 => absurd c19 (by omega))
      refine g_iconst dX10_apply_259 ?_
      refine g_callV (nc2 := 0) (ns2 := 0) (ci := 10) (As := [.int (gI (a)), .int (gI (b)), .int (gI (0))]) (st := []) rfl dX10_apply_260 okX10_inPlace lX10_133 itX10_inPlace seX10_inPlace rfl hm (by decide) (by decide) rfl (Nat.le_of_ble_eq_true rfl) (sM_inPlaceY N _ B p hp hp2 hf le fc pn rn hn qn T F G a b a0 a1 ha b0 b1 hb hm (gm) hT hw h4) (by omega) (by omega) (fun v20 hc20 q20 => ?_)
      obtain ⟨frc21, ⟨g4_21, f4_21⟩, mwa21, hd21⟩ := q20
      have mfz22 : MF B [B + 1, B + 3] [] h hc20 := MF.of frc21 ((MF.rf [B + 1, B + 3] [] ma)).2.1 (Ni.c ⟨(ne11).s, (ne17).s⟩ (Ni.c ⟨(ne22).s, (ne26).s⟩ (Ni.n _))) (Ni.c ⟨(ne12).s, (ne18).s⟩ (Ni.c ⟨(ne23).s, (ne27).s⟩ (Ni.n _))) []
      have fk23_0 : hc20.2 (B) = some (mO B ((p : Int)) (hf) (le) (fc) (pn) (rn) (hn) (qn)) := Fr.at0 (mfz22).1 (Ni.c ⟨ne4, ne5⟩ (Ni.c ⟨ne0, ne1⟩ (Ni.c ⟨ne2, ne3⟩ (Ni.n _)))) hm
      have fk23_2 : hc20.2 (B + 7) = some (aJ 6400 (g7)) := Fr.at0 (mfz22).1 (Ni.c ⟨(ne31).s, (ne33).s⟩ (Ni.c ⟨(ne13).s, (ne19).s⟩ (Ni.c ⟨(ne24).s, (ne28).s⟩ (Ni.n _)))) h7
      have fk23_3 : hc20.2 (B + 8) = some (aI 11520 (g8)) := Fr.at0 (mfz22).1 (Ni.c ⟨(ne32).s, (ne34).s⟩ (Ni.c ⟨(ne14).s, (ne20).s⟩ (Ni.c ⟨(ne25).s, (ne29).s⟩ (Ni.n _)))) h8
      have fr23 : MF B [B + 1, B + 3] [] h hc20 := ((MF.rf [B + 1, B + 3] [] ma)).tr ((mfz22).mo (sub_c (List.Mem.head _) (sub_c (List.Mem.tail _ (List.Mem.head _)) sub_n)) sbI_n)
      obtain ⟨w21, T2_21, hO21, hv21, mp21⟩ : ∃ w T2, Ou T (rac hp 5 F G) w T2 ∧ v20 = some (.int (gI w)) ∧ MP hp B hc20 T2 := by
        rcases hd21 with ⟨y1, y2, y3⟩ | ⟨H, w, y1, y2, y3, y4⟩
        · exact ⟨-4, T, by show Ou T (oR _) _ _; rw [y1]; exact ⟨rfl, rfl⟩, y2, y3⟩
        · exact ⟨w, _, by show Ou T (oR _) _ _; rw [y1]; exact ⟨y2, rfl⟩, y3, y4⟩
      subst hv21
      refine Go.nf (h' := hc20) (st' := [.int (gI (w21))]) rfl rfl (Nat.le_refl _) (Nat.le_refl _) ?_
      exact g_iret dX10_apply_263 rfl ⟨((fr23).1.mo (sub_c (List.Mem.tail _ (List.Mem.tail _ (List.Mem.head _))) (sub_c (List.Mem.head _) (sub_c (List.Mem.tail _ (List.Mem.head _)) sub_n)))), ⟨(fr23).2.1, mwa21, ⟨_, f4_21⟩, ⟨_, fk23_2⟩, ⟨_, fk23_3⟩⟩, w21, T2_21, (by rw [ap2_s (gT_s a0 a1 ha) (gT_s b0 b1 hb)]; exact hO21), rfl, mp21⟩
    · skip
      refine Go.nf (h' := h) (st' := [.int (gI (0))]) hq11 rfl (Nat.le_refl _) (Nat.le_refl _) ?_
      refine g_if_ne (tgt := 60) dX10_apply_55 rfl (by first | exact gW_a | exact gW_b | (unfold gW; omega) | (unfold gW; split <;> omega)) (fun c24 => absurd c24 (by omega)) (fun c24 => ?_)
      refine g_iconst dX10_apply_58 ?_
      exact g_iret dX10_apply_59 rfl ⟨(((MF.rf [B + 1, B + 3] [] ma)).1.mo (sub_c (List.Mem.tail _ (List.Mem.tail _ (List.Mem.head _))) (sub_c (List.Mem.head _) (sub_c (List.Mem.tail _ (List.Mem.head _)) sub_n)))), ⟨((MF.rf [B + 1, B + 3] [] ma)).2.1, hw, ⟨_, h4⟩, ⟨_, h7⟩, ⟨_, h8⟩⟩, (-1), T, (by rw [ap2_nb (gT_n nb)]; exact ⟨rfl, rfl⟩), rfl, hT⟩
  · skip
    refine Go.nf (h' := h) (st' := [.int (gI (0))]) hq7 rfl (Nat.le_refl _) (Nat.le_refl _) ?_
    refine g_if_eq (tgt := 58) dX10_apply_42 rfl (by first | exact gW_a | exact gW_b | (unfold gW; omega) | (unfold gW; split <;> omega)) (fun c25 => ?_) (fun c25 => absurd c25 (by omega))
    refine g_iconst dX10_apply_58 ?_
    exact g_iret dX10_apply_59 rfl ⟨(((MF.rf [B + 1, B + 3] [] ma)).1.mo (sub_c (List.Mem.tail _ (List.Mem.tail _ (List.Mem.head _))) (sub_c (List.Mem.head _) (sub_c (List.Mem.tail _ (List.Mem.head _)) sub_n)))), ⟨((MF.rf [B + 1, B + 3] [] ma)).2.1, hw, ⟨_, h4⟩, ⟨_, h7⟩, ⟨_, h8⟩⟩, (-1), T, (by rw [ap2_na (gT_n na)]; exact ⟨rfl, rfl⟩), rfl, hT⟩
set_option maxHeartbeats 4000000 in
set_option maxRecDepth 100000 in
theorem sM_apply6 (N : GN) (h : GH) (B p : Nat) (hp : prm p) (hp2 : p ≤ 65536) (hf le fc pn rn hn qn : Int) (T : PT p) (a b : Int) (gW_a : gW a) (gW_b : gW b) (hm : h.2 B = some (mO B p hf le fc pn rn hn qn)) (hT : MP hp B h T) (ms : MS B h)  : Sp N yX10_apply mX10_apply 0 0 [.ref (B), .int (gI (6)), .int (gI (a)), .int (gI (b))] h (fun v h1 => Fr [B + 1, B + 3, B + 5, B + 7] h h1 ∧ MS B h1 ∧ ∃ w T2, Ou T (ap1 T a (rac1 hp 6)) w T2 ∧ v = some (.int (gI w)) ∧ MP hp B h1 T2) := by
  refine Sp.of (by decide) rfl rfl (Nat.le_of_ble_eq_true rfl) ?_
  show Go N mX10_apply _ 0 0 h 0 [(0, .ref (B)), (1, .int (gI (6))), (2, .int (gI (a))), (3, .int (gI (b)))] []
  have hp1 := hp.1
  have neA : NE B (B + 5) := by unfold NE; omega
  have neB : NE B (B + 6) := by unfold NE; omega
  have neC : NE (B + 5) (B + 6) := by unfold NE; omega
  have ne0 : NE (B) (B + 1) := by unfold NE; omega
  have ne1 : NE (B) (B + 2) := by unfold NE; omega
  have ne2 : NE (B) (B + 3) := by unfold NE; omega
  have ne3 : NE (B) (B + 4) := by unfold NE; omega
  have ne4 : NE (B) (B + 5) := by unfold NE; omega
  have ne5 : NE (B) (B + 6) := by unfold NE; omega
  have ne6 : NE (B) (B + 7) := by unfold NE; omega
  have ne7 : NE (B) (B + 8) := by unfold NE; omega
  have ne8 : NE (B + 1) (B + 2) := by unfold NE; omega
  have ne9 : NE (B + 1) (B + 3) := by unfold NE; omega
  have ne10 : NE (B + 1) (B + 4) := by unfold NE; omega
  have ne11 : NE (B + 1) (B + 5) := by unfold NE; omega
  have ne12 : NE (B + 1) (B + 6) := by unfold NE; omega
  have ne13 : NE (B + 1) (B + 7) := by unfold NE; omega
  have ne14 : NE (B + 1) (B + 8) := by unfold NE; omega
  have ne15 : NE (B + 2) (B + 3) := by unfold NE; omega
  have ne16 : NE (B + 2) (B + 4) := by unfold NE; omega
  have ne17 : NE (B + 2) (B + 5) := by unfold NE; omega
  have ne18 : NE (B + 2) (B + 6) := by unfold NE; omega
  have ne19 : NE (B + 2) (B + 7) := by unfold NE; omega
  have ne20 : NE (B + 2) (B + 8) := by unfold NE; omega
  have ne21 : NE (B + 3) (B + 4) := by unfold NE; omega
  have ne22 : NE (B + 3) (B + 5) := by unfold NE; omega
  have ne23 : NE (B + 3) (B + 6) := by unfold NE; omega
  have ne24 : NE (B + 3) (B + 7) := by unfold NE; omega
  have ne25 : NE (B + 3) (B + 8) := by unfold NE; omega
  have ne26 : NE (B + 4) (B + 5) := by unfold NE; omega
  have ne27 : NE (B + 4) (B + 6) := by unfold NE; omega
  have ne28 : NE (B + 4) (B + 7) := by unfold NE; omega
  have ne29 : NE (B + 4) (B + 8) := by unfold NE; omega
  have ne30 : NE (B + 5) (B + 6) := by unfold NE; omega
  have ne31 : NE (B + 5) (B + 7) := by unfold NE; omega
  have ne32 : NE (B + 5) (B + 8) := by unfold NE; omega
  have ne33 : NE (B + 6) (B + 7) := by unfold NE; omega
  have ne34 : NE (B + 6) (B + 8) := by unfold NE; omega
  have ne35 : NE (B + 7) (B + 8) := by unfold NE; omega
  obtain ⟨ma, hw, ⟨gm, h4⟩, ⟨g7, h7⟩, ⟨g8, h8⟩⟩ := ms
  refine g_iload_n 1 dX10_apply_0 rfl ?_
  refine g_if_lt (tgt := 10) dX10_apply_1 rfl (by first | exact gW_a | exact gW_b | (unfold gW; omega) | (unfold gW; split <;> omega)) (fun c1 => absurd c1 (by omega)) (fun c1 => ?_)
  refine g_iload_n 1 dX10_apply_4 rfl ?_
  refine g_bipush dX10_apply_5 (by decide) ?_
  refine g_icmp_le (tgt := 13) dX10_apply_7 rfl (by first | exact gW_a | exact gW_b | (unfold gW; omega) | (unfold gW; split <;> omega)) (by first | exact gW_a | exact gW_b | (unfold gW; omega) | (unfold gW; split <;> omega)) (fun c2 => ?_) (fun c2 => absurd c2 (by omega))
  refine g_iload_n 1 dX10_apply_13 rfl ?_
  refine g_iconst dX10_apply_14 ?_
  refine g_icmp_eq (tgt := 30) dX10_apply_15 rfl (by first | exact gW_a | exact gW_b | (unfold gW; omega) | (unfold gW; split <;> omega)) (by first | exact gW_a | exact gW_b | (unfold gW; omega) | (unfold gW; split <;> omega)) (fun c3 => absurd c3 (by omega)) (fun c3 => ?_)
  refine g_iload_n 1 dX10_apply_18 rfl ?_
  refine g_bipush dX10_apply_19 (by decide) ?_
  refine g_icmp_eq (tgt := 30) dX10_apply_21 rfl (by first | exact gW_a | exact gW_b | (unfold gW; omega) | (unfold gW; split <;> omega)) (by first | exact gW_a | exact gW_b | (unfold gW; omega) | (unfold gW; split <;> omega)) (fun c4 => ?_) (fun c4 => absurd c4 (by omega))
  refine g_iconst dX10_apply_30 ?_
  refine g_goto (tgt := 35) dX10_apply_31 rfl ?_
  refine g_istore (ls2 := [(4, .int (gI (1))), (0, .ref (B)), (1, .int (gI (6))), (2, .int (gI (a))), (3, .int (gI (b)))]) dX10_apply_35 (by decide) rfl ?_
  refine g_aload_n 1 dX10_apply_37 rfl ?_
  refine g_iload_n 3 dX10_apply_38 rfl ?_
  refine g_callV (nc2 := 0) (ns2 := 0) (ci := 10) (As := [.int (gI (a))]) (st := []) rfl dX10_apply_39 okX10_isPlace lX10_118 itX10_isPlace seX10_isPlace rfl hm (by decide) (by decide) rfl (Nat.le_of_ble_eq_true rfl) (sM_isPlace N _ B p hp hp2 hf le fc pn rn hn qn T (a) gW_a hm hT) (by omega) (by omega) (fun v5 hc5 q5 => ?_)
  obtain ⟨hq6, hr6⟩ := q5
  rcases hr6 with ⟨rfl, a0, a1, F, ha⟩ | ⟨rfl, na⟩
  · skip
    refine Go.nf (h' := h) (st' := [.int (gI (1))]) hq6 rfl (Nat.le_refl _) (Nat.le_refl _) ?_
    refine g_if_eq (tgt := 58) dX10_apply_42 rfl (by first | exact gW_a | exact gW_b | (unfold gW; omega) | (unfold gW; split <;> omega)) (fun c7 => absurd c7 (by omega)) (fun c7 => ?_)
    refine g_iload 0 dX10_apply_45 rfl ?_
    refine g_if_ne (tgt := 60) dX10_apply_47 rfl (by first | exact gW_a | exact gW_b | (unfold gW; omega) | (unfold gW; split <;> omega)) (fun c8 => ?_) (fun c8 => absurd c8 (by omega))
    refine g_iload_n 2 dX10_apply_60 rfl ?_
    refine g_bipush dX10_apply_61 (by decide) ?_
    refine g_icmp_lt (tgt := 91) dX10_apply_63 rfl (by first | exact gW_a | exact gW_b | (unfold gW; omega) | (unfold gW; split <;> omega)) (by first | exact gW_a | exact gW_b | (unfold gW; omega) | (unfold gW; split <;> omega)) (fun c9 => ?_) (fun c9 => absurd c9 (by omega))
    refine g_iload_n 2 dX10_apply_91 rfl ?_
    refine g_iconst dX10_apply_92 ?_
    refine g_icmp_le (tgt := 101) dX10_apply_93 rfl (by first | exact gW_a | exact gW_b | (unfold gW; omega) | (unfold gW; split <;> omega)) (by first | exact gW_a | exact gW_b | (unfold gW; omega) | (unfold gW; split <;> omega)) (fun c10 => absurd c10 (by omega)) (fun c10 => ?_)
    refine g_iload_n 2 dX10_apply_96 rfl ?_
    refine g_iconst dX10_apply_97 ?_
    refine g_icmp_ne (tgt := 225) dX10_apply_98 rfl (by first | exact gW_a | exact gW_b | (unfold gW; omega) | (unfold gW; split <;> omega)) (by first | exact gW_a | exact gW_b | (unfold gW; omega) | (unfold gW; split <;> omega)) (fun c11 => ?_) (fun c11 => absurd c11 (by omega))
    refine g_iload_n 2 dX10_apply_225 rfl ?_
    refine g_iconst dX10_apply_226 ?_
    refine g_icmp_ne (tgt := 237) dX10_apply_227 rfl (by first | exact gW_a | exact gW_b | (unfold gW; omega) | (unfold gW; split <;> omega)) (by first | exact gW_a | exact gW_b | (unfold gW; omega) | (unfold gW; split <;> omega)) (fun c12 => ?_) (fun c12 => absurd c12 (by omega))
    refine g_iload_n 2 dX10_apply_237 rfl ?_
    refine g_iconst dX10_apply_238 ?_
    refine g_icmp_eq (tgt := 247) dX10_apply_239 rfl (by first | exact gW_a | exact gW_b | (unfold gW; omega) | (unfold gW; split <;> omega)) (by first | exact gW_a | exact gW_b | (unfold gW; omega) | (unfold gW; split <;> omega)) (fun c13 => absurd c13 (by omega)) (fun c13 => ?_)
    refine g_iload_n 2 dX10_apply_242 rfl ?_
    refine g_iconst dX10_apply_243 ?_
    refine g_icmp_ne (tgt := 264) dX10_apply_244 rfl (by first | exact gW_a | exact gW_b | (unfold gW; omega) | (unfold gW; split <;> omega)) (by first | exact gW_a | exact gW_b | (unfold gW; omega) | (unfold gW; split <;> omega)) (fun c14 => ?_) (fun c14 => absurd c14 (by omega))
    refine g_iload_n 2 dX10_apply_264 rfl ?_
    refine g_bipush dX10_apply_265 (by decide) ?_
    refine g_icmp_gt (tgt := 287) dX10_apply_267 rfl (by first | exact gW_a | exact gW_b | (unfold gW; omega) | (unfold gW; split <;> omega)) (by first | exact gW_a | exact gW_b | (unfold gW; omega) | (unfold gW; split <;> omega)) (fun c15 => absurd c15 (by omega)) (fun c15 => ?_)
    refine g_aload_n 1 dX10_apply_270 rfl ?_
    refine g_iload_n 3 dX10_apply_271 rfl ?_
    refine g_iload_n 2 dX10_apply_272 rfl ?_
    refine g_bipush dX10_apply_273 (by decide) ?_
    refine g_icmp_ne (tgt := 282) dX10_apply_275 rfl (by first | exact gW_a | exact gW_b | (unfold gW; omega) | (unfold gW; split <;> omega)) (by first | exact gW_a | exact gW_b | (unfold gW; omega) | (unfold gW; split <;> omega)) (fun c16 => absurd c16 (by omega)) (fun c16 => ?_)
    refine g_iconst dX10_apply_278 ?_
    refine g_goto (tgt := 283) dX10_apply_279 rfl ?_
    refine g_callV (nc2 := 0) (ns2 := 0) (ci := 10) (As := [.int (gI (a)), .int (gI (1))]) (st := []) rfl dX10_apply_283 okX10_derivative lX10_137 itX10_derivative seX10_derivative rfl hm (by decide) (by decide) rfl (Nat.le_of_ble_eq_true rfl) (sM_derivativeX N _ B p hp hp2 hf le fc pn rn hn qn T F a a0 a1 ha hm (gm) hT hw h4) (by omega) (by omega) (fun v17 hc17 q17 => ?_)
    obtain ⟨frc18, f4_18, mwa18, hd18⟩ := q17
    have mfz19 : MF B [B + 1, B + 3] [] h hc17 := MF.of frc18 ((MF.rf [B + 1, B + 3] [] ma)).2.1 (Ni.c ⟨(ne11).s, (ne17).s⟩ (Ni.c ⟨(ne22).s, (ne26).s⟩ (Ni.n _))) (Ni.c ⟨(ne12).s, (ne18).s⟩ (Ni.c ⟨(ne23).s, (ne27).s⟩ (Ni.n _))) []
    have fk20_0 : hc17.2 (B) = some (mO B ((p : Int)) (hf) (le) (fc) (pn) (rn) (hn) (qn)) := Fr.at0 (mfz19).1 (Ni.c ⟨ne4, ne5⟩ (Ni.c ⟨ne0, ne1⟩ (Ni.c ⟨ne2, ne3⟩ (Ni.n _)))) hm
    have fk20_2 : hc17.2 (B + 7) = some (aJ 6400 (g7)) := Fr.at0 (mfz19).1 (Ni.c ⟨(ne31).s, (ne33).s⟩ (Ni.c ⟨(ne13).s, (ne19).s⟩ (Ni.c ⟨(ne24).s, (ne28).s⟩ (Ni.n _)))) h7
    have fk20_3 : hc17.2 (B + 8) = some (aI 11520 (g8)) := Fr.at0 (mfz19).1 (Ni.c ⟨(ne32).s, (ne34).s⟩ (Ni.c ⟨(ne14).s, (ne20).s⟩ (Ni.c ⟨(ne25).s, (ne29).s⟩ (Ni.n _)))) h8
    have fr20 : MF B [B + 1, B + 3] [] h hc17 := ((MF.rf [B + 1, B + 3] [] ma)).tr ((mfz19).mo (sub_c (List.Mem.head _) (sub_c (List.Mem.tail _ (List.Mem.head _)) sub_n)) sbI_n)
    obtain ⟨w18, T2_18, hO18, hv18, mp18⟩ : ∃ w T2, Ou T (rac1 hp 6 F) w T2 ∧ v17 = some (.int (gI w)) ∧ MP hp B hc17 T2 := by
      obtain ⟨w, y2, y3, y4⟩ := hd18
      exact ⟨w, _, ⟨y2, rfl⟩, y3, y4⟩
    subst hv18
    refine Go.nf (h' := hc17) (st' := [.int (gI (w18))]) rfl rfl (Nat.le_refl _) (Nat.le_refl _) ?_
    exact g_iret dX10_apply_286 rfl ⟨((fr20).1.mo (sub_c (List.Mem.tail _ (List.Mem.tail _ (List.Mem.head _))) (sub_c (List.Mem.head _) (sub_c (List.Mem.tail _ (List.Mem.head _)) sub_n)))), ⟨(fr20).2.1, mwa18, ⟨_, f4_18⟩, ⟨_, fk20_2⟩, ⟨_, fk20_3⟩⟩, w18, T2_18, (by rw [ap1_s (gT_s a0 a1 ha)]; exact hO18), rfl, mp18⟩
  · skip
    refine Go.nf (h' := h) (st' := [.int (gI (0))]) hq6 rfl (Nat.le_refl _) (Nat.le_refl _) ?_
    refine g_if_eq (tgt := 58) dX10_apply_42 rfl (by first | exact gW_a | exact gW_b | (unfold gW; omega) | (unfold gW; split <;> omega)) (fun c21 => ?_) (fun c21 => absurd c21 (by omega))
    refine g_iconst dX10_apply_58 ?_
    exact g_iret dX10_apply_59 rfl ⟨(((MF.rf [B + 1, B + 3] [] ma)).1.mo (sub_c (List.Mem.tail _ (List.Mem.tail _ (List.Mem.head _))) (sub_c (List.Mem.head _) (sub_c (List.Mem.tail _ (List.Mem.head _)) sub_n)))), ⟨((MF.rf [B + 1, B + 3] [] ma)).2.1, hw, ⟨_, h4⟩, ⟨_, h7⟩, ⟨_, h8⟩⟩, (-1), T, (by rw [ap1_n (gT_n na)]; exact ⟨rfl, rfl⟩), rfl, hT⟩
set_option maxHeartbeats 4000000 in
set_option maxRecDepth 100000 in
theorem sM_apply7 (N : GN) (h : GH) (B p : Nat) (hp : prm p) (hp2 : p ≤ 65536) (hf le fc pn rn hn qn : Int) (T : PT p) (a b : Int) (gW_a : gW a) (gW_b : gW b) (hm : h.2 B = some (mO B p hf le fc pn rn hn qn)) (hT : MP hp B h T) (ms : MS B h)  : Sp N yX10_apply mX10_apply 0 0 [.ref (B), .int (gI (7)), .int (gI (a)), .int (gI (b))] h (fun v h1 => Fr [B + 1, B + 3, B + 5, B + 7] h h1 ∧ MS B h1 ∧ ∃ w T2, Ou T (ap1 T a (rac1 hp 7)) w T2 ∧ v = some (.int (gI w)) ∧ MP hp B h1 T2) := by
  refine Sp.of (by decide) rfl rfl (Nat.le_of_ble_eq_true rfl) ?_
  show Go N mX10_apply _ 0 0 h 0 [(0, .ref (B)), (1, .int (gI (7))), (2, .int (gI (a))), (3, .int (gI (b)))] []
  have hp1 := hp.1
  have neA : NE B (B + 5) := by unfold NE; omega
  have neB : NE B (B + 6) := by unfold NE; omega
  have neC : NE (B + 5) (B + 6) := by unfold NE; omega
  have ne0 : NE (B) (B + 1) := by unfold NE; omega
  have ne1 : NE (B) (B + 2) := by unfold NE; omega
  have ne2 : NE (B) (B + 3) := by unfold NE; omega
  have ne3 : NE (B) (B + 4) := by unfold NE; omega
  have ne4 : NE (B) (B + 5) := by unfold NE; omega
  have ne5 : NE (B) (B + 6) := by unfold NE; omega
  have ne6 : NE (B) (B + 7) := by unfold NE; omega
  have ne7 : NE (B) (B + 8) := by unfold NE; omega
  have ne8 : NE (B + 1) (B + 2) := by unfold NE; omega
  have ne9 : NE (B + 1) (B + 3) := by unfold NE; omega
  have ne10 : NE (B + 1) (B + 4) := by unfold NE; omega
  have ne11 : NE (B + 1) (B + 5) := by unfold NE; omega
  have ne12 : NE (B + 1) (B + 6) := by unfold NE; omega
  have ne13 : NE (B + 1) (B + 7) := by unfold NE; omega
  have ne14 : NE (B + 1) (B + 8) := by unfold NE; omega
  have ne15 : NE (B + 2) (B + 3) := by unfold NE; omega
  have ne16 : NE (B + 2) (B + 4) := by unfold NE; omega
  have ne17 : NE (B + 2) (B + 5) := by unfold NE; omega
  have ne18 : NE (B + 2) (B + 6) := by unfold NE; omega
  have ne19 : NE (B + 2) (B + 7) := by unfold NE; omega
  have ne20 : NE (B + 2) (B + 8) := by unfold NE; omega
  have ne21 : NE (B + 3) (B + 4) := by unfold NE; omega
  have ne22 : NE (B + 3) (B + 5) := by unfold NE; omega
  have ne23 : NE (B + 3) (B + 6) := by unfold NE; omega
  have ne24 : NE (B + 3) (B + 7) := by unfold NE; omega
  have ne25 : NE (B + 3) (B + 8) := by unfold NE; omega
  have ne26 : NE (B + 4) (B + 5) := by unfold NE; omega
  have ne27 : NE (B + 4) (B + 6) := by unfold NE; omega
  have ne28 : NE (B + 4) (B + 7) := by unfold NE; omega
  have ne29 : NE (B + 4) (B + 8) := by unfold NE; omega
  have ne30 : NE (B + 5) (B + 6) := by unfold NE; omega
  have ne31 : NE (B + 5) (B + 7) := by unfold NE; omega
  have ne32 : NE (B + 5) (B + 8) := by unfold NE; omega
  have ne33 : NE (B + 6) (B + 7) := by unfold NE; omega
  have ne34 : NE (B + 6) (B + 8) := by unfold NE; omega
  have ne35 : NE (B + 7) (B + 8) := by unfold NE; omega
  obtain ⟨ma, hw, ⟨gm, h4⟩, ⟨g7, h7⟩, ⟨g8, h8⟩⟩ := ms
  refine g_iload_n 1 dX10_apply_0 rfl ?_
  refine g_if_lt (tgt := 10) dX10_apply_1 rfl (by first | exact gW_a | exact gW_b | (unfold gW; omega) | (unfold gW; split <;> omega)) (fun c1 => absurd c1 (by omega)) (fun c1 => ?_)
  refine g_iload_n 1 dX10_apply_4 rfl ?_
  refine g_bipush dX10_apply_5 (by decide) ?_
  refine g_icmp_le (tgt := 13) dX10_apply_7 rfl (by first | exact gW_a | exact gW_b | (unfold gW; omega) | (unfold gW; split <;> omega)) (by first | exact gW_a | exact gW_b | (unfold gW; omega) | (unfold gW; split <;> omega)) (fun c2 => ?_) (fun c2 => absurd c2 (by omega))
  refine g_iload_n 1 dX10_apply_13 rfl ?_
  refine g_iconst dX10_apply_14 ?_
  refine g_icmp_eq (tgt := 30) dX10_apply_15 rfl (by first | exact gW_a | exact gW_b | (unfold gW; omega) | (unfold gW; split <;> omega)) (by first | exact gW_a | exact gW_b | (unfold gW; omega) | (unfold gW; split <;> omega)) (fun c3 => absurd c3 (by omega)) (fun c3 => ?_)
  refine g_iload_n 1 dX10_apply_18 rfl ?_
  refine g_bipush dX10_apply_19 (by decide) ?_
  refine g_icmp_eq (tgt := 30) dX10_apply_21 rfl (by first | exact gW_a | exact gW_b | (unfold gW; omega) | (unfold gW; split <;> omega)) (by first | exact gW_a | exact gW_b | (unfold gW; omega) | (unfold gW; split <;> omega)) (fun c4 => absurd c4 (by omega)) (fun c4 => ?_)
  refine g_iload_n 1 dX10_apply_24 rfl ?_
  refine g_bipush dX10_apply_25 (by decide) ?_
  refine g_icmp_ne (tgt := 34) dX10_apply_27 rfl (by first | exact gW_a | exact gW_b | (unfold gW; omega) | (unfold gW; split <;> omega)) (by first | exact gW_a | exact gW_b | (unfold gW; omega) | (unfold gW; split <;> omega)) (fun c5 => absurd c5 (by omega)) (fun c5 => ?_)
  refine g_iconst dX10_apply_30 ?_
  refine g_goto (tgt := 35) dX10_apply_31 rfl ?_
  refine g_istore (ls2 := [(4, .int (gI (1))), (0, .ref (B)), (1, .int (gI (7))), (2, .int (gI (a))), (3, .int (gI (b)))]) dX10_apply_35 (by decide) rfl ?_
  refine g_aload_n 1 dX10_apply_37 rfl ?_
  refine g_iload_n 3 dX10_apply_38 rfl ?_
  refine g_callV (nc2 := 0) (ns2 := 0) (ci := 10) (As := [.int (gI (a))]) (st := []) rfl dX10_apply_39 okX10_isPlace lX10_118 itX10_isPlace seX10_isPlace rfl hm (by decide) (by decide) rfl (Nat.le_of_ble_eq_true rfl) (sM_isPlace N _ B p hp hp2 hf le fc pn rn hn qn T (a) gW_a hm hT) (by omega) (by omega) (fun v6 hc6 q6 => ?_)
  obtain ⟨hq7, hr7⟩ := q6
  rcases hr7 with ⟨rfl, a0, a1, F, ha⟩ | ⟨rfl, na⟩
  · skip
    refine Go.nf (h' := h) (st' := [.int (gI (1))]) hq7 rfl (Nat.le_refl _) (Nat.le_refl _) ?_
    refine g_if_eq (tgt := 58) dX10_apply_42 rfl (by first | exact gW_a | exact gW_b | (unfold gW; omega) | (unfold gW; split <;> omega)) (fun c8 => absurd c8 (by omega)) (fun c8 => ?_)
    refine g_iload 0 dX10_apply_45 rfl ?_
    refine g_if_ne (tgt := 60) dX10_apply_47 rfl (by first | exact gW_a | exact gW_b | (unfold gW; omega) | (unfold gW; split <;> omega)) (fun c9 => ?_) (fun c9 => absurd c9 (by omega))
    refine g_iload_n 2 dX10_apply_60 rfl ?_
    refine g_bipush dX10_apply_61 (by decide) ?_
    refine g_icmp_lt (tgt := 91) dX10_apply_63 rfl (by first | exact gW_a | exact gW_b | (unfold gW; omega) | (unfold gW; split <;> omega)) (by first | exact gW_a | exact gW_b | (unfold gW; omega) | (unfold gW; split <;> omega)) (fun c10 => ?_) (fun c10 => absurd c10 (by omega))
    refine g_iload_n 2 dX10_apply_91 rfl ?_
    refine g_iconst dX10_apply_92 ?_
    refine g_icmp_le (tgt := 101) dX10_apply_93 rfl (by first | exact gW_a | exact gW_b | (unfold gW; omega) | (unfold gW; split <;> omega)) (by first | exact gW_a | exact gW_b | (unfold gW; omega) | (unfold gW; split <;> omega)) (fun c11 => absurd c11 (by omega)) (fun c11 => ?_)
    refine g_iload_n 2 dX10_apply_96 rfl ?_
    refine g_iconst dX10_apply_97 ?_
    refine g_icmp_ne (tgt := 225) dX10_apply_98 rfl (by first | exact gW_a | exact gW_b | (unfold gW; omega) | (unfold gW; split <;> omega)) (by first | exact gW_a | exact gW_b | (unfold gW; omega) | (unfold gW; split <;> omega)) (fun c12 => ?_) (fun c12 => absurd c12 (by omega))
    refine g_iload_n 2 dX10_apply_225 rfl ?_
    refine g_iconst dX10_apply_226 ?_
    refine g_icmp_ne (tgt := 237) dX10_apply_227 rfl (by first | exact gW_a | exact gW_b | (unfold gW; omega) | (unfold gW; split <;> omega)) (by first | exact gW_a | exact gW_b | (unfold gW; omega) | (unfold gW; split <;> omega)) (fun c13 => ?_) (fun c13 => absurd c13 (by omega))
    refine g_iload_n 2 dX10_apply_237 rfl ?_
    refine g_iconst dX10_apply_238 ?_
    refine g_icmp_eq (tgt := 247) dX10_apply_239 rfl (by first | exact gW_a | exact gW_b | (unfold gW; omega) | (unfold gW; split <;> omega)) (by first | exact gW_a | exact gW_b | (unfold gW; omega) | (unfold gW; split <;> omega)) (fun c14 => absurd c14 (by omega)) (fun c14 => ?_)
    refine g_iload_n 2 dX10_apply_242 rfl ?_
    refine g_iconst dX10_apply_243 ?_
    refine g_icmp_ne (tgt := 264) dX10_apply_244 rfl (by first | exact gW_a | exact gW_b | (unfold gW; omega) | (unfold gW; split <;> omega)) (by first | exact gW_a | exact gW_b | (unfold gW; omega) | (unfold gW; split <;> omega)) (fun c15 => ?_) (fun c15 => absurd c15 (by omega))
    refine g_iload_n 2 dX10_apply_264 rfl ?_
    refine g_bipush dX10_apply_265 (by decide) ?_
    refine g_icmp_gt (tgt := 287) dX10_apply_267 rfl (by first | exact gW_a | exact gW_b | (unfold gW; omega) | (unfold gW; split <;> omega)) (by first | exact gW_a | exact gW_b | (unfold gW; omega) | (unfold gW; split <;> omega)) (fun c16 => absurd c16 (by omega)) (fun c16 => ?_)
    refine g_aload_n 1 dX10_apply_270 rfl ?_
    refine g_iload_n 3 dX10_apply_271 rfl ?_
    refine g_iload_n 2 dX10_apply_272 rfl ?_
    refine g_bipush dX10_apply_273 (by decide) ?_
    refine g_icmp_ne (tgt := 282) dX10_apply_275 rfl (by first | exact gW_a | exact gW_b | (unfold gW; omega) | (unfold gW; split <;> omega)) (by first | exact gW_a | exact gW_b | (unfold gW; omega) | (unfold gW; split <;> omega)) (fun c17 => ?_) (fun c17 => absurd c17 (by omega))
    refine g_iconst dX10_apply_282 ?_
    refine g_callV (nc2 := 0) (ns2 := 0) (ci := 10) (As := [.int (gI (a)), .int (gI (0))]) (st := []) rfl dX10_apply_283 okX10_derivative lX10_137 itX10_derivative seX10_derivative rfl hm (by decide) (by decide) rfl (Nat.le_of_ble_eq_true rfl) (sM_derivativeY N _ B p hp hp2 hf le fc pn rn hn qn T F a a0 a1 ha hm (gm) hT hw h4) (by omega) (by omega) (fun v18 hc18 q18 => ?_)
    obtain ⟨frc19, f4_19, mwa19, hd19⟩ := q18
    have mfz20 : MF B [B + 1, B + 3] [] h hc18 := MF.of frc19 ((MF.rf [B + 1, B + 3] [] ma)).2.1 (Ni.c ⟨(ne11).s, (ne17).s⟩ (Ni.c ⟨(ne22).s, (ne26).s⟩ (Ni.n _))) (Ni.c ⟨(ne12).s, (ne18).s⟩ (Ni.c ⟨(ne23).s, (ne27).s⟩ (Ni.n _))) []
    have fk21_0 : hc18.2 (B) = some (mO B ((p : Int)) (hf) (le) (fc) (pn) (rn) (hn) (qn)) := Fr.at0 (mfz20).1 (Ni.c ⟨ne4, ne5⟩ (Ni.c ⟨ne0, ne1⟩ (Ni.c ⟨ne2, ne3⟩ (Ni.n _)))) hm
    have fk21_2 : hc18.2 (B + 7) = some (aJ 6400 (g7)) := Fr.at0 (mfz20).1 (Ni.c ⟨(ne31).s, (ne33).s⟩ (Ni.c ⟨(ne13).s, (ne19).s⟩ (Ni.c ⟨(ne24).s, (ne28).s⟩ (Ni.n _)))) h7
    have fk21_3 : hc18.2 (B + 8) = some (aI 11520 (g8)) := Fr.at0 (mfz20).1 (Ni.c ⟨(ne32).s, (ne34).s⟩ (Ni.c ⟨(ne14).s, (ne20).s⟩ (Ni.c ⟨(ne25).s, (ne29).s⟩ (Ni.n _)))) h8
    have fr21 : MF B [B + 1, B + 3] [] h hc18 := ((MF.rf [B + 1, B + 3] [] ma)).tr ((mfz20).mo (sub_c (List.Mem.head _) (sub_c (List.Mem.tail _ (List.Mem.head _)) sub_n)) sbI_n)
    obtain ⟨w19, T2_19, hO19, hv19, mp19⟩ : ∃ w T2, Ou T (rac1 hp 7 F) w T2 ∧ v18 = some (.int (gI w)) ∧ MP hp B hc18 T2 := by
      obtain ⟨w, y2, y3, y4⟩ := hd19
      exact ⟨w, _, ⟨y2, rfl⟩, y3, y4⟩
    subst hv19
    refine Go.nf (h' := hc18) (st' := [.int (gI (w19))]) rfl rfl (Nat.le_refl _) (Nat.le_refl _) ?_
    exact g_iret dX10_apply_286 rfl ⟨((fr21).1.mo (sub_c (List.Mem.tail _ (List.Mem.tail _ (List.Mem.head _))) (sub_c (List.Mem.head _) (sub_c (List.Mem.tail _ (List.Mem.head _)) sub_n)))), ⟨(fr21).2.1, mwa19, ⟨_, f4_19⟩, ⟨_, fk21_2⟩, ⟨_, fk21_3⟩⟩, w19, T2_19, (by rw [ap1_s (gT_s a0 a1 ha)]; exact hO19), rfl, mp19⟩
  · skip
    refine Go.nf (h' := h) (st' := [.int (gI (0))]) hq7 rfl (Nat.le_refl _) (Nat.le_refl _) ?_
    refine g_if_eq (tgt := 58) dX10_apply_42 rfl (by first | exact gW_a | exact gW_b | (unfold gW; omega) | (unfold gW; split <;> omega)) (fun c22 => ?_) (fun c22 => absurd c22 (by omega))
    refine g_iconst dX10_apply_58 ?_
    exact g_iret dX10_apply_59 rfl ⟨(((MF.rf [B + 1, B + 3] [] ma)).1.mo (sub_c (List.Mem.tail _ (List.Mem.tail _ (List.Mem.head _))) (sub_c (List.Mem.head _) (sub_c (List.Mem.tail _ (List.Mem.head _)) sub_n)))), ⟨((MF.rf [B + 1, B + 3] [] ma)).2.1, hw, ⟨_, h4⟩, ⟨_, h7⟩, ⟨_, h8⟩⟩, (-1), T, (by rw [ap1_n (gT_n na)]; exact ⟨rfl, rfl⟩), rfl, hT⟩
set_option maxHeartbeats 4000000 in
set_option maxRecDepth 100000 in
theorem sM_apply8 (N : GN) (h : GH) (B p : Nat) (hp : prm p) (hp2 : p ≤ 65536) (hf le fc pn rn hn qn : Int) (T : PT p) (a b : Int) (gW_a : gW a) (gW_b : gW b) (hm : h.2 B = some (mO B p hf le fc pn rn hn qn)) (hT : MP hp B h T) (ms : MS B h)  : Sp N yX10_apply mX10_apply 0 0 [.ref (B), .int (gI (8)), .int (gI (a)), .int (gI (b))] h (fun v h1 => Fr [B + 1, B + 3, B + 5, B + 7] h h1 ∧ MS B h1 ∧ ∃ w T2, Ou T (ap2 T a b (rac hp 8)) w T2 ∧ v = some (.int (gI w)) ∧ MP hp B h1 T2) := by
  refine Sp.of (by decide) rfl rfl (Nat.le_of_ble_eq_true rfl) ?_
  show Go N mX10_apply _ 0 0 h 0 [(0, .ref (B)), (1, .int (gI (8))), (2, .int (gI (a))), (3, .int (gI (b)))] []
  have hp1 := hp.1
  have neA : NE B (B + 5) := by unfold NE; omega
  have neB : NE B (B + 6) := by unfold NE; omega
  have neC : NE (B + 5) (B + 6) := by unfold NE; omega
  have ne0 : NE (B) (B + 1) := by unfold NE; omega
  have ne1 : NE (B) (B + 2) := by unfold NE; omega
  have ne2 : NE (B) (B + 3) := by unfold NE; omega
  have ne3 : NE (B) (B + 4) := by unfold NE; omega
  have ne4 : NE (B) (B + 5) := by unfold NE; omega
  have ne5 : NE (B) (B + 6) := by unfold NE; omega
  have ne6 : NE (B) (B + 7) := by unfold NE; omega
  have ne7 : NE (B) (B + 8) := by unfold NE; omega
  have ne8 : NE (B + 1) (B + 2) := by unfold NE; omega
  have ne9 : NE (B + 1) (B + 3) := by unfold NE; omega
  have ne10 : NE (B + 1) (B + 4) := by unfold NE; omega
  have ne11 : NE (B + 1) (B + 5) := by unfold NE; omega
  have ne12 : NE (B + 1) (B + 6) := by unfold NE; omega
  have ne13 : NE (B + 1) (B + 7) := by unfold NE; omega
  have ne14 : NE (B + 1) (B + 8) := by unfold NE; omega
  have ne15 : NE (B + 2) (B + 3) := by unfold NE; omega
  have ne16 : NE (B + 2) (B + 4) := by unfold NE; omega
  have ne17 : NE (B + 2) (B + 5) := by unfold NE; omega
  have ne18 : NE (B + 2) (B + 6) := by unfold NE; omega
  have ne19 : NE (B + 2) (B + 7) := by unfold NE; omega
  have ne20 : NE (B + 2) (B + 8) := by unfold NE; omega
  have ne21 : NE (B + 3) (B + 4) := by unfold NE; omega
  have ne22 : NE (B + 3) (B + 5) := by unfold NE; omega
  have ne23 : NE (B + 3) (B + 6) := by unfold NE; omega
  have ne24 : NE (B + 3) (B + 7) := by unfold NE; omega
  have ne25 : NE (B + 3) (B + 8) := by unfold NE; omega
  have ne26 : NE (B + 4) (B + 5) := by unfold NE; omega
  have ne27 : NE (B + 4) (B + 6) := by unfold NE; omega
  have ne28 : NE (B + 4) (B + 7) := by unfold NE; omega
  have ne29 : NE (B + 4) (B + 8) := by unfold NE; omega
  have ne30 : NE (B + 5) (B + 6) := by unfold NE; omega
  have ne31 : NE (B + 5) (B + 7) := by unfold NE; omega
  have ne32 : NE (B + 5) (B + 8) := by unfold NE; omega
  have ne33 : NE (B + 6) (B + 7) := by unfold NE; omega
  have ne34 : NE (B + 6) (B + 8) := by unfold NE; omega
  have ne35 : NE (B + 7) (B + 8) := by unfold NE; omega
  obtain ⟨ma, hw, ⟨gm, h4⟩, ⟨g7, h7⟩, ⟨g8, h8⟩⟩ := ms
  refine g_iload_n 1 dX10_apply_0 rfl ?_
  refine g_if_lt (tgt := 10) dX10_apply_1 rfl (by first | exact gW_a | exact gW_b | (unfold gW; omega) | (unfold gW; split <;> omega)) (fun c1 => absurd c1 (by omega)) (fun c1 => ?_)
  refine g_iload_n 1 dX10_apply_4 rfl ?_
  refine g_bipush dX10_apply_5 (by decide) ?_
  refine g_icmp_le (tgt := 13) dX10_apply_7 rfl (by first | exact gW_a | exact gW_b | (unfold gW; omega) | (unfold gW; split <;> omega)) (by first | exact gW_a | exact gW_b | (unfold gW; omega) | (unfold gW; split <;> omega)) (fun c2 => ?_) (fun c2 => absurd c2 (by omega))
  refine g_iload_n 1 dX10_apply_13 rfl ?_
  refine g_iconst dX10_apply_14 ?_
  refine g_icmp_eq (tgt := 30) dX10_apply_15 rfl (by first | exact gW_a | exact gW_b | (unfold gW; omega) | (unfold gW; split <;> omega)) (by first | exact gW_a | exact gW_b | (unfold gW; omega) | (unfold gW; split <;> omega)) (fun c3 => absurd c3 (by omega)) (fun c3 => ?_)
  refine g_iload_n 1 dX10_apply_18 rfl ?_
  refine g_bipush dX10_apply_19 (by decide) ?_
  refine g_icmp_eq (tgt := 30) dX10_apply_21 rfl (by first | exact gW_a | exact gW_b | (unfold gW; omega) | (unfold gW; split <;> omega)) (by first | exact gW_a | exact gW_b | (unfold gW; omega) | (unfold gW; split <;> omega)) (fun c4 => absurd c4 (by omega)) (fun c4 => ?_)
  refine g_iload_n 1 dX10_apply_24 rfl ?_
  refine g_bipush dX10_apply_25 (by decide) ?_
  refine g_icmp_ne (tgt := 34) dX10_apply_27 rfl (by first | exact gW_a | exact gW_b | (unfold gW; omega) | (unfold gW; split <;> omega)) (by first | exact gW_a | exact gW_b | (unfold gW; omega) | (unfold gW; split <;> omega)) (fun c5 => ?_) (fun c5 => absurd c5 (by omega))
  refine g_iconst dX10_apply_34 ?_
  refine g_istore (ls2 := [(4, .int (gI (0))), (0, .ref (B)), (1, .int (gI (8))), (2, .int (gI (a))), (3, .int (gI (b)))]) dX10_apply_35 (by decide) rfl ?_
  refine g_aload_n 1 dX10_apply_37 rfl ?_
  refine g_iload_n 3 dX10_apply_38 rfl ?_
  refine g_callV (nc2 := 0) (ns2 := 0) (ci := 10) (As := [.int (gI (a))]) (st := []) rfl dX10_apply_39 okX10_isPlace lX10_118 itX10_isPlace seX10_isPlace rfl hm (by decide) (by decide) rfl (Nat.le_of_ble_eq_true rfl) (sM_isPlace N _ B p hp hp2 hf le fc pn rn hn qn T (a) gW_a hm hT) (by omega) (by omega) (fun v6 hc6 q6 => ?_)
  obtain ⟨hq7, hr7⟩ := q6
  rcases hr7 with ⟨rfl, a0, a1, F, ha⟩ | ⟨rfl, na⟩
  · skip
    refine Go.nf (h' := h) (st' := [.int (gI (1))]) hq7 rfl (Nat.le_refl _) (Nat.le_refl _) ?_
    refine g_if_eq (tgt := 58) dX10_apply_42 rfl (by first | exact gW_a | exact gW_b | (unfold gW; omega) | (unfold gW; split <;> omega)) (fun c8 => absurd c8 (by omega)) (fun c8 => ?_)
    refine g_iload 0 dX10_apply_45 rfl ?_
    refine g_if_ne (tgt := 60) dX10_apply_47 rfl (by first | exact gW_a | exact gW_b | (unfold gW; omega) | (unfold gW; split <;> omega)) (fun c9 => absurd c9 (by omega)) (fun c9 => ?_)
    refine g_aload_n 1 dX10_apply_50 rfl ?_
    refine g_iload_n 4 dX10_apply_51 rfl ?_
    refine g_callV (nc2 := 0) (ns2 := 0) (ci := 10) (As := [.int (gI (b))]) (st := []) rfl dX10_apply_52 okX10_isPlace lX10_118 itX10_isPlace seX10_isPlace rfl hm (by decide) (by decide) rfl (Nat.le_of_ble_eq_true rfl) (sM_isPlace N _ B p hp hp2 hf le fc pn rn hn qn T (b) gW_b hm hT) (by omega) (by omega) (fun v10 hc10 q10 => ?_)
    obtain ⟨hq11, hr11⟩ := q10
    rcases hr11 with ⟨rfl, b0, b1, G, hb⟩ | ⟨rfl, nb⟩
    · skip
      refine Go.nf (h' := h) (st' := [.int (gI (1))]) hq11 rfl (Nat.le_refl _) (Nat.le_refl _) ?_
      refine g_if_ne (tgt := 60) dX10_apply_55 rfl (by first | exact gW_a | exact gW_b | (unfold gW; omega) | (unfold gW; split <;> omega)) (fun c12 => ?_) (fun c12 => absurd c12 (by omega))
      refine g_iload_n 2 dX10_apply_60 rfl ?_
      refine g_bipush dX10_apply_61 (by decide) ?_
      refine g_icmp_lt (tgt := 91) dX10_apply_63 rfl (by first | exact gW_a | exact gW_b | (unfold gW; omega) | (unfold gW; split <;> omega)) (by first | exact gW_a | exact gW_b | (unfold gW; omega) | (unfold gW; split <;> omega)) (fun c13 => absurd c13 (by omega)) (fun c13 => ?_)
      refine g_iload_n 2 dX10_apply_66 rfl ?_
      refine g_bipush dX10_apply_67 (by decide) ?_
      refine g_icmp_eq (tgt := 91) dX10_apply_69 rfl (by first | exact gW_a | exact gW_b | (unfold gW; omega) | (unfold gW; split <;> omega)) (by first | exact gW_a | exact gW_b | (unfold gW; omega) | (unfold gW; split <;> omega)) (fun c14 => absurd c14 (by omega)) (fun c14 => ?_)
      refine g_aload_n 1 dX10_apply_72 rfl ?_
      refine g_iload_n 3 dX10_apply_73 rfl ?_
      refine g_callV (nc2 := 0) (ns2 := 0) (ci := 10) (As := [.int (gI (a))]) (st := []) rfl dX10_apply_74 okX10_isPlain lX10_126 itX10_isPlain seX10_isPlain rfl hm (by decide) (by decide) rfl (Nat.le_of_ble_eq_true rfl) (sM_isPlain N _ B p hp hp2 hf le fc pn rn hn qn T F a a0 a1 ha hm hT) (by omega) (by omega) (fun v15 hc15 q15 => ?_)
      obtain ⟨hq16, rfl⟩ := q15
      refine Go.nf (h' := h) (st' := [.int (gI (if dY hp F < 1 then 1 else 0))]) hq16 rfl (Nat.le_refl _) (Nat.le_refl _) ?_
      refine g_if_eq (tgt := 88) dX10_apply_77 rfl (by first | exact gW_a | exact gW_b | (unfold gW; omega) | (unfold gW; split <;> omega)) (fun c17 => ?_) (fun c17 => ?_)
      · skip
        have hyF : ¬ dY hp F < 1 := fun z => by rw [if_pos z] at c17; omega
        clear c17
        refine g_bipush dX10_apply_88 (by decide) ?_
        exact g_iret dX10_apply_90 rfl ⟨(((MF.rf [B + 1, B + 3] [0, 1] ma)).1.mo (sub_c (List.Mem.tail _ (List.Mem.tail _ (List.Mem.head _))) (sub_c (List.Mem.head _) (sub_c (List.Mem.tail _ (List.Mem.head _)) sub_n)))), ⟨((MF.rf [B + 1, B + 3] [0, 1] ma)).2.1, hw, ⟨_, h4⟩, ⟨_, h7⟩, ⟨_, h8⟩⟩, (-2), T, (by rw [ap2_s (gT_s a0 a1 ha) (gT_s b0 b1 hb)]; exact (by show Ou T (pl2 hp F G _) _ _; unfold pl2; rw [if_neg (by omega)]; exact ⟨rfl, rfl⟩)), rfl, hT⟩
      · skip
        have hyF : dY hp F < 1 := by
          by_cases z : dY hp F < 1
          · exact z
          · rw [if_neg z] at c17; omega
        clear c17
        refine g_aload_n 1 dX10_apply_80 rfl ?_
        refine g_iload_n 4 dX10_apply_81 rfl ?_
        refine g_callV (nc2 := 0) (ns2 := 0) (ci := 10) (As := [.int (gI (b))]) (st := []) rfl dX10_apply_82 okX10_isPlain lX10_126 itX10_isPlain seX10_isPlain rfl hm (by decide) (by decide) rfl (Nat.le_of_ble_eq_true rfl) (sM_isPlain N _ B p hp hp2 hf le fc pn rn hn qn T G b b0 b1 hb hm hT) (by omega) (by omega) (fun v18 hc18 q18 => ?_)
        obtain ⟨hq19, rfl⟩ := q18
        refine Go.nf (h' := h) (st' := [.int (gI (if dY hp G < 1 then 1 else 0))]) hq19 rfl (Nat.le_refl _) (Nat.le_refl _) ?_
        refine g_if_ne (tgt := 91) dX10_apply_85 rfl (by first | exact gW_a | exact gW_b | (unfold gW; omega) | (unfold gW; split <;> omega)) (fun c20 => ?_) (fun c20 => ?_)
        · skip
          have hyG : dY hp G < 1 := by
            by_cases z : dY hp G < 1
            · exact z
            · rw [if_neg z] at c20; omega
          clear c20
          refine g_iload_n 2 dX10_apply_91 rfl ?_
          refine g_iconst dX10_apply_92 ?_
          refine g_icmp_le (tgt := 101) dX10_apply_93 rfl (by first | exact gW_a | exact gW_b | (unfold gW; omega) | (unfold gW; split <;> omega)) (by first | exact gW_a | exact gW_b | (unfold gW; omega) | (unfold gW; split <;> omega)) (fun c21 => absurd c21 (by omega)) (fun c21 => ?_)
          refine g_iload_n 2 dX10_apply_96 rfl ?_
          refine g_iconst dX10_apply_97 ?_
          refine g_icmp_ne (tgt := 225) dX10_apply_98 rfl (by first | exact gW_a | exact gW_b | (unfold gW; omega) | (unfold gW; split <;> omega)) (by first | exact gW_a | exact gW_b | (unfold gW; omega) | (unfold gW; split <;> omega)) (fun c22 => ?_) (fun c22 => absurd c22 (by omega))
          refine g_iload_n 2 dX10_apply_225 rfl ?_
          refine g_iconst dX10_apply_226 ?_
          refine g_icmp_ne (tgt := 237) dX10_apply_227 rfl (by first | exact gW_a | exact gW_b | (unfold gW; omega) | (unfold gW; split <;> omega)) (by first | exact gW_a | exact gW_b | (unfold gW; omega) | (unfold gW; split <;> omega)) (fun c23 => ?_) (fun c23 => absurd c23 (by omega))
          refine g_iload_n 2 dX10_apply_237 rfl ?_
          refine g_iconst dX10_apply_238 ?_
          refine g_icmp_eq (tgt := 247) dX10_apply_239 rfl (by first | exact gW_a | exact gW_b | (unfold gW; omega) | (unfold gW; split <;> omega)) (by first | exact gW_a | exact gW_b | (unfold gW; omega) | (unfold gW; split <;> omega)) (fun c24 => absurd c24 (by omega)) (fun c24 => ?_)
          refine g_iload_n 2 dX10_apply_242 rfl ?_
          refine g_iconst dX10_apply_243 ?_
          refine g_icmp_ne (tgt := 264) dX10_apply_244 rfl (by first | exact gW_a | exact gW_b | (unfold gW; omega) | (unfold gW; split <;> omega)) (by first | exact gW_a | exact gW_b | (unfold gW; omega) | (unfold gW; split <;> omega)) (fun c25 => ?_) (fun c25 => absurd c25 (by omega))
          refine g_iload_n 2 dX10_apply_264 rfl ?_
          refine g_bipush dX10_apply_265 (by decide) ?_
          refine g_icmp_gt (tgt := 287) dX10_apply_267 rfl (by first | exact gW_a | exact gW_b | (unfold gW; omega) | (unfold gW; split <;> omega)) (by first | exact gW_a | exact gW_b | (unfold gW; omega) | (unfold gW; split <;> omega)) (fun c26 => ?_) (fun c26 => absurd c26 (by omega))
          refine g_iload_n 2 dX10_apply_287 rfl ?_
          refine g_bipush dX10_apply_288 (by decide) ?_
          refine g_icmp_ne (tgt := 300) dX10_apply_290 rfl (by first | exact gW_a | exact gW_b | (unfold gW; omega) | (unfold gW; split <;> omega)) (by first | exact gW_a | exact gW_b | (unfold gW; omega) | (unfold gW; split <;> omega)) (fun c27 => ?_) (fun c27 => absurd c27 (by omega))
          refine g_aload_n 1 dX10_apply_300 rfl ?_
          refine g_iload_n 3 dX10_apply_301 rfl ?_
          refine g_iconst dX10_apply_302 ?_
          refine g_callV (nc2 := 0) (ns2 := 0) (ci := 10) (As := [.int (gI (a)), .int (gI (0))]) (st := []) rfl dX10_apply_303 okX10_toRegister lX10_144 itX10_toRegister seX10_toRegister rfl hm (by decide) (by decide) rfl (Nat.le_of_ble_eq_true rfl) (sM_toRegister N _ B p hp hp2 hf le fc pn rn hn qn T (F) (a) (0) (by omega) a0 a1 ha hm ((MF.rf [B + 1, B + 3] [0, 1] ma)).2.1 hT) (by omega) (by omega) (fun v28 hc28 q28 => ?_)
          obtain ⟨rfl, mfc29, rn29_0⟩ := q28
          have fk30_0 : hc28.2 (B) = some (mO B ((p : Int)) (hf) (le) (fc) (pn) (rn) (hn) (qn)) := Fr.at0 (mfc29).1 (Ni.c ⟨ne4, ne5⟩ (Ni.n _)) hm
          have fk30_1 : hc28.2 (B + 4) = some (aI 1500 (gm)) := Fr.at0 (mfc29).1 (Ni.c ⟨ne26, ne27⟩ (Ni.n _)) h4
          have fk30_2 : hc28.2 (B + 7) = some (aJ 6400 (g7)) := Fr.at0 (mfc29).1 (Ni.c ⟨(ne31).s, (ne33).s⟩ (Ni.n _)) h7
          have fk30_3 : hc28.2 (B + 8) = some (aI 11520 (g8)) := Fr.at0 (mfc29).1 (Ni.c ⟨(ne32).s, (ne34).s⟩ (Ni.n _)) h8
          have rk30_0 : MP hp B hc28 (T) := (hT).fr (mfc29).1 (Ni.c ⟨ne11, ne12⟩ (Ni.n _)) (Ni.c ⟨ne17, ne18⟩ (Ni.n _))
          have rk30_1 : MWA B hc28 := (hw).fr (mfc29).1 (Ni.c ⟨ne22, ne23⟩ (Ni.n _))
          have fr30 : MF B [B + 1, B + 3] [0, 1] h hc28 := ((MF.rf [B + 1, B + 3] [0, 1] ma)).tr ((mfc29).mo sub_n (sbI_c (List.Mem.head _) sbI_n))
          refine Go.nf (h' := hc28) (st' := []) rfl rfl (Nat.le_refl _) (Nat.le_refl _) ?_
          refine g_aload_n 1 dX10_apply_306 rfl ?_
          refine g_iload_n 4 dX10_apply_307 rfl ?_
          refine g_iconst dX10_apply_308 ?_
          refine g_callV (nc2 := 0) (ns2 := 0) (ci := 10) (As := [.int (gI (b)), .int (gI (1))]) (st := []) rfl dX10_apply_309 okX10_toRegister lX10_144 itX10_toRegister seX10_toRegister rfl fk30_0 (by decide) (by decide) rfl (Nat.le_of_ble_eq_true rfl) (sM_toRegister N _ B p hp hp2 hf le fc pn rn hn qn T (G) (b) (1) (by omega) b0 b1 hb fk30_0 (fr30).2.1 rk30_0) (by omega) (by omega) (fun v31 hc31 q31 => ?_)
          obtain ⟨rfl, mfc32, rn32_0⟩ := q31
          have fk33_0 : hc31.2 (B) = some (mO B ((p : Int)) (hf) (le) (fc) (pn) (rn) (hn) (qn)) := Fr.at0 (mfc32).1 (Ni.c ⟨ne4, ne5⟩ (Ni.n _)) fk30_0
          have fk33_1 : hc31.2 (B + 4) = some (aI 1500 (gm)) := Fr.at0 (mfc32).1 (Ni.c ⟨ne26, ne27⟩ (Ni.n _)) fk30_1
          have fk33_2 : hc31.2 (B + 7) = some (aJ 6400 (g7)) := Fr.at0 (mfc32).1 (Ni.c ⟨(ne31).s, (ne33).s⟩ (Ni.n _)) fk30_2
          have fk33_3 : hc31.2 (B + 8) = some (aI 11520 (g8)) := Fr.at0 (mfc32).1 (Ni.c ⟨(ne32).s, (ne34).s⟩ (Ni.n _)) fk30_3
          have rk33_0 : MP hp B hc31 (T) := (rk30_0).fr (mfc32).1 (Ni.c ⟨ne11, ne12⟩ (Ni.n _)) (Ni.c ⟨ne17, ne18⟩ (Ni.n _))
          have rk33_1 : MWA B hc31 := (rk30_1).fr (mfc32).1 (Ni.c ⟨ne22, ne23⟩ (Ni.n _))
          have rk33_2 : MG hp B hc31 (0) (F 0) := (rn29_0).fr hp2 mfc32 (Nr.c (by omega) Nr.n)
          have fr33 : MF B [B + 1, B + 3] [0, 1] h hc31 := (fr30).tr ((mfc32).mo sub_n (sbI_c (List.Mem.tail _ (List.Mem.head _)) sbI_n))
          refine Go.nf (h' := hc31) (st' := []) rfl rfl (Nat.le_refl _) (Nat.le_refl _) ?_
          refine g_iload_n 2 dX10_apply_312 rfl ?_
          refine g_bipush dX10_apply_313 (by decide) ?_
          refine g_icmp_ne (tgt := 325) dX10_apply_315 rfl (by first | exact gW_a | exact gW_b | (unfold gW; omega) | (unfold gW; split <;> omega)) (by first | exact gW_a | exact gW_b | (unfold gW; omega) | (unfold gW; split <;> omega)) (fun c34 => ?_) (fun c34 => absurd c34 (by omega))
          refine g_aload_n 1 dX10_apply_325 rfl ?_
          refine g_iload_n 2 dX10_apply_326 rfl ?_
          refine g_callV (nc2 := 0) (ns2 := 0) (ci := 10) (As := [.int (gI (8))]) (st := []) rfl dX10_apply_327 okX10_plainAct lX10_151 itX10_plainAct seX10_plainAct rfl fk33_0 (by decide) (by decide) rfl (Nat.le_of_ble_eq_true rfl) (sM_plainAct8 N _ B p hp hp2 hf le fc pn rn hn qn T (F 0) (G 0) fk33_0 rk33_0 ⟨(fr33).2.1, rk33_1, ⟨_, fk33_1⟩, ⟨_, fk33_2⟩, ⟨_, fk33_3⟩⟩ rk33_2 rn32_0) (by omega) (by omega) (fun v35 hc35 q35 => ?_)
          obtain ⟨frc36, ms36, w36, T2_36, hO36, rfl, mp36⟩ := q35
          have frz36 := ((fr33).1.mo (sub_c (List.Mem.tail _ (List.Mem.tail _ (List.Mem.head _))) (sub_c (List.Mem.head _) (sub_c (List.Mem.tail _ (List.Mem.head _)) sub_n)))).tr frc36
          refine Go.nf (h' := hc35) (st' := [.int (gI (w36))]) rfl rfl (Nat.le_refl _) (Nat.le_refl _) ?_
          exact g_iret dX10_apply_330 rfl ⟨frz36, ms36, w36, T2_36, (by rw [ap2_s (gT_s a0 a1 ha) (gT_s b0 b1 hb)]; exact (by show Ou T (pl2 hp F G _) _ _; unfold pl2; rw [if_pos (by omega)]; exact hO36)), rfl, mp36⟩
        · skip
          have hyG : ¬ dY hp G < 1 := fun z => by rw [if_pos z] at c20; omega
          clear c20
          refine g_bipush dX10_apply_88 (by decide) ?_
          exact g_iret dX10_apply_90 rfl ⟨(((MF.rf [B + 1, B + 3] [0, 1] ma)).1.mo (sub_c (List.Mem.tail _ (List.Mem.tail _ (List.Mem.head _))) (sub_c (List.Mem.head _) (sub_c (List.Mem.tail _ (List.Mem.head _)) sub_n)))), ⟨((MF.rf [B + 1, B + 3] [0, 1] ma)).2.1, hw, ⟨_, h4⟩, ⟨_, h7⟩, ⟨_, h8⟩⟩, (-2), T, (by rw [ap2_s (gT_s a0 a1 ha) (gT_s b0 b1 hb)]; exact (by show Ou T (pl2 hp F G _) _ _; unfold pl2; rw [if_neg (by omega)]; exact ⟨rfl, rfl⟩)), rfl, hT⟩
    · skip
      refine Go.nf (h' := h) (st' := [.int (gI (0))]) hq11 rfl (Nat.le_refl _) (Nat.le_refl _) ?_
      refine g_if_ne (tgt := 60) dX10_apply_55 rfl (by first | exact gW_a | exact gW_b | (unfold gW; omega) | (unfold gW; split <;> omega)) (fun c37 => absurd c37 (by omega)) (fun c37 => ?_)
      refine g_iconst dX10_apply_58 ?_
      exact g_iret dX10_apply_59 rfl ⟨(((MF.rf [B + 1, B + 3] [0, 1] ma)).1.mo (sub_c (List.Mem.tail _ (List.Mem.tail _ (List.Mem.head _))) (sub_c (List.Mem.head _) (sub_c (List.Mem.tail _ (List.Mem.head _)) sub_n)))), ⟨((MF.rf [B + 1, B + 3] [0, 1] ma)).2.1, hw, ⟨_, h4⟩, ⟨_, h7⟩, ⟨_, h8⟩⟩, (-1), T, (by rw [ap2_nb (gT_n nb)]; exact ⟨rfl, rfl⟩), rfl, hT⟩
  · skip
    refine Go.nf (h' := h) (st' := [.int (gI (0))]) hq7 rfl (Nat.le_refl _) (Nat.le_refl _) ?_
    refine g_if_eq (tgt := 58) dX10_apply_42 rfl (by first | exact gW_a | exact gW_b | (unfold gW; omega) | (unfold gW; split <;> omega)) (fun c38 => ?_) (fun c38 => absurd c38 (by omega))
    refine g_iconst dX10_apply_58 ?_
    exact g_iret dX10_apply_59 rfl ⟨(((MF.rf [B + 1, B + 3] [0, 1] ma)).1.mo (sub_c (List.Mem.tail _ (List.Mem.tail _ (List.Mem.head _))) (sub_c (List.Mem.head _) (sub_c (List.Mem.tail _ (List.Mem.head _)) sub_n)))), ⟨((MF.rf [B + 1, B + 3] [0, 1] ma)).2.1, hw, ⟨_, h4⟩, ⟨_, h7⟩, ⟨_, h8⟩⟩, (-1), T, (by rw [ap2_na (gT_n na)]; exact ⟨rfl, rfl⟩), rfl, hT⟩
set_option maxHeartbeats 4000000 in
set_option maxRecDepth 100000 in
theorem sM_apply9 (N : GN) (h : GH) (B p : Nat) (hp : prm p) (hp2 : p ≤ 65536) (hf le fc pn rn hn qn : Int) (T : PT p) (a b : Int) (gW_a : gW a) (gW_b : gW b) (hm : h.2 B = some (mO B p hf le fc pn rn hn qn)) (hT : MP hp B h T) (ms : MS B h)  : Sp N yX10_apply mX10_apply 0 0 [.ref (B), .int (gI (9)), .int (gI (a)), .int (gI (b))] h (fun v h1 => Fr [B + 1, B + 3, B + 5, B + 7] h h1 ∧ MS B h1 ∧ ∃ w T2, Ou T (ap2 T a b (rac hp 9)) w T2 ∧ v = some (.int (gI w)) ∧ MP hp B h1 T2) := by
  refine Sp.of (by decide) rfl rfl (Nat.le_of_ble_eq_true rfl) ?_
  show Go N mX10_apply _ 0 0 h 0 [(0, .ref (B)), (1, .int (gI (9))), (2, .int (gI (a))), (3, .int (gI (b)))] []
  have hp1 := hp.1
  have neA : NE B (B + 5) := by unfold NE; omega
  have neB : NE B (B + 6) := by unfold NE; omega
  have neC : NE (B + 5) (B + 6) := by unfold NE; omega
  have ne0 : NE (B) (B + 1) := by unfold NE; omega
  have ne1 : NE (B) (B + 2) := by unfold NE; omega
  have ne2 : NE (B) (B + 3) := by unfold NE; omega
  have ne3 : NE (B) (B + 4) := by unfold NE; omega
  have ne4 : NE (B) (B + 5) := by unfold NE; omega
  have ne5 : NE (B) (B + 6) := by unfold NE; omega
  have ne6 : NE (B) (B + 7) := by unfold NE; omega
  have ne7 : NE (B) (B + 8) := by unfold NE; omega
  have ne8 : NE (B + 1) (B + 2) := by unfold NE; omega
  have ne9 : NE (B + 1) (B + 3) := by unfold NE; omega
  have ne10 : NE (B + 1) (B + 4) := by unfold NE; omega
  have ne11 : NE (B + 1) (B + 5) := by unfold NE; omega
  have ne12 : NE (B + 1) (B + 6) := by unfold NE; omega
  have ne13 : NE (B + 1) (B + 7) := by unfold NE; omega
  have ne14 : NE (B + 1) (B + 8) := by unfold NE; omega
  have ne15 : NE (B + 2) (B + 3) := by unfold NE; omega
  have ne16 : NE (B + 2) (B + 4) := by unfold NE; omega
  have ne17 : NE (B + 2) (B + 5) := by unfold NE; omega
  have ne18 : NE (B + 2) (B + 6) := by unfold NE; omega
  have ne19 : NE (B + 2) (B + 7) := by unfold NE; omega
  have ne20 : NE (B + 2) (B + 8) := by unfold NE; omega
  have ne21 : NE (B + 3) (B + 4) := by unfold NE; omega
  have ne22 : NE (B + 3) (B + 5) := by unfold NE; omega
  have ne23 : NE (B + 3) (B + 6) := by unfold NE; omega
  have ne24 : NE (B + 3) (B + 7) := by unfold NE; omega
  have ne25 : NE (B + 3) (B + 8) := by unfold NE; omega
  have ne26 : NE (B + 4) (B + 5) := by unfold NE; omega
  have ne27 : NE (B + 4) (B + 6) := by unfold NE; omega
  have ne28 : NE (B + 4) (B + 7) := by unfold NE; omega
  have ne29 : NE (B + 4) (B + 8) := by unfold NE; omega
  have ne30 : NE (B + 5) (B + 6) := by unfold NE; omega
  have ne31 : NE (B + 5) (B + 7) := by unfold NE; omega
  have ne32 : NE (B + 5) (B + 8) := by unfold NE; omega
  have ne33 : NE (B + 6) (B + 7) := by unfold NE; omega
  have ne34 : NE (B + 6) (B + 8) := by unfold NE; omega
  have ne35 : NE (B + 7) (B + 8) := by unfold NE; omega
  obtain ⟨ma, hw, ⟨gm, h4⟩, ⟨g7, h7⟩, ⟨g8, h8⟩⟩ := ms
  refine g_iload_n 1 dX10_apply_0 rfl ?_
  refine g_if_lt (tgt := 10) dX10_apply_1 rfl (by first | exact gW_a | exact gW_b | (unfold gW; omega) | (unfold gW; split <;> omega)) (fun c1 => absurd c1 (by omega)) (fun c1 => ?_)
  refine g_iload_n 1 dX10_apply_4 rfl ?_
  refine g_bipush dX10_apply_5 (by decide) ?_
  refine g_icmp_le (tgt := 13) dX10_apply_7 rfl (by first | exact gW_a | exact gW_b | (unfold gW; omega) | (unfold gW; split <;> omega)) (by first | exact gW_a | exact gW_b | (unfold gW; omega) | (unfold gW; split <;> omega)) (fun c2 => ?_) (fun c2 => absurd c2 (by omega))
  refine g_iload_n 1 dX10_apply_13 rfl ?_
  refine g_iconst dX10_apply_14 ?_
  refine g_icmp_eq (tgt := 30) dX10_apply_15 rfl (by first | exact gW_a | exact gW_b | (unfold gW; omega) | (unfold gW; split <;> omega)) (by first | exact gW_a | exact gW_b | (unfold gW; omega) | (unfold gW; split <;> omega)) (fun c3 => absurd c3 (by omega)) (fun c3 => ?_)
  refine g_iload_n 1 dX10_apply_18 rfl ?_
  refine g_bipush dX10_apply_19 (by decide) ?_
  refine g_icmp_eq (tgt := 30) dX10_apply_21 rfl (by first | exact gW_a | exact gW_b | (unfold gW; omega) | (unfold gW; split <;> omega)) (by first | exact gW_a | exact gW_b | (unfold gW; omega) | (unfold gW; split <;> omega)) (fun c4 => absurd c4 (by omega)) (fun c4 => ?_)
  refine g_iload_n 1 dX10_apply_24 rfl ?_
  refine g_bipush dX10_apply_25 (by decide) ?_
  refine g_icmp_ne (tgt := 34) dX10_apply_27 rfl (by first | exact gW_a | exact gW_b | (unfold gW; omega) | (unfold gW; split <;> omega)) (by first | exact gW_a | exact gW_b | (unfold gW; omega) | (unfold gW; split <;> omega)) (fun c5 => ?_) (fun c5 => absurd c5 (by omega))
  refine g_iconst dX10_apply_34 ?_
  refine g_istore (ls2 := [(4, .int (gI (0))), (0, .ref (B)), (1, .int (gI (9))), (2, .int (gI (a))), (3, .int (gI (b)))]) dX10_apply_35 (by decide) rfl ?_
  refine g_aload_n 1 dX10_apply_37 rfl ?_
  refine g_iload_n 3 dX10_apply_38 rfl ?_
  refine g_callV (nc2 := 0) (ns2 := 0) (ci := 10) (As := [.int (gI (a))]) (st := []) rfl dX10_apply_39 okX10_isPlace lX10_118 itX10_isPlace seX10_isPlace rfl hm (by decide) (by decide) rfl (Nat.le_of_ble_eq_true rfl) (sM_isPlace N _ B p hp hp2 hf le fc pn rn hn qn T (a) gW_a hm hT) (by omega) (by omega) (fun v6 hc6 q6 => ?_)
  obtain ⟨hq7, hr7⟩ := q6
  rcases hr7 with ⟨rfl, a0, a1, F, ha⟩ | ⟨rfl, na⟩
  · skip
    refine Go.nf (h' := h) (st' := [.int (gI (1))]) hq7 rfl (Nat.le_refl _) (Nat.le_refl _) ?_
    refine g_if_eq (tgt := 58) dX10_apply_42 rfl (by first | exact gW_a | exact gW_b | (unfold gW; omega) | (unfold gW; split <;> omega)) (fun c8 => absurd c8 (by omega)) (fun c8 => ?_)
    refine g_iload 0 dX10_apply_45 rfl ?_
    refine g_if_ne (tgt := 60) dX10_apply_47 rfl (by first | exact gW_a | exact gW_b | (unfold gW; omega) | (unfold gW; split <;> omega)) (fun c9 => absurd c9 (by omega)) (fun c9 => ?_)
    refine g_aload_n 1 dX10_apply_50 rfl ?_
    refine g_iload_n 4 dX10_apply_51 rfl ?_
    refine g_callV (nc2 := 0) (ns2 := 0) (ci := 10) (As := [.int (gI (b))]) (st := []) rfl dX10_apply_52 okX10_isPlace lX10_118 itX10_isPlace seX10_isPlace rfl hm (by decide) (by decide) rfl (Nat.le_of_ble_eq_true rfl) (sM_isPlace N _ B p hp hp2 hf le fc pn rn hn qn T (b) gW_b hm hT) (by omega) (by omega) (fun v10 hc10 q10 => ?_)
    obtain ⟨hq11, hr11⟩ := q10
    rcases hr11 with ⟨rfl, b0, b1, G, hb⟩ | ⟨rfl, nb⟩
    · skip
      refine Go.nf (h' := h) (st' := [.int (gI (1))]) hq11 rfl (Nat.le_refl _) (Nat.le_refl _) ?_
      refine g_if_ne (tgt := 60) dX10_apply_55 rfl (by first | exact gW_a | exact gW_b | (unfold gW; omega) | (unfold gW; split <;> omega)) (fun c12 => ?_) (fun c12 => absurd c12 (by omega))
      refine g_iload_n 2 dX10_apply_60 rfl ?_
      refine g_bipush dX10_apply_61 (by decide) ?_
      refine g_icmp_lt (tgt := 91) dX10_apply_63 rfl (by first | exact gW_a | exact gW_b | (unfold gW; omega) | (unfold gW; split <;> omega)) (by first | exact gW_a | exact gW_b | (unfold gW; omega) | (unfold gW; split <;> omega)) (fun c13 => absurd c13 (by omega)) (fun c13 => ?_)
      refine g_iload_n 2 dX10_apply_66 rfl ?_
      refine g_bipush dX10_apply_67 (by decide) ?_
      refine g_icmp_eq (tgt := 91) dX10_apply_69 rfl (by first | exact gW_a | exact gW_b | (unfold gW; omega) | (unfold gW; split <;> omega)) (by first | exact gW_a | exact gW_b | (unfold gW; omega) | (unfold gW; split <;> omega)) (fun c14 => absurd c14 (by omega)) (fun c14 => ?_)
      refine g_aload_n 1 dX10_apply_72 rfl ?_
      refine g_iload_n 3 dX10_apply_73 rfl ?_
      refine g_callV (nc2 := 0) (ns2 := 0) (ci := 10) (As := [.int (gI (a))]) (st := []) rfl dX10_apply_74 okX10_isPlain lX10_126 itX10_isPlain seX10_isPlain rfl hm (by decide) (by decide) rfl (Nat.le_of_ble_eq_true rfl) (sM_isPlain N _ B p hp hp2 hf le fc pn rn hn qn T F a a0 a1 ha hm hT) (by omega) (by omega) (fun v15 hc15 q15 => ?_)
      obtain ⟨hq16, rfl⟩ := q15
      refine Go.nf (h' := h) (st' := [.int (gI (if dY hp F < 1 then 1 else 0))]) hq16 rfl (Nat.le_refl _) (Nat.le_refl _) ?_
      refine g_if_eq (tgt := 88) dX10_apply_77 rfl (by first | exact gW_a | exact gW_b | (unfold gW; omega) | (unfold gW; split <;> omega)) (fun c17 => ?_) (fun c17 => ?_)
      · skip
        have hyF : ¬ dY hp F < 1 := fun z => by rw [if_pos z] at c17; omega
        clear c17
        refine g_bipush dX10_apply_88 (by decide) ?_
        exact g_iret dX10_apply_90 rfl ⟨(((MF.rf [B + 1, B + 3] [0, 1] ma)).1.mo (sub_c (List.Mem.tail _ (List.Mem.tail _ (List.Mem.head _))) (sub_c (List.Mem.head _) (sub_c (List.Mem.tail _ (List.Mem.head _)) sub_n)))), ⟨((MF.rf [B + 1, B + 3] [0, 1] ma)).2.1, hw, ⟨_, h4⟩, ⟨_, h7⟩, ⟨_, h8⟩⟩, (-2), T, (by rw [ap2_s (gT_s a0 a1 ha) (gT_s b0 b1 hb)]; exact (by show Ou T (pl2 hp F G _) _ _; unfold pl2; rw [if_neg (by omega)]; exact ⟨rfl, rfl⟩)), rfl, hT⟩
      · skip
        have hyF : dY hp F < 1 := by
          by_cases z : dY hp F < 1
          · exact z
          · rw [if_neg z] at c17; omega
        clear c17
        refine g_aload_n 1 dX10_apply_80 rfl ?_
        refine g_iload_n 4 dX10_apply_81 rfl ?_
        refine g_callV (nc2 := 0) (ns2 := 0) (ci := 10) (As := [.int (gI (b))]) (st := []) rfl dX10_apply_82 okX10_isPlain lX10_126 itX10_isPlain seX10_isPlain rfl hm (by decide) (by decide) rfl (Nat.le_of_ble_eq_true rfl) (sM_isPlain N _ B p hp hp2 hf le fc pn rn hn qn T G b b0 b1 hb hm hT) (by omega) (by omega) (fun v18 hc18 q18 => ?_)
        obtain ⟨hq19, rfl⟩ := q18
        refine Go.nf (h' := h) (st' := [.int (gI (if dY hp G < 1 then 1 else 0))]) hq19 rfl (Nat.le_refl _) (Nat.le_refl _) ?_
        refine g_if_ne (tgt := 91) dX10_apply_85 rfl (by first | exact gW_a | exact gW_b | (unfold gW; omega) | (unfold gW; split <;> omega)) (fun c20 => ?_) (fun c20 => ?_)
        · skip
          have hyG : dY hp G < 1 := by
            by_cases z : dY hp G < 1
            · exact z
            · rw [if_neg z] at c20; omega
          clear c20
          refine g_iload_n 2 dX10_apply_91 rfl ?_
          refine g_iconst dX10_apply_92 ?_
          refine g_icmp_le (tgt := 101) dX10_apply_93 rfl (by first | exact gW_a | exact gW_b | (unfold gW; omega) | (unfold gW; split <;> omega)) (by first | exact gW_a | exact gW_b | (unfold gW; omega) | (unfold gW; split <;> omega)) (fun c21 => absurd c21 (by omega)) (fun c21 => ?_)
          refine g_iload_n 2 dX10_apply_96 rfl ?_
          refine g_iconst dX10_apply_97 ?_
          refine g_icmp_ne (tgt := 225) dX10_apply_98 rfl (by first | exact gW_a | exact gW_b | (unfold gW; omega) | (unfold gW; split <;> omega)) (by first | exact gW_a | exact gW_b | (unfold gW; omega) | (unfold gW; split <;> omega)) (fun c22 => ?_) (fun c22 => absurd c22 (by omega))
          refine g_iload_n 2 dX10_apply_225 rfl ?_
          refine g_iconst dX10_apply_226 ?_
          refine g_icmp_ne (tgt := 237) dX10_apply_227 rfl (by first | exact gW_a | exact gW_b | (unfold gW; omega) | (unfold gW; split <;> omega)) (by first | exact gW_a | exact gW_b | (unfold gW; omega) | (unfold gW; split <;> omega)) (fun c23 => ?_) (fun c23 => absurd c23 (by omega))
          refine g_iload_n 2 dX10_apply_237 rfl ?_
          refine g_iconst dX10_apply_238 ?_
          refine g_icmp_eq (tgt := 247) dX10_apply_239 rfl (by first | exact gW_a | exact gW_b | (unfold gW; omega) | (unfold gW; split <;> omega)) (by first | exact gW_a | exact gW_b | (unfold gW; omega) | (unfold gW; split <;> omega)) (fun c24 => absurd c24 (by omega)) (fun c24 => ?_)
          refine g_iload_n 2 dX10_apply_242 rfl ?_
          refine g_iconst dX10_apply_243 ?_
          refine g_icmp_ne (tgt := 264) dX10_apply_244 rfl (by first | exact gW_a | exact gW_b | (unfold gW; omega) | (unfold gW; split <;> omega)) (by first | exact gW_a | exact gW_b | (unfold gW; omega) | (unfold gW; split <;> omega)) (fun c25 => ?_) (fun c25 => absurd c25 (by omega))
          refine g_iload_n 2 dX10_apply_264 rfl ?_
          refine g_bipush dX10_apply_265 (by decide) ?_
          refine g_icmp_gt (tgt := 287) dX10_apply_267 rfl (by first | exact gW_a | exact gW_b | (unfold gW; omega) | (unfold gW; split <;> omega)) (by first | exact gW_a | exact gW_b | (unfold gW; omega) | (unfold gW; split <;> omega)) (fun c26 => ?_) (fun c26 => absurd c26 (by omega))
          refine g_iload_n 2 dX10_apply_287 rfl ?_
          refine g_bipush dX10_apply_288 (by decide) ?_
          refine g_icmp_ne (tgt := 300) dX10_apply_290 rfl (by first | exact gW_a | exact gW_b | (unfold gW; omega) | (unfold gW; split <;> omega)) (by first | exact gW_a | exact gW_b | (unfold gW; omega) | (unfold gW; split <;> omega)) (fun c27 => ?_) (fun c27 => absurd c27 (by omega))
          refine g_aload_n 1 dX10_apply_300 rfl ?_
          refine g_iload_n 3 dX10_apply_301 rfl ?_
          refine g_iconst dX10_apply_302 ?_
          refine g_callV (nc2 := 0) (ns2 := 0) (ci := 10) (As := [.int (gI (a)), .int (gI (0))]) (st := []) rfl dX10_apply_303 okX10_toRegister lX10_144 itX10_toRegister seX10_toRegister rfl hm (by decide) (by decide) rfl (Nat.le_of_ble_eq_true rfl) (sM_toRegister N _ B p hp hp2 hf le fc pn rn hn qn T (F) (a) (0) (by omega) a0 a1 ha hm ((MF.rf [B + 1, B + 3] [0, 1] ma)).2.1 hT) (by omega) (by omega) (fun v28 hc28 q28 => ?_)
          obtain ⟨rfl, mfc29, rn29_0⟩ := q28
          have fk30_0 : hc28.2 (B) = some (mO B ((p : Int)) (hf) (le) (fc) (pn) (rn) (hn) (qn)) := Fr.at0 (mfc29).1 (Ni.c ⟨ne4, ne5⟩ (Ni.n _)) hm
          have fk30_1 : hc28.2 (B + 4) = some (aI 1500 (gm)) := Fr.at0 (mfc29).1 (Ni.c ⟨ne26, ne27⟩ (Ni.n _)) h4
          have fk30_2 : hc28.2 (B + 7) = some (aJ 6400 (g7)) := Fr.at0 (mfc29).1 (Ni.c ⟨(ne31).s, (ne33).s⟩ (Ni.n _)) h7
          have fk30_3 : hc28.2 (B + 8) = some (aI 11520 (g8)) := Fr.at0 (mfc29).1 (Ni.c ⟨(ne32).s, (ne34).s⟩ (Ni.n _)) h8
          have rk30_0 : MP hp B hc28 (T) := (hT).fr (mfc29).1 (Ni.c ⟨ne11, ne12⟩ (Ni.n _)) (Ni.c ⟨ne17, ne18⟩ (Ni.n _))
          have rk30_1 : MWA B hc28 := (hw).fr (mfc29).1 (Ni.c ⟨ne22, ne23⟩ (Ni.n _))
          have fr30 : MF B [B + 1, B + 3] [0, 1] h hc28 := ((MF.rf [B + 1, B + 3] [0, 1] ma)).tr ((mfc29).mo sub_n (sbI_c (List.Mem.head _) sbI_n))
          refine Go.nf (h' := hc28) (st' := []) rfl rfl (Nat.le_refl _) (Nat.le_refl _) ?_
          refine g_aload_n 1 dX10_apply_306 rfl ?_
          refine g_iload_n 4 dX10_apply_307 rfl ?_
          refine g_iconst dX10_apply_308 ?_
          refine g_callV (nc2 := 0) (ns2 := 0) (ci := 10) (As := [.int (gI (b)), .int (gI (1))]) (st := []) rfl dX10_apply_309 okX10_toRegister lX10_144 itX10_toRegister seX10_toRegister rfl fk30_0 (by decide) (by decide) rfl (Nat.le_of_ble_eq_true rfl) (sM_toRegister N _ B p hp hp2 hf le fc pn rn hn qn T (G) (b) (1) (by omega) b0 b1 hb fk30_0 (fr30).2.1 rk30_0) (by omega) (by omega) (fun v31 hc31 q31 => ?_)
          obtain ⟨rfl, mfc32, rn32_0⟩ := q31
          have fk33_0 : hc31.2 (B) = some (mO B ((p : Int)) (hf) (le) (fc) (pn) (rn) (hn) (qn)) := Fr.at0 (mfc32).1 (Ni.c ⟨ne4, ne5⟩ (Ni.n _)) fk30_0
          have fk33_1 : hc31.2 (B + 4) = some (aI 1500 (gm)) := Fr.at0 (mfc32).1 (Ni.c ⟨ne26, ne27⟩ (Ni.n _)) fk30_1
          have fk33_2 : hc31.2 (B + 7) = some (aJ 6400 (g7)) := Fr.at0 (mfc32).1 (Ni.c ⟨(ne31).s, (ne33).s⟩ (Ni.n _)) fk30_2
          have fk33_3 : hc31.2 (B + 8) = some (aI 11520 (g8)) := Fr.at0 (mfc32).1 (Ni.c ⟨(ne32).s, (ne34).s⟩ (Ni.n _)) fk30_3
          have rk33_0 : MP hp B hc31 (T) := (rk30_0).fr (mfc32).1 (Ni.c ⟨ne11, ne12⟩ (Ni.n _)) (Ni.c ⟨ne17, ne18⟩ (Ni.n _))
          have rk33_1 : MWA B hc31 := (rk30_1).fr (mfc32).1 (Ni.c ⟨ne22, ne23⟩ (Ni.n _))
          have rk33_2 : MG hp B hc31 (0) (F 0) := (rn29_0).fr hp2 mfc32 (Nr.c (by omega) Nr.n)
          have fr33 : MF B [B + 1, B + 3] [0, 1] h hc31 := (fr30).tr ((mfc32).mo sub_n (sbI_c (List.Mem.tail _ (List.Mem.head _)) sbI_n))
          refine Go.nf (h' := hc31) (st' := []) rfl rfl (Nat.le_refl _) (Nat.le_refl _) ?_
          refine g_iload_n 2 dX10_apply_312 rfl ?_
          refine g_bipush dX10_apply_313 (by decide) ?_
          refine g_icmp_ne (tgt := 325) dX10_apply_315 rfl (by first | exact gW_a | exact gW_b | (unfold gW; omega) | (unfold gW; split <;> omega)) (by first | exact gW_a | exact gW_b | (unfold gW; omega) | (unfold gW; split <;> omega)) (fun c34 => ?_) (fun c34 => absurd c34 (by omega))
          refine g_aload_n 1 dX10_apply_325 rfl ?_
          refine g_iload_n 2 dX10_apply_326 rfl ?_
          refine g_callV (nc2 := 0) (ns2 := 0) (ci := 10) (As := [.int (gI (9))]) (st := []) rfl dX10_apply_327 okX10_plainAct lX10_151 itX10_plainAct seX10_plainAct rfl fk33_0 (by decide) (by decide) rfl (Nat.le_of_ble_eq_true rfl) (sM_plainAct9 N _ B p hp hp2 hf le fc pn rn hn qn T (F 0) (G 0) fk33_0 rk33_0 ⟨(fr33).2.1, rk33_1, ⟨_, fk33_1⟩, ⟨_, fk33_2⟩, ⟨_, fk33_3⟩⟩ rk33_2 rn32_0) (by omega) (by omega) (fun v35 hc35 q35 => ?_)
          obtain ⟨frc36, ms36, w36, T2_36, hO36, rfl, mp36⟩ := q35
          have frz36 := ((fr33).1.mo (sub_c (List.Mem.tail _ (List.Mem.tail _ (List.Mem.head _))) (sub_c (List.Mem.head _) (sub_c (List.Mem.tail _ (List.Mem.head _)) sub_n)))).tr frc36
          refine Go.nf (h' := hc35) (st' := [.int (gI (w36))]) rfl rfl (Nat.le_refl _) (Nat.le_refl _) ?_
          exact g_iret dX10_apply_330 rfl ⟨frz36, ms36, w36, T2_36, (by rw [ap2_s (gT_s a0 a1 ha) (gT_s b0 b1 hb)]; exact (by show Ou T (pl2 hp F G _) _ _; unfold pl2; rw [if_pos (by omega)]; exact hO36)), rfl, mp36⟩
        · skip
          have hyG : ¬ dY hp G < 1 := fun z => by rw [if_pos z] at c20; omega
          clear c20
          refine g_bipush dX10_apply_88 (by decide) ?_
          exact g_iret dX10_apply_90 rfl ⟨(((MF.rf [B + 1, B + 3] [0, 1] ma)).1.mo (sub_c (List.Mem.tail _ (List.Mem.tail _ (List.Mem.head _))) (sub_c (List.Mem.head _) (sub_c (List.Mem.tail _ (List.Mem.head _)) sub_n)))), ⟨((MF.rf [B + 1, B + 3] [0, 1] ma)).2.1, hw, ⟨_, h4⟩, ⟨_, h7⟩, ⟨_, h8⟩⟩, (-2), T, (by rw [ap2_s (gT_s a0 a1 ha) (gT_s b0 b1 hb)]; exact (by show Ou T (pl2 hp F G _) _ _; unfold pl2; rw [if_neg (by omega)]; exact ⟨rfl, rfl⟩)), rfl, hT⟩
    · skip
      refine Go.nf (h' := h) (st' := [.int (gI (0))]) hq11 rfl (Nat.le_refl _) (Nat.le_refl _) ?_
      refine g_if_ne (tgt := 60) dX10_apply_55 rfl (by first | exact gW_a | exact gW_b | (unfold gW; omega) | (unfold gW; split <;> omega)) (fun c37 => absurd c37 (by omega)) (fun c37 => ?_)
      refine g_iconst dX10_apply_58 ?_
      exact g_iret dX10_apply_59 rfl ⟨(((MF.rf [B + 1, B + 3] [0, 1] ma)).1.mo (sub_c (List.Mem.tail _ (List.Mem.tail _ (List.Mem.head _))) (sub_c (List.Mem.head _) (sub_c (List.Mem.tail _ (List.Mem.head _)) sub_n)))), ⟨((MF.rf [B + 1, B + 3] [0, 1] ma)).2.1, hw, ⟨_, h4⟩, ⟨_, h7⟩, ⟨_, h8⟩⟩, (-1), T, (by rw [ap2_nb (gT_n nb)]; exact ⟨rfl, rfl⟩), rfl, hT⟩
  · skip
    refine Go.nf (h' := h) (st' := [.int (gI (0))]) hq7 rfl (Nat.le_refl _) (Nat.le_refl _) ?_
    refine g_if_eq (tgt := 58) dX10_apply_42 rfl (by first | exact gW_a | exact gW_b | (unfold gW; omega) | (unfold gW; split <;> omega)) (fun c38 => ?_) (fun c38 => absurd c38 (by omega))
    refine g_iconst dX10_apply_58 ?_
    exact g_iret dX10_apply_59 rfl ⟨(((MF.rf [B + 1, B + 3] [0, 1] ma)).1.mo (sub_c (List.Mem.tail _ (List.Mem.tail _ (List.Mem.head _))) (sub_c (List.Mem.head _) (sub_c (List.Mem.tail _ (List.Mem.head _)) sub_n)))), ⟨((MF.rf [B + 1, B + 3] [0, 1] ma)).2.1, hw, ⟨_, h4⟩, ⟨_, h7⟩, ⟨_, h8⟩⟩, (-1), T, (by rw [ap2_na (gT_n na)]; exact ⟨rfl, rfl⟩), rfl, hT⟩
set_option maxHeartbeats 4000000 in
set_option maxRecDepth 100000 in
theorem sM_apply10 (N : GN) (h : GH) (B p : Nat) (hp : prm p) (hp2 : p ≤ 65536) (hf le fc pn rn hn qn : Int) (T : PT p) (a b : Int) (gW_a : gW a) (gW_b : gW b) (hm : h.2 B = some (mO B p hf le fc pn rn hn qn)) (hT : MP hp B h T) (ms : MS B h)  : Sp N yX10_apply mX10_apply 0 0 [.ref (B), .int (gI (10)), .int (gI (a)), .int (gI (b))] h (fun v h1 => Fr [B + 1, B + 3, B + 5, B + 7] h h1 ∧ MS B h1 ∧ ∃ w T2, Ou T (ap2 T a b (rac hp 10)) w T2 ∧ v = some (.int (gI w)) ∧ MP hp B h1 T2) := by
  refine Sp.of (by decide) rfl rfl (Nat.le_of_ble_eq_true rfl) ?_
  show Go N mX10_apply _ 0 0 h 0 [(0, .ref (B)), (1, .int (gI (10))), (2, .int (gI (a))), (3, .int (gI (b)))] []
  have hp1 := hp.1
  have neA : NE B (B + 5) := by unfold NE; omega
  have neB : NE B (B + 6) := by unfold NE; omega
  have neC : NE (B + 5) (B + 6) := by unfold NE; omega
  have ne0 : NE (B) (B + 1) := by unfold NE; omega
  have ne1 : NE (B) (B + 2) := by unfold NE; omega
  have ne2 : NE (B) (B + 3) := by unfold NE; omega
  have ne3 : NE (B) (B + 4) := by unfold NE; omega
  have ne4 : NE (B) (B + 5) := by unfold NE; omega
  have ne5 : NE (B) (B + 6) := by unfold NE; omega
  have ne6 : NE (B) (B + 7) := by unfold NE; omega
  have ne7 : NE (B) (B + 8) := by unfold NE; omega
  have ne8 : NE (B + 1) (B + 2) := by unfold NE; omega
  have ne9 : NE (B + 1) (B + 3) := by unfold NE; omega
  have ne10 : NE (B + 1) (B + 4) := by unfold NE; omega
  have ne11 : NE (B + 1) (B + 5) := by unfold NE; omega
  have ne12 : NE (B + 1) (B + 6) := by unfold NE; omega
  have ne13 : NE (B + 1) (B + 7) := by unfold NE; omega
  have ne14 : NE (B + 1) (B + 8) := by unfold NE; omega
  have ne15 : NE (B + 2) (B + 3) := by unfold NE; omega
  have ne16 : NE (B + 2) (B + 4) := by unfold NE; omega
  have ne17 : NE (B + 2) (B + 5) := by unfold NE; omega
  have ne18 : NE (B + 2) (B + 6) := by unfold NE; omega
  have ne19 : NE (B + 2) (B + 7) := by unfold NE; omega
  have ne20 : NE (B + 2) (B + 8) := by unfold NE; omega
  have ne21 : NE (B + 3) (B + 4) := by unfold NE; omega
  have ne22 : NE (B + 3) (B + 5) := by unfold NE; omega
  have ne23 : NE (B + 3) (B + 6) := by unfold NE; omega
  have ne24 : NE (B + 3) (B + 7) := by unfold NE; omega
  have ne25 : NE (B + 3) (B + 8) := by unfold NE; omega
  have ne26 : NE (B + 4) (B + 5) := by unfold NE; omega
  have ne27 : NE (B + 4) (B + 6) := by unfold NE; omega
  have ne28 : NE (B + 4) (B + 7) := by unfold NE; omega
  have ne29 : NE (B + 4) (B + 8) := by unfold NE; omega
  have ne30 : NE (B + 5) (B + 6) := by unfold NE; omega
  have ne31 : NE (B + 5) (B + 7) := by unfold NE; omega
  have ne32 : NE (B + 5) (B + 8) := by unfold NE; omega
  have ne33 : NE (B + 6) (B + 7) := by unfold NE; omega
  have ne34 : NE (B + 6) (B + 8) := by unfold NE; omega
  have ne35 : NE (B + 7) (B + 8) := by unfold NE; omega
  obtain ⟨ma, hw, ⟨gm, h4⟩, ⟨g7, h7⟩, ⟨g8, h8⟩⟩ := ms
  refine g_iload_n 1 dX10_apply_0 rfl ?_
  refine g_if_lt (tgt := 10) dX10_apply_1 rfl (by first | exact gW_a | exact gW_b | (unfold gW; omega) | (unfold gW; split <;> omega)) (fun c1 => absurd c1 (by omega)) (fun c1 => ?_)
  refine g_iload_n 1 dX10_apply_4 rfl ?_
  refine g_bipush dX10_apply_5 (by decide) ?_
  refine g_icmp_le (tgt := 13) dX10_apply_7 rfl (by first | exact gW_a | exact gW_b | (unfold gW; omega) | (unfold gW; split <;> omega)) (by first | exact gW_a | exact gW_b | (unfold gW; omega) | (unfold gW; split <;> omega)) (fun c2 => ?_) (fun c2 => absurd c2 (by omega))
  refine g_iload_n 1 dX10_apply_13 rfl ?_
  refine g_iconst dX10_apply_14 ?_
  refine g_icmp_eq (tgt := 30) dX10_apply_15 rfl (by first | exact gW_a | exact gW_b | (unfold gW; omega) | (unfold gW; split <;> omega)) (by first | exact gW_a | exact gW_b | (unfold gW; omega) | (unfold gW; split <;> omega)) (fun c3 => absurd c3 (by omega)) (fun c3 => ?_)
  refine g_iload_n 1 dX10_apply_18 rfl ?_
  refine g_bipush dX10_apply_19 (by decide) ?_
  refine g_icmp_eq (tgt := 30) dX10_apply_21 rfl (by first | exact gW_a | exact gW_b | (unfold gW; omega) | (unfold gW; split <;> omega)) (by first | exact gW_a | exact gW_b | (unfold gW; omega) | (unfold gW; split <;> omega)) (fun c4 => absurd c4 (by omega)) (fun c4 => ?_)
  refine g_iload_n 1 dX10_apply_24 rfl ?_
  refine g_bipush dX10_apply_25 (by decide) ?_
  refine g_icmp_ne (tgt := 34) dX10_apply_27 rfl (by first | exact gW_a | exact gW_b | (unfold gW; omega) | (unfold gW; split <;> omega)) (by first | exact gW_a | exact gW_b | (unfold gW; omega) | (unfold gW; split <;> omega)) (fun c5 => ?_) (fun c5 => absurd c5 (by omega))
  refine g_iconst dX10_apply_34 ?_
  refine g_istore (ls2 := [(4, .int (gI (0))), (0, .ref (B)), (1, .int (gI (10))), (2, .int (gI (a))), (3, .int (gI (b)))]) dX10_apply_35 (by decide) rfl ?_
  refine g_aload_n 1 dX10_apply_37 rfl ?_
  refine g_iload_n 3 dX10_apply_38 rfl ?_
  refine g_callV (nc2 := 0) (ns2 := 0) (ci := 10) (As := [.int (gI (a))]) (st := []) rfl dX10_apply_39 okX10_isPlace lX10_118 itX10_isPlace seX10_isPlace rfl hm (by decide) (by decide) rfl (Nat.le_of_ble_eq_true rfl) (sM_isPlace N _ B p hp hp2 hf le fc pn rn hn qn T (a) gW_a hm hT) (by omega) (by omega) (fun v6 hc6 q6 => ?_)
  obtain ⟨hq7, hr7⟩ := q6
  rcases hr7 with ⟨rfl, a0, a1, F, ha⟩ | ⟨rfl, na⟩
  · skip
    refine Go.nf (h' := h) (st' := [.int (gI (1))]) hq7 rfl (Nat.le_refl _) (Nat.le_refl _) ?_
    refine g_if_eq (tgt := 58) dX10_apply_42 rfl (by first | exact gW_a | exact gW_b | (unfold gW; omega) | (unfold gW; split <;> omega)) (fun c8 => absurd c8 (by omega)) (fun c8 => ?_)
    refine g_iload 0 dX10_apply_45 rfl ?_
    refine g_if_ne (tgt := 60) dX10_apply_47 rfl (by first | exact gW_a | exact gW_b | (unfold gW; omega) | (unfold gW; split <;> omega)) (fun c9 => absurd c9 (by omega)) (fun c9 => ?_)
    refine g_aload_n 1 dX10_apply_50 rfl ?_
    refine g_iload_n 4 dX10_apply_51 rfl ?_
    refine g_callV (nc2 := 0) (ns2 := 0) (ci := 10) (As := [.int (gI (b))]) (st := []) rfl dX10_apply_52 okX10_isPlace lX10_118 itX10_isPlace seX10_isPlace rfl hm (by decide) (by decide) rfl (Nat.le_of_ble_eq_true rfl) (sM_isPlace N _ B p hp hp2 hf le fc pn rn hn qn T (b) gW_b hm hT) (by omega) (by omega) (fun v10 hc10 q10 => ?_)
    obtain ⟨hq11, hr11⟩ := q10
    rcases hr11 with ⟨rfl, b0, b1, G, hb⟩ | ⟨rfl, nb⟩
    · skip
      refine Go.nf (h' := h) (st' := [.int (gI (1))]) hq11 rfl (Nat.le_refl _) (Nat.le_refl _) ?_
      refine g_if_ne (tgt := 60) dX10_apply_55 rfl (by first | exact gW_a | exact gW_b | (unfold gW; omega) | (unfold gW; split <;> omega)) (fun c12 => ?_) (fun c12 => absurd c12 (by omega))
      refine g_iload_n 2 dX10_apply_60 rfl ?_
      refine g_bipush dX10_apply_61 (by decide) ?_
      refine g_icmp_lt (tgt := 91) dX10_apply_63 rfl (by first | exact gW_a | exact gW_b | (unfold gW; omega) | (unfold gW; split <;> omega)) (by first | exact gW_a | exact gW_b | (unfold gW; omega) | (unfold gW; split <;> omega)) (fun c13 => absurd c13 (by omega)) (fun c13 => ?_)
      refine g_iload_n 2 dX10_apply_66 rfl ?_
      refine g_bipush dX10_apply_67 (by decide) ?_
      refine g_icmp_eq (tgt := 91) dX10_apply_69 rfl (by first | exact gW_a | exact gW_b | (unfold gW; omega) | (unfold gW; split <;> omega)) (by first | exact gW_a | exact gW_b | (unfold gW; omega) | (unfold gW; split <;> omega)) (fun c14 => absurd c14 (by omega)) (fun c14 => ?_)
      refine g_aload_n 1 dX10_apply_72 rfl ?_
      refine g_iload_n 3 dX10_apply_73 rfl ?_
      refine g_callV (nc2 := 0) (ns2 := 0) (ci := 10) (As := [.int (gI (a))]) (st := []) rfl dX10_apply_74 okX10_isPlain lX10_126 itX10_isPlain seX10_isPlain rfl hm (by decide) (by decide) rfl (Nat.le_of_ble_eq_true rfl) (sM_isPlain N _ B p hp hp2 hf le fc pn rn hn qn T F a a0 a1 ha hm hT) (by omega) (by omega) (fun v15 hc15 q15 => ?_)
      obtain ⟨hq16, rfl⟩ := q15
      refine Go.nf (h' := h) (st' := [.int (gI (if dY hp F < 1 then 1 else 0))]) hq16 rfl (Nat.le_refl _) (Nat.le_refl _) ?_
      refine g_if_eq (tgt := 88) dX10_apply_77 rfl (by first | exact gW_a | exact gW_b | (unfold gW; omega) | (unfold gW; split <;> omega)) (fun c17 => ?_) (fun c17 => ?_)
      · skip
        have hyF : ¬ dY hp F < 1 := fun z => by rw [if_pos z] at c17; omega
        clear c17
        refine g_bipush dX10_apply_88 (by decide) ?_
        exact g_iret dX10_apply_90 rfl ⟨(((MF.rf [B + 1, B + 3] [0, 1] ma)).1.mo (sub_c (List.Mem.tail _ (List.Mem.tail _ (List.Mem.head _))) (sub_c (List.Mem.head _) (sub_c (List.Mem.tail _ (List.Mem.head _)) sub_n)))), ⟨((MF.rf [B + 1, B + 3] [0, 1] ma)).2.1, hw, ⟨_, h4⟩, ⟨_, h7⟩, ⟨_, h8⟩⟩, (-2), T, (by rw [ap2_s (gT_s a0 a1 ha) (gT_s b0 b1 hb)]; exact (by show Ou T (pl2 hp F G _) _ _; unfold pl2; rw [if_neg (by omega)]; exact ⟨rfl, rfl⟩)), rfl, hT⟩
      · skip
        have hyF : dY hp F < 1 := by
          by_cases z : dY hp F < 1
          · exact z
          · rw [if_neg z] at c17; omega
        clear c17
        refine g_aload_n 1 dX10_apply_80 rfl ?_
        refine g_iload_n 4 dX10_apply_81 rfl ?_
        refine g_callV (nc2 := 0) (ns2 := 0) (ci := 10) (As := [.int (gI (b))]) (st := []) rfl dX10_apply_82 okX10_isPlain lX10_126 itX10_isPlain seX10_isPlain rfl hm (by decide) (by decide) rfl (Nat.le_of_ble_eq_true rfl) (sM_isPlain N _ B p hp hp2 hf le fc pn rn hn qn T G b b0 b1 hb hm hT) (by omega) (by omega) (fun v18 hc18 q18 => ?_)
        obtain ⟨hq19, rfl⟩ := q18
        refine Go.nf (h' := h) (st' := [.int (gI (if dY hp G < 1 then 1 else 0))]) hq19 rfl (Nat.le_refl _) (Nat.le_refl _) ?_
        refine g_if_ne (tgt := 91) dX10_apply_85 rfl (by first | exact gW_a | exact gW_b | (unfold gW; omega) | (unfold gW; split <;> omega)) (fun c20 => ?_) (fun c20 => ?_)
        · skip
          have hyG : dY hp G < 1 := by
            by_cases z : dY hp G < 1
            · exact z
            · rw [if_neg z] at c20; omega
          clear c20
          refine g_iload_n 2 dX10_apply_91 rfl ?_
          refine g_iconst dX10_apply_92 ?_
          refine g_icmp_le (tgt := 101) dX10_apply_93 rfl (by first | exact gW_a | exact gW_b | (unfold gW; omega) | (unfold gW; split <;> omega)) (by first | exact gW_a | exact gW_b | (unfold gW; omega) | (unfold gW; split <;> omega)) (fun c21 => absurd c21 (by omega)) (fun c21 => ?_)
          refine g_iload_n 2 dX10_apply_96 rfl ?_
          refine g_iconst dX10_apply_97 ?_
          refine g_icmp_ne (tgt := 225) dX10_apply_98 rfl (by first | exact gW_a | exact gW_b | (unfold gW; omega) | (unfold gW; split <;> omega)) (by first | exact gW_a | exact gW_b | (unfold gW; omega) | (unfold gW; split <;> omega)) (fun c22 => ?_) (fun c22 => absurd c22 (by omega))
          refine g_iload_n 2 dX10_apply_225 rfl ?_
          refine g_iconst dX10_apply_226 ?_
          refine g_icmp_ne (tgt := 237) dX10_apply_227 rfl (by first | exact gW_a | exact gW_b | (unfold gW; omega) | (unfold gW; split <;> omega)) (by first | exact gW_a | exact gW_b | (unfold gW; omega) | (unfold gW; split <;> omega)) (fun c23 => ?_) (fun c23 => absurd c23 (by omega))
          refine g_iload_n 2 dX10_apply_237 rfl ?_
          refine g_iconst dX10_apply_238 ?_
          refine g_icmp_eq (tgt := 247) dX10_apply_239 rfl (by first | exact gW_a | exact gW_b | (unfold gW; omega) | (unfold gW; split <;> omega)) (by first | exact gW_a | exact gW_b | (unfold gW; omega) | (unfold gW; split <;> omega)) (fun c24 => absurd c24 (by omega)) (fun c24 => ?_)
          refine g_iload_n 2 dX10_apply_242 rfl ?_
          refine g_iconst dX10_apply_243 ?_
          refine g_icmp_ne (tgt := 264) dX10_apply_244 rfl (by first | exact gW_a | exact gW_b | (unfold gW; omega) | (unfold gW; split <;> omega)) (by first | exact gW_a | exact gW_b | (unfold gW; omega) | (unfold gW; split <;> omega)) (fun c25 => ?_) (fun c25 => absurd c25 (by omega))
          refine g_iload_n 2 dX10_apply_264 rfl ?_
          refine g_bipush dX10_apply_265 (by decide) ?_
          refine g_icmp_gt (tgt := 287) dX10_apply_267 rfl (by first | exact gW_a | exact gW_b | (unfold gW; omega) | (unfold gW; split <;> omega)) (by first | exact gW_a | exact gW_b | (unfold gW; omega) | (unfold gW; split <;> omega)) (fun c26 => ?_) (fun c26 => absurd c26 (by omega))
          refine g_iload_n 2 dX10_apply_287 rfl ?_
          refine g_bipush dX10_apply_288 (by decide) ?_
          refine g_icmp_ne (tgt := 300) dX10_apply_290 rfl (by first | exact gW_a | exact gW_b | (unfold gW; omega) | (unfold gW; split <;> omega)) (by first | exact gW_a | exact gW_b | (unfold gW; omega) | (unfold gW; split <;> omega)) (fun c27 => ?_) (fun c27 => absurd c27 (by omega))
          refine g_aload_n 1 dX10_apply_300 rfl ?_
          refine g_iload_n 3 dX10_apply_301 rfl ?_
          refine g_iconst dX10_apply_302 ?_
          refine g_callV (nc2 := 0) (ns2 := 0) (ci := 10) (As := [.int (gI (a)), .int (gI (0))]) (st := []) rfl dX10_apply_303 okX10_toRegister lX10_144 itX10_toRegister seX10_toRegister rfl hm (by decide) (by decide) rfl (Nat.le_of_ble_eq_true rfl) (sM_toRegister N _ B p hp hp2 hf le fc pn rn hn qn T (F) (a) (0) (by omega) a0 a1 ha hm ((MF.rf [B + 1, B + 3] [0, 1] ma)).2.1 hT) (by omega) (by omega) (fun v28 hc28 q28 => ?_)
          obtain ⟨rfl, mfc29, rn29_0⟩ := q28
          have fk30_0 : hc28.2 (B) = some (mO B ((p : Int)) (hf) (le) (fc) (pn) (rn) (hn) (qn)) := Fr.at0 (mfc29).1 (Ni.c ⟨ne4, ne5⟩ (Ni.n _)) hm
          have fk30_1 : hc28.2 (B + 4) = some (aI 1500 (gm)) := Fr.at0 (mfc29).1 (Ni.c ⟨ne26, ne27⟩ (Ni.n _)) h4
          have fk30_2 : hc28.2 (B + 7) = some (aJ 6400 (g7)) := Fr.at0 (mfc29).1 (Ni.c ⟨(ne31).s, (ne33).s⟩ (Ni.n _)) h7
          have fk30_3 : hc28.2 (B + 8) = some (aI 11520 (g8)) := Fr.at0 (mfc29).1 (Ni.c ⟨(ne32).s, (ne34).s⟩ (Ni.n _)) h8
          have rk30_0 : MP hp B hc28 (T) := (hT).fr (mfc29).1 (Ni.c ⟨ne11, ne12⟩ (Ni.n _)) (Ni.c ⟨ne17, ne18⟩ (Ni.n _))
          have rk30_1 : MWA B hc28 := (hw).fr (mfc29).1 (Ni.c ⟨ne22, ne23⟩ (Ni.n _))
          have fr30 : MF B [B + 1, B + 3] [0, 1] h hc28 := ((MF.rf [B + 1, B + 3] [0, 1] ma)).tr ((mfc29).mo sub_n (sbI_c (List.Mem.head _) sbI_n))
          refine Go.nf (h' := hc28) (st' := []) rfl rfl (Nat.le_refl _) (Nat.le_refl _) ?_
          refine g_aload_n 1 dX10_apply_306 rfl ?_
          refine g_iload_n 4 dX10_apply_307 rfl ?_
          refine g_iconst dX10_apply_308 ?_
          refine g_callV (nc2 := 0) (ns2 := 0) (ci := 10) (As := [.int (gI (b)), .int (gI (1))]) (st := []) rfl dX10_apply_309 okX10_toRegister lX10_144 itX10_toRegister seX10_toRegister rfl fk30_0 (by decide) (by decide) rfl (Nat.le_of_ble_eq_true rfl) (sM_toRegister N _ B p hp hp2 hf le fc pn rn hn qn T (G) (b) (1) (by omega) b0 b1 hb fk30_0 (fr30).2.1 rk30_0) (by omega) (by omega) (fun v31 hc31 q31 => ?_)
          obtain ⟨rfl, mfc32, rn32_0⟩ := q31
          have fk33_0 : hc31.2 (B) = some (mO B ((p : Int)) (hf) (le) (fc) (pn) (rn) (hn) (qn)) := Fr.at0 (mfc32).1 (Ni.c ⟨ne4, ne5⟩ (Ni.n _)) fk30_0
          have fk33_1 : hc31.2 (B + 4) = some (aI 1500 (gm)) := Fr.at0 (mfc32).1 (Ni.c ⟨ne26, ne27⟩ (Ni.n _)) fk30_1
          have fk33_2 : hc31.2 (B + 7) = some (aJ 6400 (g7)) := Fr.at0 (mfc32).1 (Ni.c ⟨(ne31).s, (ne33).s⟩ (Ni.n _)) fk30_2
          have fk33_3 : hc31.2 (B + 8) = some (aI 11520 (g8)) := Fr.at0 (mfc32).1 (Ni.c ⟨(ne32).s, (ne34).s⟩ (Ni.n _)) fk30_3
          have rk33_0 : MP hp B hc31 (T) := (rk30_0).fr (mfc32).1 (Ni.c ⟨ne11, ne12⟩ (Ni.n _)) (Ni.c ⟨ne17, ne18⟩ (Ni.n _))
          have rk33_1 : MWA B hc31 := (rk30_1).fr (mfc32).1 (Ni.c ⟨ne22, ne23⟩ (Ni.n _))
          have rk33_2 : MG hp B hc31 (0) (F 0) := (rn29_0).fr hp2 mfc32 (Nr.c (by omega) Nr.n)
          have fr33 : MF B [B + 1, B + 3] [0, 1] h hc31 := (fr30).tr ((mfc32).mo sub_n (sbI_c (List.Mem.tail _ (List.Mem.head _)) sbI_n))
          refine Go.nf (h' := hc31) (st' := []) rfl rfl (Nat.le_refl _) (Nat.le_refl _) ?_
          refine g_iload_n 2 dX10_apply_312 rfl ?_
          refine g_bipush dX10_apply_313 (by decide) ?_
          refine g_icmp_ne (tgt := 325) dX10_apply_315 rfl (by first | exact gW_a | exact gW_b | (unfold gW; omega) | (unfold gW; split <;> omega)) (by first | exact gW_a | exact gW_b | (unfold gW; omega) | (unfold gW; split <;> omega)) (fun c34 => ?_) (fun c34 => absurd c34 (by omega))
          refine g_aload_n 1 dX10_apply_325 rfl ?_
          refine g_iload_n 2 dX10_apply_326 rfl ?_
          refine g_callV (nc2 := 0) (ns2 := 0) (ci := 10) (As := [.int (gI (10))]) (st := []) rfl dX10_apply_327 okX10_plainAct lX10_151 itX10_plainAct seX10_plainAct rfl fk33_0 (by decide) (by decide) rfl (Nat.le_of_ble_eq_true rfl) (sM_plainAct10 N _ B p hp hp2 hf le fc pn rn hn qn T (F 0) (G 0) fk33_0 rk33_0 ⟨(fr33).2.1, rk33_1, ⟨_, fk33_1⟩, ⟨_, fk33_2⟩, ⟨_, fk33_3⟩⟩ rk33_2 rn32_0) (by omega) (by omega) (fun v35 hc35 q35 => ?_)
          obtain ⟨frc36, ms36, w36, T2_36, hO36, rfl, mp36⟩ := q35
          have frz36 := ((fr33).1.mo (sub_c (List.Mem.tail _ (List.Mem.tail _ (List.Mem.head _))) (sub_c (List.Mem.head _) (sub_c (List.Mem.tail _ (List.Mem.head _)) sub_n)))).tr frc36
          refine Go.nf (h' := hc35) (st' := [.int (gI (w36))]) rfl rfl (Nat.le_refl _) (Nat.le_refl _) ?_
          exact g_iret dX10_apply_330 rfl ⟨frz36, ms36, w36, T2_36, (by rw [ap2_s (gT_s a0 a1 ha) (gT_s b0 b1 hb)]; exact (by show Ou T (pl2 hp F G _) _ _; unfold pl2; rw [if_pos (by omega)]; exact hO36)), rfl, mp36⟩
        · skip
          have hyG : ¬ dY hp G < 1 := fun z => by rw [if_pos z] at c20; omega
          clear c20
          refine g_bipush dX10_apply_88 (by decide) ?_
          exact g_iret dX10_apply_90 rfl ⟨(((MF.rf [B + 1, B + 3] [0, 1] ma)).1.mo (sub_c (List.Mem.tail _ (List.Mem.tail _ (List.Mem.head _))) (sub_c (List.Mem.head _) (sub_c (List.Mem.tail _ (List.Mem.head _)) sub_n)))), ⟨((MF.rf [B + 1, B + 3] [0, 1] ma)).2.1, hw, ⟨_, h4⟩, ⟨_, h7⟩, ⟨_, h8⟩⟩, (-2), T, (by rw [ap2_s (gT_s a0 a1 ha) (gT_s b0 b1 hb)]; exact (by show Ou T (pl2 hp F G _) _ _; unfold pl2; rw [if_neg (by omega)]; exact ⟨rfl, rfl⟩)), rfl, hT⟩
    · skip
      refine Go.nf (h' := h) (st' := [.int (gI (0))]) hq11 rfl (Nat.le_refl _) (Nat.le_refl _) ?_
      refine g_if_ne (tgt := 60) dX10_apply_55 rfl (by first | exact gW_a | exact gW_b | (unfold gW; omega) | (unfold gW; split <;> omega)) (fun c37 => absurd c37 (by omega)) (fun c37 => ?_)
      refine g_iconst dX10_apply_58 ?_
      exact g_iret dX10_apply_59 rfl ⟨(((MF.rf [B + 1, B + 3] [0, 1] ma)).1.mo (sub_c (List.Mem.tail _ (List.Mem.tail _ (List.Mem.head _))) (sub_c (List.Mem.head _) (sub_c (List.Mem.tail _ (List.Mem.head _)) sub_n)))), ⟨((MF.rf [B + 1, B + 3] [0, 1] ma)).2.1, hw, ⟨_, h4⟩, ⟨_, h7⟩, ⟨_, h8⟩⟩, (-1), T, (by rw [ap2_nb (gT_n nb)]; exact ⟨rfl, rfl⟩), rfl, hT⟩
  · skip
    refine Go.nf (h' := h) (st' := [.int (gI (0))]) hq7 rfl (Nat.le_refl _) (Nat.le_refl _) ?_
    refine g_if_eq (tgt := 58) dX10_apply_42 rfl (by first | exact gW_a | exact gW_b | (unfold gW; omega) | (unfold gW; split <;> omega)) (fun c38 => ?_) (fun c38 => absurd c38 (by omega))
    refine g_iconst dX10_apply_58 ?_
    exact g_iret dX10_apply_59 rfl ⟨(((MF.rf [B + 1, B + 3] [0, 1] ma)).1.mo (sub_c (List.Mem.tail _ (List.Mem.tail _ (List.Mem.head _))) (sub_c (List.Mem.head _) (sub_c (List.Mem.tail _ (List.Mem.head _)) sub_n)))), ⟨((MF.rf [B + 1, B + 3] [0, 1] ma)).2.1, hw, ⟨_, h4⟩, ⟨_, h7⟩, ⟨_, h8⟩⟩, (-1), T, (by rw [ap2_na (gT_n na)]; exact ⟨rfl, rfl⟩), rfl, hT⟩
set_option maxHeartbeats 4000000 in
set_option maxRecDepth 100000 in
theorem sM_apply11 (N : GN) (h : GH) (B p : Nat) (hp : prm p) (hp2 : p ≤ 65536) (hf le fc pn rn hn qn : Int) (T : PT p) (a b : Int) (gW_a : gW a) (gW_b : gW b) (hm : h.2 B = some (mO B p hf le fc pn rn hn qn)) (hT : MP hp B h T) (ms : MS B h)  : Sp N yX10_apply mX10_apply 0 0 [.ref (B), .int (gI (11)), .int (gI (a)), .int (gI (b))] h (fun v h1 => Fr [B + 1, B + 3, B + 5, B + 7] h h1 ∧ MS B h1 ∧ ∃ w T2, Ou T (ap2 T a b (rac hp 11)) w T2 ∧ v = some (.int (gI w)) ∧ MP hp B h1 T2) := by
  refine Sp.of (by decide) rfl rfl (Nat.le_of_ble_eq_true rfl) ?_
  show Go N mX10_apply _ 0 0 h 0 [(0, .ref (B)), (1, .int (gI (11))), (2, .int (gI (a))), (3, .int (gI (b)))] []
  have hp1 := hp.1
  have neA : NE B (B + 5) := by unfold NE; omega
  have neB : NE B (B + 6) := by unfold NE; omega
  have neC : NE (B + 5) (B + 6) := by unfold NE; omega
  have ne0 : NE (B) (B + 1) := by unfold NE; omega
  have ne1 : NE (B) (B + 2) := by unfold NE; omega
  have ne2 : NE (B) (B + 3) := by unfold NE; omega
  have ne3 : NE (B) (B + 4) := by unfold NE; omega
  have ne4 : NE (B) (B + 5) := by unfold NE; omega
  have ne5 : NE (B) (B + 6) := by unfold NE; omega
  have ne6 : NE (B) (B + 7) := by unfold NE; omega
  have ne7 : NE (B) (B + 8) := by unfold NE; omega
  have ne8 : NE (B + 1) (B + 2) := by unfold NE; omega
  have ne9 : NE (B + 1) (B + 3) := by unfold NE; omega
  have ne10 : NE (B + 1) (B + 4) := by unfold NE; omega
  have ne11 : NE (B + 1) (B + 5) := by unfold NE; omega
  have ne12 : NE (B + 1) (B + 6) := by unfold NE; omega
  have ne13 : NE (B + 1) (B + 7) := by unfold NE; omega
  have ne14 : NE (B + 1) (B + 8) := by unfold NE; omega
  have ne15 : NE (B + 2) (B + 3) := by unfold NE; omega
  have ne16 : NE (B + 2) (B + 4) := by unfold NE; omega
  have ne17 : NE (B + 2) (B + 5) := by unfold NE; omega
  have ne18 : NE (B + 2) (B + 6) := by unfold NE; omega
  have ne19 : NE (B + 2) (B + 7) := by unfold NE; omega
  have ne20 : NE (B + 2) (B + 8) := by unfold NE; omega
  have ne21 : NE (B + 3) (B + 4) := by unfold NE; omega
  have ne22 : NE (B + 3) (B + 5) := by unfold NE; omega
  have ne23 : NE (B + 3) (B + 6) := by unfold NE; omega
  have ne24 : NE (B + 3) (B + 7) := by unfold NE; omega
  have ne25 : NE (B + 3) (B + 8) := by unfold NE; omega
  have ne26 : NE (B + 4) (B + 5) := by unfold NE; omega
  have ne27 : NE (B + 4) (B + 6) := by unfold NE; omega
  have ne28 : NE (B + 4) (B + 7) := by unfold NE; omega
  have ne29 : NE (B + 4) (B + 8) := by unfold NE; omega
  have ne30 : NE (B + 5) (B + 6) := by unfold NE; omega
  have ne31 : NE (B + 5) (B + 7) := by unfold NE; omega
  have ne32 : NE (B + 5) (B + 8) := by unfold NE; omega
  have ne33 : NE (B + 6) (B + 7) := by unfold NE; omega
  have ne34 : NE (B + 6) (B + 8) := by unfold NE; omega
  have ne35 : NE (B + 7) (B + 8) := by unfold NE; omega
  obtain ⟨ma, hw, ⟨gm, h4⟩, ⟨g7, h7⟩, ⟨g8, h8⟩⟩ := ms
  refine g_iload_n 1 dX10_apply_0 rfl ?_
  refine g_if_lt (tgt := 10) dX10_apply_1 rfl (by first | exact gW_a | exact gW_b | (unfold gW; omega) | (unfold gW; split <;> omega)) (fun c1 => absurd c1 (by omega)) (fun c1 => ?_)
  refine g_iload_n 1 dX10_apply_4 rfl ?_
  refine g_bipush dX10_apply_5 (by decide) ?_
  refine g_icmp_le (tgt := 13) dX10_apply_7 rfl (by first | exact gW_a | exact gW_b | (unfold gW; omega) | (unfold gW; split <;> omega)) (by first | exact gW_a | exact gW_b | (unfold gW; omega) | (unfold gW; split <;> omega)) (fun c2 => ?_) (fun c2 => absurd c2 (by omega))
  refine g_iload_n 1 dX10_apply_13 rfl ?_
  refine g_iconst dX10_apply_14 ?_
  refine g_icmp_eq (tgt := 30) dX10_apply_15 rfl (by first | exact gW_a | exact gW_b | (unfold gW; omega) | (unfold gW; split <;> omega)) (by first | exact gW_a | exact gW_b | (unfold gW; omega) | (unfold gW; split <;> omega)) (fun c3 => absurd c3 (by omega)) (fun c3 => ?_)
  refine g_iload_n 1 dX10_apply_18 rfl ?_
  refine g_bipush dX10_apply_19 (by decide) ?_
  refine g_icmp_eq (tgt := 30) dX10_apply_21 rfl (by first | exact gW_a | exact gW_b | (unfold gW; omega) | (unfold gW; split <;> omega)) (by first | exact gW_a | exact gW_b | (unfold gW; omega) | (unfold gW; split <;> omega)) (fun c4 => absurd c4 (by omega)) (fun c4 => ?_)
  refine g_iload_n 1 dX10_apply_24 rfl ?_
  refine g_bipush dX10_apply_25 (by decide) ?_
  refine g_icmp_ne (tgt := 34) dX10_apply_27 rfl (by first | exact gW_a | exact gW_b | (unfold gW; omega) | (unfold gW; split <;> omega)) (by first | exact gW_a | exact gW_b | (unfold gW; omega) | (unfold gW; split <;> omega)) (fun c5 => ?_) (fun c5 => absurd c5 (by omega))
  refine g_iconst dX10_apply_34 ?_
  refine g_istore (ls2 := [(4, .int (gI (0))), (0, .ref (B)), (1, .int (gI (11))), (2, .int (gI (a))), (3, .int (gI (b)))]) dX10_apply_35 (by decide) rfl ?_
  refine g_aload_n 1 dX10_apply_37 rfl ?_
  refine g_iload_n 3 dX10_apply_38 rfl ?_
  refine g_callV (nc2 := 0) (ns2 := 0) (ci := 10) (As := [.int (gI (a))]) (st := []) rfl dX10_apply_39 okX10_isPlace lX10_118 itX10_isPlace seX10_isPlace rfl hm (by decide) (by decide) rfl (Nat.le_of_ble_eq_true rfl) (sM_isPlace N _ B p hp hp2 hf le fc pn rn hn qn T (a) gW_a hm hT) (by omega) (by omega) (fun v6 hc6 q6 => ?_)
  obtain ⟨hq7, hr7⟩ := q6
  rcases hr7 with ⟨rfl, a0, a1, F, ha⟩ | ⟨rfl, na⟩
  · skip
    refine Go.nf (h' := h) (st' := [.int (gI (1))]) hq7 rfl (Nat.le_refl _) (Nat.le_refl _) ?_
    refine g_if_eq (tgt := 58) dX10_apply_42 rfl (by first | exact gW_a | exact gW_b | (unfold gW; omega) | (unfold gW; split <;> omega)) (fun c8 => absurd c8 (by omega)) (fun c8 => ?_)
    refine g_iload 0 dX10_apply_45 rfl ?_
    refine g_if_ne (tgt := 60) dX10_apply_47 rfl (by first | exact gW_a | exact gW_b | (unfold gW; omega) | (unfold gW; split <;> omega)) (fun c9 => absurd c9 (by omega)) (fun c9 => ?_)
    refine g_aload_n 1 dX10_apply_50 rfl ?_
    refine g_iload_n 4 dX10_apply_51 rfl ?_
    refine g_callV (nc2 := 0) (ns2 := 0) (ci := 10) (As := [.int (gI (b))]) (st := []) rfl dX10_apply_52 okX10_isPlace lX10_118 itX10_isPlace seX10_isPlace rfl hm (by decide) (by decide) rfl (Nat.le_of_ble_eq_true rfl) (sM_isPlace N _ B p hp hp2 hf le fc pn rn hn qn T (b) gW_b hm hT) (by omega) (by omega) (fun v10 hc10 q10 => ?_)
    obtain ⟨hq11, hr11⟩ := q10
    rcases hr11 with ⟨rfl, b0, b1, G, hb⟩ | ⟨rfl, nb⟩
    · skip
      refine Go.nf (h' := h) (st' := [.int (gI (1))]) hq11 rfl (Nat.le_refl _) (Nat.le_refl _) ?_
      refine g_if_ne (tgt := 60) dX10_apply_55 rfl (by first | exact gW_a | exact gW_b | (unfold gW; omega) | (unfold gW; split <;> omega)) (fun c12 => ?_) (fun c12 => absurd c12 (by omega))
      refine g_iload_n 2 dX10_apply_60 rfl ?_
      refine g_bipush dX10_apply_61 (by decide) ?_
      refine g_icmp_lt (tgt := 91) dX10_apply_63 rfl (by first | exact gW_a | exact gW_b | (unfold gW; omega) | (unfold gW; split <;> omega)) (by first | exact gW_a | exact gW_b | (unfold gW; omega) | (unfold gW; split <;> omega)) (fun c13 => absurd c13 (by omega)) (fun c13 => ?_)
      refine g_iload_n 2 dX10_apply_66 rfl ?_
      refine g_bipush dX10_apply_67 (by decide) ?_
      refine g_icmp_eq (tgt := 91) dX10_apply_69 rfl (by first | exact gW_a | exact gW_b | (unfold gW; omega) | (unfold gW; split <;> omega)) (by first | exact gW_a | exact gW_b | (unfold gW; omega) | (unfold gW; split <;> omega)) (fun c14 => absurd c14 (by omega)) (fun c14 => ?_)
      refine g_aload_n 1 dX10_apply_72 rfl ?_
      refine g_iload_n 3 dX10_apply_73 rfl ?_
      refine g_callV (nc2 := 0) (ns2 := 0) (ci := 10) (As := [.int (gI (a))]) (st := []) rfl dX10_apply_74 okX10_isPlain lX10_126 itX10_isPlain seX10_isPlain rfl hm (by decide) (by decide) rfl (Nat.le_of_ble_eq_true rfl) (sM_isPlain N _ B p hp hp2 hf le fc pn rn hn qn T F a a0 a1 ha hm hT) (by omega) (by omega) (fun v15 hc15 q15 => ?_)
      obtain ⟨hq16, rfl⟩ := q15
      refine Go.nf (h' := h) (st' := [.int (gI (if dY hp F < 1 then 1 else 0))]) hq16 rfl (Nat.le_refl _) (Nat.le_refl _) ?_
      refine g_if_eq (tgt := 88) dX10_apply_77 rfl (by first | exact gW_a | exact gW_b | (unfold gW; omega) | (unfold gW; split <;> omega)) (fun c17 => ?_) (fun c17 => ?_)
      · skip
        have hyF : ¬ dY hp F < 1 := fun z => by rw [if_pos z] at c17; omega
        clear c17
        refine g_bipush dX10_apply_88 (by decide) ?_
        exact g_iret dX10_apply_90 rfl ⟨(((MF.rf [B + 1, B + 3] [0, 1] ma)).1.mo (sub_c (List.Mem.tail _ (List.Mem.tail _ (List.Mem.head _))) (sub_c (List.Mem.head _) (sub_c (List.Mem.tail _ (List.Mem.head _)) sub_n)))), ⟨((MF.rf [B + 1, B + 3] [0, 1] ma)).2.1, hw, ⟨_, h4⟩, ⟨_, h7⟩, ⟨_, h8⟩⟩, (-2), T, (by rw [ap2_s (gT_s a0 a1 ha) (gT_s b0 b1 hb)]; exact (by show Ou T (pl2 hp F G _) _ _; unfold pl2; rw [if_neg (by omega)]; exact ⟨rfl, rfl⟩)), rfl, hT⟩
      · skip
        have hyF : dY hp F < 1 := by
          by_cases z : dY hp F < 1
          · exact z
          · rw [if_neg z] at c17; omega
        clear c17
        refine g_aload_n 1 dX10_apply_80 rfl ?_
        refine g_iload_n 4 dX10_apply_81 rfl ?_
        refine g_callV (nc2 := 0) (ns2 := 0) (ci := 10) (As := [.int (gI (b))]) (st := []) rfl dX10_apply_82 okX10_isPlain lX10_126 itX10_isPlain seX10_isPlain rfl hm (by decide) (by decide) rfl (Nat.le_of_ble_eq_true rfl) (sM_isPlain N _ B p hp hp2 hf le fc pn rn hn qn T G b b0 b1 hb hm hT) (by omega) (by omega) (fun v18 hc18 q18 => ?_)
        obtain ⟨hq19, rfl⟩ := q18
        refine Go.nf (h' := h) (st' := [.int (gI (if dY hp G < 1 then 1 else 0))]) hq19 rfl (Nat.le_refl _) (Nat.le_refl _) ?_
        refine g_if_ne (tgt := 91) dX10_apply_85 rfl (by first | exact gW_a | exact gW_b | (unfold gW; omega) | (unfold gW; split <;> omega)) (fun c20 => ?_) (fun c20 => ?_)
        · skip
          have hyG : dY hp G < 1 := by
            by_cases z : dY hp G < 1
            · exact z
            · rw [if_neg z] at c20; omega
          clear c20
          refine g_iload_n 2 dX10_apply_91 rfl ?_
          refine g_iconst dX10_apply_92 ?_
          refine g_icmp_le (tgt := 101) dX10_apply_93 rfl (by first | exact gW_a | exact gW_b | (unfold gW; omega) | (unfold gW; split <;> omega)) (by first | exact gW_a | exact gW_b | (unfold gW; omega) | (unfold gW; split <;> omega)) (fun c21 => absurd c21 (by omega)) (fun c21 => ?_)
          refine g_iload_n 2 dX10_apply_96 rfl ?_
          refine g_iconst dX10_apply_97 ?_
          refine g_icmp_ne (tgt := 225) dX10_apply_98 rfl (by first | exact gW_a | exact gW_b | (unfold gW; omega) | (unfold gW; split <;> omega)) (by first | exact gW_a | exact gW_b | (unfold gW; omega) | (unfold gW; split <;> omega)) (fun c22 => ?_) (fun c22 => absurd c22 (by omega))
          refine g_iload_n 2 dX10_apply_225 rfl ?_
          refine g_iconst dX10_apply_226 ?_
          refine g_icmp_ne (tgt := 237) dX10_apply_227 rfl (by first | exact gW_a | exact gW_b | (unfold gW; omega) | (unfold gW; split <;> omega)) (by first | exact gW_a | exact gW_b | (unfold gW; omega) | (unfold gW; split <;> omega)) (fun c23 => ?_) (fun c23 => absurd c23 (by omega))
          refine g_iload_n 2 dX10_apply_237 rfl ?_
          refine g_iconst dX10_apply_238 ?_
          refine g_icmp_eq (tgt := 247) dX10_apply_239 rfl (by first | exact gW_a | exact gW_b | (unfold gW; omega) | (unfold gW; split <;> omega)) (by first | exact gW_a | exact gW_b | (unfold gW; omega) | (unfold gW; split <;> omega)) (fun c24 => absurd c24 (by omega)) (fun c24 => ?_)
          refine g_iload_n 2 dX10_apply_242 rfl ?_
          refine g_iconst dX10_apply_243 ?_
          refine g_icmp_ne (tgt := 264) dX10_apply_244 rfl (by first | exact gW_a | exact gW_b | (unfold gW; omega) | (unfold gW; split <;> omega)) (by first | exact gW_a | exact gW_b | (unfold gW; omega) | (unfold gW; split <;> omega)) (fun c25 => ?_) (fun c25 => absurd c25 (by omega))
          refine g_iload_n 2 dX10_apply_264 rfl ?_
          refine g_bipush dX10_apply_265 (by decide) ?_
          refine g_icmp_gt (tgt := 287) dX10_apply_267 rfl (by first | exact gW_a | exact gW_b | (unfold gW; omega) | (unfold gW; split <;> omega)) (by first | exact gW_a | exact gW_b | (unfold gW; omega) | (unfold gW; split <;> omega)) (fun c26 => ?_) (fun c26 => absurd c26 (by omega))
          refine g_iload_n 2 dX10_apply_287 rfl ?_
          refine g_bipush dX10_apply_288 (by decide) ?_
          refine g_icmp_ne (tgt := 300) dX10_apply_290 rfl (by first | exact gW_a | exact gW_b | (unfold gW; omega) | (unfold gW; split <;> omega)) (by first | exact gW_a | exact gW_b | (unfold gW; omega) | (unfold gW; split <;> omega)) (fun c27 => ?_) (fun c27 => absurd c27 (by omega))
          refine g_aload_n 1 dX10_apply_300 rfl ?_
          refine g_iload_n 3 dX10_apply_301 rfl ?_
          refine g_iconst dX10_apply_302 ?_
          refine g_callV (nc2 := 0) (ns2 := 0) (ci := 10) (As := [.int (gI (a)), .int (gI (0))]) (st := []) rfl dX10_apply_303 okX10_toRegister lX10_144 itX10_toRegister seX10_toRegister rfl hm (by decide) (by decide) rfl (Nat.le_of_ble_eq_true rfl) (sM_toRegister N _ B p hp hp2 hf le fc pn rn hn qn T (F) (a) (0) (by omega) a0 a1 ha hm ((MF.rf [B + 1, B + 3] [0, 1] ma)).2.1 hT) (by omega) (by omega) (fun v28 hc28 q28 => ?_)
          obtain ⟨rfl, mfc29, rn29_0⟩ := q28
          have fk30_0 : hc28.2 (B) = some (mO B ((p : Int)) (hf) (le) (fc) (pn) (rn) (hn) (qn)) := Fr.at0 (mfc29).1 (Ni.c ⟨ne4, ne5⟩ (Ni.n _)) hm
          have fk30_1 : hc28.2 (B + 4) = some (aI 1500 (gm)) := Fr.at0 (mfc29).1 (Ni.c ⟨ne26, ne27⟩ (Ni.n _)) h4
          have fk30_2 : hc28.2 (B + 7) = some (aJ 6400 (g7)) := Fr.at0 (mfc29).1 (Ni.c ⟨(ne31).s, (ne33).s⟩ (Ni.n _)) h7
          have fk30_3 : hc28.2 (B + 8) = some (aI 11520 (g8)) := Fr.at0 (mfc29).1 (Ni.c ⟨(ne32).s, (ne34).s⟩ (Ni.n _)) h8
          have rk30_0 : MP hp B hc28 (T) := (hT).fr (mfc29).1 (Ni.c ⟨ne11, ne12⟩ (Ni.n _)) (Ni.c ⟨ne17, ne18⟩ (Ni.n _))
          have rk30_1 : MWA B hc28 := (hw).fr (mfc29).1 (Ni.c ⟨ne22, ne23⟩ (Ni.n _))
          have fr30 : MF B [B + 1, B + 3] [0, 1] h hc28 := ((MF.rf [B + 1, B + 3] [0, 1] ma)).tr ((mfc29).mo sub_n (sbI_c (List.Mem.head _) sbI_n))
          refine Go.nf (h' := hc28) (st' := []) rfl rfl (Nat.le_refl _) (Nat.le_refl _) ?_
          refine g_aload_n 1 dX10_apply_306 rfl ?_
          refine g_iload_n 4 dX10_apply_307 rfl ?_
          refine g_iconst dX10_apply_308 ?_
          refine g_callV (nc2 := 0) (ns2 := 0) (ci := 10) (As := [.int (gI (b)), .int (gI (1))]) (st := []) rfl dX10_apply_309 okX10_toRegister lX10_144 itX10_toRegister seX10_toRegister rfl fk30_0 (by decide) (by decide) rfl (Nat.le_of_ble_eq_true rfl) (sM_toRegister N _ B p hp hp2 hf le fc pn rn hn qn T (G) (b) (1) (by omega) b0 b1 hb fk30_0 (fr30).2.1 rk30_0) (by omega) (by omega) (fun v31 hc31 q31 => ?_)
          obtain ⟨rfl, mfc32, rn32_0⟩ := q31
          have fk33_0 : hc31.2 (B) = some (mO B ((p : Int)) (hf) (le) (fc) (pn) (rn) (hn) (qn)) := Fr.at0 (mfc32).1 (Ni.c ⟨ne4, ne5⟩ (Ni.n _)) fk30_0
          have fk33_1 : hc31.2 (B + 4) = some (aI 1500 (gm)) := Fr.at0 (mfc32).1 (Ni.c ⟨ne26, ne27⟩ (Ni.n _)) fk30_1
          have fk33_2 : hc31.2 (B + 7) = some (aJ 6400 (g7)) := Fr.at0 (mfc32).1 (Ni.c ⟨(ne31).s, (ne33).s⟩ (Ni.n _)) fk30_2
          have fk33_3 : hc31.2 (B + 8) = some (aI 11520 (g8)) := Fr.at0 (mfc32).1 (Ni.c ⟨(ne32).s, (ne34).s⟩ (Ni.n _)) fk30_3
          have rk33_0 : MP hp B hc31 (T) := (rk30_0).fr (mfc32).1 (Ni.c ⟨ne11, ne12⟩ (Ni.n _)) (Ni.c ⟨ne17, ne18⟩ (Ni.n _))
          have rk33_1 : MWA B hc31 := (rk30_1).fr (mfc32).1 (Ni.c ⟨ne22, ne23⟩ (Ni.n _))
          have rk33_2 : MG hp B hc31 (0) (F 0) := (rn29_0).fr hp2 mfc32 (Nr.c (by omega) Nr.n)
          have fr33 : MF B [B + 1, B + 3] [0, 1] h hc31 := (fr30).tr ((mfc32).mo sub_n (sbI_c (List.Mem.tail _ (List.Mem.head _)) sbI_n))
          refine Go.nf (h' := hc31) (st' := []) rfl rfl (Nat.le_refl _) (Nat.le_refl _) ?_
          refine g_iload_n 2 dX10_apply_312 rfl ?_
          refine g_bipush dX10_apply_313 (by decide) ?_
          refine g_icmp_ne (tgt := 325) dX10_apply_315 rfl (by first | exact gW_a | exact gW_b | (unfold gW; omega) | (unfold gW; split <;> omega)) (by first | exact gW_a | exact gW_b | (unfold gW; omega) | (unfold gW; split <;> omega)) (fun c34 => ?_) (fun c34 => absurd c34 (by omega))
          refine g_aload_n 1 dX10_apply_325 rfl ?_
          refine g_iload_n 2 dX10_apply_326 rfl ?_
          refine g_callV (nc2 := 0) (ns2 := 0) (ci := 10) (As := [.int (gI (11))]) (st := []) rfl dX10_apply_327 okX10_plainAct lX10_151 itX10_plainAct seX10_plainAct rfl fk33_0 (by decide) (by decide) rfl (Nat.le_of_ble_eq_true rfl) (sM_plainAct11 N _ B p hp hp2 hf le fc pn rn hn qn T (F 0) (G 0) fk33_0 rk33_0 ⟨(fr33).2.1, rk33_1, ⟨_, fk33_1⟩, ⟨_, fk33_2⟩, ⟨_, fk33_3⟩⟩ rk33_2 rn32_0) (by omega) (by omega) (fun v35 hc35 q35 => ?_)
          obtain ⟨frc36, ms36, w36, T2_36, hO36, rfl, mp36⟩ := q35
          have frz36 := ((fr33).1.mo (sub_c (List.Mem.tail _ (List.Mem.tail _ (List.Mem.head _))) (sub_c (List.Mem.head _) (sub_c (List.Mem.tail _ (List.Mem.head _)) sub_n)))).tr frc36
          refine Go.nf (h' := hc35) (st' := [.int (gI (w36))]) rfl rfl (Nat.le_refl _) (Nat.le_refl _) ?_
          exact g_iret dX10_apply_330 rfl ⟨frz36, ms36, w36, T2_36, (by rw [ap2_s (gT_s a0 a1 ha) (gT_s b0 b1 hb)]; exact (by show Ou T (pl2 hp F G _) _ _; unfold pl2; rw [if_pos (by omega)]; exact hO36)), rfl, mp36⟩
        · skip
          have hyG : ¬ dY hp G < 1 := fun z => by rw [if_pos z] at c20; omega
          clear c20
          refine g_bipush dX10_apply_88 (by decide) ?_
          exact g_iret dX10_apply_90 rfl ⟨(((MF.rf [B + 1, B + 3] [0, 1] ma)).1.mo (sub_c (List.Mem.tail _ (List.Mem.tail _ (List.Mem.head _))) (sub_c (List.Mem.head _) (sub_c (List.Mem.tail _ (List.Mem.head _)) sub_n)))), ⟨((MF.rf [B + 1, B + 3] [0, 1] ma)).2.1, hw, ⟨_, h4⟩, ⟨_, h7⟩, ⟨_, h8⟩⟩, (-2), T, (by rw [ap2_s (gT_s a0 a1 ha) (gT_s b0 b1 hb)]; exact (by show Ou T (pl2 hp F G _) _ _; unfold pl2; rw [if_neg (by omega)]; exact ⟨rfl, rfl⟩)), rfl, hT⟩
    · skip
      refine Go.nf (h' := h) (st' := [.int (gI (0))]) hq11 rfl (Nat.le_refl _) (Nat.le_refl _) ?_
      refine g_if_ne (tgt := 60) dX10_apply_55 rfl (by first | exact gW_a | exact gW_b | (unfold gW; omega) | (unfold gW; split <;> omega)) (fun c37 => absurd c37 (by omega)) (fun c37 => ?_)
      refine g_iconst dX10_apply_58 ?_
      exact g_iret dX10_apply_59 rfl ⟨(((MF.rf [B + 1, B + 3] [0, 1] ma)).1.mo (sub_c (List.Mem.tail _ (List.Mem.tail _ (List.Mem.head _))) (sub_c (List.Mem.head _) (sub_c (List.Mem.tail _ (List.Mem.head _)) sub_n)))), ⟨((MF.rf [B + 1, B + 3] [0, 1] ma)).2.1, hw, ⟨_, h4⟩, ⟨_, h7⟩, ⟨_, h8⟩⟩, (-1), T, (by rw [ap2_nb (gT_n nb)]; exact ⟨rfl, rfl⟩), rfl, hT⟩
  · skip
    refine Go.nf (h' := h) (st' := [.int (gI (0))]) hq7 rfl (Nat.le_refl _) (Nat.le_refl _) ?_
    refine g_if_eq (tgt := 58) dX10_apply_42 rfl (by first | exact gW_a | exact gW_b | (unfold gW; omega) | (unfold gW; split <;> omega)) (fun c38 => ?_) (fun c38 => absurd c38 (by omega))
    refine g_iconst dX10_apply_58 ?_
    exact g_iret dX10_apply_59 rfl ⟨(((MF.rf [B + 1, B + 3] [0, 1] ma)).1.mo (sub_c (List.Mem.tail _ (List.Mem.tail _ (List.Mem.head _))) (sub_c (List.Mem.head _) (sub_c (List.Mem.tail _ (List.Mem.head _)) sub_n)))), ⟨((MF.rf [B + 1, B + 3] [0, 1] ma)).2.1, hw, ⟨_, h4⟩, ⟨_, h7⟩, ⟨_, h8⟩⟩, (-1), T, (by rw [ap2_na (gT_n na)]; exact ⟨rfl, rfl⟩), rfl, hT⟩
set_option maxHeartbeats 4000000 in
set_option maxRecDepth 100000 in
theorem sM_power (N : GN) (h : GH) (B p : Nat) (hp : prm p) (hp2 : p ≤ 65536) (hf le fc pn rn hn qn : Int) (T : PT p) (a m n : Int) (gW_a : gW a) (gW_m : gW m) (gX_n : gX n) (hm : h.2 B = some (mO B p hf le fc pn rn hn qn)) (hT : MP hp B h T) (ms : MS B h)  : Sp N yX10_power mX10_power 0 0 [.ref (B), .int (gI (a)), .long (gJ (n)), .int (gI (m))] h (fun v h1 => Fr [B + 1, B + 3, B + 5, B + 7] h h1 ∧ MS B h1 ∧ ∃ w T2, Ou T (ap2 T a m (rpw hp n)) w T2 ∧ v = some (.int (gI w)) ∧ MP hp B h1 T2) := by
  refine Sp.of (by decide) rfl rfl (Nat.le_of_ble_eq_true rfl) ?_
  show Go N mX10_power _ 0 0 h 0 [(0, .ref (B)), (1, .int (gI (a))), (2, .long (gJ (n))), (4, .int (gI (m)))] []
  have hp1 := hp.1
  have neA : NE B (B + 5) := by unfold NE; omega
  have neB : NE B (B + 6) := by unfold NE; omega
  have neC : NE (B + 5) (B + 6) := by unfold NE; omega
  have ne0 : NE (B) (B + 1) := by unfold NE; omega
  have ne1 : NE (B) (B + 2) := by unfold NE; omega
  have ne2 : NE (B) (B + 3) := by unfold NE; omega
  have ne3 : NE (B) (B + 4) := by unfold NE; omega
  have ne4 : NE (B) (B + 5) := by unfold NE; omega
  have ne5 : NE (B) (B + 6) := by unfold NE; omega
  have ne6 : NE (B) (B + 7) := by unfold NE; omega
  have ne7 : NE (B) (B + 8) := by unfold NE; omega
  have ne8 : NE (B + 1) (B + 2) := by unfold NE; omega
  have ne9 : NE (B + 1) (B + 3) := by unfold NE; omega
  have ne10 : NE (B + 1) (B + 4) := by unfold NE; omega
  have ne11 : NE (B + 1) (B + 5) := by unfold NE; omega
  have ne12 : NE (B + 1) (B + 6) := by unfold NE; omega
  have ne13 : NE (B + 1) (B + 7) := by unfold NE; omega
  have ne14 : NE (B + 1) (B + 8) := by unfold NE; omega
  have ne15 : NE (B + 2) (B + 3) := by unfold NE; omega
  have ne16 : NE (B + 2) (B + 4) := by unfold NE; omega
  have ne17 : NE (B + 2) (B + 5) := by unfold NE; omega
  have ne18 : NE (B + 2) (B + 6) := by unfold NE; omega
  have ne19 : NE (B + 2) (B + 7) := by unfold NE; omega
  have ne20 : NE (B + 2) (B + 8) := by unfold NE; omega
  have ne21 : NE (B + 3) (B + 4) := by unfold NE; omega
  have ne22 : NE (B + 3) (B + 5) := by unfold NE; omega
  have ne23 : NE (B + 3) (B + 6) := by unfold NE; omega
  have ne24 : NE (B + 3) (B + 7) := by unfold NE; omega
  have ne25 : NE (B + 3) (B + 8) := by unfold NE; omega
  have ne26 : NE (B + 4) (B + 5) := by unfold NE; omega
  have ne27 : NE (B + 4) (B + 6) := by unfold NE; omega
  have ne28 : NE (B + 4) (B + 7) := by unfold NE; omega
  have ne29 : NE (B + 4) (B + 8) := by unfold NE; omega
  have ne30 : NE (B + 5) (B + 6) := by unfold NE; omega
  have ne31 : NE (B + 5) (B + 7) := by unfold NE; omega
  have ne32 : NE (B + 5) (B + 8) := by unfold NE; omega
  have ne33 : NE (B + 6) (B + 7) := by unfold NE; omega
  have ne34 : NE (B + 6) (B + 8) := by unfold NE; omega
  have ne35 : NE (B + 7) (B + 8) := by unfold NE; omega
  obtain ⟨ma, hw, ⟨gm, h4⟩, ⟨g7, h7⟩, ⟨g8, h8⟩⟩ := ms
  refine g_aload_n 0 dX10_power_0 rfl ?_
  refine g_iload_n 1 dX10_power_1 rfl ?_
  refine g_callV (nc2 := 0) (ns2 := 0) (ci := 10) (As := [.int (gI (a))]) (st := []) rfl dX10_power_2 okX10_isPlace lX10_118 itX10_isPlace seX10_isPlace rfl hm (by decide) (by decide) rfl (Nat.le_of_ble_eq_true rfl) (sM_isPlace N _ B p hp hp2 hf le fc pn rn hn qn T (a) gW_a hm hT) (by omega) (by omega) (fun v1 hc1 q1 => ?_)
  obtain ⟨hq2, hr2⟩ := q1
  rcases hr2 with ⟨rfl, a0, a1, F, ha⟩ | ⟨rfl, na⟩
  · skip
    refine Go.nf (h' := h) (st' := [.int (gI (1))]) hq2 rfl (Nat.le_refl _) (Nat.le_refl _) ?_
    refine g_if_eq (tgt := 17) dX10_power_5 rfl (by first | exact gW_a | exact gW_m | (unfold gW; omega) | (unfold gW; split <;> omega)) (fun c3 => absurd c3 (by omega)) (fun c3 => ?_)
    refine g_aload_n 0 dX10_power_8 rfl ?_
    refine g_iload 3 dX10_power_9 rfl ?_
    refine g_callV (nc2 := 0) (ns2 := 0) (ci := 10) (As := [.int (gI (m))]) (st := []) rfl dX10_power_11 okX10_isPlace lX10_118 itX10_isPlace seX10_isPlace rfl hm (by decide) (by decide) rfl (Nat.le_of_ble_eq_true rfl) (sM_isPlace N _ B p hp hp2 hf le fc pn rn hn qn T (m) gW_m hm hT) (by omega) (by omega) (fun v4 hc4 q4 => ?_)
    obtain ⟨hq5, hr5⟩ := q4
    rcases hr5 with ⟨rfl, m0, m1, G, hm_⟩ | ⟨rfl, nm⟩
    · skip
      refine Go.nf (h' := h) (st' := [.int (gI (1))]) hq5 rfl (Nat.le_refl _) (Nat.le_refl _) ?_
      refine g_if_ne (tgt := 19) dX10_power_14 rfl (by first | exact gW_a | exact gW_m | (unfold gW; omega) | (unfold gW; split <;> omega)) (fun c6 => ?_) (fun c6 => absurd c6 (by omega))
      refine g_aload_n 0 dX10_power_19 rfl ?_
      refine g_iload_n 1 dX10_power_20 rfl ?_
      refine g_callV (nc2 := 0) (ns2 := 0) (ci := 10) (As := [.int (gI (a))]) (st := []) rfl dX10_power_21 okX10_isPlain lX10_126 itX10_isPlain seX10_isPlain rfl hm (by decide) (by decide) rfl (Nat.le_of_ble_eq_true rfl) (sM_isPlain N _ B p hp hp2 hf le fc pn rn hn qn T F a a0 a1 ha hm hT) (by omega) (by omega) (fun v7 hc7 q7 => ?_)
      obtain ⟨hq8, rfl⟩ := q7
      refine Go.nf (h' := h) (st' := [.int (gI (if dY hp F < 1 then 1 else 0))]) hq8 rfl (Nat.le_refl _) (Nat.le_refl _) ?_
      refine g_if_eq (tgt := 42) dX10_power_24 rfl (by first | exact gW_a | exact gW_m | (unfold gW; omega) | (unfold gW; split <;> omega)) (fun c9 => ?_) (fun c9 => ?_)
      · skip
        have hyF : ¬ dY hp F < 1 := fun z => by rw [if_pos z] at c9; omega
        clear c9
        refine g_bipush dX10_power_42 (by decide) ?_
        exact g_iret dX10_power_44 rfl ⟨(((MF.rf [B + 1, B + 3] [0, 1, 2, 34, 35, 36, 37] ma)).1.mo (sub_c (List.Mem.tail _ (List.Mem.tail _ (List.Mem.head _))) (sub_c (List.Mem.head _) (sub_c (List.Mem.tail _ (List.Mem.head _)) sub_n)))), ⟨((MF.rf [B + 1, B + 3] [0, 1, 2, 34, 35, 36, 37] ma)).2.1, hw, ⟨_, h4⟩, ⟨_, h7⟩, ⟨_, h8⟩⟩, (-2), T, (by rw [ap2_s (gT_s a0 a1 ha) (gT_s m0 m1 hm_)]; exact (by unfold rpw; rw [if_neg (by omega)]; exact ⟨rfl, rfl⟩)), rfl, hT⟩
      · skip
        have hyF : dY hp F < 1 := by
          by_cases z : dY hp F < 1
          · exact z
          · rw [if_neg z] at c9; omega
        clear c9
        refine g_aload_n 0 dX10_power_27 rfl ?_
        refine g_iload 3 dX10_power_28 rfl ?_
        refine g_callV (nc2 := 0) (ns2 := 0) (ci := 10) (As := [.int (gI (m))]) (st := []) rfl dX10_power_30 okX10_isPlain lX10_126 itX10_isPlain seX10_isPlain rfl hm (by decide) (by decide) rfl (Nat.le_of_ble_eq_true rfl) (sM_isPlain N _ B p hp hp2 hf le fc pn rn hn qn T G m m0 m1 hm_ hm hT) (by omega) (by omega) (fun v10 hc10 q10 => ?_)
        obtain ⟨hq11, rfl⟩ := q10
        refine Go.nf (h' := h) (st' := [.int (gI (if dY hp G < 1 then 1 else 0))]) hq11 rfl (Nat.le_refl _) (Nat.le_refl _) ?_
        refine g_if_eq (tgt := 42) dX10_power_33 rfl (by first | exact gW_a | exact gW_m | (unfold gW; omega) | (unfold gW; split <;> omega)) (fun c12 => ?_) (fun c12 => ?_)
        · skip
          have hyG : ¬ dY hp G < 1 := fun z => by rw [if_pos z] at c12; omega
          clear c12
          refine g_bipush dX10_power_42 (by decide) ?_
          exact g_iret dX10_power_44 rfl ⟨(((MF.rf [B + 1, B + 3] [0, 1, 2, 34, 35, 36, 37] ma)).1.mo (sub_c (List.Mem.tail _ (List.Mem.tail _ (List.Mem.head _))) (sub_c (List.Mem.head _) (sub_c (List.Mem.tail _ (List.Mem.head _)) sub_n)))), ⟨((MF.rf [B + 1, B + 3] [0, 1, 2, 34, 35, 36, 37] ma)).2.1, hw, ⟨_, h4⟩, ⟨_, h7⟩, ⟨_, h8⟩⟩, (-2), T, (by rw [ap2_s (gT_s a0 a1 ha) (gT_s m0 m1 hm_)]; exact (by unfold rpw; rw [if_neg (by omega)]; exact ⟨rfl, rfl⟩)), rfl, hT⟩
        · skip
          have hyG : dY hp G < 1 := by
            by_cases z : dY hp G < 1
            · exact z
            · rw [if_neg z] at c12; omega
          clear c12
          refine g_lload_n 2 dX10_power_36 rfl ?_
          refine g_lconst0 dX10_power_37 ?_
          refine g_lcmp dX10_power_38 (by first | exact gX_n | (unfold gX; omega)) (by unfold gX; omega) ?_
          refine g_if_ge (tgt := 45) dX10_power_39 rfl (gW_cmp _ _) (fun c13 => ?_) (fun c13 => ?_)
          · skip
            have hn0 : 0 ≤ n := by
              rcases Int.lt_or_le n 0 with z | z
              · have := gcmp_lt.mpr z; omega
              · exact z
            refine g_aload_n 0 dX10_power_45 rfl ?_
            refine g_iload_n 1 dX10_power_46 rfl ?_
            refine g_iconst dX10_power_47 ?_
            refine g_callV (nc2 := 0) (ns2 := 0) (ci := 10) (As := [.int (gI (a)), .int (gI (0))]) (st := []) rfl dX10_power_48 okX10_toRegister lX10_144 itX10_toRegister seX10_toRegister rfl hm (by decide) (by decide) rfl (Nat.le_of_ble_eq_true rfl) (sM_toRegister N _ B p hp hp2 hf le fc pn rn hn qn T (F) (a) (0) (by omega) a0 a1 ha hm ((MF.rf [B + 1, B + 3] [0, 1, 2, 34, 35, 36, 37] ma)).2.1 hT) (by omega) (by omega) (fun v14 hc14 q14 => ?_)
            obtain ⟨rfl, mfc15, rn15_0⟩ := q14
            have fk16_0 : hc14.2 (B) = some (mO B ((p : Int)) (hf) (le) (fc) (pn) (rn) (hn) (qn)) := Fr.at0 (mfc15).1 (Ni.c ⟨ne4, ne5⟩ (Ni.n _)) hm
            have fk16_1 : hc14.2 (B + 4) = some (aI 1500 (gm)) := Fr.at0 (mfc15).1 (Ni.c ⟨ne26, ne27⟩ (Ni.n _)) h4
            have fk16_2 : hc14.2 (B + 7) = some (aJ 6400 (g7)) := Fr.at0 (mfc15).1 (Ni.c ⟨(ne31).s, (ne33).s⟩ (Ni.n _)) h7
            have fk16_3 : hc14.2 (B + 8) = some (aI 11520 (g8)) := Fr.at0 (mfc15).1 (Ni.c ⟨(ne32).s, (ne34).s⟩ (Ni.n _)) h8
            have rk16_0 : MP hp B hc14 (T) := (hT).fr (mfc15).1 (Ni.c ⟨ne11, ne12⟩ (Ni.n _)) (Ni.c ⟨ne17, ne18⟩ (Ni.n _))
            have rk16_1 : MWA B hc14 := (hw).fr (mfc15).1 (Ni.c ⟨ne22, ne23⟩ (Ni.n _))
            have fr16 : MF B [B + 1, B + 3] [0, 1, 2, 34, 35, 36, 37] h hc14 := ((MF.rf [B + 1, B + 3] [0, 1, 2, 34, 35, 36, 37] ma)).tr ((mfc15).mo sub_n (sbI_c (List.Mem.head _) sbI_n))
            refine Go.nf (h' := hc14) (st' := []) rfl rfl (Nat.le_refl _) (Nat.le_refl _) ?_
            refine g_aload_n 0 dX10_power_51 rfl ?_
            refine g_iload 3 dX10_power_52 rfl ?_
            refine g_iconst dX10_power_54 ?_
            refine g_callV (nc2 := 0) (ns2 := 0) (ci := 10) (As := [.int (gI (m)), .int (gI (1))]) (st := []) rfl dX10_power_55 okX10_toRegister lX10_144 itX10_toRegister seX10_toRegister rfl fk16_0 (by decide) (by decide) rfl (Nat.le_of_ble_eq_true rfl) (sM_toRegister N _ B p hp hp2 hf le fc pn rn hn qn T (G) (m) (1) (by omega) m0 m1 hm_ fk16_0 (fr16).2.1 rk16_0) (by omega) (by omega) (fun v17 hc17 q17 => ?_)
            obtain ⟨rfl, mfc18, rn18_0⟩ := q17
            have fk19_0 : hc17.2 (B) = some (mO B ((p : Int)) (hf) (le) (fc) (pn) (rn) (hn) (qn)) := Fr.at0 (mfc18).1 (Ni.c ⟨ne4, ne5⟩ (Ni.n _)) fk16_0
            have fk19_1 : hc17.2 (B + 4) = some (aI 1500 (gm)) := Fr.at0 (mfc18).1 (Ni.c ⟨ne26, ne27⟩ (Ni.n _)) fk16_1
            have fk19_2 : hc17.2 (B + 7) = some (aJ 6400 (g7)) := Fr.at0 (mfc18).1 (Ni.c ⟨(ne31).s, (ne33).s⟩ (Ni.n _)) fk16_2
            have fk19_3 : hc17.2 (B + 8) = some (aI 11520 (g8)) := Fr.at0 (mfc18).1 (Ni.c ⟨(ne32).s, (ne34).s⟩ (Ni.n _)) fk16_3
            have rk19_0 : MP hp B hc17 (T) := (rk16_0).fr (mfc18).1 (Ni.c ⟨ne11, ne12⟩ (Ni.n _)) (Ni.c ⟨ne17, ne18⟩ (Ni.n _))
            have rk19_1 : MWA B hc17 := (rk16_1).fr (mfc18).1 (Ni.c ⟨ne22, ne23⟩ (Ni.n _))
            have rk19_2 : MG hp B hc17 (0) (F 0) := (rn15_0).fr hp2 mfc18 (Nr.c (by omega) Nr.n)
            have fr19 : MF B [B + 1, B + 3] [0, 1, 2, 34, 35, 36, 37] h hc17 := (fr16).tr ((mfc18).mo sub_n (sbI_c (List.Mem.tail _ (List.Mem.head _)) sbI_n))
            refine Go.nf (h' := hc17) (st' := []) rfl rfl (Nat.le_refl _) (Nat.le_refl _) ?_
            have hG0 := row_po hp (hT.at m0 m1 hm_).1 0
            have hG0g := dgi_ge hp hG0.1
            refine g_aload_n 0 dX10_power_58 rfl ?_
            refine g_getf 6 dX10_power_59 kX10 (by decide) fX10_26 fk19_0 rfl ?_
            refine g_iconst dX10_power_62 ?_
            obtain ⟨dz20, ez20, fz20⟩ := MG.get rn18_0
            refine g_iaload dX10_power_63 ez20 (by omega) (by omega) (by omega) ?_
            rw [fz20]
            refine g_iconst dX10_power_64 ?_
            refine g_icmp_ge (tgt := 71) dX10_power_65 rfl (by first | exact gW_a | exact gW_m | (unfold gW; omega) | (unfold gW; split <;> omega)) (by first | exact gW_a | exact gW_m | (unfold gW; omega) | (unfold gW; split <;> omega)) (fun c21 => ?_) (fun c21 => ?_)
            · skip
              refine g_aload_n 0 dX10_power_71 rfl ?_
              refine g_iconst dX10_power_72 ?_
              refine g_lload_n 2 dX10_power_73 rfl ?_
              refine g_iconst dX10_power_74 ?_
              refine g_iconst dX10_power_75 ?_
              refine g_callV (nc2 := 0) (ns2 := 0) (ci := 10) (As := [.int (gI (0)), .long (gJ (n)), .int (gI (1)), .int (gI (2))]) (st := []) rfl dX10_power_76 okX10_raise lX10_195 itX10_raise seX10_raise rfl fk19_0 (by decide) (by decide) rfl (Nat.le_of_ble_eq_true rfl) (sM_raise N _ B p hp hp2 hf le fc pn rn hn qn (0) (1) (2) (n) (by omega) (by omega) (by omega) (by omega) (by omega) (by unfold gX at gX_n; omega) (F 0) (G 0) fk19_0 (fr19).2.1 rk19_2 rn18_0 (by omega)) (by omega) (by omega) (fun v22 hc22 q22 => ?_)
              obtain ⟨rfl, mfc23, rn23_0⟩ := q22
              have fk24_0 : hc22.2 (B) = some (mO B ((p : Int)) (hf) (le) (fc) (pn) (rn) (hn) (qn)) := Fr.at0 (mfc23).1 (Ni.c ⟨ne4, ne5⟩ (Ni.n _)) fk19_0
              have fk24_1 : hc22.2 (B + 4) = some (aI 1500 (gm)) := Fr.at0 (mfc23).1 (Ni.c ⟨ne26, ne27⟩ (Ni.n _)) fk19_1
              have fk24_2 : hc22.2 (B + 7) = some (aJ 6400 (g7)) := Fr.at0 (mfc23).1 (Ni.c ⟨(ne31).s, (ne33).s⟩ (Ni.n _)) fk19_2
              have fk24_3 : hc22.2 (B + 8) = some (aI 11520 (g8)) := Fr.at0 (mfc23).1 (Ni.c ⟨(ne32).s, (ne34).s⟩ (Ni.n _)) fk19_3
              have rk24_0 : MP hp B hc22 (T) := (rk19_0).fr (mfc23).1 (Ni.c ⟨ne11, ne12⟩ (Ni.n _)) (Ni.c ⟨ne17, ne18⟩ (Ni.n _))
              have rk24_1 : MWA B hc22 := (rk19_1).fr (mfc23).1 (Ni.c ⟨ne22, ne23⟩ (Ni.n _))
              have rk24_2 : MG hp B hc22 (0) (F 0) := (rk19_2).fr hp2 mfc23 (Nr.c (by omega) (Nr.c (by omega) (Nr.c (by omega) (Nr.c (by omega) (Nr.c (by omega) Nr.n)))))
              have rk24_3 : MG hp B hc22 (1) (G 0) := (rn18_0).fr hp2 mfc23 (Nr.c (by omega) (Nr.c (by omega) (Nr.c (by omega) (Nr.c (by omega) (Nr.c (by omega) Nr.n)))))
              have fr24 : MF B [B + 1, B + 3] [0, 1, 2, 34, 35, 36, 37] h hc22 := (fr19).tr ((mfc23).mo sub_n (sbI_c (List.Mem.tail _ (List.Mem.tail _ (List.Mem.tail _ (List.Mem.head _)))) (sbI_c (List.Mem.tail _ (List.Mem.tail _ (List.Mem.tail _ (List.Mem.tail _ (List.Mem.head _))))) (sbI_c (List.Mem.tail _ (List.Mem.tail _ (List.Mem.tail _ (List.Mem.tail _ (List.Mem.tail _ (List.Mem.head _)))))) (sbI_c (List.Mem.tail _ (List.Mem.tail _ (List.Mem.tail _ (List.Mem.tail _ (List.Mem.tail _ (List.Mem.tail _ (List.Mem.head _))))))) (sbI_c (List.Mem.tail _ (List.Mem.tail _ (List.Mem.head _))) sbI_n))))))
              refine Go.nf (h' := hc22) (st' := []) rfl rfl (Nat.le_refl _) (Nat.le_refl _) ?_
              refine g_aload_n 0 dX10_power_79 rfl ?_
              refine g_iconst dX10_power_80 ?_
              refine g_callV (nc2 := 0) (ns2 := 0) (ci := 10) (As := [.int (gI (2))]) (st := []) rfl dX10_power_81 okX10_keepRegister lX10_182 itX10_keepRegister seX10_keepRegister rfl fk24_0 (by decide) (by decide) rfl (Nat.le_of_ble_eq_true rfl) (sM_keepR N _ B p hp hp2 hf le fc pn rn hn qn T (2) (rm hp (pwp hp (F 0) (n).toNat) (G 0)) (gm) fk24_0 rk24_0 rk24_1 fk24_1 rn23_0) (by omega) (by omega) (fun v25 hc25 q25 => ?_)
              obtain ⟨mfc26, f4_26, mwa26, w26, T2_26, hO26, rfl, mp26⟩ := q25
              have fk27_0 : hc25.2 (B) = some (mO B ((p : Int)) (hf) (le) (fc) (pn) (rn) (hn) (qn)) := Fr.at0 (mfc26).1 (Ni.c ⟨ne4, ne5⟩ (Ni.c ⟨ne0, ne1⟩ (Ni.c ⟨ne2, ne3⟩ (Ni.n _)))) fk24_0
              have fk27_2 : hc25.2 (B + 7) = some (aJ 6400 (g7)) := Fr.at0 (mfc26).1 (Ni.c ⟨(ne31).s, (ne33).s⟩ (Ni.c ⟨(ne13).s, (ne19).s⟩ (Ni.c ⟨(ne24).s, (ne28).s⟩ (Ni.n _)))) fk24_2
              have fk27_3 : hc25.2 (B + 8) = some (aI 11520 (g8)) := Fr.at0 (mfc26).1 (Ni.c ⟨(ne32).s, (ne34).s⟩ (Ni.c ⟨(ne14).s, (ne20).s⟩ (Ni.c ⟨(ne25).s, (ne29).s⟩ (Ni.n _)))) fk24_3
              have rk27_2 : MG hp B hc25 (0) (F 0) := (rk24_2).fr hp2 mfc26 Nr.n
              have rk27_3 : MG hp B hc25 (1) (G 0) := (rk24_3).fr hp2 mfc26 Nr.n
              have rk27_4 : MG hp B hc25 (2) (rm hp (pwp hp (F 0) (n).toNat) (G 0)) := (rn23_0).fr hp2 mfc26 Nr.n
              have fr27 : MF B [B + 1, B + 3] [0, 1, 2, 34, 35, 36, 37] h hc25 := (fr24).tr ((mfc26).mo (sub_c (List.Mem.head _) (sub_c (List.Mem.tail _ (List.Mem.head _)) sub_n)) sbI_n)
              refine Go.nf (h' := hc25) (st' := [.int (gI (w26))]) rfl rfl (Nat.le_refl _) (Nat.le_refl _) ?_
              exact g_iret dX10_power_84 rfl ⟨((fr27).1.mo (sub_c (List.Mem.tail _ (List.Mem.tail _ (List.Mem.head _))) (sub_c (List.Mem.head _) (sub_c (List.Mem.tail _ (List.Mem.head _)) sub_n)))), ⟨(fr27).2.1, mwa26, ⟨_, f4_26⟩, ⟨_, fk27_2⟩, ⟨_, fk27_3⟩⟩, w26, T2_26, (by rw [ap2_s (gT_s a0 a1 ha) (gT_s m0 m1 hm_)]; exact (by unfold rpw; rw [if_pos (by omega), if_neg (by omega)]; exact hO26)), rfl, mp26⟩
            · skip
              refine g_bipush dX10_power_68 (by decide) ?_
              exact g_iret dX10_power_70 rfl ⟨((fr19).1.mo (sub_c (List.Mem.tail _ (List.Mem.tail _ (List.Mem.head _))) (sub_c (List.Mem.head _) (sub_c (List.Mem.tail _ (List.Mem.head _)) sub_n)))), ⟨(fr19).2.1, rk19_1, ⟨_, fk19_1⟩, ⟨_, fk19_2⟩, ⟨_, fk19_3⟩⟩, (-3), T, (by rw [ap2_s (gT_s a0 a1 ha) (gT_s m0 m1 hm_)]; exact (by unfold rpw; rw [if_pos (by omega), if_pos (by omega)]; exact ⟨rfl, rfl⟩)), rfl, rk19_0⟩
          · skip
            have hn0 : n < 0 := gcmp_lt.mp c13
            refine g_bipush dX10_power_42 (by decide) ?_
            exact g_iret dX10_power_44 rfl ⟨(((MF.rf [B + 1, B + 3] [0, 1, 2, 34, 35, 36, 37] ma)).1.mo (sub_c (List.Mem.tail _ (List.Mem.tail _ (List.Mem.head _))) (sub_c (List.Mem.head _) (sub_c (List.Mem.tail _ (List.Mem.head _)) sub_n)))), ⟨((MF.rf [B + 1, B + 3] [0, 1, 2, 34, 35, 36, 37] ma)).2.1, hw, ⟨_, h4⟩, ⟨_, h7⟩, ⟨_, h8⟩⟩, (-2), T, (by rw [ap2_s (gT_s a0 a1 ha) (gT_s m0 m1 hm_)]; exact (by unfold rpw; rw [if_neg (by omega)]; exact ⟨rfl, rfl⟩)), rfl, hT⟩
    · skip
      refine Go.nf (h' := h) (st' := [.int (gI (0))]) hq5 rfl (Nat.le_refl _) (Nat.le_refl _) ?_
      refine g_if_ne (tgt := 19) dX10_power_14 rfl (by first | exact gW_a | exact gW_m | (unfold gW; omega) | (unfold gW; split <;> omega)) (fun c28 => absurd c28 (by omega)) (fun c28 => ?_)
      refine g_iconst dX10_power_17 ?_
      exact g_iret dX10_power_18 rfl ⟨(((MF.rf [B + 1, B + 3] [0, 1, 2, 34, 35, 36, 37] ma)).1.mo (sub_c (List.Mem.tail _ (List.Mem.tail _ (List.Mem.head _))) (sub_c (List.Mem.head _) (sub_c (List.Mem.tail _ (List.Mem.head _)) sub_n)))), ⟨((MF.rf [B + 1, B + 3] [0, 1, 2, 34, 35, 36, 37] ma)).2.1, hw, ⟨_, h4⟩, ⟨_, h7⟩, ⟨_, h8⟩⟩, (-1), T, (by rw [ap2_nb (gT_n nm)]; exact ⟨rfl, rfl⟩), rfl, hT⟩
  · skip
    refine Go.nf (h' := h) (st' := [.int (gI (0))]) hq2 rfl (Nat.le_refl _) (Nat.le_refl _) ?_
    refine g_if_eq (tgt := 17) dX10_power_5 rfl (by first | exact gW_a | exact gW_m | (unfold gW; omega) | (unfold gW; split <;> omega)) (fun c29 => ?_) (fun c29 => absurd c29 (by omega))
    refine g_iconst dX10_power_17 ?_
    exact g_iret dX10_power_18 rfl ⟨(((MF.rf [B + 1, B + 3] [0, 1, 2, 34, 35, 36, 37] ma)).1.mo (sub_c (List.Mem.tail _ (List.Mem.tail _ (List.Mem.head _))) (sub_c (List.Mem.head _) (sub_c (List.Mem.tail _ (List.Mem.head _)) sub_n)))), ⟨((MF.rf [B + 1, B + 3] [0, 1, 2, 34, 35, 36, 37] ma)).2.1, hw, ⟨_, h4⟩, ⟨_, h7⟩, ⟨_, h8⟩⟩, (-1), T, (by rw [ap2_na (gT_n na)]; exact ⟨rfl, rfl⟩), rfl, hT⟩
