section
variable {p : Nat}
/-- the square of polynomials: those at D are C's -/
def MSq (hp : prm p) (B : Nat) (h : GH) (D : Int → Int → Prop) (C : Int → Int → Px p) : Prop := ∃ g : Int → Int, h.2 (B + 8) = some (aI 11520 g) ∧ ∀ i k : Int, D i k → (0 ≤ i ∧ i < 12 ∧ 0 ≤ k ∧ k < 12) ∧ po (fR hp) (C i k) ∧ dgi hp (C i k) < 80 ∧ ∀ c : Int, 0 ≤ c → c < 80 → g (80 * (12 * i + k) + c) = cf (C i k) c
theorem MSq.fr {hp : prm p} {B : Nat} {L : List Nat} {h h1 : GH} {D : Int → Int → Prop} {C : Int → Int → Px p} (w : MSq hp B h D C) (f : Fr L h h1) (n : Ni (B + 8) L) : MSq hp B h1 D C := by
  obtain ⟨g, a, b⟩ := w
  exact ⟨g, f.at0 n a, b⟩
theorem MSq.o {hp : prm p} {B : Nat} {h : GH} {D : Int → Int → Prop} {C : Int → Int → Px p} (w : MSq hp B h D C) : ∃ g, h.2 (B + 8) = some (aI 11520 g) := by
  obtain ⟨g, a, b⟩ := w
  exact ⟨g, a⟩
theorem MSq.mono {hp : prm p} {B : Nat} {h : GH} {D D2 : Int → Int → Prop} {C C2 : Int → Int → Px p} (w : MSq hp B h D C) (hD : ∀ i k, D2 i k → D i k) (hC : ∀ i k, D2 i k → C2 i k = C i k) : MSq hp B h D2 C2 := by
  obtain ⟨g, a, b⟩ := w
  refine ⟨g, a, fun i k d => ?_⟩
  rw [hC i k d]
  exact b i k (hD i k d)
theorem MSq.at {hp : prm p} {B : Nat} {h : GH} {D : Int → Int → Prop} {C : Int → Int → Px p} (w : MSq hp B h D C) {i k : Int} (d : D i k) : (0 ≤ i ∧ i < 12 ∧ 0 ≤ k ∧ k < 12) ∧ po (fR hp) (C i k) ∧ dgi hp (C i k) < 80 := by
  obtain ⟨g, a, b⟩ := w
  have := b i k d
  exact ⟨this.1, this.2.1, this.2.2.1⟩
def cup (C : Int → Int → Px p) (i k : Int) (f : Px p) : Int → Int → Px p := fun a b => if a = i ∧ b = k then f else C a b
def sqL (gq : Int → Int) (f : Px p) (t c : Int) : Int → Int := fun m => if 80 * t ≤ m ∧ m < 80 * t + c then cf f (m - 80 * t) else gq m
theorem sqL_0 (gq : Int → Int) (f : Px p) (t : Int) : sqL gq f t 0 = gq := funext fun m => by unfold sqL; rw [if_neg (by omega)]
theorem sqL_s (gq : Int → Int) (f : Px p) {t c : Int} (hc : 0 ≤ c) : gup (sqL gq f t c) (80 * t + c) (cf f c) = sqL gq f t (c + 1) := funext fun m => by
  unfold gup sqL
  by_cases z : m = 80 * t + c
  · subst z; rw [if_pos rfl, if_pos (by omega), show 80 * t + c - 80 * t = c by omega]
  · rw [if_neg z]
    by_cases y : 80 * t ≤ m ∧ m < 80 * t + c
    · rw [if_pos y, if_pos (by omega)]
    · rw [if_neg y, if_neg (by omega)]
theorem MSq.put {hp : prm p} {B : Nat} {h1 : GH} {D : Int → Int → Prop} {C : Int → Int → Px p} {gq : Int → Int} {i k c : Int} {f : Px p} (hb : ∀ i k : Int, D i k → (0 ≤ i ∧ i < 12 ∧ 0 ≤ k ∧ k < 12) ∧ po (fR hp) (C i k) ∧ dgi hp (C i k) < 80 ∧ ∀ c : Int, 0 ≤ c → c < 80 → gq (80 * (12 * i + k) + c) = cf (C i k) c) (hik : 0 ≤ i ∧ i < 12 ∧ 0 ≤ k ∧ k < 12) (hf : po (fR hp) f) (hd : dgi hp f < 80) (hc : c = 80) (a1 : h1.2 (B + 8) = some (aI 11520 (sqL gq f (12 * i + k) c))) : MSq hp B h1 (fun a b => D a b ∨ (a = i ∧ b = k)) (cup C i k f) := by
  refine ⟨_, a1, fun a b d => ?_⟩
  unfold cup
  by_cases z : a = i ∧ b = k
  · rw [if_pos z]
    refine ⟨by omega, hf, hd, fun q q0 q1 => ?_⟩
    unfold sqL
    rw [if_pos (by omega), z.1, z.2, show 80 * (12 * i + k) + q - 80 * (12 * i + k) = q by omega]
  · rw [if_neg z]
    rcases d with d | d
    · have e := hb a b d
      refine ⟨e.1, e.2.1, e.2.2.1, fun q q0 q1 => ?_⟩
      unfold sqL
      rw [if_neg (by omega)]
      exact e.2.2.2 q q0 q1
    · exact absurd d z
/-- minors by integers -/
def mqI (hp : prm p) (A : Nat → Nat → Px p) (c i k : Int) : Px p := mnr (pR hp) A c.toNat i.toNat k.toNat
def swC (C : Int → Int → Px p) (w c k : Int) : Int → Int → Px p := fun i q => if q < k then (if i = w then C c q else if i = c then C w q else C i q) else C i q
theorem swC_s (C : Int → Int → Px p) {w c k : Int} (hw : w ≠ c) (a b : Int) : swC C w c (k + 1) a b = cup (cup (swC C w c k) w k (C c k)) c k (C w k) a b := by
  unfold swC cup
  dsimp only
  by_cases z : b = k
  · rw [if_pos (show b < k + 1 by omega), if_neg (show ¬ b < k by omega)]
    by_cases y : a = c
    · rw [if_pos (show a = c ∧ b = k from ⟨y, z⟩), if_neg (show ¬ a = w by omega), if_pos y, z]
    · rw [if_neg (show ¬ (a = c ∧ b = k) from fun q => y q.1), if_neg y]
      by_cases x : a = w
      · rw [if_pos (show a = w ∧ b = k from ⟨x, z⟩), if_pos x, z]
      · rw [if_neg (show ¬ (a = w ∧ b = k) from fun q => x q.1), if_neg x]
  · rw [if_neg (show ¬ (a = c ∧ b = k) from fun q => z q.2), if_neg (show ¬ (a = w ∧ b = k) from fun q => z q.2)]
    by_cases y : b < k
    · rw [if_pos (show b < k + 1 by omega), if_pos y]
    · rw [if_neg (show ¬ b < k + 1 by omega), if_neg y]
theorem mqI_po (hp : prm p) {sz c i k : Int} {A : Nat → Nat → Px p} (H : barI hp sz.toNat c.toNat A) (s1 : sz ≤ 12) (c0 : 0 ≤ c) (i0 : 0 ≤ i) (i1 : i < sz) (k0 : 0 ≤ k) (k1 : k < sz) : po (fR hp) (mqI hp A c i k) ∧ dgi hp (mqI hp A c i k) < 80 := by
  have hk := H.2.1
  have e := mnr_bd hp H.1 hk (show i.toNat < sz.toNat by omega) (show k.toNat < sz.toNat by omega)
  refine ⟨e.1, ?_⟩
  have := e.2
  show dgi hp (mnr (pR hp) A c.toNat i.toNat k.toNat) < 80
  omega
/-- the swapped square -/
theorem swC_m (hp : prm p) {sz c w k : Int} {A : Nat → Nat → Px p} {C : Int → Int → Px p} (hC : ∀ i q, c ≤ i → i < sz → c ≤ q → q < sz → C i q = mqI hp A c i q) (c0 : 0 ≤ c) (hw : c ≤ w) (hw1 : w < sz) (hk : k = sz ∨ w = c) {i q : Int} (i0 : c ≤ i) (i1 : i < sz) (q0 : c ≤ q) (q1 : q < sz) : swC C w c k i q = mqI hp (swr A c.toNat w.toNat) c i q := by
  unfold mqI
  rw [mnr_sw hp A (show c.toNat ≤ w.toNat by omega)]
  unfold swC swi
  have key : ∀ x : Int, c ≤ x → x < sz → C x q = mnr (pR hp) A c.toNat x.toNat q.toNat := fun x x0 x1 => hC x q x0 x1 q0 q1
  by_cases z : q < k
  · rw [if_pos z]
    by_cases y : i = w
    · rw [if_pos y]
      by_cases x : i = c
      · rw [if_pos (by omega), key c (by omega) (by omega)]
        congr 1
        omega
      · rw [if_neg (by omega), if_pos (by omega)]
        exact key c (by omega) (by omega)
    · rw [if_neg y]
      by_cases x : i = c
      · rw [if_pos x, if_pos (by omega)]
        exact key w hw hw1
      · rw [if_neg x, if_neg (by omega), if_neg (by omega)]
        exact key i i0 i1
  · rw [if_neg z]
    have hwc : w = c := by omega
    by_cases x : i = c
    · rw [if_pos (by omega), key i i0 i1]
      congr 1
      omega
    · rw [if_neg (by omega), if_neg (by omega)]
      exact key i i0 i1
theorem isPv_I (hp : prm p) {sz c w : Int} {A : Nat → Nat → Px p} (c0 : 0 ≤ c) (hw : c ≤ w) (hw1 : w < sz) (hn : 0 ≤ dgi hp (mqI hp A c w c)) (hz : ∀ s, c ≤ s → s < w → dgi hp (mqI hp A c s c) < 0) (hpo : ∀ s, c ≤ s → s < sz → po (fR hp) (mqI hp A c s c)) : isPv hp sz.toNat c.toNat A w.toNat := by
  refine ⟨by omega, by omega, ?_, fun s s0 s1 => ?_⟩
  · intro e
    have e9 : dgi hp (mqI hp A c w c) = -1 := by
      unfold mqI
      rw [e]; exact dgi_0 hp
    omega
  · have e := dgi_z hp (hpo s (by omega) (by omega)) (hz s (by omega) (by omega))
    unfold mqI at e
    rw [show ((s : Nat) : Int).toNat = s by omega] at e
    exact e
theorem barR_none (hp : prm p) {sz c : Int} {A : Nat → Nat → Px p} {s : Bool} {m : Nat} (c0 : 0 ≤ c) (hz : ∀ s, c ≤ s → s < sz → dgi hp (mqI hp A c s c) < 0) (hpo : ∀ s, c ≤ s → s < sz → po (fR hp) (mqI hp A c s c)) : letI := pR hp; barR hp sz.toNat (m + 1) c.toNat A s = 0 := barR_n hp (fun r r0 r1 => by
  have e := dgi_z hp (hpo r (by omega) (by omega)) (hz r (by omega) (by omega))
  unfold mqI at e
  rw [show ((r : Nat) : Int).toNat = r by omega] at e
  exact e)
theorem bar_qI (hp : prm p) {sz c i k : Int} {A : Nat → Nat → Px p} (H : barI hp sz.toNat c.toNat A) (c0 : 0 ≤ c) (c1 : c + 1 < sz) (i0 : 0 ≤ i) (i1 : i < sz) (k0 : 0 ≤ k) (k1 : k < sz) : qt hp (psb hp (pml hp (mqI hp A c c c) (mqI hp A c i k)) (pml hp (mqI hp A c i c) (mqI hp A c c k))) (pvt (pR hp) A c.toNat) = mqI hp A (c + 1) i k := by
  have e := bar_q hp H (show i.toNat < sz.toNat by omega) (show k.toNat < sz.toNat by omega) (show c.toNat + 1 < sz.toNat by omega)
  unfold mqI
  rw [show (c + 1).toNat = c.toNat + 1 by omega, ← e]
  congr 1
  letI := pR hp
  show mnr (pR hp) A c.toNat c.toNat c.toNat * mnr (pR hp) A c.toNat i.toNat k.toNat - mnr (pR hp) A c.toNat i.toNat c.toNat * mnr (pR hp) A c.toNat c.toNat k.toNat = _
  generalize mnr (pR hp) A c.toNat c.toNat c.toNat = x
  generalize mnr (pR hp) A c.toNat i.toNat k.toNat = y
  generalize mnr (pR hp) A c.toNat i.toNat c.toNat = u
  generalize mnr (pR hp) A c.toNat c.toNat k.toNat = v
  grind
/-- an entry of the resultant's rows -/
noncomputable def eyI (hp : prm p) (F G : Pxy p) (i k : Int) : Px p := letI := pR hp; if i < dY hp G then (if 0 ≤ dY hp F - (k - i) ∧ dY hp F - (k - i) ≤ dY hp F then F (dY hp F - (k - i)).toNat else 0) else (if 0 ≤ dY hp G - (k - (i - dY hp G)) ∧ dY hp G - (k - (i - dY hp G)) ≤ dY hp G then G (dY hp G - (k - (i - dY hp G))).toNat else 0)
theorem eyI_m (hp : prm p) {F G : Pxy p} (hF : 0 ≤ dY hp F) (hG : 0 ≤ dY hp G) {i k : Int} (i0 : 0 ≤ i) (k0 : 0 ≤ k) : eyI hp F G i k = mqI hp (sylY hp F G (dY hp F).toNat (dY hp G).toNat) 0 i k := by
  unfold mqI
  rw [show (0 : Int).toNat = 0 from rfl, mnr_0]
  unfold eyI sylY
  by_cases z : i < dY hp G
  · rw [if_pos z, if_pos (show i.toNat < (dY hp G).toNat by omega)]
    by_cases y : 0 ≤ dY hp F - (k - i) ∧ dY hp F - (k - i) ≤ dY hp F
    · rw [if_pos y, if_pos (show i.toNat ≤ k.toNat ∧ k.toNat ≤ i.toNat + (dY hp F).toNat by omega)]
      congr 1
      omega
    · rw [if_neg y, if_neg (show ¬ (i.toNat ≤ k.toNat ∧ k.toNat ≤ i.toNat + (dY hp F).toNat) by omega)]
  · rw [if_neg z, if_neg (show ¬ i.toNat < (dY hp G).toNat by omega)]
    by_cases y : 0 ≤ dY hp G - (k - (i - dY hp G)) ∧ dY hp G - (k - (i - dY hp G)) ≤ dY hp G
    · rw [if_pos y, if_pos (show i.toNat - (dY hp G).toNat ≤ k.toNat ∧ k.toNat ≤ i.toNat by omega)]
      congr 1
      omega
    · rw [if_neg y, if_neg (show ¬ (i.toNat - (dY hp G).toNat ≤ k.toNat ∧ k.toNat ≤ i.toNat) by omega)]
end
set_option maxHeartbeats 4000000 in
set_option maxRecDepth 100000 in
theorem sM_fromSquare (N : GN) (h : GH) (B p : Nat) (hp : prm p) (hp2 : p ≤ 65536) (hf le fc pn rn hn qn : Int) (i k r : Int) (hr : 0 ≤ r ∧ r < 40) (D : Int → Int → Prop) (C : Int → Int → Px p) (hDk : D i k) (hm : h.2 B = some (mO B p hf le fc pn rn hn qn)) (ma : MA B h) (hQ : MSq hp B h D C) : Sp N yX10_fromSquare mX10_fromSquare 0 0 [.ref (B), .int (gI (i)), .int (gI (k)), .int (gI (r))] h (fun v h1 => v = none ∧ MF B [] [r] h h1 ∧ MG hp B h1 (r) (C i k)) := by
  refine Sp.of (by decide) rfl rfl (Nat.le_of_ble_eq_true rfl) ?_
  show Go N mX10_fromSquare _ 0 0 h 0 [(0, .ref (B)), (1, .int (gI (i))), (2, .int (gI (k))), (3, .int (gI (r)))] []
  have hp1 := hp.1
  have neA : NE B (B + 5) := by unfold NE; omega
  have neB : NE B (B + 6) := by unfold NE; omega
  have neC : NE (B + 5) (B + 6) := by unfold NE; omega
  have ne0 : NE (B) (B + 1) := by unfold NE; omega
  have ne1 : NE (B) (B + 2) := by unfold NE; omega
  have ne2 : NE (B) (B + 3) := by unfold NE; omega
  have ne3 : NE (B) (B + 4) := by unfold NE; omega
  have ne4 : NE (B) (B + 5) := by unfold NE; omega
  have ne5 : NE (B) (B + 6) := by unfold NE; omega
  have ne6 : NE (B) (B + 7) := by unfold NE; omega
  have ne7 : NE (B) (B + 8) := by unfold NE; omega
  have ne8 : NE (B + 1) (B + 2) := by unfold NE; omega
  have ne9 : NE (B + 1) (B + 3) := by unfold NE; omega
  have ne10 : NE (B + 1) (B + 4) := by unfold NE; omega
  have ne11 : NE (B + 1) (B + 5) := by unfold NE; omega
  have ne12 : NE (B + 1) (B + 6) := by unfold NE; omega
  have ne13 : NE (B + 1) (B + 7) := by unfold NE; omega
  have ne14 : NE (B + 1) (B + 8) := by unfold NE; omega
  have ne15 : NE (B + 2) (B + 3) := by unfold NE; omega
  have ne16 : NE (B + 2) (B + 4) := by unfold NE; omega
  have ne17 : NE (B + 2) (B + 5) := by unfold NE; omega
  have ne18 : NE (B + 2) (B + 6) := by unfold NE; omega
  have ne19 : NE (B + 2) (B + 7) := by unfold NE; omega
  have ne20 : NE (B + 2) (B + 8) := by unfold NE; omega
  have ne21 : NE (B + 3) (B + 4) := by unfold NE; omega
  have ne22 : NE (B + 3) (B + 5) := by unfold NE; omega
  have ne23 : NE (B + 3) (B + 6) := by unfold NE; omega
  have ne24 : NE (B + 3) (B + 7) := by unfold NE; omega
  have ne25 : NE (B + 3) (B + 8) := by unfold NE; omega
  have ne26 : NE (B + 4) (B + 5) := by unfold NE; omega
  have ne27 : NE (B + 4) (B + 6) := by unfold NE; omega
  have ne28 : NE (B + 4) (B + 7) := by unfold NE; omega
  have ne29 : NE (B + 4) (B + 8) := by unfold NE; omega
  have ne30 : NE (B + 5) (B + 6) := by unfold NE; omega
  have ne31 : NE (B + 5) (B + 7) := by unfold NE; omega
  have ne32 : NE (B + 5) (B + 8) := by unfold NE; omega
  have ne33 : NE (B + 6) (B + 7) := by unfold NE; omega
  have ne34 : NE (B + 6) (B + 8) := by unfold NE; omega
  have ne35 : NE (B + 7) (B + 8) := by unfold NE; omega
  obtain ⟨gq, h8, hq8⟩ := hQ
  have hqq := hq8 i k hDk
  have hgc := dgi_ge hp hqq.2.1
  refine g_aload_n 0 dX10_fromSquare_0 rfl ?_
  refine g_iload_n 3 dX10_fromSquare_1 rfl ?_
  refine g_iconst dX10_fromSquare_2 ?_
  refine g_callV (nc2 := 0) (ns2 := 0) (ci := 10) (As := [.int (gI (r)), .int (gI (0))]) (st := []) rfl dX10_fromSquare_3 okX10_be lX10_170 itX10_be seX10_be rfl hm (by decide) (by decide) rfl (Nat.le_of_ble_eq_true rfl) (sM_be N _ B p hp hp2 hf le fc pn rn hn qn (r) (0) (by omega) (by omega) (by omega) hm ((MF.rf [] [r] ma)).2.1) (by omega) (by omega) (fun v1 hc1 q1 => ?_)
  obtain ⟨rfl, mfc2, rn2_0⟩ := q1
  have fk3_0 : hc1.2 (B) = some (mO B ((p : Int)) (hf) (le) (fc) (pn) (rn) (hn) (qn)) := Fr.at0 (mfc2).1 (Ni.c ⟨ne4, ne5⟩ (Ni.n _)) hm
  have fk3_1 : hc1.2 (B + 8) = some (aI 11520 (gq)) := Fr.at0 (mfc2).1 (Ni.c ⟨(ne32).s, (ne34).s⟩ (Ni.n _)) h8
  have fr3 : MF B [] [r] h hc1 := ((MF.rf [] [r] ma)).tr ((mfc2).mo sub_n (sbI_c (List.Mem.head _) sbI_n))
  refine Go.nf (h' := hc1) (st' := []) rfl rfl (Nat.le_refl _) (Nat.le_refl _) ?_
  have hz9 := rn2_0
  obtain ⟨R, d, hu, hv, hR, hD⟩ := (fr3).2.1
  have hat4 := (rn2_0).at hu hv hR hD
  refine g_iconst dX10_fromSquare_6 ?_
  refine g_istore (ls2 := [(4, .int (gI (0))), (0, .ref (B)), (1, .int (gI (i))), (2, .int (gI (k))), (3, .int (gI (r)))]) dX10_fromSquare_7 (by decide) rfl ?_
  have lo : ∀ (kk : Nat) (c : Int) (hlo : GH), kk = (80 - c).toNat → Fr [B + 5] hc1 hlo → hlo.2 (B + 5) = some (aI 8000 (ar (gup R r (gF (R r) (cf (C i k)) c)))) → hlo.2 (B + 6) = some (aI 40 (d)) → (0 ≤ c ∧ c ≤ 80) → Go N mX10_fromSquare (fun v h1 => v = none ∧ MF B [] [r] h h1 ∧ MG hp B h1 (r) (C i k)) 0 0 hlo 9 [(4, .int (gI (c))), (0, .ref (B)), (1, .int (gI (i))), (2, .int (gI (k))), (3, .int (gI (r)))] [] := by
    refine Go.ind (fun kk ih_lo => ?_)
    intro c hlo hkk_lo fr_lo cf_lo_0 cf_lo_1 hc
    have cg_lo_0 : hlo.2 (B) = some (mO B ((p : Int)) (hf) (le) (fc) (pn) (rn) (hn) (qn)) := Fr.at0 fr_lo (Ni.c ⟨ne4, ne5⟩ (Ni.n _)) fk3_0
    have cg_lo_1 : hlo.2 (B + 8) = some (aI 11520 (gq)) := Fr.at0 fr_lo (Ni.c ⟨(ne32).s, (ne34).s⟩ (Ni.n _)) fk3_1
    refine g_iload 0 dX10_fromSquare_9 rfl ?_
    refine g_bipush dX10_fromSquare_11 (by decide) ?_
    refine g_icmp_ge (tgt := 52) dX10_fromSquare_13 rfl (by unfold gW; omega) (by unfold gW; omega) (fun c155 => ?_) (fun c155 => ?_)
    · skip
      have hc9 : c = 80 := by omega
      refine g_aload_n 1 dX10_fromSquare_52 rfl ?_
      refine g_iload_n 4 dX10_fromSquare_53 rfl ?_
      refine g_callV (nc2 := 0) (ns2 := 0) (ci := 10) (As := [.int (gI (r))]) (st := []) rfl dX10_fromSquare_54 okX10_measure lX10_164 itX10_measure seX10_measure rfl cg_lo_0 (by decide) (by decide) rfl (Nat.le_of_ble_eq_true rfl) (sM_measure N _ B p hp hp2 hf le fc pn rn hn qn (r) (by omega) cg_lo_0 ((gup R r (gF (R r) (cf (C i k)) c))) (d) (C i k) cf_lo_0 cf_lo_1 (fun j j0 j1 => by
                                                                      rw [gup_s]; unfold gF
                                                                      split
                                                                      · exact cf_in (C i k) hp _
                                                                      · rw [(hz9.at hu hv hR hD).2 j j0 j1]; exact cf_in _ hp _) (by
                                                                      rw [gup_s]
                                                                      refine (ph_cf hp hqq.2.1 (d := 199) (by omega)).symm.trans (ph_cg hp (fun j j0 j1 => ?_))
                                                                      unfold gF
                                                                      by_cases z : 0 ≤ j ∧ j < c
                                                                      · rw [if_pos z]
                                                                      · rw [if_neg z, (hz9.at hu hv hR hD).2 j j0 (by omega), cf_hi hp hqq.2.1 (by omega), cf_hi hp (cz_po hp _) (by
                                                                          have : dgi hp (cz hp (zi hp 0)) = -1 := by rw [cz_z0]; exact dgi_0 hp
                                                                          omega)])) (by omega) (by omega) (fun v156 hc156 q156 => ?_)
      obtain ⟨rfl, mfc157, rn157⟩ := q156
      have mfd157 : MF B [] [r] hc1 hc156 := (MF.one (r := r) fr_lo hu hv hR hD cf_lo_0 cf_lo_1 (fun s hs => gup_n _ _ hs) (fun _ _ => rfl)).tr mfc157
      have fk158_0 : hc156.2 (B) = some (mO B ((p : Int)) (hf) (le) (fc) (pn) (rn) (hn) (qn)) := Fr.at0 mfc157.1 (Ni.c ⟨ne4, ne5⟩ (Ni.n _)) cg_lo_0
      have fk158_1 : hc156.2 (B + 8) = some (aI 11520 (gq)) := Fr.at0 mfc157.1 (Ni.c ⟨(ne32).s, (ne34).s⟩ (Ni.n _)) cg_lo_1
      have fr158 : Fr [B + 5] hc1 hc156 := (fr_lo).tr ((mfc157.1).mo (sub_c (List.Mem.head _) sub_n))
      refine Go.nf (h' := hc156) (st' := []) rfl rfl (Nat.le_refl _) (Nat.le_refl _) ?_
      have fk209_0 : hc156.2 (B) = some (mO B ((p : Int)) (hf) (le) (fc) (pn) (rn) (hn) (qn)) := Fr.at0 (mfd157).1 (Ni.c ⟨ne4, ne5⟩ (Ni.n _)) fk3_0
      have fk209_1 : hc156.2 (B + 8) = some (aI 11520 (gq)) := Fr.at0 (mfd157).1 (Ni.c ⟨(ne32).s, (ne34).s⟩ (Ni.n _)) fk3_1
      have fr209 : MF B [] [r] h hc156 := (fr3).tr ((mfd157).mo sub_n (sbI_c (List.Mem.head _) sbI_n))
      exact g_vret dX10_fromSquare_57 rfl ⟨rfl, fr209, rn157⟩
    · skip
      refine g_aload_n 1 dX10_fromSquare_16 rfl ?_
      refine g_getf 5 dX10_fromSquare_17 kX10 (by decide) fX10_23 cg_lo_0 rfl ?_
      refine g_sipush dX10_fromSquare_20 (by decide) ?_
      refine g_iload_n 4 dX10_fromSquare_23 rfl ?_
      refine g_imul dX10_fromSquare_24 ?_
      refine g_iload 0 dX10_fromSquare_25 rfl ?_
      refine g_iadd dX10_fromSquare_27 ?_
      refine g_aload_n 1 dX10_fromSquare_28 rfl ?_
      refine g_getf 8 dX10_fromSquare_29 kX10 (by decide) fX10_33 cg_lo_0 rfl ?_
      refine g_bipush dX10_fromSquare_32 (by decide) ?_
      refine g_bipush dX10_fromSquare_34 (by decide) ?_
      refine g_iload_n 2 dX10_fromSquare_36 rfl ?_
      refine g_imul dX10_fromSquare_37 ?_
      refine g_iload_n 3 dX10_fromSquare_38 rfl ?_
      refine g_iadd dX10_fromSquare_39 ?_
      refine g_imul dX10_fromSquare_40 ?_
      refine g_iload 0 dX10_fromSquare_41 rfl ?_
      refine g_iadd dX10_fromSquare_43 ?_
      refine g_iaload dX10_fromSquare_44 cg_lo_1 (by omega) (by omega) (by omega) ?_
      have hq_ : (gq) (((80) * (((12) * (i)) + (k))) + (c)) = cf (C i k) c := hqq.2.2.2 c hc.1 (by omega)
      rw [hq_]
      refine g_iastore dX10_fromSquare_45 cf_lo_0 (by omega) (by omega) (by omega) ?_
      obtain ⟨hh210, eh210⟩ : ∃ z : GH, z = hset hlo (B + 5) (aI 8000 (gup (ar (gup R r (gF (R r) (cf (C i k)) c))) (((200) * (r)) + (c)) (cf (C i k) c))) := ⟨_, rfl⟩
      refine Go.hp eh210.symm ?_
      have fh210_0 : hh210.2 (B) = some (mO B ((p : Int)) (hf) (le) (fc) (pn) (rn) (hn) (qn)) := hs_n eh210 ne4 cg_lo_0
      have fh210_1 : hh210.2 (B + 8) = some (aI 11520 (gq)) := hs_n eh210 (ne32).s cg_lo_1
      have fh210_2 : hh210.2 (B + 5) = some (aI 8000 (gup (ar (gup R r (gF (R r) (cf (C i k)) c))) (((200) * (r)) + (c)) (cf (C i k) c))) := hs_s eh210
      have fh210_3 : hh210.2 (B + 6) = some (aI 40 (d)) := hs_n eh210 (ne30).s cf_lo_1
      have fr210 : Fr [B + 5] hc1 hh210 := Fr.w0 fr_lo (List.Mem.head _) eh210
      refine g_iinc 0 (ls2 := [(4, .int (gI (c + 1))), (0, .ref (B)), (1, .int (gI (i))), (2, .int (gI (k))), (3, .int (gI (r)))]) dX10_fromSquare_46 rfl (by decide) rfl ?_
      refine g_goto (tgt := 9) dX10_fromSquare_49 rfl ?_
      exact ih_lo _ (by omega) (c + 1) hh210 rfl fr210 (by rw [← gF_s (R r) (cf (C i k)) hc.1, ← ar_wg R _ hc.1 (by omega)]; exact fh210_2) fh210_3 (by omega)
  exact lo _ (0) hc1 rfl (Fr.rf [B + 5] hc1) (by rw [gF_0, gup_id]; exact hR) hD (by omega)
set_option maxHeartbeats 4000000 in
set_option maxRecDepth 100000 in
theorem sM_toSquare0 (N : GN) (h : GH) (B p : Nat) (hp : prm p) (hp2 : p ≤ 65536) (hf le fc pn rn hn qn : Int) (r i k : Int) (hik : 0 ≤ i ∧ i < 12 ∧ 0 ≤ k ∧ k < 12) (D : Int → Int → Prop) (C : Int → Int → Px p) (f : Px p) (g7 : Int → Int) (hm : h.2 B = some (mO B p hf le fc pn rn hn qn)) (ma : MA B h) (h7 : h.2 (B + 7) = some (aJ 6400 g7)) (hQ : MSq hp B h D C) (hG : MG hp B h r f) (hdf : dgi hp f < 80) : Sp N yX10_toSquare mX10_toSquare 0 0 [.ref (B), .int (gI (r)), .int (gI (i)), .int (gI (k))] h (fun v h1 => v = none ∧ MF B [B + 7] [] h h1 ∧ h1.2 (B + 7) = some (aJ 6400 g7) ∧ MSq hp B h1 (fun a b => D a b ∨ (a = i ∧ b = k)) (cup C i k f)) := by
  refine Sp.of (by decide) rfl rfl (Nat.le_of_ble_eq_true rfl) ?_
  show Go N mX10_toSquare _ 0 0 h 0 [(0, .ref (B)), (1, .int (gI (r))), (2, .int (gI (i))), (3, .int (gI (k)))] []
  have hp1 := hp.1
  have neA : NE B (B + 5) := by unfold NE; omega
  have neB : NE B (B + 6) := by unfold NE; omega
  have neC : NE (B + 5) (B + 6) := by unfold NE; omega
  have ne0 : NE (B) (B + 1) := by unfold NE; omega
  have ne1 : NE (B) (B + 2) := by unfold NE; omega
  have ne2 : NE (B) (B + 3) := by unfold NE; omega
  have ne3 : NE (B) (B + 4) := by unfold NE; omega
  have ne4 : NE (B) (B + 5) := by unfold NE; omega
  have ne5 : NE (B) (B + 6) := by unfold NE; omega
  have ne6 : NE (B) (B + 7) := by unfold NE; omega
  have ne7 : NE (B) (B + 8) := by unfold NE; omega
  have ne8 : NE (B + 1) (B + 2) := by unfold NE; omega
  have ne9 : NE (B + 1) (B + 3) := by unfold NE; omega
  have ne10 : NE (B + 1) (B + 4) := by unfold NE; omega
  have ne11 : NE (B + 1) (B + 5) := by unfold NE; omega
  have ne12 : NE (B + 1) (B + 6) := by unfold NE; omega
  have ne13 : NE (B + 1) (B + 7) := by unfold NE; omega
  have ne14 : NE (B + 1) (B + 8) := by unfold NE; omega
  have ne15 : NE (B + 2) (B + 3) := by unfold NE; omega
  have ne16 : NE (B + 2) (B + 4) := by unfold NE; omega
  have ne17 : NE (B + 2) (B + 5) := by unfold NE; omega
  have ne18 : NE (B + 2) (B + 6) := by unfold NE; omega
  have ne19 : NE (B + 2) (B + 7) := by unfold NE; omega
  have ne20 : NE (B + 2) (B + 8) := by unfold NE; omega
  have ne21 : NE (B + 3) (B + 4) := by unfold NE; omega
  have ne22 : NE (B + 3) (B + 5) := by unfold NE; omega
  have ne23 : NE (B + 3) (B + 6) := by unfold NE; omega
  have ne24 : NE (B + 3) (B + 7) := by unfold NE; omega
  have ne25 : NE (B + 3) (B + 8) := by unfold NE; omega
  have ne26 : NE (B + 4) (B + 5) := by unfold NE; omega
  have ne27 : NE (B + 4) (B + 6) := by unfold NE; omega
  have ne28 : NE (B + 4) (B + 7) := by unfold NE; omega
  have ne29 : NE (B + 4) (B + 8) := by unfold NE; omega
  have ne30 : NE (B + 5) (B + 6) := by unfold NE; omega
  have ne31 : NE (B + 5) (B + 7) := by unfold NE; omega
  have ne32 : NE (B + 5) (B + 8) := by unfold NE; omega
  have ne33 : NE (B + 6) (B + 7) := by unfold NE; omega
  have ne34 : NE (B + 6) (B + 8) := by unfold NE; omega
  have ne35 : NE (B + 7) (B + 8) := by unfold NE; omega
  have hri := hG.in
  have hlf := hG.lt
  obtain ⟨gq, h8, hq8⟩ := hQ
  refine g_iconst dX10_toSquare_0 ?_
  refine g_istore (ls2 := [(4, .int (gI (0))), (0, .ref (B)), (1, .int (gI (r))), (2, .int (gI (i))), (3, .int (gI (k)))]) dX10_toSquare_1 (by decide) rfl ?_
  have lo : ∀ (kk : Nat) (c : Int) (hlo : GH), kk = (80 - c).toNat → MF B [B + 7] [] h hlo → hlo.2 (B + 7) = some (aJ 6400 (g7)) → hlo.2 (B + 8) = some (aI 11520 (sqL gq f (12 * i + k) c)) → MG hp B hlo (r) (f) → (0 ≤ c ∧ c ≤ 80) → Go N mX10_toSquare (fun v h1 => v = none ∧ MF B [B + 7] [] h h1 ∧ h1.2 (B + 7) = some (aJ 6400 g7) ∧ MSq hp B h1 (fun a b => D a b ∨ (a = i ∧ b = k)) (cup C i k f)) 0 0 hlo 3 [(4, .int (gI (c))), (0, .ref (B)), (1, .int (gI (r))), (2, .int (gI (i))), (3, .int (gI (k)))] [] := by
    refine Go.ind (fun kk ih_lo => ?_)
    intro c hlo hkk_lo fr_lo cf_lo_0 cf_lo_1 cr_lo_0 hc
    have cg_lo_0 : hlo.2 (B) = some (mO B ((p : Int)) (hf) (le) (fc) (pn) (rn) (hn) (qn)) := Fr.at0 (fr_lo).1 (Ni.c ⟨ne4, ne5⟩ (Ni.c ⟨ne6, ne7⟩ (Ni.n _))) hm
    refine g_iload 0 dX10_toSquare_3 rfl ?_
    refine g_bipush dX10_toSquare_5 (by decide) ?_
    refine g_icmp_ge (tgt := 46) dX10_toSquare_7 rfl (by unfold gW; omega) (by unfold gW; omega) (fun c101 => ?_) (fun c101 => ?_)
    · skip
      exact g_vret dX10_toSquare_46 rfl ⟨rfl, fr_lo, cf_lo_0, MSq.put hq8 hik hG.po hdf (by omega) cf_lo_1⟩
    · skip
      refine g_aload_n 1 dX10_toSquare_10 rfl ?_
      refine g_getf 8 dX10_toSquare_11 kX10 (by decide) fX10_33 cg_lo_0 rfl ?_
      refine g_bipush dX10_toSquare_14 (by decide) ?_
      refine g_bipush dX10_toSquare_16 (by decide) ?_
      refine g_iload_n 3 dX10_toSquare_18 rfl ?_
      refine g_imul dX10_toSquare_19 ?_
      refine g_iload_n 4 dX10_toSquare_20 rfl ?_
      refine g_iadd dX10_toSquare_21 ?_
      refine g_imul dX10_toSquare_22 ?_
      refine g_iload 0 dX10_toSquare_23 rfl ?_
      refine g_iadd dX10_toSquare_25 ?_
      obtain ⟨R102, hR102, hv102⟩ := MG.num cr_lo_0
      refine g_aload_n 1 dX10_toSquare_26 rfl ?_
      refine g_getf 5 dX10_toSquare_27 kX10 (by decide) fX10_23 cg_lo_0 rfl ?_
      refine g_sipush dX10_toSquare_30 (by decide) ?_
      refine g_iload_n 2 dX10_toSquare_33 rfl ?_
      refine g_imul dX10_toSquare_34 ?_
      refine g_iload 0 dX10_toSquare_35 rfl ?_
      refine g_iadd dX10_toSquare_37 ?_
      refine g_iaload dX10_toSquare_38 hR102 (by omega) (by omega) (by omega) ?_
      have hv_ : (ar R102) (((200) * (r)) + (c)) = cf f c := by
        rw [ar_r _ (by omega) (by omega)]; exact hv102 _ (by omega) (by omega)
      rw [hv_]
      refine g_iastore dX10_toSquare_39 cf_lo_1 (by omega) (by omega) (by omega) ?_
      obtain ⟨hh103, eh103⟩ : ∃ z : GH, z = hset hlo (B + 8) (aI 11520 (gup (sqL gq f (12 * i + k) c) (((80) * (((12) * (i)) + (k))) + (c)) (cf f c))) := ⟨_, rfl⟩
      refine Go.hp eh103.symm ?_
      have fx103 : Fr [B + 7] hlo hh103 := Fr.w1 (Fr.rf _ _) (List.Mem.head _) eh103
      have fh103_1 : hh103.2 (B + 7) = some (aJ 6400 (g7)) := hs_n eh103 ne35 cf_lo_0
      have fhw103 : hh103.2 (B + 8) = some (aI 11520 (gup (sqL gq f (12 * i + k) c) (((80) * (((12) * (i)) + (k))) + (c)) (cf f c))) := hs_s eh103
      have mfz104 : MF B [B + 7] [] hlo hh103 := MF.of fx103 (fr_lo).2.1 (Ni.c ⟨ne31, ne32⟩ (Ni.n _)) (Ni.c ⟨ne33, ne34⟩ (Ni.n _)) []
      have fk105_0 : hh103.2 (B) = some (mO B ((p : Int)) (hf) (le) (fc) (pn) (rn) (hn) (qn)) := Fr.at0 (mfz104).1 (Ni.c ⟨ne4, ne5⟩ (Ni.c ⟨ne6, ne7⟩ (Ni.n _))) cg_lo_0
      have rk105_0 : MG hp B hh103 (r) (f) := (cr_lo_0).fr hp2 mfz104 Nr.n
      have fr105 : MF B [B + 7] [] h hh103 := (fr_lo).tr ((mfz104).mo (sub_c (List.Mem.head _) sub_n) sbI_n)
      refine g_iinc 0 (ls2 := [(4, .int (gI (c + 1))), (0, .ref (B)), (1, .int (gI (r))), (2, .int (gI (i))), (3, .int (gI (k)))]) dX10_toSquare_40 rfl (by decide) rfl ?_
      refine g_goto (tgt := 3) dX10_toSquare_43 rfl ?_
      exact ih_lo _ (by omega) (c + 1) hh103 rfl fr105 fh103_1 (by rw [← sqL_s gq f hc.1]; exact fhw103) rk105_0 (by omega)
  exact lo _ (0) h rfl (MF.rf [B + 7] [] ma) h7 (by rw [sqL_0]; exact h8) hG (by omega)
set_option maxHeartbeats 4000000 in
set_option maxRecDepth 100000 in
theorem sM_byY (N : GN) (h : GH) (B p : Nat) (hp : prm p) (hp2 : p ≤ 65536) (hf le fc pn rn hn qn : Int) (T : PT p) (F G : Pxy p) (a b : Int) (a0 : 0 ≤ a) (a1 : a < 100) (ha : T a.toNat = some F) (b0 : 0 ≤ b) (b1 : b < 100) (hb : T b.toNat = some G) (hm : h.2 B = some (mO B p hf le fc pn rn hn qn)) (hT : MP hp B h T) (ms : MS B h)  : Sp N yX10_byY mX10_byY 0 0 [.ref (B), .int (gI (a)), .int (gI (b))] h (fun v h1 => Fr [B + 1, B + 3, B + 5, B + 7] h h1 ∧ MS B h1 ∧ ∃ w T2, Ou T (pa12 hp F G) w T2 ∧ v = some (.int (gI w)) ∧ MP hp B h1 T2) := by
  refine Sp.of (by decide) rfl rfl (Nat.le_of_ble_eq_true rfl) ?_
  show Go N mX10_byY _ 0 0 h 0 [(0, .ref (B)), (1, .int (gI (a))), (2, .int (gI (b)))] []
  have hp1 := hp.1
  have neA : NE B (B + 5) := by unfold NE; omega
  have neB : NE B (B + 6) := by unfold NE; omega
  have neC : NE (B + 5) (B + 6) := by unfold NE; omega
  have ne0 : NE (B) (B + 1) := by unfold NE; omega
  have ne1 : NE (B) (B + 2) := by unfold NE; omega
  have ne2 : NE (B) (B + 3) := by unfold NE; omega
  have ne3 : NE (B) (B + 4) := by unfold NE; omega
  have ne4 : NE (B) (B + 5) := by unfold NE; omega
  have ne5 : NE (B) (B + 6) := by unfold NE; omega
  have ne6 : NE (B) (B + 7) := by unfold NE; omega
  have ne7 : NE (B) (B + 8) := by unfold NE; omega
  have ne8 : NE (B + 1) (B + 2) := by unfold NE; omega
  have ne9 : NE (B + 1) (B + 3) := by unfold NE; omega
  have ne10 : NE (B + 1) (B + 4) := by unfold NE; omega
  have ne11 : NE (B + 1) (B + 5) := by unfold NE; omega
  have ne12 : NE (B + 1) (B + 6) := by unfold NE; omega
  have ne13 : NE (B + 1) (B + 7) := by unfold NE; omega
  have ne14 : NE (B + 1) (B + 8) := by unfold NE; omega
  have ne15 : NE (B + 2) (B + 3) := by unfold NE; omega
  have ne16 : NE (B + 2) (B + 4) := by unfold NE; omega
  have ne17 : NE (B + 2) (B + 5) := by unfold NE; omega
  have ne18 : NE (B + 2) (B + 6) := by unfold NE; omega
  have ne19 : NE (B + 2) (B + 7) := by unfold NE; omega
  have ne20 : NE (B + 2) (B + 8) := by unfold NE; omega
  have ne21 : NE (B + 3) (B + 4) := by unfold NE; omega
  have ne22 : NE (B + 3) (B + 5) := by unfold NE; omega
  have ne23 : NE (B + 3) (B + 6) := by unfold NE; omega
  have ne24 : NE (B + 3) (B + 7) := by unfold NE; omega
  have ne25 : NE (B + 3) (B + 8) := by unfold NE; omega
  have ne26 : NE (B + 4) (B + 5) := by unfold NE; omega
  have ne27 : NE (B + 4) (B + 6) := by unfold NE; omega
  have ne28 : NE (B + 4) (B + 7) := by unfold NE; omega
  have ne29 : NE (B + 4) (B + 8) := by unfold NE; omega
  have ne30 : NE (B + 5) (B + 6) := by unfold NE; omega
  have ne31 : NE (B + 5) (B + 7) := by unfold NE; omega
  have ne32 : NE (B + 5) (B + 8) := by unfold NE; omega
  have ne33 : NE (B + 6) (B + 7) := by unfold NE; omega
  have ne34 : NE (B + 6) (B + 8) := by unfold NE; omega
  have ne35 : NE (B + 7) (B + 8) := by unfold NE; omega
  obtain ⟨ma, hw, ⟨gm, h4⟩, ⟨g7, h7⟩, ⟨g8, h8⟩⟩ := ms
  have hdF := (hT.at a0 a1 ha).1.dg.2.2
  have hdG := (hT.at b0 b1 hb).1.dg.2.2
  refine g_aload_n 0 dX10_byY_0 rfl ?_
  refine g_iload_n 1 dX10_byY_1 rfl ?_
  refine g_callV (nc2 := 0) (ns2 := 0) (ci := 10) (As := [.int (gI (a))]) (st := []) rfl dX10_byY_2 okX10_degreeY lX10_103 itX10_degreeY seX10_degreeY rfl hm (by decide) (by decide) rfl (Nat.le_of_ble_eq_true rfl) (sM_degreeY N _ B p hp hp2 hf le fc pn rn hn qn T F a a0 a1 ha hm hT) (by omega) (by omega) (fun v1 hc1 q1 => ?_)
  obtain ⟨hq2, rfl⟩ := q1
  refine Go.nf (h' := h) (st' := [.int (gI (dY hp F))]) hq2 rfl (Nat.le_refl _) (Nat.le_refl _) ?_
  refine g_istore_n (ls2 := [(3, .int (gI (dY hp F))), (0, .ref (B)), (1, .int (gI (a))), (2, .int (gI (b)))]) dX10_byY_5 rfl (by decide) rfl ?_
  refine g_aload_n 1 dX10_byY_6 rfl ?_
  refine g_iload_n 3 dX10_byY_7 rfl ?_
  refine g_callV (nc2 := 0) (ns2 := 0) (ci := 10) (As := [.int (gI (b))]) (st := []) rfl dX10_byY_8 okX10_degreeY lX10_103 itX10_degreeY seX10_degreeY rfl hm (by decide) (by decide) rfl (Nat.le_of_ble_eq_true rfl) (sM_degreeY N _ B p hp hp2 hf le fc pn rn hn qn T G b b0 b1 hb hm hT) (by omega) (by omega) (fun v3 hc3 q3 => ?_)
  obtain ⟨hq4, rfl⟩ := q3
  refine Go.nf (h' := h) (st' := [.int (gI (dY hp G))]) hq4 rfl (Nat.le_refl _) (Nat.le_refl _) ?_
  refine g_istore (ls2 := [(4, .int (gI (dY hp G))), (3, .int (gI (dY hp F))), (0, .ref (B)), (1, .int (gI (a))), (2, .int (gI (b)))]) dX10_byY_11 (by decide) rfl ?_
  refine g_iload_n 1 dX10_byY_13 rfl ?_
  refine g_iconst dX10_byY_14 ?_
  refine g_icmp_lt (tgt := 44) dX10_byY_15 rfl (by first | (unfold gW; omega) | (unfold gW; split <;> omega)) (by first | (unfold gW; omega) | (unfold gW; split <;> omega)) (fun c5 => ?_) (fun c5 => ?_)
  · skip
    refine g_bipush dX10_byY_44 (by decide) ?_
    exact g_iret dX10_byY_46 rfl ⟨(((MF.rf [B + 1, B + 3, B + 7] [0, 1, 2, 3, 4, 5, 6, 7, 8, 9, 10] ma)).1.mo (sub_c (List.Mem.tail _ (List.Mem.tail _ (List.Mem.head _))) (sub_c (List.Mem.head _) (sub_c (List.Mem.tail _ (List.Mem.head _)) (sub_c (List.Mem.tail _ (List.Mem.tail _ (List.Mem.tail _ (List.Mem.head _)))) sub_n))))), ⟨((MF.rf [B + 1, B + 3, B + 7] [0, 1, 2, 3, 4, 5, 6, 7, 8, 9, 10] ma)).2.1, hw, ⟨_, h4⟩, ⟨_, h7⟩, ⟨_, h8⟩⟩, (-2), T, (by unfold pa12; rw [if_pos (by omega)]; exact ⟨rfl, rfl⟩), rfl, hT⟩
  · skip
    refine g_iload 0 dX10_byY_18 rfl ?_
    refine g_iconst dX10_byY_20 ?_
    refine g_icmp_lt (tgt := 44) dX10_byY_21 rfl (by first | (unfold gW; omega) | (unfold gW; split <;> omega)) (by first | (unfold gW; omega) | (unfold gW; split <;> omega)) (fun c6 => ?_) (fun c6 => ?_)
    · skip
      refine g_bipush dX10_byY_44 (by decide) ?_
      exact g_iret dX10_byY_46 rfl ⟨(((MF.rf [B + 1, B + 3, B + 7] [0, 1, 2, 3, 4, 5, 6, 7, 8, 9, 10] ma)).1.mo (sub_c (List.Mem.tail _ (List.Mem.tail _ (List.Mem.head _))) (sub_c (List.Mem.head _) (sub_c (List.Mem.tail _ (List.Mem.head _)) (sub_c (List.Mem.tail _ (List.Mem.tail _ (List.Mem.tail _ (List.Mem.head _)))) sub_n))))), ⟨((MF.rf [B + 1, B + 3, B + 7] [0, 1, 2, 3, 4, 5, 6, 7, 8, 9, 10] ma)).2.1, hw, ⟨_, h4⟩, ⟨_, h7⟩, ⟨_, h8⟩⟩, (-2), T, (by unfold pa12; rw [if_pos (by omega)]; exact ⟨rfl, rfl⟩), rfl, hT⟩
    · skip
      refine g_aload_n 2 dX10_byY_24 rfl ?_
      refine g_iload_n 3 dX10_byY_25 rfl ?_
      refine g_callV (nc2 := 0) (ns2 := 0) (ci := 10) (As := [.int (gI (a))]) (st := []) rfl dX10_byY_26 okX10_degreeX lX10_154 itX10_degreeX seX10_degreeX rfl hm (by decide) (by decide) rfl (Nat.le_of_ble_eq_true rfl) (sM_degreeX N _ B p hp hp2 hf le fc pn rn hn qn T F a a0 a1 ha hm hT) (by omega) (by omega) (fun v7 hc7 q7 => ?_)
      obtain ⟨hq8, rfl⟩ := q7
      refine Go.nf (h' := h) (st' := [.int (gI (dX hp F))]) hq8 rfl (Nat.le_refl _) (Nat.le_refl _) ?_
      refine g_bipush dX10_byY_29 (by decide) ?_
      refine g_icmp_gt (tgt := 44) dX10_byY_31 rfl (by first | (unfold gW; omega) | (unfold gW; split <;> omega)) (by first | (unfold gW; omega) | (unfold gW; split <;> omega)) (fun c9 => ?_) (fun c9 => ?_)
      · skip
        refine g_bipush dX10_byY_44 (by decide) ?_
        exact g_iret dX10_byY_46 rfl ⟨(((MF.rf [B + 1, B + 3, B + 7] [0, 1, 2, 3, 4, 5, 6, 7, 8, 9, 10] ma)).1.mo (sub_c (List.Mem.tail _ (List.Mem.tail _ (List.Mem.head _))) (sub_c (List.Mem.head _) (sub_c (List.Mem.tail _ (List.Mem.head _)) (sub_c (List.Mem.tail _ (List.Mem.tail _ (List.Mem.tail _ (List.Mem.head _)))) sub_n))))), ⟨((MF.rf [B + 1, B + 3, B + 7] [0, 1, 2, 3, 4, 5, 6, 7, 8, 9, 10] ma)).2.1, hw, ⟨_, h4⟩, ⟨_, h7⟩, ⟨_, h8⟩⟩, (-2), T, (by unfold pa12; rw [if_pos (by omega)]; exact ⟨rfl, rfl⟩), rfl, hT⟩
      · skip
        refine g_aload_n 2 dX10_byY_34 rfl ?_
        refine g_iload_n 4 dX10_byY_35 rfl ?_
        refine g_callV (nc2 := 0) (ns2 := 0) (ci := 10) (As := [.int (gI (b))]) (st := []) rfl dX10_byY_36 okX10_degreeX lX10_154 itX10_degreeX seX10_degreeX rfl hm (by decide) (by decide) rfl (Nat.le_of_ble_eq_true rfl) (sM_degreeX N _ B p hp hp2 hf le fc pn rn hn qn T G b b0 b1 hb hm hT) (by omega) (by omega) (fun v10 hc10 q10 => ?_)
        obtain ⟨hq11, rfl⟩ := q10
        refine Go.nf (h' := h) (st' := [.int (gI (dX hp G))]) hq11 rfl (Nat.le_refl _) (Nat.le_refl _) ?_
        refine g_bipush dX10_byY_39 (by decide) ?_
        refine g_icmp_le (tgt := 47) dX10_byY_41 rfl (by first | (unfold gW; omega) | (unfold gW; split <;> omega)) (by first | (unfold gW; omega) | (unfold gW; split <;> omega)) (fun c12 => ?_) (fun c12 => ?_)
        · skip
          refine g_iload_n 1 dX10_byY_47 rfl ?_
          refine g_iload 0 dX10_byY_48 rfl ?_
          refine g_iadd dX10_byY_50 ?_
          refine g_istore (ls2 := [(5, .int (gI ((dY hp F) + (dY hp G)))), (4, .int (gI (dY hp G))), (3, .int (gI (dY hp F))), (0, .ref (B)), (1, .int (gI (a))), (2, .int (gI (b)))]) dX10_byY_51 (by decide) rfl ?_
          refine g_iconst dX10_byY_53 ?_
          refine g_istore (ls2 := [(6, .int (gI (0))), (5, .int (gI ((dY hp F) + (dY hp G)))), (4, .int (gI (dY hp G))), (3, .int (gI (dY hp F))), (0, .ref (B)), (1, .int (gI (a))), (2, .int (gI (b)))]) dX10_byY_54 (by decide) rfl ?_
          have hFB := (hT.at a0 a1 ha).1
          have hGB := (hT.at b0 b1 hb).1
          have mq0 : MSq hp B h (fun _ _ => False) (eyI hp F G) := ⟨_, h8, fun _ _ d => absurd d id⟩
          have mqm13 : MSq hp B h (fun x y => 0 ≤ x ∧ x < 0 ∧ 0 ≤ y ∧ y < dY hp F + dY hp G) (eyI hp F G) := (mq0).mono (fun x y d => by omega) (fun _ _ _ => rfl)
          have li : ∀ (kk : Nat) (i : Int) (hli : GH), kk = (12 - i).toNat → MF B [B + 1, B + 3, B + 7] [0, 1, 2, 3, 4, 5, 6, 7, 8, 9, 10] h hli → hli.2 (B + 4) = some (aI 1500 (gm)) → hli.2 (B + 7) = some (aJ 6400 (g7)) → MP hp B hli (T) → MWA B hli → MSq hp B hli (fun x y => 0 ≤ x ∧ x < i ∧ 0 ≤ y ∧ y < dY hp F + dY hp G) (eyI hp F G) → (0 ≤ i ∧ i ≤ dY hp F + dY hp G) → Go N mX10_byY (fun v h1 => Fr [B + 1, B + 3, B + 5, B + 7] h h1 ∧ MS B h1 ∧ ∃ w T2, Ou T (pa12 hp F G) w T2 ∧ v = some (.int (gI w)) ∧ MP hp B h1 T2) 0 0 hli 56 [(6, .int (gI (i))), (5, .int (gI ((dY hp F) + (dY hp G)))), (4, .int (gI (dY hp G))), (3, .int (gI (dY hp F))), (0, .ref (B)), (1, .int (gI (a))), (2, .int (gI (b)))] [] := by
            refine Go.ind (fun kk ih_li => ?_)
            intro i hli hkk_li fr_li cf_li_0 cf_li_1 cr_li_0 cr_li_1 cr_li_2 hi
            have cg_li_0 : hli.2 (B) = some (mO B ((p : Int)) (hf) (le) (fc) (pn) (rn) (hn) (qn)) := Fr.at0 (fr_li).1 (Ni.c ⟨ne4, ne5⟩ (Ni.c ⟨ne0, ne1⟩ (Ni.c ⟨ne2, ne3⟩ (Ni.c ⟨ne6, ne7⟩ (Ni.n _))))) hm
            refine g_iload 0 dX10_byY_56 rfl ?_
            refine g_iload 1 dX10_byY_58 rfl ?_
            refine g_icmp_ge (tgt := 217) dX10_byY_60 rfl (by first | (unfold gW; omega) | (unfold gW; split <;> omega)) (by first | (unfold gW; omega) | (unfold gW; split <;> omega)) (fun c114 => ?_) (fun c114 => ?_)
            · skip
              have hi9 : i = dY hp F + dY hp G := by omega
              have mqm115 : MSq hp B hli (fun x y => 0 ≤ x ∧ x < dY hp F + dY hp G ∧ 0 ≤ y ∧ y < dY hp F + dY hp G) (eyI hp F G) := (cr_li_2).mono (fun x y d => by omega) (fun _ _ _ => rfl)
              have hbar0 : barI hp (dY hp F + dY hp G).toNat (0 : Int).toNat (sylY hp F G (dY hp F).toNat (dY hp G).toNat) := barI_0 hp (sylY_bd hp hFB hGB (by omega) (by omega) _ _ _) (by omega)
              refine g_iconst dX10_byY_217 ?_
              refine g_istore (ls2 := [(6, .int (gI (0))), (5, .int (gI ((dY hp F) + (dY hp G)))), (4, .int (gI (dY hp G))), (3, .int (gI (dY hp F))), (0, .ref (B)), (1, .int (gI (a))), (2, .int (gI (b)))]) dX10_byY_218 (by decide) rfl ?_
              refine g_aload_n 4 dX10_byY_220 rfl ?_
              refine g_bipush dX10_byY_221 (by decide) ?_
              refine g_iconst dX10_byY_223 ?_
              refine g_callV (nc2 := 0) (ns2 := 0) (ci := 10) (As := [.int (gI (10)), .int (gI (1))]) (st := []) rfl dX10_byY_224 okX10_be lX10_170 itX10_be seX10_be rfl cg_li_0 (by decide) (by decide) rfl (Nat.le_of_ble_eq_true rfl) (sM_be N _ B p hp hp2 hf le fc pn rn hn qn (10) (1) (by omega) (by omega) (by omega) cg_li_0 (fr_li).2.1) (by omega) (by omega) (fun v116 hc116 q116 => ?_)
              obtain ⟨rfl, mfc117, rn117_0⟩ := q116
              have fk118_0 : hc116.2 (B) = some (mO B ((p : Int)) (hf) (le) (fc) (pn) (rn) (hn) (qn)) := Fr.at0 (mfc117).1 (Ni.c ⟨ne4, ne5⟩ (Ni.n _)) cg_li_0
              have fk118_1 : hc116.2 (B + 4) = some (aI 1500 (gm)) := Fr.at0 (mfc117).1 (Ni.c ⟨ne26, ne27⟩ (Ni.n _)) cf_li_0
              have fk118_2 : hc116.2 (B + 7) = some (aJ 6400 (g7)) := Fr.at0 (mfc117).1 (Ni.c ⟨(ne31).s, (ne33).s⟩ (Ni.n _)) cf_li_1
              have rk118_0 : MP hp B hc116 (T) := (cr_li_0).fr (mfc117).1 (Ni.c ⟨ne11, ne12⟩ (Ni.n _)) (Ni.c ⟨ne17, ne18⟩ (Ni.n _))
              have rk118_1 : MWA B hc116 := (cr_li_1).fr (mfc117).1 (Ni.c ⟨ne22, ne23⟩ (Ni.n _))
              have rk118_2 : MSq hp B hc116 (fun x y => 0 ≤ x ∧ x < dY hp F + dY hp G ∧ 0 ≤ y ∧ y < dY hp F + dY hp G) (eyI hp F G) := (mqm115).fr (mfc117).1 (Ni.c ⟨(ne32).s, (ne34).s⟩ (Ni.n _))
              have fr118 : MF B [B + 1, B + 3, B + 7] [0, 1, 2, 3, 4, 5, 6, 7, 8, 9, 10] h hc116 := (fr_li).tr ((mfc117).mo sub_n (sbI_c (List.Mem.tail _ (List.Mem.tail _ (List.Mem.tail _ (List.Mem.tail _ (List.Mem.tail _ (List.Mem.tail _ (List.Mem.tail _ (List.Mem.tail _ (List.Mem.tail _ (List.Mem.tail _ (List.Mem.head _))))))))))) sbI_n))
              refine Go.nf (h' := hc116) (st' := []) rfl rfl (Nat.le_refl _) (Nat.le_refl _) ?_
              refine g_iconst dX10_byY_227 ?_
              refine g_istore (ls2 := [(7, .int (gI (0))), (6, .int (gI (0))), (5, .int (gI ((dY hp F) + (dY hp G)))), (4, .int (gI (dY hp G))), (3, .int (gI (dY hp F))), (0, .ref (B)), (1, .int (gI (a))), (2, .int (gI (b)))]) dX10_byY_228 (by decide) rfl ?_
              have hp10 : cz hp (zi hp 1) = pvt (pR hp) (sylY hp F G (dY hp F).toNat (dY hp G).toNat) (0 : Int).toNat := cz_z1 hp
              have lc : ∀ (kk : Nat) (c : Int) (tu : Int) (A : Nat → Nat → Px p) (C : Int → Int → Px p) (hlc : GH), kk = (12 - c).toNat → MF B [B + 1, B + 3, B + 7] [0, 1, 2, 3, 4, 5, 6, 7, 8, 9, 10] h hlc → hlc.2 (B + 4) = some (aI 1500 (gm)) → hlc.2 (B + 7) = some (aJ 6400 (g7)) → MP hp B hlc (T) → MWA B hlc → MSq hp B hlc (fun x y => 0 ≤ x ∧ x < dY hp F + dY hp G ∧ 0 ≤ y ∧ y < dY hp F + dY hp G) (C) → MG hp B hlc (10) (pvt (pR hp) A c.toNat) → (0 ≤ c ∧ c ≤ dY hp F + dY hp G - 1) → (tu = 0 ∨ tu = 1) → (barI hp (dY hp F + dY hp G).toNat c.toNat A) → (barR hp (dY hp F + dY hp G).toNat (dY hp F + dY hp G - 1 - c).toNat c.toNat A (decide (tu = 1)) = resY hp F G) → (∀ i q, c ≤ i → i < dY hp F + dY hp G → c ≤ q → q < dY hp F + dY hp G → C i q = mqI hp A c i q) → Go N mX10_byY (fun v h1 => Fr [B + 1, B + 3, B + 5, B + 7] h h1 ∧ MS B h1 ∧ ∃ w T2, Ou T (pa12 hp F G) w T2 ∧ v = some (.int (gI w)) ∧ MP hp B h1 T2) 0 0 hlc 230 [(7, .int (gI (c))), (6, .int (gI (tu))), (5, .int (gI ((dY hp F) + (dY hp G)))), (4, .int (gI (dY hp G))), (3, .int (gI (dY hp F))), (0, .ref (B)), (1, .int (gI (a))), (2, .int (gI (b)))] [] := by
                refine Go.ind (fun kk ih_lc => ?_)
                intro c tu A C hlc hkk_lc fr_lc cf_lc_0 cf_lc_1 cr_lc_0 cr_lc_1 cr_lc_2 cr_lc_3 hc htu hI hR hC
                have cg_lc_0 : hlc.2 (B) = some (mO B ((p : Int)) (hf) (le) (fc) (pn) (rn) (hn) (qn)) := Fr.at0 (fr_lc).1 (Ni.c ⟨ne4, ne5⟩ (Ni.c ⟨ne0, ne1⟩ (Ni.c ⟨ne2, ne3⟩ (Ni.c ⟨ne6, ne7⟩ (Ni.n _))))) hm
                have hmp : ∀ i q, c ≤ i → i < dY hp F + dY hp G → c ≤ q → q < dY hp F + dY hp G → po (fR hp) (mqI hp A c i q) ∧ dgi hp (mqI hp A c i q) < 80 := fun i q i0 i1 q0 q1 => mqI_po hp hI (by omega) hc.1 (by omega) i1 (by omega) q1
                refine g_iload 0 dX10_byY_230 rfl ?_
                refine g_iload 2 dX10_byY_232 rfl ?_
                refine g_iconst dX10_byY_234 ?_
                refine g_isub dX10_byY_235 ?_
                refine g_icmp_ge (tgt := 528) dX10_byY_236 rfl (by first | (unfold gW; omega) | (unfold gW; split <;> omega)) (by first | (unfold gW; omega) | (unfold gW; split <;> omega)) (fun c219 => ?_) (fun c219 => ?_)
                · skip
                  have hc9 : c = dY hp F + dY hp G - 1 := by omega
                  refine g_aload_n 5 dX10_byY_528 rfl ?_
                  refine g_iload 2 dX10_byY_529 rfl ?_
                  refine g_iconst dX10_byY_531 ?_
                  refine g_isub dX10_byY_532 ?_
                  refine g_iload 2 dX10_byY_533 rfl ?_
                  refine g_iconst dX10_byY_535 ?_
                  refine g_isub dX10_byY_536 ?_
                  refine g_iconst dX10_byY_537 ?_
                  refine g_callV (nc2 := 0) (ns2 := 0) (ci := 10) (As := [.int (gI (((dY hp F) + (dY hp G)) - (1))), .int (gI (((dY hp F) + (dY hp G)) - (1))), .int (gI (2))]) (st := []) rfl dX10_byY_538 okX10_fromSquare lX10_202 itX10_fromSquare seX10_fromSquare rfl cg_lc_0 (by decide) (by decide) rfl (Nat.le_of_ble_eq_true rfl) (sM_fromSquare N _ B p hp hp2 hf le fc pn rn hn qn (((dY hp F) + (dY hp G)) - (1)) (((dY hp F) + (dY hp G)) - (1)) (2) (by omega) (fun x y => 0 ≤ x ∧ x < dY hp F + dY hp G ∧ 0 ≤ y ∧ y < dY hp F + dY hp G) (C) (by omega) cg_lc_0 (fr_lc).2.1 cr_lc_2) (by omega) (by omega) (fun v220 hc220 q220 => ?_)
                  obtain ⟨rfl, mfc221, rn221_0⟩ := q220
                  have fk222_0 : hc220.2 (B) = some (mO B ((p : Int)) (hf) (le) (fc) (pn) (rn) (hn) (qn)) := Fr.at0 (mfc221).1 (Ni.c ⟨ne4, ne5⟩ (Ni.n _)) cg_lc_0
                  have fk222_1 : hc220.2 (B + 4) = some (aI 1500 (gm)) := Fr.at0 (mfc221).1 (Ni.c ⟨ne26, ne27⟩ (Ni.n _)) cf_lc_0
                  have fk222_2 : hc220.2 (B + 7) = some (aJ 6400 (g7)) := Fr.at0 (mfc221).1 (Ni.c ⟨(ne31).s, (ne33).s⟩ (Ni.n _)) cf_lc_1
                  have rk222_0 : MP hp B hc220 (T) := (cr_lc_0).fr (mfc221).1 (Ni.c ⟨ne11, ne12⟩ (Ni.n _)) (Ni.c ⟨ne17, ne18⟩ (Ni.n _))
                  have rk222_1 : MWA B hc220 := (cr_lc_1).fr (mfc221).1 (Ni.c ⟨ne22, ne23⟩ (Ni.n _))
                  have rk222_2 : MSq hp B hc220 (fun x y => 0 ≤ x ∧ x < dY hp F + dY hp G ∧ 0 ≤ y ∧ y < dY hp F + dY hp G) (C) := (cr_lc_2).fr (mfc221).1 (Ni.c ⟨(ne32).s, (ne34).s⟩ (Ni.n _))
                  have rk222_3 : MG hp B hc220 (10) (pvt (pR hp) A c.toNat) := (cr_lc_3).fr hp2 mfc221 (Nr.c (by omega) Nr.n)
                  have fr222 : MF B [B + 1, B + 3, B + 7] [0, 1, 2, 3, 4, 5, 6, 7, 8, 9, 10] h hc220 := (fr_lc).tr ((mfc221).mo sub_n (sbI_c (List.Mem.tail _ (List.Mem.tail _ (List.Mem.head _))) sbI_n))
                  refine Go.nf (h' := hc220) (st' := []) rfl rfl (Nat.le_refl _) (Nat.le_refl _) ?_
                  refine g_iload 1 dX10_byY_541 rfl ?_
                  refine g_if_eq (tgt := 559) dX10_byY_543 rfl (by first | (unfold gW; omega) | (unfold gW; split <;> omega)) (fun c223 => ?_) (fun c223 => ?_)
                  · skip
                    have hrs9 : resY hp F G = (C) (((dY hp F) + (dY hp G)) - (1)) (((dY hp F) + (dY hp G)) - (1)) := by
                      rw [← hR, show (dY hp F + dY hp G - 1 - c).toNat = 0 by omega]
                      unfold barR
                      rw [if_neg (by simp; omega)]
                      have e8 := hC c c (by omega) (by omega) (by omega) (by omega)
                      unfold mqI at e8
                      rw [← e8, hc9]
                    refine g_aload_n 5 dX10_byY_559 rfl ?_
                    refine g_iconst dX10_byY_560 ?_
                    refine g_callV (nc2 := 0) (ns2 := 0) (ci := 10) (As := [.int (gI (2))]) (st := []) rfl dX10_byY_561 okX10_keepRegister lX10_182 itX10_keepRegister seX10_keepRegister rfl fk222_0 (by decide) (by decide) rfl (Nat.le_of_ble_eq_true rfl) (sM_keepR N _ B p hp hp2 hf le fc pn rn hn qn T (2) ((C) (((dY hp F) + (dY hp G)) - (1)) (((dY hp F) + (dY hp G)) - (1))) (gm) fk222_0 rk222_0 rk222_1 fk222_1 rn221_0) (by omega) (by omega) (fun v224 hc224 q224 => ?_)
                    obtain ⟨mfc225, f4_225, mwa225, w225, T2_225, hO225, rfl, mp225⟩ := q224
                    have fk226_0 : hc224.2 (B) = some (mO B ((p : Int)) (hf) (le) (fc) (pn) (rn) (hn) (qn)) := Fr.at0 (mfc225).1 (Ni.c ⟨ne4, ne5⟩ (Ni.c ⟨ne0, ne1⟩ (Ni.c ⟨ne2, ne3⟩ (Ni.n _)))) fk222_0
                    have fk226_2 : hc224.2 (B + 7) = some (aJ 6400 (g7)) := Fr.at0 (mfc225).1 (Ni.c ⟨(ne31).s, (ne33).s⟩ (Ni.c ⟨(ne13).s, (ne19).s⟩ (Ni.c ⟨(ne24).s, (ne28).s⟩ (Ni.n _)))) fk222_2
                    have rk226_2 : MSq hp B hc224 (fun x y => 0 ≤ x ∧ x < dY hp F + dY hp G ∧ 0 ≤ y ∧ y < dY hp F + dY hp G) (C) := (rk222_2).fr (mfc225).1 (Ni.c ⟨(ne32).s, (ne34).s⟩ (Ni.c ⟨(ne14).s, (ne20).s⟩ (Ni.c ⟨(ne25).s, (ne29).s⟩ (Ni.n _))))
                    have rk226_3 : MG hp B hc224 (10) (pvt (pR hp) A c.toNat) := (rk222_3).fr hp2 mfc225 Nr.n
                    have rk226_4 : MG hp B hc224 (2) ((C) (((dY hp F) + (dY hp G)) - (1)) (((dY hp F) + (dY hp G)) - (1))) := (rn221_0).fr hp2 mfc225 Nr.n
                    have fr226 : MF B [B + 1, B + 3, B + 7] [0, 1, 2, 3, 4, 5, 6, 7, 8, 9, 10] h hc224 := (fr222).tr ((mfc225).mo (sub_c (List.Mem.head _) (sub_c (List.Mem.tail _ (List.Mem.head _)) sub_n)) sbI_n)
                    refine Go.nf (h' := hc224) (st' := [.int (gI (w225))]) rfl rfl (Nat.le_refl _) (Nat.le_refl _) ?_
                    exact g_iret dX10_byY_564 rfl ⟨((fr226).1.mo (sub_c (List.Mem.tail _ (List.Mem.tail _ (List.Mem.head _))) (sub_c (List.Mem.head _) (sub_c (List.Mem.tail _ (List.Mem.head _)) (sub_c (List.Mem.tail _ (List.Mem.tail _ (List.Mem.tail _ (List.Mem.head _)))) sub_n))))), ⟨(fr226).2.1, mwa225, ⟨_, f4_225⟩, ⟨_, fk226_2⟩, (rk226_2).o⟩, w225, T2_225, (by unfold pa12; rw [if_neg (by omega), hrs9]; exact hO225), rfl, mp225⟩
                  · skip
                    refine g_aload_n 5 dX10_byY_546 rfl ?_
                    refine g_iconst dX10_byY_547 ?_
                    refine g_iconst dX10_byY_548 ?_
                    refine g_callV (nc2 := 0) (ns2 := 0) (ci := 10) (As := [.int (gI (3)), .int (gI (0))]) (st := []) rfl dX10_byY_549 okX10_be lX10_170 itX10_be seX10_be rfl fk222_0 (by decide) (by decide) rfl (Nat.le_of_ble_eq_true rfl) (sM_be N _ B p hp hp2 hf le fc pn rn hn qn (3) (0) (by omega) (by omega) (by omega) fk222_0 (fr222).2.1) (by omega) (by omega) (fun v227 hc227 q227 => ?_)
                    obtain ⟨rfl, mfc228, rn228_0⟩ := q227
                    have fk229_0 : hc227.2 (B) = some (mO B ((p : Int)) (hf) (le) (fc) (pn) (rn) (hn) (qn)) := Fr.at0 (mfc228).1 (Ni.c ⟨ne4, ne5⟩ (Ni.n _)) fk222_0
                    have fk229_1 : hc227.2 (B + 4) = some (aI 1500 (gm)) := Fr.at0 (mfc228).1 (Ni.c ⟨ne26, ne27⟩ (Ni.n _)) fk222_1
                    have fk229_2 : hc227.2 (B + 7) = some (aJ 6400 (g7)) := Fr.at0 (mfc228).1 (Ni.c ⟨(ne31).s, (ne33).s⟩ (Ni.n _)) fk222_2
                    have rk229_0 : MP hp B hc227 (T) := (rk222_0).fr (mfc228).1 (Ni.c ⟨ne11, ne12⟩ (Ni.n _)) (Ni.c ⟨ne17, ne18⟩ (Ni.n _))
                    have rk229_1 : MWA B hc227 := (rk222_1).fr (mfc228).1 (Ni.c ⟨ne22, ne23⟩ (Ni.n _))
                    have rk229_2 : MSq hp B hc227 (fun x y => 0 ≤ x ∧ x < dY hp F + dY hp G ∧ 0 ≤ y ∧ y < dY hp F + dY hp G) (C) := (rk222_2).fr (mfc228).1 (Ni.c ⟨(ne32).s, (ne34).s⟩ (Ni.n _))
                    have rk229_3 : MG hp B hc227 (10) (pvt (pR hp) A c.toNat) := (rk222_3).fr hp2 mfc228 (Nr.c (by omega) Nr.n)
                    have rk229_4 : MG hp B hc227 (2) ((C) (((dY hp F) + (dY hp G)) - (1)) (((dY hp F) + (dY hp G)) - (1))) := (rn221_0).fr hp2 mfc228 (Nr.c (by omega) Nr.n)
                    have fr229 : MF B [B + 1, B + 3, B + 7] [0, 1, 2, 3, 4, 5, 6, 7, 8, 9, 10] h hc227 := (fr222).tr ((mfc228).mo sub_n (sbI_c (List.Mem.tail _ (List.Mem.tail _ (List.Mem.tail _ (List.Mem.head _)))) sbI_n))
                    refine Go.nf (h' := hc227) (st' := []) rfl rfl (Nat.le_refl _) (Nat.le_refl _) ?_
                    refine g_aload_n 5 dX10_byY_552 rfl ?_
                    refine g_iconst dX10_byY_553 ?_
                    refine g_iconst dX10_byY_554 ?_
                    refine g_iconst dX10_byY_555 ?_
                    refine g_callV (nc2 := 0) (ns2 := 0) (ci := 10) (As := [.int (gI (3)), .int (gI (2)), .int (gI (2))]) (st := []) rfl dX10_byY_556 okX10_minus lX10_192 itX10_minus seX10_minus rfl fk229_0 (by decide) (by decide) rfl (Nat.le_of_ble_eq_true rfl) (sM_minus N _ B p hp hp2 hf le fc pn rn hn qn (3) (2) (2) (by omega) (cz hp (zi hp (0))) ((C) (((dY hp F) + (dY hp G)) - (1)) (((dY hp F) + (dY hp G)) - (1))) fk229_0 (fr229).2.1 rn228_0 rk229_4) (by omega) (by omega) (fun v230 hc230 q230 => ?_)
                    obtain ⟨rfl, mfc231, rn231_0⟩ := q230
                    have fk232_0 : hc230.2 (B) = some (mO B ((p : Int)) (hf) (le) (fc) (pn) (rn) (hn) (qn)) := Fr.at0 (mfc231).1 (Ni.c ⟨ne4, ne5⟩ (Ni.n _)) fk229_0
                    have fk232_1 : hc230.2 (B + 4) = some (aI 1500 (gm)) := Fr.at0 (mfc231).1 (Ni.c ⟨ne26, ne27⟩ (Ni.n _)) fk229_1
                    have fk232_2 : hc230.2 (B + 7) = some (aJ 6400 (g7)) := Fr.at0 (mfc231).1 (Ni.c ⟨(ne31).s, (ne33).s⟩ (Ni.n _)) fk229_2
                    have rk232_0 : MP hp B hc230 (T) := (rk229_0).fr (mfc231).1 (Ni.c ⟨ne11, ne12⟩ (Ni.n _)) (Ni.c ⟨ne17, ne18⟩ (Ni.n _))
                    have rk232_1 : MWA B hc230 := (rk229_1).fr (mfc231).1 (Ni.c ⟨ne22, ne23⟩ (Ni.n _))
                    have rk232_2 : MSq hp B hc230 (fun x y => 0 ≤ x ∧ x < dY hp F + dY hp G ∧ 0 ≤ y ∧ y < dY hp F + dY hp G) (C) := (rk229_2).fr (mfc231).1 (Ni.c ⟨(ne32).s, (ne34).s⟩ (Ni.n _))
                    have rk232_3 : MG hp B hc230 (10) (pvt (pR hp) A c.toNat) := (rk229_3).fr hp2 mfc231 (Nr.c (by omega) Nr.n)
                    have rk232_5 : MG hp B hc230 (3) (cz hp (zi hp (0))) := (rn228_0).fr hp2 mfc231 (Nr.c (by omega) Nr.n)
                    have fr232 : MF B [B + 1, B + 3, B + 7] [0, 1, 2, 3, 4, 5, 6, 7, 8, 9, 10] h hc230 := (fr229).tr ((mfc231).mo sub_n (sbI_c (List.Mem.tail _ (List.Mem.tail _ (List.Mem.head _))) sbI_n))
                    refine Go.nf (h' := hc230) (st' := []) rfl rfl (Nat.le_refl _) (Nat.le_refl _) ?_
                    have hrs9 : resY hp F G = psb hp (cz hp (zi hp (0))) ((C) (((dY hp F) + (dY hp G)) - (1)) (((dY hp F) + (dY hp G)) - (1))) := by
                      rw [← hR, show (dY hp F + dY hp G - 1 - c).toNat = 0 by omega]
                      unfold barR
                      rw [if_pos (by simp; omega)]
                      have e8 := hC c c (by omega) (by omega) (by omega) (by omega)
                      unfold mqI at e8
                      rw [← e8, hc9]
                      letI := pR hp
                      show - _ = cz hp (zi hp 0) - _
                      rw [cz_z0]
                      generalize C _ _ = q
                      grind
                    refine g_aload_n 5 dX10_byY_559 rfl ?_
                    refine g_iconst dX10_byY_560 ?_
                    refine g_callV (nc2 := 0) (ns2 := 0) (ci := 10) (As := [.int (gI (2))]) (st := []) rfl dX10_byY_561 okX10_keepRegister lX10_182 itX10_keepRegister seX10_keepRegister rfl fk232_0 (by decide) (by decide) rfl (Nat.le_of_ble_eq_true rfl) (sM_keepR N _ B p hp hp2 hf le fc pn rn hn qn T (2) (psb hp (cz hp (zi hp (0))) ((C) (((dY hp F) + (dY hp G)) - (1)) (((dY hp F) + (dY hp G)) - (1)))) (gm) fk232_0 rk232_0 rk232_1 fk232_1 rn231_0) (by omega) (by omega) (fun v233 hc233 q233 => ?_)
                    obtain ⟨mfc234, f4_234, mwa234, w234, T2_234, hO234, rfl, mp234⟩ := q233
                    have fk235_0 : hc233.2 (B) = some (mO B ((p : Int)) (hf) (le) (fc) (pn) (rn) (hn) (qn)) := Fr.at0 (mfc234).1 (Ni.c ⟨ne4, ne5⟩ (Ni.c ⟨ne0, ne1⟩ (Ni.c ⟨ne2, ne3⟩ (Ni.n _)))) fk232_0
                    have fk235_2 : hc233.2 (B + 7) = some (aJ 6400 (g7)) := Fr.at0 (mfc234).1 (Ni.c ⟨(ne31).s, (ne33).s⟩ (Ni.c ⟨(ne13).s, (ne19).s⟩ (Ni.c ⟨(ne24).s, (ne28).s⟩ (Ni.n _)))) fk232_2
                    have rk235_2 : MSq hp B hc233 (fun x y => 0 ≤ x ∧ x < dY hp F + dY hp G ∧ 0 ≤ y ∧ y < dY hp F + dY hp G) (C) := (rk232_2).fr (mfc234).1 (Ni.c ⟨(ne32).s, (ne34).s⟩ (Ni.c ⟨(ne14).s, (ne20).s⟩ (Ni.c ⟨(ne25).s, (ne29).s⟩ (Ni.n _))))
                    have rk235_3 : MG hp B hc233 (10) (pvt (pR hp) A c.toNat) := (rk232_3).fr hp2 mfc234 Nr.n
                    have rk235_4 : MG hp B hc233 (3) (cz hp (zi hp (0))) := (rk232_5).fr hp2 mfc234 Nr.n
                    have rk235_5 : MG hp B hc233 (2) (psb hp (cz hp (zi hp (0))) ((C) (((dY hp F) + (dY hp G)) - (1)) (((dY hp F) + (dY hp G)) - (1)))) := (rn231_0).fr hp2 mfc234 Nr.n
                    have fr235 : MF B [B + 1, B + 3, B + 7] [0, 1, 2, 3, 4, 5, 6, 7, 8, 9, 10] h hc233 := (fr232).tr ((mfc234).mo (sub_c (List.Mem.head _) (sub_c (List.Mem.tail _ (List.Mem.head _)) sub_n)) sbI_n)
                    refine Go.nf (h' := hc233) (st' := [.int (gI (w234))]) rfl rfl (Nat.le_refl _) (Nat.le_refl _) ?_
                    exact g_iret dX10_byY_564 rfl ⟨((fr235).1.mo (sub_c (List.Mem.tail _ (List.Mem.tail _ (List.Mem.head _))) (sub_c (List.Mem.head _) (sub_c (List.Mem.tail _ (List.Mem.head _)) (sub_c (List.Mem.tail _ (List.Mem.tail _ (List.Mem.tail _ (List.Mem.head _)))) sub_n))))), ⟨(fr235).2.1, mwa234, ⟨_, f4_234⟩, ⟨_, fk235_2⟩, (rk235_2).o⟩, w234, T2_234, (by unfold pa12; rw [if_neg (by omega), hrs9]; exact hO234), rfl, mp234⟩
                · skip
                  refine g_iload 0 dX10_byY_239 rfl ?_
                  refine g_istore (ls2 := [(8, .int (gI (c))), (7, .int (gI (c))), (6, .int (gI (tu))), (5, .int (gI ((dY hp F) + (dY hp G)))), (4, .int (gI (dY hp G))), (3, .int (gI (dY hp F))), (0, .ref (B)), (1, .int (gI (a))), (2, .int (gI (b)))]) dX10_byY_241 (by decide) rfl ?_
                  refine g_aload_n 6 dX10_byY_243 rfl ?_
                  refine g_iload 0 dX10_byY_244 rfl ?_
                  refine g_iload 1 dX10_byY_246 rfl ?_
                  refine g_iconst dX10_byY_248 ?_
                  refine g_callV (nc2 := 0) (ns2 := 0) (ci := 10) (As := [.int (gI (c)), .int (gI (c)), .int (gI (1))]) (st := []) rfl dX10_byY_249 okX10_fromSquare lX10_202 itX10_fromSquare seX10_fromSquare rfl cg_lc_0 (by decide) (by decide) rfl (Nat.le_of_ble_eq_true rfl) (sM_fromSquare N _ B p hp hp2 hf le fc pn rn hn qn (c) (c) (1) (by omega) (fun x y => 0 ≤ x ∧ x < dY hp F + dY hp G ∧ 0 ≤ y ∧ y < dY hp F + dY hp G) (C) (by omega) cg_lc_0 (fr_lc).2.1 cr_lc_2) (by omega) (by omega) (fun v236 hc236 q236 => ?_)
                  obtain ⟨rfl, mfc237, rn237_0⟩ := q236
                  have fk238_0 : hc236.2 (B) = some (mO B ((p : Int)) (hf) (le) (fc) (pn) (rn) (hn) (qn)) := Fr.at0 (mfc237).1 (Ni.c ⟨ne4, ne5⟩ (Ni.n _)) cg_lc_0
                  have fk238_1 : hc236.2 (B + 4) = some (aI 1500 (gm)) := Fr.at0 (mfc237).1 (Ni.c ⟨ne26, ne27⟩ (Ni.n _)) cf_lc_0
                  have fk238_2 : hc236.2 (B + 7) = some (aJ 6400 (g7)) := Fr.at0 (mfc237).1 (Ni.c ⟨(ne31).s, (ne33).s⟩ (Ni.n _)) cf_lc_1
                  have rk238_0 : MP hp B hc236 (T) := (cr_lc_0).fr (mfc237).1 (Ni.c ⟨ne11, ne12⟩ (Ni.n _)) (Ni.c ⟨ne17, ne18⟩ (Ni.n _))
                  have rk238_1 : MWA B hc236 := (cr_lc_1).fr (mfc237).1 (Ni.c ⟨ne22, ne23⟩ (Ni.n _))
                  have rk238_2 : MSq hp B hc236 (fun x y => 0 ≤ x ∧ x < dY hp F + dY hp G ∧ 0 ≤ y ∧ y < dY hp F + dY hp G) (C) := (cr_lc_2).fr (mfc237).1 (Ni.c ⟨(ne32).s, (ne34).s⟩ (Ni.n _))
                  have rk238_3 : MG hp B hc236 (10) (pvt (pR hp) A c.toNat) := (cr_lc_3).fr hp2 mfc237 (Nr.c (by omega) Nr.n)
                  have fr238 : MF B [B + 1, B + 3, B + 7] [0, 1, 2, 3, 4, 5, 6, 7, 8, 9, 10] h hc236 := (fr_lc).tr ((mfc237).mo sub_n (sbI_c (List.Mem.tail _ (List.Mem.head _)) sbI_n))
                  refine Go.nf (h' := hc236) (st' := []) rfl rfl (Nat.le_refl _) (Nat.le_refl _) ?_
                  have hf1 : (C) (c) (c) = mqI hp A c c c := hC c c (by omega) (by omega) (by omega) (by omega)
                  have lw : ∀ (kk : Nat) (w : Int) (f1 : Px p) (hlw : GH), kk = (12 - w).toNat → MF B [B + 1, B + 3, B + 7] [0, 1, 2, 3, 4, 5, 6, 7, 8, 9, 10] h hlw → hlw.2 (B + 4) = some (aI 1500 (gm)) → hlw.2 (B + 7) = some (aJ 6400 (g7)) → MP hp B hlw (T) → MWA B hlw → MSq hp B hlw (fun x y => 0 ≤ x ∧ x < dY hp F + dY hp G ∧ 0 ≤ y ∧ y < dY hp F + dY hp G) (C) → MG hp B hlw (10) (pvt (pR hp) A c.toNat) → MG hp B hlw (1) (f1) → (c ≤ w ∧ w ≤ dY hp F + dY hp G) → (∀ s, c ≤ s → s < w → dgi hp (mqI hp A c s c) < 0) → (w < dY hp F + dY hp G → f1 = mqI hp A c w c) → Go N mX10_byY (fun v h1 => Fr [B + 1, B + 3, B + 5, B + 7] h h1 ∧ MS B h1 ∧ ∃ w T2, Ou T (pa12 hp F G) w T2 ∧ v = some (.int (gI w)) ∧ MP hp B h1 T2) 0 0 hlw 252 [(8, .int (gI (w))), (7, .int (gI (c))), (6, .int (gI (tu))), (5, .int (gI ((dY hp F) + (dY hp G)))), (4, .int (gI (dY hp G))), (3, .int (gI (dY hp F))), (0, .ref (B)), (1, .int (gI (a))), (2, .int (gI (b)))] [] := by
                    refine Go.ind (fun kk ih_lw => ?_)
                    intro w f1 hlw hkk_lw fr_lw cf_lw_0 cf_lw_1 cr_lw_0 cr_lw_1 cr_lw_2 cr_lw_3 cr_lw_4 hw hZ hw1
                    have cg_lw_0 : hlw.2 (B) = some (mO B ((p : Int)) (hf) (le) (fc) (pn) (rn) (hn) (qn)) := Fr.at0 (fr_lw).1 (Ni.c ⟨ne4, ne5⟩ (Ni.c ⟨ne0, ne1⟩ (Ni.c ⟨ne2, ne3⟩ (Ni.c ⟨ne6, ne7⟩ (Ni.n _))))) hm
                    have hl1 := (cr_lw_4).lt
                    refine g_iload 0 dX10_byY_252 rfl ?_
                    refine g_iload 3 dX10_byY_254 rfl ?_
                    refine g_icmp_ge (tgt := 290) dX10_byY_256 rfl (by first | (unfold gW; omega) | (unfold gW; split <;> omega)) (by first | (unfold gW; omega) | (unfold gW; split <;> omega)) (fun c339 => ?_) (fun c339 => ?_)
                    · skip
                      refine g_iload 0 dX10_byY_290 rfl ?_
                      refine g_iload 3 dX10_byY_292 rfl ?_
                      refine g_icmp_ne (tgt := 309) dX10_byY_294 rfl (by first | (unfold gW; omega) | (unfold gW; split <;> omega)) (by first | (unfold gW; omega) | (unfold gW; split <;> omega)) (fun c340 => ?_) (fun c340 => ?_)
                      · skip
                        have hf1b := hw1 (by omega)
                        have hpvt : isPv hp (dY hp F + dY hp G).toNat c.toNat A w.toNat := isPv_I hp hc.1 hw.1 (by omega) (by rw [← hf1b]; omega) hZ (fun s s0 s1 => (hmp s c s0 s1 (by omega) (by omega)).1)
                        have hI2 : barI hp (dY hp F + dY hp G).toNat c.toNat (swr A c.toNat w.toNat) := barI_sw hp hI (by omega) (by omega)
                        refine g_iconst dX10_byY_309 ?_
                        refine g_istore (ls2 := [(9, .int (gI (0))), (8, .int (gI (w))), (7, .int (gI (c))), (6, .int (gI (tu))), (5, .int (gI ((dY hp F) + (dY hp G)))), (4, .int (gI (dY hp G))), (3, .int (gI (dY hp F))), (0, .ref (B)), (1, .int (gI (a))), (2, .int (gI (b)))]) dX10_byY_310 (by decide) rfl ?_
                        have hpv10 : pvt (pR hp) (swr A c.toNat w.toNat) c.toNat = pvt (pR hp) A c.toNat := pvt_cg _ (fun a b ha => swr_row A (by omega) (by omega) b)
                        have ls : ∀ (kk : Nat) (k : Int) (hls : GH), kk = (12 - k).toNat → MF B [B + 1, B + 3, B + 7] [0, 1, 2, 3, 4, 5, 6, 7, 8, 9, 10] h hls → hls.2 (B + 4) = some (aI 1500 (gm)) → hls.2 (B + 7) = some (aJ 6400 (g7)) → MP hp B hls (T) → MWA B hls → MSq hp B hls (fun x y => 0 ≤ x ∧ x < dY hp F + dY hp G ∧ 0 ≤ y ∧ y < dY hp F + dY hp G) (swC C w c k) → MG hp B hls (10) (pvt (pR hp) A c.toNat) → (0 ≤ k ∧ k ≤ dY hp F + dY hp G) → (k = 0 ∨ w ≠ c) → Go N mX10_byY (fun v h1 => Fr [B + 1, B + 3, B + 5, B + 7] h h1 ∧ MS B h1 ∧ ∃ w T2, Ou T (pa12 hp F G) w T2 ∧ v = some (.int (gI w)) ∧ MP hp B h1 T2) 0 0 hls 312 [(9, .int (gI (k))), (8, .int (gI (w))), (7, .int (gI (c))), (6, .int (gI (tu))), (5, .int (gI ((dY hp F) + (dY hp G)))), (4, .int (gI (dY hp G))), (3, .int (gI (dY hp F))), (0, .ref (B)), (1, .int (gI (a))), (2, .int (gI (b)))] [] := by
                          refine Go.ind (fun kk ih_ls => ?_)
                          intro k hls hkk_ls fr_ls cf_ls_0 cf_ls_1 cr_ls_0 cr_ls_1 cr_ls_2 cr_ls_3 hk hkw
                          have cg_ls_0 : hls.2 (B) = some (mO B ((p : Int)) (hf) (le) (fc) (pn) (rn) (hn) (qn)) := Fr.at0 (fr_ls).1 (Ni.c ⟨ne4, ne5⟩ (Ni.c ⟨ne0, ne1⟩ (Ni.c ⟨ne2, ne3⟩ (Ni.c ⟨ne6, ne7⟩ (Ni.n _))))) hm
                          have hdq : ∀ x y : Int, 0 ≤ x → x < dY hp F + dY hp G → 0 ≤ y → y < dY hp F + dY hp G → dgi hp (swC C w c k x y) < 80 := fun x y x0 x1 y0 y1 => ((cr_ls_2).at (i := x) (k := y) ⟨x0, x1, y0, y1⟩).2.2
                          refine g_iload 0 dX10_byY_312 rfl ?_
                          refine g_iload 4 dX10_byY_314 rfl ?_
                          refine g_icmp_ge (tgt := 368) dX10_byY_316 rfl (by first | (unfold gW; omega) | (unfold gW; split <;> omega)) (by first | (unfold gW; omega) | (unfold gW; split <;> omega)) (fun c441 => ?_) (fun c441 => ?_)
                          · skip
                            have hkS : k = dY hp F + dY hp G ∨ w = c := by omega
                            have hC2 : ∀ i q, c ≤ i → i < dY hp F + dY hp G → c ≤ q → q < dY hp F + dY hp G → swC C w c k i q = mqI hp (swr A c.toNat w.toNat) c i q := fun i q i0 i1 q0 q1 => swC_m hp hC hc.1 hw.1 (by omega) hkS i0 i1 q0 q1
                            refine g_iload 3 dX10_byY_368 rfl ?_
                            refine g_iload 1 dX10_byY_370 rfl ?_
                            refine g_iload 2 dX10_byY_372 rfl ?_
                            refine g_icmp_eq (tgt := 381) dX10_byY_374 rfl (by first | (unfold gW; omega) | (unfold gW; split <;> omega)) (by first | (unfold gW; omega) | (unfold gW; split <;> omega)) (fun c442 => absurd c442 (by omega)) (fun c442 => ?_)
                            refine g_iconst dX10_byY_377 ?_
                            refine g_goto (tgt := 382) dX10_byY_378 rfl ?_
                            refine g_icmp_eq (tgt := 389) dX10_byY_382 rfl (by first | (unfold gW; omega) | (unfold gW; split <;> omega)) (by first | (unfold gW; omega) | (unfold gW; split <;> omega)) (fun c443 => ?_) (fun c443 => ?_)
                            · skip
                              refine g_iconst dX10_byY_389 ?_
                              refine g_istore (ls2 := [(6, .int (gI (0))), (9, .int (gI (k))), (8, .int (gI (w))), (7, .int (gI (c))), (5, .int (gI ((dY hp F) + (dY hp G)))), (4, .int (gI (dY hp G))), (3, .int (gI (dY hp F))), (0, .ref (B)), (1, .int (gI (a))), (2, .int (gI (b)))]) dX10_byY_390 (by decide) rfl ?_
                              have hR2 : barR hp (dY hp F + dY hp G).toNat (dY hp F + dY hp G - 1 - (c + 1)).toNat (c + 1).toNat (swr A c.toNat w.toNat) (decide ((0 : Int) = 1)) = resY hp F G := by
                                                                      rw [← hR, show (dY hp F + dY hp G - 1 - c).toNat = (dY hp F + dY hp G - 1 - (c + 1)).toNat + 1 by omega, barR_s hp hpvt, show (c + 1).toNat = c.toNat + 1 by omega]
                                                                      rw [if_neg (show ¬ w.toNat = c.toNat by omega), show tu = 1 by omega]; rfl
                              refine g_iload 3 dX10_byY_392 rfl ?_
                              refine g_iconst dX10_byY_394 ?_
                              refine g_iadd dX10_byY_395 ?_
                              refine g_istore (ls2 := [(9, .int (gI ((c) + (1)))), (6, .int (gI (0))), (8, .int (gI (w))), (7, .int (gI (c))), (5, .int (gI ((dY hp F) + (dY hp G)))), (4, .int (gI (dY hp G))), (3, .int (gI (dY hp F))), (0, .ref (B)), (1, .int (gI (a))), (2, .int (gI (b)))]) dX10_byY_396 (by decide) rfl ?_
                              have hm2 : ∀ x y, c ≤ x → x < dY hp F + dY hp G → c ≤ y → y < dY hp F + dY hp G → po (fR hp) (mqI hp (swr A c.toNat w.toNat) c x y) ∧ dgi hp (mqI hp (swr A c.toNat w.toNat) c x y) < 80 := fun i q i0 i1 q0 q1 => mqI_po hp hI2 (by omega) hc.1 (by omega) i1 (by omega) q1
                              have hpnz : mqI hp (swr A c.toNat w.toNat) c c c ≠ (letI := pR hp; 0) := by
                                                                      unfold mqI
                                                                      rw [mnr_sw hp A (by omega)]
                                                                      have e9 : swi c.toNat w.toNat c.toNat = w.toNat := if_pos rfl
                                                                      rw [e9]; exact hpvt.2.2.1
                              have hI3 : barI hp (dY hp F + dY hp G).toNat (c + 1).toNat (swr A c.toNat w.toNat) := by
                                                                      rw [show (c + 1).toNat = c.toNat + 1 by omega]
                                                                      exact barI_s hp hI2 (by omega) hpnz
                              have hm3 : ∀ x y, 0 ≤ x → x < dY hp F + dY hp G → 0 ≤ y → y < dY hp F + dY hp G → po (fR hp) (mqI hp (swr A c.toNat w.toNat) (c + 1) x y) ∧ dgi hp (mqI hp (swr A c.toNat w.toNat) (c + 1) x y) < 80 := fun i q i0 i1 q0 q1 => mqI_po hp hI3 (by omega) (by omega) i0 i1 q0 q1
                              have hpk := pvt_po hp hI.1 hI.2.1
                              have hpk0 := dgi_nz hp hpk hI.2.2.1
                              have l1 : ∀ (kk : Nat) (i2 : Int) (C3a : Int → Int → Px p) (hl1 : GH), kk = (12 - i2).toNat → MF B [B + 1, B + 3, B + 7] [0, 1, 2, 3, 4, 5, 6, 7, 8, 9, 10] h hl1 → hl1.2 (B + 4) = some (aI 1500 (gm)) → hl1.2 (B + 7) = some (aJ 6400 (g7)) → MP hp B hl1 (T) → MWA B hl1 → MSq hp B hl1 (fun x y => 0 ≤ x ∧ x < dY hp F + dY hp G ∧ 0 ≤ y ∧ y < dY hp F + dY hp G) (C3a) → MG hp B hl1 (10) (pvt (pR hp) A c.toNat) → (c + 1 ≤ i2 ∧ i2 ≤ dY hp F + dY hp G) → (∀ x y, c ≤ x → x < dY hp F + dY hp G → c ≤ y → y < dY hp F + dY hp G → C3a x y = if c < x ∧ c < y ∧ (x < i2 ) then mqI hp (swr A c.toNat w.toNat) (c + 1) x y else mqI hp (swr A c.toNat w.toNat) c x y) → Go N mX10_byY (fun v h1 => Fr [B + 1, B + 3, B + 5, B + 7] h h1 ∧ MS B h1 ∧ ∃ w T2, Ou T (pa12 hp F G) w T2 ∧ v = some (.int (gI w)) ∧ MP hp B h1 T2) 0 0 hl1 398 [(9, .int (gI (i2))), (6, .int (gI (0))), (8, .int (gI (w))), (7, .int (gI (c))), (5, .int (gI ((dY hp F) + (dY hp G)))), (4, .int (gI (dY hp G))), (3, .int (gI (dY hp F))), (0, .ref (B)), (1, .int (gI (a))), (2, .int (gI (b)))] [] := by
                                refine Go.ind (fun kk ih_l1 => ?_)
                                intro i2 C3a hl1 hkk_l1 fr_l1 cf_l1_0 cf_l1_1 cr_l1_0 cr_l1_1 cr_l1_2 cr_l1_3 hi2 hEa
                                have cg_l1_0 : hl1.2 (B) = some (mO B ((p : Int)) (hf) (le) (fc) (pn) (rn) (hn) (qn)) := Fr.at0 (fr_l1).1 (Ni.c ⟨ne4, ne5⟩ (Ni.c ⟨ne0, ne1⟩ (Ni.c ⟨ne2, ne3⟩ (Ni.c ⟨ne6, ne7⟩ (Ni.n _))))) hm
                                refine g_iload 0 dX10_byY_398 rfl ?_
                                refine g_iload 4 dX10_byY_400 rfl ?_
                                refine g_icmp_ge (tgt := 512) dX10_byY_402 rfl (by first | (unfold gW; omega) | (unfold gW; split <;> omega)) (by first | (unfold gW; omega) | (unfold gW; split <;> omega)) (fun c544 => ?_) (fun c544 => ?_)
                                · skip
                                  refine g_aload_n 7 dX10_byY_512 rfl ?_
                                  refine g_iload 3 dX10_byY_513 rfl ?_
                                  refine g_iload 3 dX10_byY_515 rfl ?_
                                  refine g_bipush dX10_byY_517 (by decide) ?_
                                  refine g_callV (nc2 := 0) (ns2 := 0) (ci := 10) (As := [.int (gI (c)), .int (gI (c)), .int (gI (10))]) (st := []) rfl dX10_byY_519 okX10_fromSquare lX10_202 itX10_fromSquare seX10_fromSquare rfl cg_l1_0 (by decide) (by decide) rfl (Nat.le_of_ble_eq_true rfl) (sM_fromSquare N _ B p hp hp2 hf le fc pn rn hn qn (c) (c) (10) (by omega) (fun x y => 0 ≤ x ∧ x < dY hp F + dY hp G ∧ 0 ≤ y ∧ y < dY hp F + dY hp G) (C3a) (by omega) cg_l1_0 (fr_l1).2.1 cr_l1_2) (by omega) (by omega) (fun v545 hc545 q545 => ?_)
                                  obtain ⟨rfl, mfc546, rn546_0⟩ := q545
                                  have fk547_0 : hc545.2 (B) = some (mO B ((p : Int)) (hf) (le) (fc) (pn) (rn) (hn) (qn)) := Fr.at0 (mfc546).1 (Ni.c ⟨ne4, ne5⟩ (Ni.n _)) cg_l1_0
                                  have fk547_1 : hc545.2 (B + 4) = some (aI 1500 (gm)) := Fr.at0 (mfc546).1 (Ni.c ⟨ne26, ne27⟩ (Ni.n _)) cf_l1_0
                                  have fk547_2 : hc545.2 (B + 7) = some (aJ 6400 (g7)) := Fr.at0 (mfc546).1 (Ni.c ⟨(ne31).s, (ne33).s⟩ (Ni.n _)) cf_l1_1
                                  have rk547_0 : MP hp B hc545 (T) := (cr_l1_0).fr (mfc546).1 (Ni.c ⟨ne11, ne12⟩ (Ni.n _)) (Ni.c ⟨ne17, ne18⟩ (Ni.n _))
                                  have rk547_1 : MWA B hc545 := (cr_l1_1).fr (mfc546).1 (Ni.c ⟨ne22, ne23⟩ (Ni.n _))
                                  have rk547_2 : MSq hp B hc545 (fun x y => 0 ≤ x ∧ x < dY hp F + dY hp G ∧ 0 ≤ y ∧ y < dY hp F + dY hp G) (C3a) := (cr_l1_2).fr (mfc546).1 (Ni.c ⟨(ne32).s, (ne34).s⟩ (Ni.n _))
                                  have fr547 : MF B [B + 1, B + 3, B + 7] [0, 1, 2, 3, 4, 5, 6, 7, 8, 9, 10] h hc545 := (fr_l1).tr ((mfc546).mo sub_n (sbI_c (List.Mem.tail _ (List.Mem.tail _ (List.Mem.tail _ (List.Mem.tail _ (List.Mem.tail _ (List.Mem.tail _ (List.Mem.tail _ (List.Mem.tail _ (List.Mem.tail _ (List.Mem.tail _ (List.Mem.head _))))))))))) sbI_n))
                                  refine Go.nf (h' := hc545) (st' := []) rfl rfl (Nat.le_refl _) (Nat.le_refl _) ?_
                                  have hp11 : (C3a) (c) (c) = pvt (pR hp) (swr A c.toNat w.toNat) (c + 1).toNat := by
                                                                      rw [hEa c c (by omega) (by omega) (by omega) (by omega), if_neg (by omega), show (c + 1).toNat = c.toNat + 1 by omega, pvt_s]
                                                                      rfl
                                  refine g_iinc 3 (ls2 := [(7, .int (gI (c + 1))), (9, .int (gI (i2))), (6, .int (gI (0))), (8, .int (gI (w))), (5, .int (gI ((dY hp F) + (dY hp G)))), (4, .int (gI (dY hp G))), (3, .int (gI (dY hp F))), (0, .ref (B)), (1, .int (gI (a))), (2, .int (gI (b)))]) dX10_byY_522 rfl (by decide) rfl ?_
                                  refine g_goto (tgt := 230) dX10_byY_525 rfl ?_
                                  refine Go.sub [0, 2, 4, 5, 6, 7, 8, 9] rfl ?_
                                  exact ih_lc _ (by omega) (c + 1) (0) (swr A c.toNat w.toNat) (C3a) hc545 rfl fr547 fk547_1 fk547_2 rk547_0 rk547_1 rk547_2 (by rw [← hp11]; exact rn546_0) (by omega) (by omega) hI3 hR2 (fun x y x0 x1 y0 y1 => by rw [hEa x y (by omega) x1 (by omega) y1, if_pos (by omega)])
                                · skip
                                  refine g_iload 3 dX10_byY_405 rfl ?_
                                  refine g_iconst dX10_byY_407 ?_
                                  refine g_iadd dX10_byY_408 ?_
                                  refine g_istore (ls2 := [(10, .int (gI ((c) + (1)))), (9, .int (gI (i2))), (6, .int (gI (0))), (8, .int (gI (w))), (7, .int (gI (c))), (5, .int (gI ((dY hp F) + (dY hp G)))), (4, .int (gI (dY hp G))), (3, .int (gI (dY hp F))), (0, .ref (B)), (1, .int (gI (a))), (2, .int (gI (b)))]) dX10_byY_409 (by decide) rfl ?_
                                  have l2 : ∀ (kk : Nat) (k2 : Int) (C3 : Int → Int → Px p) (hl2 : GH), kk = (12 - k2).toNat → MF B [B + 1, B + 3, B + 7] [0, 1, 2, 3, 4, 5, 6, 7, 8, 9, 10] h hl2 → hl2.2 (B + 4) = some (aI 1500 (gm)) → hl2.2 (B + 7) = some (aJ 6400 (g7)) → MP hp B hl2 (T) → MWA B hl2 → MSq hp B hl2 (fun x y => 0 ≤ x ∧ x < dY hp F + dY hp G ∧ 0 ≤ y ∧ y < dY hp F + dY hp G) (C3) → MG hp B hl2 (10) (pvt (pR hp) A c.toNat) → (c + 1 ≤ k2 ∧ k2 ≤ dY hp F + dY hp G) → (∀ x y, c ≤ x → x < dY hp F + dY hp G → c ≤ y → y < dY hp F + dY hp G → C3 x y = if c < x ∧ c < y ∧ (x < i2 ∨ (x = i2 ∧ y < k2)) then mqI hp (swr A c.toNat w.toNat) (c + 1) x y else mqI hp (swr A c.toNat w.toNat) c x y) → Go N mX10_byY (fun v h1 => Fr [B + 1, B + 3, B + 5, B + 7] h h1 ∧ MS B h1 ∧ ∃ w T2, Ou T (pa12 hp F G) w T2 ∧ v = some (.int (gI w)) ∧ MP hp B h1 T2) 0 0 hl2 411 [(10, .int (gI (k2))), (9, .int (gI (i2))), (6, .int (gI (0))), (8, .int (gI (w))), (7, .int (gI (c))), (5, .int (gI ((dY hp F) + (dY hp G)))), (4, .int (gI (dY hp G))), (3, .int (gI (dY hp F))), (0, .ref (B)), (1, .int (gI (a))), (2, .int (gI (b)))] [] := by
                                    refine Go.ind (fun kk ih_l2 => ?_)
                                    intro k2 C3 hl2 hkk_l2 fr_l2 cf_l2_0 cf_l2_1 cr_l2_0 cr_l2_1 cr_l2_2 cr_l2_3 hk2 hE
                                    have cg_l2_0 : hl2.2 (B) = some (mO B ((p : Int)) (hf) (le) (fc) (pn) (rn) (hn) (qn)) := Fr.at0 (fr_l2).1 (Ni.c ⟨ne4, ne5⟩ (Ni.c ⟨ne0, ne1⟩ (Ni.c ⟨ne2, ne3⟩ (Ni.c ⟨ne6, ne7⟩ (Ni.n _))))) hm
                                    refine g_iload 0 dX10_byY_411 rfl ?_
                                    refine g_iload 5 dX10_byY_413 rfl ?_
                                    refine g_icmp_ge (tgt := 506) dX10_byY_415 rfl (by first | (unfold gW; omega) | (unfold gW; split <;> omega)) (by first | (unfold gW; omega) | (unfold gW; split <;> omega)) (fun c648 => ?_) (fun c648 => ?_)
                                    · skip
                                      refine g_iinc 1 (ls2 := [(9, .int (gI (i2 + 1))), (10, .int (gI (k2))), (6, .int (gI (0))), (8, .int (gI (w))), (7, .int (gI (c))), (5, .int (gI ((dY hp F) + (dY hp G)))), (4, .int (gI (dY hp G))), (3, .int (gI (dY hp F))), (0, .ref (B)), (1, .int (gI (a))), (2, .int (gI (b)))]) dX10_byY_506 rfl (by decide) rfl ?_
                                      refine g_goto (tgt := 398) dX10_byY_509 rfl ?_
                                      refine Go.sub [0, 2, 3, 4, 5, 6, 7, 8, 9, 10] rfl ?_
                                      exact ih_l1 _ (by omega) (i2 + 1) (C3) hl2 rfl fr_l2 cf_l2_0 cf_l2_1 cr_l2_0 cr_l2_1 cr_l2_2 cr_l2_3 (by omega) (fun x y x0 x1 y0 y1 => by
                                                                      rw [hE x y x0 x1 y0 y1]
                                                                      by_cases q : c < x ∧ c < y ∧ (x < i2 ∨ (x = i2 ∧ y < k2))
                                                                      · rw [if_pos q, if_pos (by omega)]
                                                                      · rw [if_neg q, if_neg (by omega)])
                                    · skip
                                      refine g_aload_n 8 dX10_byY_418 rfl ?_
                                      refine g_iload 4 dX10_byY_419 rfl ?_
                                      refine g_iload 4 dX10_byY_421 rfl ?_
                                      refine g_iconst dX10_byY_423 ?_
                                      refine g_callV (nc2 := 0) (ns2 := 0) (ci := 10) (As := [.int (gI (c)), .int (gI (c)), .int (gI (1))]) (st := []) rfl dX10_byY_424 okX10_fromSquare lX10_202 itX10_fromSquare seX10_fromSquare rfl cg_l2_0 (by decide) (by decide) rfl (Nat.le_of_ble_eq_true rfl) (sM_fromSquare N _ B p hp hp2 hf le fc pn rn hn qn (c) (c) (1) (by omega) (fun x y => 0 ≤ x ∧ x < dY hp F + dY hp G ∧ 0 ≤ y ∧ y < dY hp F + dY hp G) (C3) (by omega) cg_l2_0 (fr_l2).2.1 cr_l2_2) (by omega) (by omega) (fun v649 hc649 q649 => ?_)
                                      obtain ⟨rfl, mfc650, rn650_0⟩ := q649
                                      have fk651_0 : hc649.2 (B) = some (mO B ((p : Int)) (hf) (le) (fc) (pn) (rn) (hn) (qn)) := Fr.at0 (mfc650).1 (Ni.c ⟨ne4, ne5⟩ (Ni.n _)) cg_l2_0
                                      have fk651_1 : hc649.2 (B + 4) = some (aI 1500 (gm)) := Fr.at0 (mfc650).1 (Ni.c ⟨ne26, ne27⟩ (Ni.n _)) cf_l2_0
                                      have fk651_2 : hc649.2 (B + 7) = some (aJ 6400 (g7)) := Fr.at0 (mfc650).1 (Ni.c ⟨(ne31).s, (ne33).s⟩ (Ni.n _)) cf_l2_1
                                      have rk651_0 : MP hp B hc649 (T) := (cr_l2_0).fr (mfc650).1 (Ni.c ⟨ne11, ne12⟩ (Ni.n _)) (Ni.c ⟨ne17, ne18⟩ (Ni.n _))
                                      have rk651_1 : MWA B hc649 := (cr_l2_1).fr (mfc650).1 (Ni.c ⟨ne22, ne23⟩ (Ni.n _))
                                      have rk651_2 : MSq hp B hc649 (fun x y => 0 ≤ x ∧ x < dY hp F + dY hp G ∧ 0 ≤ y ∧ y < dY hp F + dY hp G) (C3) := (cr_l2_2).fr (mfc650).1 (Ni.c ⟨(ne32).s, (ne34).s⟩ (Ni.n _))
                                      have rk651_3 : MG hp B hc649 (10) (pvt (pR hp) A c.toNat) := (cr_l2_3).fr hp2 mfc650 (Nr.c (by omega) Nr.n)
                                      have fr651 : MF B [B + 1, B + 3, B + 7] [0, 1, 2, 3, 4, 5, 6, 7, 8, 9, 10] h hc649 := (fr_l2).tr ((mfc650).mo sub_n (sbI_c (List.Mem.tail _ (List.Mem.head _)) sbI_n))
                                      refine Go.nf (h' := hc649) (st' := []) rfl rfl (Nat.le_refl _) (Nat.le_refl _) ?_
                                      refine g_aload_n 8 dX10_byY_427 rfl ?_
                                      refine g_iload 1 dX10_byY_428 rfl ?_
                                      refine g_iload 0 dX10_byY_430 rfl ?_
                                      refine g_iconst dX10_byY_432 ?_
                                      refine g_callV (nc2 := 0) (ns2 := 0) (ci := 10) (As := [.int (gI (i2)), .int (gI (k2)), .int (gI (2))]) (st := []) rfl dX10_byY_433 okX10_fromSquare lX10_202 itX10_fromSquare seX10_fromSquare rfl fk651_0 (by decide) (by decide) rfl (Nat.le_of_ble_eq_true rfl) (sM_fromSquare N _ B p hp hp2 hf le fc pn rn hn qn (i2) (k2) (2) (by omega) (fun x y => 0 ≤ x ∧ x < dY hp F + dY hp G ∧ 0 ≤ y ∧ y < dY hp F + dY hp G) (C3) (by omega) fk651_0 (fr651).2.1 rk651_2) (by omega) (by omega) (fun v652 hc652 q652 => ?_)
                                      obtain ⟨rfl, mfc653, rn653_0⟩ := q652
                                      have fk654_0 : hc652.2 (B) = some (mO B ((p : Int)) (hf) (le) (fc) (pn) (rn) (hn) (qn)) := Fr.at0 (mfc653).1 (Ni.c ⟨ne4, ne5⟩ (Ni.n _)) fk651_0
                                      have fk654_1 : hc652.2 (B + 4) = some (aI 1500 (gm)) := Fr.at0 (mfc653).1 (Ni.c ⟨ne26, ne27⟩ (Ni.n _)) fk651_1
                                      have fk654_2 : hc652.2 (B + 7) = some (aJ 6400 (g7)) := Fr.at0 (mfc653).1 (Ni.c ⟨(ne31).s, (ne33).s⟩ (Ni.n _)) fk651_2
                                      have rk654_0 : MP hp B hc652 (T) := (rk651_0).fr (mfc653).1 (Ni.c ⟨ne11, ne12⟩ (Ni.n _)) (Ni.c ⟨ne17, ne18⟩ (Ni.n _))
                                      have rk654_1 : MWA B hc652 := (rk651_1).fr (mfc653).1 (Ni.c ⟨ne22, ne23⟩ (Ni.n _))
                                      have rk654_2 : MSq hp B hc652 (fun x y => 0 ≤ x ∧ x < dY hp F + dY hp G ∧ 0 ≤ y ∧ y < dY hp F + dY hp G) (C3) := (rk651_2).fr (mfc653).1 (Ni.c ⟨(ne32).s, (ne34).s⟩ (Ni.n _))
                                      have rk654_3 : MG hp B hc652 (10) (pvt (pR hp) A c.toNat) := (rk651_3).fr hp2 mfc653 (Nr.c (by omega) Nr.n)
                                      have rk654_4 : MG hp B hc652 (1) ((C3) (c) (c)) := (rn650_0).fr hp2 mfc653 (Nr.c (by omega) Nr.n)
                                      have fr654 : MF B [B + 1, B + 3, B + 7] [0, 1, 2, 3, 4, 5, 6, 7, 8, 9, 10] h hc652 := (fr651).tr ((mfc653).mo sub_n (sbI_c (List.Mem.tail _ (List.Mem.tail _ (List.Mem.head _))) sbI_n))
                                      refine Go.nf (h' := hc652) (st' := []) rfl rfl (Nat.le_refl _) (Nat.le_refl _) ?_
                                      refine g_aload_n 8 dX10_byY_436 rfl ?_
                                      refine g_iload 1 dX10_byY_437 rfl ?_
                                      refine g_iload 4 dX10_byY_439 rfl ?_
                                      refine g_iconst dX10_byY_441 ?_
                                      refine g_callV (nc2 := 0) (ns2 := 0) (ci := 10) (As := [.int (gI (i2)), .int (gI (c)), .int (gI (3))]) (st := []) rfl dX10_byY_442 okX10_fromSquare lX10_202 itX10_fromSquare seX10_fromSquare rfl fk654_0 (by decide) (by decide) rfl (Nat.le_of_ble_eq_true rfl) (sM_fromSquare N _ B p hp hp2 hf le fc pn rn hn qn (i2) (c) (3) (by omega) (fun x y => 0 ≤ x ∧ x < dY hp F + dY hp G ∧ 0 ≤ y ∧ y < dY hp F + dY hp G) (C3) (by omega) fk654_0 (fr654).2.1 rk654_2) (by omega) (by omega) (fun v655 hc655 q655 => ?_)
                                      obtain ⟨rfl, mfc656, rn656_0⟩ := q655
                                      have fk657_0 : hc655.2 (B) = some (mO B ((p : Int)) (hf) (le) (fc) (pn) (rn) (hn) (qn)) := Fr.at0 (mfc656).1 (Ni.c ⟨ne4, ne5⟩ (Ni.n _)) fk654_0
                                      have fk657_1 : hc655.2 (B + 4) = some (aI 1500 (gm)) := Fr.at0 (mfc656).1 (Ni.c ⟨ne26, ne27⟩ (Ni.n _)) fk654_1
                                      have fk657_2 : hc655.2 (B + 7) = some (aJ 6400 (g7)) := Fr.at0 (mfc656).1 (Ni.c ⟨(ne31).s, (ne33).s⟩ (Ni.n _)) fk654_2
                                      have rk657_0 : MP hp B hc655 (T) := (rk654_0).fr (mfc656).1 (Ni.c ⟨ne11, ne12⟩ (Ni.n _)) (Ni.c ⟨ne17, ne18⟩ (Ni.n _))
                                      have rk657_1 : MWA B hc655 := (rk654_1).fr (mfc656).1 (Ni.c ⟨ne22, ne23⟩ (Ni.n _))
                                      have rk657_2 : MSq hp B hc655 (fun x y => 0 ≤ x ∧ x < dY hp F + dY hp G ∧ 0 ≤ y ∧ y < dY hp F + dY hp G) (C3) := (rk654_2).fr (mfc656).1 (Ni.c ⟨(ne32).s, (ne34).s⟩ (Ni.n _))
                                      have rk657_3 : MG hp B hc655 (10) (pvt (pR hp) A c.toNat) := (rk654_3).fr hp2 mfc656 (Nr.c (by omega) Nr.n)
                                      have rk657_4 : MG hp B hc655 (1) ((C3) (c) (c)) := (rk654_4).fr hp2 mfc656 (Nr.c (by omega) Nr.n)
                                      have rk657_5 : MG hp B hc655 (2) ((C3) (i2) (k2)) := (rn653_0).fr hp2 mfc656 (Nr.c (by omega) Nr.n)
                                      have fr657 : MF B [B + 1, B + 3, B + 7] [0, 1, 2, 3, 4, 5, 6, 7, 8, 9, 10] h hc655 := (fr654).tr ((mfc656).mo sub_n (sbI_c (List.Mem.tail _ (List.Mem.tail _ (List.Mem.tail _ (List.Mem.head _)))) sbI_n))
                                      refine Go.nf (h' := hc655) (st' := []) rfl rfl (Nat.le_refl _) (Nat.le_refl _) ?_
                                      refine g_aload_n 8 dX10_byY_445 rfl ?_
                                      refine g_iload 4 dX10_byY_446 rfl ?_
                                      refine g_iload 0 dX10_byY_448 rfl ?_
                                      refine g_iconst dX10_byY_450 ?_
                                      refine g_callV (nc2 := 0) (ns2 := 0) (ci := 10) (As := [.int (gI (c)), .int (gI (k2)), .int (gI (4))]) (st := []) rfl dX10_byY_451 okX10_fromSquare lX10_202 itX10_fromSquare seX10_fromSquare rfl fk657_0 (by decide) (by decide) rfl (Nat.le_of_ble_eq_true rfl) (sM_fromSquare N _ B p hp hp2 hf le fc pn rn hn qn (c) (k2) (4) (by omega) (fun x y => 0 ≤ x ∧ x < dY hp F + dY hp G ∧ 0 ≤ y ∧ y < dY hp F + dY hp G) (C3) (by omega) fk657_0 (fr657).2.1 rk657_2) (by omega) (by omega) (fun v658 hc658 q658 => ?_)
                                      obtain ⟨rfl, mfc659, rn659_0⟩ := q658
                                      have fk660_0 : hc658.2 (B) = some (mO B ((p : Int)) (hf) (le) (fc) (pn) (rn) (hn) (qn)) := Fr.at0 (mfc659).1 (Ni.c ⟨ne4, ne5⟩ (Ni.n _)) fk657_0
                                      have fk660_1 : hc658.2 (B + 4) = some (aI 1500 (gm)) := Fr.at0 (mfc659).1 (Ni.c ⟨ne26, ne27⟩ (Ni.n _)) fk657_1
                                      have fk660_2 : hc658.2 (B + 7) = some (aJ 6400 (g7)) := Fr.at0 (mfc659).1 (Ni.c ⟨(ne31).s, (ne33).s⟩ (Ni.n _)) fk657_2
                                      have rk660_0 : MP hp B hc658 (T) := (rk657_0).fr (mfc659).1 (Ni.c ⟨ne11, ne12⟩ (Ni.n _)) (Ni.c ⟨ne17, ne18⟩ (Ni.n _))
                                      have rk660_1 : MWA B hc658 := (rk657_1).fr (mfc659).1 (Ni.c ⟨ne22, ne23⟩ (Ni.n _))
                                      have rk660_2 : MSq hp B hc658 (fun x y => 0 ≤ x ∧ x < dY hp F + dY hp G ∧ 0 ≤ y ∧ y < dY hp F + dY hp G) (C3) := (rk657_2).fr (mfc659).1 (Ni.c ⟨(ne32).s, (ne34).s⟩ (Ni.n _))
                                      have rk660_3 : MG hp B hc658 (10) (pvt (pR hp) A c.toNat) := (rk657_3).fr hp2 mfc659 (Nr.c (by omega) Nr.n)
                                      have rk660_4 : MG hp B hc658 (1) ((C3) (c) (c)) := (rk657_4).fr hp2 mfc659 (Nr.c (by omega) Nr.n)
                                      have rk660_5 : MG hp B hc658 (2) ((C3) (i2) (k2)) := (rk657_5).fr hp2 mfc659 (Nr.c (by omega) Nr.n)
                                      have rk660_6 : MG hp B hc658 (3) ((C3) (i2) (c)) := (rn656_0).fr hp2 mfc659 (Nr.c (by omega) Nr.n)
                                      have fr660 : MF B [B + 1, B + 3, B + 7] [0, 1, 2, 3, 4, 5, 6, 7, 8, 9, 10] h hc658 := (fr657).tr ((mfc659).mo sub_n (sbI_c (List.Mem.tail _ (List.Mem.tail _ (List.Mem.tail _ (List.Mem.tail _ (List.Mem.head _))))) sbI_n))
                                      refine Go.nf (h' := hc658) (st' := []) rfl rfl (Nat.le_refl _) (Nat.le_refl _) ?_
                                      have hd9 : ∀ x y : Int, 0 ≤ x → x < dY hp F + dY hp G → 0 ≤ y → y < dY hp F + dY hp G → dgi hp (C3 x y) < 80 := fun x y x0 x1 y0 y1 => ((rk660_2).at (i := x) (k := y) ⟨x0, x1, y0, y1⟩).2.2
                                      have hd661 := hd9 c c (by omega) (by omega) (by omega) (by omega)
                                      have hd662 := hd9 i2 k2 (by omega) (by omega) (by omega) (by omega)
                                      have hd663 := hd9 i2 c (by omega) (by omega) (by omega) (by omega)
                                      have hd664 := hd9 c k2 (by omega) (by omega) (by omega) (by omega)
                                      refine g_aload_n 8 dX10_byY_454 rfl ?_
                                      refine g_iconst dX10_byY_455 ?_
                                      refine g_iconst dX10_byY_456 ?_
                                      refine g_iconst dX10_byY_457 ?_
                                      refine g_callV (nc2 := 0) (ns2 := 0) (ci := 10) (As := [.int (gI (1)), .int (gI (2)), .int (gI (5))]) (st := []) rfl dX10_byY_458 okX10_product lX10_189 itX10_product seX10_product rfl fk660_0 (by decide) (by decide) rfl (Nat.le_of_ble_eq_true rfl) (sM_product N _ B p hp hp2 hf le fc pn rn hn qn (1) (2) (5) (by omega) (by omega) (by omega) ((C3) (c) (c)) ((C3) (i2) (k2)) fk660_0 (fr660).2.1 rk660_4 rk660_5 (by omega)) (by omega) (by omega) (fun v665 hc665 q665 => ?_)
                                      obtain ⟨rfl, mfc666, rn666_0⟩ := q665
                                      have fk667_0 : hc665.2 (B) = some (mO B ((p : Int)) (hf) (le) (fc) (pn) (rn) (hn) (qn)) := Fr.at0 (mfc666).1 (Ni.c ⟨ne4, ne5⟩ (Ni.n _)) fk660_0
                                      have fk667_1 : hc665.2 (B + 4) = some (aI 1500 (gm)) := Fr.at0 (mfc666).1 (Ni.c ⟨ne26, ne27⟩ (Ni.n _)) fk660_1
                                      have fk667_2 : hc665.2 (B + 7) = some (aJ 6400 (g7)) := Fr.at0 (mfc666).1 (Ni.c ⟨(ne31).s, (ne33).s⟩ (Ni.n _)) fk660_2
                                      have rk667_0 : MP hp B hc665 (T) := (rk660_0).fr (mfc666).1 (Ni.c ⟨ne11, ne12⟩ (Ni.n _)) (Ni.c ⟨ne17, ne18⟩ (Ni.n _))
                                      have rk667_1 : MWA B hc665 := (rk660_1).fr (mfc666).1 (Ni.c ⟨ne22, ne23⟩ (Ni.n _))
                                      have rk667_2 : MSq hp B hc665 (fun x y => 0 ≤ x ∧ x < dY hp F + dY hp G ∧ 0 ≤ y ∧ y < dY hp F + dY hp G) (C3) := (rk660_2).fr (mfc666).1 (Ni.c ⟨(ne32).s, (ne34).s⟩ (Ni.n _))
                                      have rk667_3 : MG hp B hc665 (10) (pvt (pR hp) A c.toNat) := (rk660_3).fr hp2 mfc666 (Nr.c (by omega) Nr.n)
                                      have rk667_4 : MG hp B hc665 (1) ((C3) (c) (c)) := (rk660_4).fr hp2 mfc666 (Nr.c (by omega) Nr.n)
                                      have rk667_5 : MG hp B hc665 (2) ((C3) (i2) (k2)) := (rk660_5).fr hp2 mfc666 (Nr.c (by omega) Nr.n)
                                      have rk667_6 : MG hp B hc665 (3) ((C3) (i2) (c)) := (rk660_6).fr hp2 mfc666 (Nr.c (by omega) Nr.n)
                                      have rk667_7 : MG hp B hc665 (4) ((C3) (c) (k2)) := (rn659_0).fr hp2 mfc666 (Nr.c (by omega) Nr.n)
                                      have fr667 : MF B [B + 1, B + 3, B + 7] [0, 1, 2, 3, 4, 5, 6, 7, 8, 9, 10] h hc665 := (fr660).tr ((mfc666).mo sub_n (sbI_c (List.Mem.tail _ (List.Mem.tail _ (List.Mem.tail _ (List.Mem.tail _ (List.Mem.tail _ (List.Mem.head _)))))) sbI_n))
                                      refine Go.nf (h' := hc665) (st' := []) rfl rfl (Nat.le_refl _) (Nat.le_refl _) ?_
                                      refine g_aload_n 8 dX10_byY_461 rfl ?_
                                      refine g_iconst dX10_byY_462 ?_
                                      refine g_iconst dX10_byY_463 ?_
                                      refine g_bipush dX10_byY_464 (by decide) ?_
                                      refine g_callV (nc2 := 0) (ns2 := 0) (ci := 10) (As := [.int (gI (3)), .int (gI (4)), .int (gI (6))]) (st := []) rfl dX10_byY_466 okX10_product lX10_189 itX10_product seX10_product rfl fk667_0 (by decide) (by decide) rfl (Nat.le_of_ble_eq_true rfl) (sM_product N _ B p hp hp2 hf le fc pn rn hn qn (3) (4) (6) (by omega) (by omega) (by omega) ((C3) (i2) (c)) ((C3) (c) (k2)) fk667_0 (fr667).2.1 rk667_6 rk667_7 (by omega)) (by omega) (by omega) (fun v668 hc668 q668 => ?_)
                                      obtain ⟨rfl, mfc669, rn669_0⟩ := q668
                                      have fk670_0 : hc668.2 (B) = some (mO B ((p : Int)) (hf) (le) (fc) (pn) (rn) (hn) (qn)) := Fr.at0 (mfc669).1 (Ni.c ⟨ne4, ne5⟩ (Ni.n _)) fk667_0
                                      have fk670_1 : hc668.2 (B + 4) = some (aI 1500 (gm)) := Fr.at0 (mfc669).1 (Ni.c ⟨ne26, ne27⟩ (Ni.n _)) fk667_1
                                      have fk670_2 : hc668.2 (B + 7) = some (aJ 6400 (g7)) := Fr.at0 (mfc669).1 (Ni.c ⟨(ne31).s, (ne33).s⟩ (Ni.n _)) fk667_2
                                      have rk670_0 : MP hp B hc668 (T) := (rk667_0).fr (mfc669).1 (Ni.c ⟨ne11, ne12⟩ (Ni.n _)) (Ni.c ⟨ne17, ne18⟩ (Ni.n _))
                                      have rk670_1 : MWA B hc668 := (rk667_1).fr (mfc669).1 (Ni.c ⟨ne22, ne23⟩ (Ni.n _))
                                      have rk670_2 : MSq hp B hc668 (fun x y => 0 ≤ x ∧ x < dY hp F + dY hp G ∧ 0 ≤ y ∧ y < dY hp F + dY hp G) (C3) := (rk667_2).fr (mfc669).1 (Ni.c ⟨(ne32).s, (ne34).s⟩ (Ni.n _))
                                      have rk670_3 : MG hp B hc668 (10) (pvt (pR hp) A c.toNat) := (rk667_3).fr hp2 mfc669 (Nr.c (by omega) Nr.n)
                                      have rk670_4 : MG hp B hc668 (1) ((C3) (c) (c)) := (rk667_4).fr hp2 mfc669 (Nr.c (by omega) Nr.n)
                                      have rk670_5 : MG hp B hc668 (2) ((C3) (i2) (k2)) := (rk667_5).fr hp2 mfc669 (Nr.c (by omega) Nr.n)
                                      have rk670_6 : MG hp B hc668 (3) ((C3) (i2) (c)) := (rk667_6).fr hp2 mfc669 (Nr.c (by omega) Nr.n)
                                      have rk670_7 : MG hp B hc668 (4) ((C3) (c) (k2)) := (rk667_7).fr hp2 mfc669 (Nr.c (by omega) Nr.n)
                                      have rk670_8 : MG hp B hc668 (5) (pml hp ((C3) (c) (c)) ((C3) (i2) (k2))) := (rn666_0).fr hp2 mfc669 (Nr.c (by omega) Nr.n)
                                      have fr670 : MF B [B + 1, B + 3, B + 7] [0, 1, 2, 3, 4, 5, 6, 7, 8, 9, 10] h hc668 := (fr667).tr ((mfc669).mo sub_n (sbI_c (List.Mem.tail _ (List.Mem.tail _ (List.Mem.tail _ (List.Mem.tail _ (List.Mem.tail _ (List.Mem.tail _ (List.Mem.head _))))))) sbI_n))
                                      refine Go.nf (h' := hc668) (st' := []) rfl rfl (Nat.le_refl _) (Nat.le_refl _) ?_
                                      refine g_aload_n 8 dX10_byY_469 rfl ?_
                                      refine g_iconst dX10_byY_470 ?_
                                      refine g_bipush dX10_byY_471 (by decide) ?_
                                      refine g_bipush dX10_byY_473 (by decide) ?_
                                      refine g_callV (nc2 := 0) (ns2 := 0) (ci := 10) (As := [.int (gI (5)), .int (gI (6)), .int (gI (7))]) (st := []) rfl dX10_byY_475 okX10_minus lX10_192 itX10_minus seX10_minus rfl fk670_0 (by decide) (by decide) rfl (Nat.le_of_ble_eq_true rfl) (sM_minus N _ B p hp hp2 hf le fc pn rn hn qn (5) (6) (7) (by omega) (pml hp ((C3) (c) (c)) ((C3) (i2) (k2))) (pml hp ((C3) (i2) (c)) ((C3) (c) (k2))) fk670_0 (fr670).2.1 rk670_8 rn669_0) (by omega) (by omega) (fun v671 hc671 q671 => ?_)
                                      obtain ⟨rfl, mfc672, rn672_0⟩ := q671
                                      have fk673_0 : hc671.2 (B) = some (mO B ((p : Int)) (hf) (le) (fc) (pn) (rn) (hn) (qn)) := Fr.at0 (mfc672).1 (Ni.c ⟨ne4, ne5⟩ (Ni.n _)) fk670_0
                                      have fk673_1 : hc671.2 (B + 4) = some (aI 1500 (gm)) := Fr.at0 (mfc672).1 (Ni.c ⟨ne26, ne27⟩ (Ni.n _)) fk670_1
                                      have fk673_2 : hc671.2 (B + 7) = some (aJ 6400 (g7)) := Fr.at0 (mfc672).1 (Ni.c ⟨(ne31).s, (ne33).s⟩ (Ni.n _)) fk670_2
                                      have rk673_0 : MP hp B hc671 (T) := (rk670_0).fr (mfc672).1 (Ni.c ⟨ne11, ne12⟩ (Ni.n _)) (Ni.c ⟨ne17, ne18⟩ (Ni.n _))
                                      have rk673_1 : MWA B hc671 := (rk670_1).fr (mfc672).1 (Ni.c ⟨ne22, ne23⟩ (Ni.n _))
                                      have rk673_2 : MSq hp B hc671 (fun x y => 0 ≤ x ∧ x < dY hp F + dY hp G ∧ 0 ≤ y ∧ y < dY hp F + dY hp G) (C3) := (rk670_2).fr (mfc672).1 (Ni.c ⟨(ne32).s, (ne34).s⟩ (Ni.n _))
                                      have rk673_3 : MG hp B hc671 (10) (pvt (pR hp) A c.toNat) := (rk670_3).fr hp2 mfc672 (Nr.c (by omega) Nr.n)
                                      have rk673_4 : MG hp B hc671 (1) ((C3) (c) (c)) := (rk670_4).fr hp2 mfc672 (Nr.c (by omega) Nr.n)
                                      have rk673_5 : MG hp B hc671 (2) ((C3) (i2) (k2)) := (rk670_5).fr hp2 mfc672 (Nr.c (by omega) Nr.n)
                                      have rk673_6 : MG hp B hc671 (3) ((C3) (i2) (c)) := (rk670_6).fr hp2 mfc672 (Nr.c (by omega) Nr.n)
                                      have rk673_7 : MG hp B hc671 (4) ((C3) (c) (k2)) := (rk670_7).fr hp2 mfc672 (Nr.c (by omega) Nr.n)
                                      have rk673_8 : MG hp B hc671 (5) (pml hp ((C3) (c) (c)) ((C3) (i2) (k2))) := (rk670_8).fr hp2 mfc672 (Nr.c (by omega) Nr.n)
                                      have rk673_9 : MG hp B hc671 (6) (pml hp ((C3) (i2) (c)) ((C3) (c) (k2))) := (rn669_0).fr hp2 mfc672 (Nr.c (by omega) Nr.n)
                                      have fr673 : MF B [B + 1, B + 3, B + 7] [0, 1, 2, 3, 4, 5, 6, 7, 8, 9, 10] h hc671 := (fr670).tr ((mfc672).mo sub_n (sbI_c (List.Mem.tail _ (List.Mem.tail _ (List.Mem.tail _ (List.Mem.tail _ (List.Mem.tail _ (List.Mem.tail _ (List.Mem.tail _ (List.Mem.head _)))))))) sbI_n))
                                      refine Go.nf (h' := hc671) (st' := []) rfl rfl (Nat.le_refl _) (Nat.le_refl _) ?_
                                      refine g_aload_n 8 dX10_byY_478 rfl ?_
                                      refine g_bipush dX10_byY_479 (by decide) ?_
                                      refine g_bipush dX10_byY_481 (by decide) ?_
                                      refine g_bipush dX10_byY_483 (by decide) ?_
                                      refine g_bipush dX10_byY_485 (by decide) ?_
                                      refine g_callV (nc2 := 0) (ns2 := 0) (ci := 10) (As := [.int (gI (7)), .int (gI (10)), .int (gI (8)), .int (gI (9))]) (st := []) rfl dX10_byY_487 okX10_divide lX10_176 itX10_divide seX10_divide rfl fk673_0 (by decide) (by decide) rfl (Nat.le_of_ble_eq_true rfl) (sM_divide N _ B p hp hp2 hf le fc pn rn hn qn (7) (10) (8) (9) (by omega) (by omega) (by omega) (by omega) (by omega) (by omega) (psb hp (pml hp ((C3) (c) (c)) ((C3) (i2) (k2))) (pml hp ((C3) (i2) (c)) ((C3) (c) (k2)))) (pvt (pR hp) A c.toNat) fk673_0 (fr673).2.1 rn672_0 rk673_3 (by omega)) (by omega) (by omega) (fun v674 hc674 q674 => ?_)
                                      obtain ⟨rfl, mfc675, rn675_0, rn675_1⟩ := q674
                                      have fk676_0 : hc674.2 (B) = some (mO B ((p : Int)) (hf) (le) (fc) (pn) (rn) (hn) (qn)) := Fr.at0 (mfc675).1 (Ni.c ⟨ne4, ne5⟩ (Ni.n _)) fk673_0
                                      have fk676_1 : hc674.2 (B + 4) = some (aI 1500 (gm)) := Fr.at0 (mfc675).1 (Ni.c ⟨ne26, ne27⟩ (Ni.n _)) fk673_1
                                      have fk676_2 : hc674.2 (B + 7) = some (aJ 6400 (g7)) := Fr.at0 (mfc675).1 (Ni.c ⟨(ne31).s, (ne33).s⟩ (Ni.n _)) fk673_2
                                      have rk676_0 : MP hp B hc674 (T) := (rk673_0).fr (mfc675).1 (Ni.c ⟨ne11, ne12⟩ (Ni.n _)) (Ni.c ⟨ne17, ne18⟩ (Ni.n _))
                                      have rk676_1 : MWA B hc674 := (rk673_1).fr (mfc675).1 (Ni.c ⟨ne22, ne23⟩ (Ni.n _))
                                      have rk676_2 : MSq hp B hc674 (fun x y => 0 ≤ x ∧ x < dY hp F + dY hp G ∧ 0 ≤ y ∧ y < dY hp F + dY hp G) (C3) := (rk673_2).fr (mfc675).1 (Ni.c ⟨(ne32).s, (ne34).s⟩ (Ni.n _))
                                      have rk676_3 : MG hp B hc674 (10) (pvt (pR hp) A c.toNat) := (rk673_3).fr hp2 mfc675 (Nr.c (by omega) (Nr.c (by omega) Nr.n))
                                      have rk676_4 : MG hp B hc674 (1) ((C3) (c) (c)) := (rk673_4).fr hp2 mfc675 (Nr.c (by omega) (Nr.c (by omega) Nr.n))
                                      have rk676_5 : MG hp B hc674 (2) ((C3) (i2) (k2)) := (rk673_5).fr hp2 mfc675 (Nr.c (by omega) (Nr.c (by omega) Nr.n))
                                      have rk676_6 : MG hp B hc674 (3) ((C3) (i2) (c)) := (rk673_6).fr hp2 mfc675 (Nr.c (by omega) (Nr.c (by omega) Nr.n))
                                      have rk676_7 : MG hp B hc674 (4) ((C3) (c) (k2)) := (rk673_7).fr hp2 mfc675 (Nr.c (by omega) (Nr.c (by omega) Nr.n))
                                      have rk676_8 : MG hp B hc674 (5) (pml hp ((C3) (c) (c)) ((C3) (i2) (k2))) := (rk673_8).fr hp2 mfc675 (Nr.c (by omega) (Nr.c (by omega) Nr.n))
                                      have rk676_9 : MG hp B hc674 (6) (pml hp ((C3) (i2) (c)) ((C3) (c) (k2))) := (rk673_9).fr hp2 mfc675 (Nr.c (by omega) (Nr.c (by omega) Nr.n))
                                      have rk676_10 : MG hp B hc674 (7) (psb hp (pml hp ((C3) (c) (c)) ((C3) (i2) (k2))) (pml hp ((C3) (i2) (c)) ((C3) (c) (k2)))) := (rn672_0).fr hp2 mfc675 (Nr.c (by omega) (Nr.c (by omega) Nr.n))
                                      have fr676 : MF B [B + 1, B + 3, B + 7] [0, 1, 2, 3, 4, 5, 6, 7, 8, 9, 10] h hc674 := (fr673).tr ((mfc675).mo sub_n (sbI_c (List.Mem.tail _ (List.Mem.tail _ (List.Mem.tail _ (List.Mem.tail _ (List.Mem.tail _ (List.Mem.tail _ (List.Mem.tail _ (List.Mem.tail _ (List.Mem.tail _ (List.Mem.head _)))))))))) (sbI_c (List.Mem.tail _ (List.Mem.tail _ (List.Mem.tail _ (List.Mem.tail _ (List.Mem.tail _ (List.Mem.tail _ (List.Mem.tail _ (List.Mem.tail _ (List.Mem.head _))))))))) sbI_n)))
                                      refine Go.nf (h' := hc674) (st' := []) rfl rfl (Nat.le_refl _) (Nat.le_refl _) ?_
                                      have hq8 : qt hp (psb hp (pml hp ((C3) (c) (c)) ((C3) (i2) (k2))) (pml hp ((C3) (i2) (c)) ((C3) (c) (k2)))) (pvt (pR hp) A c.toNat) = mqI hp (swr A c.toNat w.toNat) (c + 1) i2 k2 := by
                                                                      rw [hE c c (by omega) (by omega) (by omega) (by omega), if_neg (by omega), hE i2 k2 (by omega) (by omega) (by omega) (by omega), if_neg (by omega), hE i2 c (by omega) (by omega) (by omega) (by omega), if_neg (by omega), hE c k2 (by omega) (by omega) (by omega) (by omega), if_neg (by omega), ← hpv10]
                                                                      exact bar_qI hp hI2 hc.1 (by omega) (by omega) (by omega) (by omega) (by omega)
                                      have hdz : dgi hp (qt hp (psb hp (pml hp ((C3) (c) (c)) ((C3) (i2) (k2))) (pml hp ((C3) (i2) (c)) ((C3) (c) (k2)))) (pvt (pR hp) A c.toNat)) < 80 := by rw [hq8]; exact (hm3 i2 k2 (by omega) (by omega) (by omega) (by omega)).2
                                      refine g_aload_n 8 dX10_byY_490 rfl ?_
                                      refine g_bipush dX10_byY_491 (by decide) ?_
                                      refine g_iload 1 dX10_byY_493 rfl ?_
                                      refine g_iload 0 dX10_byY_495 rfl ?_
                                      refine g_callV (nc2 := 0) (ns2 := 0) (ci := 10) (As := [.int (gI (8)), .int (gI (i2)), .int (gI (k2))]) (st := []) rfl dX10_byY_497 okX10_toSquare lX10_199 itX10_toSquare seX10_toSquare rfl fk676_0 (by decide) (by decide) rfl (Nat.le_of_ble_eq_true rfl) (sM_toSquare0 N _ B p hp hp2 hf le fc pn rn hn qn (8) (i2) (k2) (by omega) (fun x y => 0 ≤ x ∧ x < dY hp F + dY hp G ∧ 0 ≤ y ∧ y < dY hp F + dY hp G) (C3) (qt hp (psb hp (pml hp ((C3) (c) (c)) ((C3) (i2) (k2))) (pml hp ((C3) (i2) (c)) ((C3) (c) (k2)))) (pvt (pR hp) A c.toNat)) (g7) fk676_0 (fr676).2.1 fk676_2 rk676_2 rn675_1 hdz) (by omega) (by omega) (fun v677 hc677 q677 => ?_)
                                      obtain ⟨rfl, mfc678, f7_678, mq678⟩ := q677
                                      have fk679_0 : hc677.2 (B) = some (mO B ((p : Int)) (hf) (le) (fc) (pn) (rn) (hn) (qn)) := Fr.at0 (mfc678).1 (Ni.c ⟨ne4, ne5⟩ (Ni.c ⟨ne6, ne7⟩ (Ni.n _))) fk676_0
                                      have fk679_1 : hc677.2 (B + 4) = some (aI 1500 (gm)) := Fr.at0 (mfc678).1 (Ni.c ⟨ne26, ne27⟩ (Ni.c ⟨ne28, ne29⟩ (Ni.n _))) fk676_1
                                      have rk679_0 : MP hp B hc677 (T) := (rk676_0).fr (mfc678).1 (Ni.c ⟨ne11, ne12⟩ (Ni.c ⟨ne13, ne14⟩ (Ni.n _))) (Ni.c ⟨ne17, ne18⟩ (Ni.c ⟨ne19, ne20⟩ (Ni.n _)))
                                      have rk679_1 : MWA B hc677 := (rk676_1).fr (mfc678).1 (Ni.c ⟨ne22, ne23⟩ (Ni.c ⟨ne24, ne25⟩ (Ni.n _)))
                                      have rk679_3 : MG hp B hc677 (10) (pvt (pR hp) A c.toNat) := (rk676_3).fr hp2 mfc678 Nr.n
                                      have rk679_4 : MG hp B hc677 (1) ((C3) (c) (c)) := (rk676_4).fr hp2 mfc678 Nr.n
                                      have rk679_5 : MG hp B hc677 (2) ((C3) (i2) (k2)) := (rk676_5).fr hp2 mfc678 Nr.n
                                      have rk679_6 : MG hp B hc677 (3) ((C3) (i2) (c)) := (rk676_6).fr hp2 mfc678 Nr.n
                                      have rk679_7 : MG hp B hc677 (4) ((C3) (c) (k2)) := (rk676_7).fr hp2 mfc678 Nr.n
                                      have rk679_8 : MG hp B hc677 (5) (pml hp ((C3) (c) (c)) ((C3) (i2) (k2))) := (rk676_8).fr hp2 mfc678 Nr.n
                                      have rk679_9 : MG hp B hc677 (6) (pml hp ((C3) (i2) (c)) ((C3) (c) (k2))) := (rk676_9).fr hp2 mfc678 Nr.n
                                      have rk679_10 : MG hp B hc677 (7) (psb hp (pml hp ((C3) (c) (c)) ((C3) (i2) (k2))) (pml hp ((C3) (i2) (c)) ((C3) (c) (k2)))) := (rk676_10).fr hp2 mfc678 Nr.n
                                      have rk679_11 : MG hp B hc677 (9) (rm hp (psb hp (pml hp ((C3) (c) (c)) ((C3) (i2) (k2))) (pml hp ((C3) (i2) (c)) ((C3) (c) (k2)))) (pvt (pR hp) A c.toNat)) := (rn675_0).fr hp2 mfc678 Nr.n
                                      have rk679_12 : MG hp B hc677 (8) (qt hp (psb hp (pml hp ((C3) (c) (c)) ((C3) (i2) (k2))) (pml hp ((C3) (i2) (c)) ((C3) (c) (k2)))) (pvt (pR hp) A c.toNat)) := (rn675_1).fr hp2 mfc678 Nr.n
                                      have fr679 : MF B [B + 1, B + 3, B + 7] [0, 1, 2, 3, 4, 5, 6, 7, 8, 9, 10] h hc677 := (fr676).tr ((mfc678).mo (sub_c (List.Mem.tail _ (List.Mem.tail _ (List.Mem.head _))) sub_n) sbI_n)
                                      refine Go.nf (h' := hc677) (st' := []) rfl rfl (Nat.le_refl _) (Nat.le_refl _) ?_
                                      refine g_iinc 0 (ls2 := [(10, .int (gI (k2 + 1))), (9, .int (gI (i2))), (6, .int (gI (0))), (8, .int (gI (w))), (7, .int (gI (c))), (5, .int (gI ((dY hp F) + (dY hp G)))), (4, .int (gI (dY hp G))), (3, .int (gI (dY hp F))), (0, .ref (B)), (1, .int (gI (a))), (2, .int (gI (b)))]) dX10_byY_500 rfl (by decide) rfl ?_
                                      refine g_goto (tgt := 411) dX10_byY_503 rfl ?_
                                      exact ih_l2 _ (by omega) (k2 + 1) (cup C3 i2 k2 (qt hp (psb hp (pml hp ((C3) (c) (c)) ((C3) (i2) (k2))) (pml hp ((C3) (i2) (c)) ((C3) (c) (k2)))) (pvt (pR hp) A c.toNat))) hc677 rfl fr679 fk679_1 f7_678 rk679_0 rk679_1 ((mq678).mono (D2 := fun x y => 0 ≤ x ∧ x < dY hp F + dY hp G ∧ 0 ≤ y ∧ y < dY hp F + dY hp G) (C2 := cup C3 i2 k2 (qt hp (psb hp (pml hp ((C3) (c) (c)) ((C3) (i2) (k2))) (pml hp ((C3) (i2) (c)) ((C3) (c) (k2)))) (pvt (pR hp) A c.toNat))) (fun x y d => Or.inl d) (fun x y d => rfl)) rk679_3 (by omega) (fun x y x0 x1 y0 y1 => by
                                                                      unfold cup
                                                                      by_cases z : x = i2 ∧ y = k2
                                                                      · rw [if_pos z, if_pos (by omega), hq8, z.1, z.2]
                                                                      · rw [if_neg z, hE x y x0 x1 y0 y1]
                                                                        by_cases q : c < x ∧ c < y ∧ (x < i2 ∨ (x = i2 ∧ y < k2))
                                                                        · rw [if_pos q, if_pos (by omega)]
                                                                        · rw [if_neg q, if_neg (by omega)])
                                  exact l2 _ (c + 1) (C3a) hl1 rfl fr_l1 cf_l1_0 cf_l1_1 cr_l1_0 cr_l1_1 cr_l1_2 cr_l1_3 (by omega) (fun x y x0 x1 y0 y1 => by
                                                                      rw [hEa x y x0 x1 y0 y1]
                                                                      by_cases q : c < x ∧ c < y ∧ (x < i2 )
                                                                      · rw [if_pos q, if_pos (by omega)]
                                                                      · rw [if_neg q, if_neg (by omega)])
                              exact l1 _ (c + 1) (swC C w c k) hls rfl fr_ls cf_ls_0 cf_ls_1 cr_ls_0 cr_ls_1 cr_ls_2 cr_ls_3 (by omega) (fun x y x0 x1 y0 y1 => by rw [if_neg (by omega)]; exact hC2 x y x0 x1 y0 y1)
                            · skip
                              refine g_iconst dX10_byY_385 ?_
                              refine g_goto (tgt := 390) dX10_byY_386 rfl ?_
                              refine g_istore (ls2 := [(6, .int (gI (1))), (9, .int (gI (k))), (8, .int (gI (w))), (7, .int (gI (c))), (5, .int (gI ((dY hp F) + (dY hp G)))), (4, .int (gI (dY hp G))), (3, .int (gI (dY hp F))), (0, .ref (B)), (1, .int (gI (a))), (2, .int (gI (b)))]) dX10_byY_390 (by decide) rfl ?_
                              have hR2 : barR hp (dY hp F + dY hp G).toNat (dY hp F + dY hp G - 1 - (c + 1)).toNat (c + 1).toNat (swr A c.toNat w.toNat) (decide ((1 : Int) = 1)) = resY hp F G := by
                                                                      rw [← hR, show (dY hp F + dY hp G - 1 - c).toNat = (dY hp F + dY hp G - 1 - (c + 1)).toNat + 1 by omega, barR_s hp hpvt, show (c + 1).toNat = c.toNat + 1 by omega]
                                                                      rw [if_neg (show ¬ w.toNat = c.toNat by omega), show tu = 0 by omega]; rfl
                              refine g_iload 3 dX10_byY_392 rfl ?_
                              refine g_iconst dX10_byY_394 ?_
                              refine g_iadd dX10_byY_395 ?_
                              refine g_istore (ls2 := [(9, .int (gI ((c) + (1)))), (6, .int (gI (1))), (8, .int (gI (w))), (7, .int (gI (c))), (5, .int (gI ((dY hp F) + (dY hp G)))), (4, .int (gI (dY hp G))), (3, .int (gI (dY hp F))), (0, .ref (B)), (1, .int (gI (a))), (2, .int (gI (b)))]) dX10_byY_396 (by decide) rfl ?_
                              have hm2 : ∀ x y, c ≤ x → x < dY hp F + dY hp G → c ≤ y → y < dY hp F + dY hp G → po (fR hp) (mqI hp (swr A c.toNat w.toNat) c x y) ∧ dgi hp (mqI hp (swr A c.toNat w.toNat) c x y) < 80 := fun i q i0 i1 q0 q1 => mqI_po hp hI2 (by omega) hc.1 (by omega) i1 (by omega) q1
                              have hpnz : mqI hp (swr A c.toNat w.toNat) c c c ≠ (letI := pR hp; 0) := by
                                                                      unfold mqI
                                                                      rw [mnr_sw hp A (by omega)]
                                                                      have e9 : swi c.toNat w.toNat c.toNat = w.toNat := if_pos rfl
                                                                      rw [e9]; exact hpvt.2.2.1
                              have hI3 : barI hp (dY hp F + dY hp G).toNat (c + 1).toNat (swr A c.toNat w.toNat) := by
                                                                      rw [show (c + 1).toNat = c.toNat + 1 by omega]
                                                                      exact barI_s hp hI2 (by omega) hpnz
                              have hm3 : ∀ x y, 0 ≤ x → x < dY hp F + dY hp G → 0 ≤ y → y < dY hp F + dY hp G → po (fR hp) (mqI hp (swr A c.toNat w.toNat) (c + 1) x y) ∧ dgi hp (mqI hp (swr A c.toNat w.toNat) (c + 1) x y) < 80 := fun i q i0 i1 q0 q1 => mqI_po hp hI3 (by omega) (by omega) i0 i1 q0 q1
                              have hpk := pvt_po hp hI.1 hI.2.1
                              have hpk0 := dgi_nz hp hpk hI.2.2.1
                              have l1 : ∀ (kk : Nat) (i2 : Int) (C3a : Int → Int → Px p) (hl1 : GH), kk = (12 - i2).toNat → MF B [B + 1, B + 3, B + 7] [0, 1, 2, 3, 4, 5, 6, 7, 8, 9, 10] h hl1 → hl1.2 (B + 4) = some (aI 1500 (gm)) → hl1.2 (B + 7) = some (aJ 6400 (g7)) → MP hp B hl1 (T) → MWA B hl1 → MSq hp B hl1 (fun x y => 0 ≤ x ∧ x < dY hp F + dY hp G ∧ 0 ≤ y ∧ y < dY hp F + dY hp G) (C3a) → MG hp B hl1 (10) (pvt (pR hp) A c.toNat) → (c + 1 ≤ i2 ∧ i2 ≤ dY hp F + dY hp G) → (∀ x y, c ≤ x → x < dY hp F + dY hp G → c ≤ y → y < dY hp F + dY hp G → C3a x y = if c < x ∧ c < y ∧ (x < i2 ) then mqI hp (swr A c.toNat w.toNat) (c + 1) x y else mqI hp (swr A c.toNat w.toNat) c x y) → Go N mX10_byY (fun v h1 => Fr [B + 1, B + 3, B + 5, B + 7] h h1 ∧ MS B h1 ∧ ∃ w T2, Ou T (pa12 hp F G) w T2 ∧ v = some (.int (gI w)) ∧ MP hp B h1 T2) 0 0 hl1 398 [(9, .int (gI (i2))), (6, .int (gI (1))), (8, .int (gI (w))), (7, .int (gI (c))), (5, .int (gI ((dY hp F) + (dY hp G)))), (4, .int (gI (dY hp G))), (3, .int (gI (dY hp F))), (0, .ref (B)), (1, .int (gI (a))), (2, .int (gI (b)))] [] := by
                                refine Go.ind (fun kk ih_l1 => ?_)
                                intro i2 C3a hl1 hkk_l1 fr_l1 cf_l1_0 cf_l1_1 cr_l1_0 cr_l1_1 cr_l1_2 cr_l1_3 hi2 hEa
                                have cg_l1_0 : hl1.2 (B) = some (mO B ((p : Int)) (hf) (le) (fc) (pn) (rn) (hn) (qn)) := Fr.at0 (fr_l1).1 (Ni.c ⟨ne4, ne5⟩ (Ni.c ⟨ne0, ne1⟩ (Ni.c ⟨ne2, ne3⟩ (Ni.c ⟨ne6, ne7⟩ (Ni.n _))))) hm
                                refine g_iload 0 dX10_byY_398 rfl ?_
                                refine g_iload 4 dX10_byY_400 rfl ?_
                                refine g_icmp_ge (tgt := 512) dX10_byY_402 rfl (by first | (unfold gW; omega) | (unfold gW; split <;> omega)) (by first | (unfold gW; omega) | (unfold gW; split <;> omega)) (fun c980 => ?_) (fun c980 => ?_)
                                · skip
                                  refine g_aload_n 7 dX10_byY_512 rfl ?_
                                  refine g_iload 3 dX10_byY_513 rfl ?_
                                  refine g_iload 3 dX10_byY_515 rfl ?_
                                  refine g_bipush dX10_byY_517 (by decide) ?_
                                  refine g_callV (nc2 := 0) (ns2 := 0) (ci := 10) (As := [.int (gI (c)), .int (gI (c)), .int (gI (10))]) (st := []) rfl dX10_byY_519 okX10_fromSquare lX10_202 itX10_fromSquare seX10_fromSquare rfl cg_l1_0 (by decide) (by decide) rfl (Nat.le_of_ble_eq_true rfl) (sM_fromSquare N _ B p hp hp2 hf le fc pn rn hn qn (c) (c) (10) (by omega) (fun x y => 0 ≤ x ∧ x < dY hp F + dY hp G ∧ 0 ≤ y ∧ y < dY hp F + dY hp G) (C3a) (by omega) cg_l1_0 (fr_l1).2.1 cr_l1_2) (by omega) (by omega) (fun v981 hc981 q981 => ?_)
                                  obtain ⟨rfl, mfc982, rn982_0⟩ := q981
                                  have fk983_0 : hc981.2 (B) = some (mO B ((p : Int)) (hf) (le) (fc) (pn) (rn) (hn) (qn)) := Fr.at0 (mfc982).1 (Ni.c ⟨ne4, ne5⟩ (Ni.n _)) cg_l1_0
                                  have fk983_1 : hc981.2 (B + 4) = some (aI 1500 (gm)) := Fr.at0 (mfc982).1 (Ni.c ⟨ne26, ne27⟩ (Ni.n _)) cf_l1_0
                                  have fk983_2 : hc981.2 (B + 7) = some (aJ 6400 (g7)) := Fr.at0 (mfc982).1 (Ni.c ⟨(ne31).s, (ne33).s⟩ (Ni.n _)) cf_l1_1
                                  have rk983_0 : MP hp B hc981 (T) := (cr_l1_0).fr (mfc982).1 (Ni.c ⟨ne11, ne12⟩ (Ni.n _)) (Ni.c ⟨ne17, ne18⟩ (Ni.n _))
                                  have rk983_1 : MWA B hc981 := (cr_l1_1).fr (mfc982).1 (Ni.c ⟨ne22, ne23⟩ (Ni.n _))
                                  have rk983_2 : MSq hp B hc981 (fun x y => 0 ≤ x ∧ x < dY hp F + dY hp G ∧ 0 ≤ y ∧ y < dY hp F + dY hp G) (C3a) := (cr_l1_2).fr (mfc982).1 (Ni.c ⟨(ne32).s, (ne34).s⟩ (Ni.n _))
                                  have fr983 : MF B [B + 1, B + 3, B + 7] [0, 1, 2, 3, 4, 5, 6, 7, 8, 9, 10] h hc981 := (fr_l1).tr ((mfc982).mo sub_n (sbI_c (List.Mem.tail _ (List.Mem.tail _ (List.Mem.tail _ (List.Mem.tail _ (List.Mem.tail _ (List.Mem.tail _ (List.Mem.tail _ (List.Mem.tail _ (List.Mem.tail _ (List.Mem.tail _ (List.Mem.head _))))))))))) sbI_n))
                                  refine Go.nf (h' := hc981) (st' := []) rfl rfl (Nat.le_refl _) (Nat.le_refl _) ?_
                                  have hp11 : (C3a) (c) (c) = pvt (pR hp) (swr A c.toNat w.toNat) (c + 1).toNat := by
                                                                      rw [hEa c c (by omega) (by omega) (by omega) (by omega), if_neg (by omega), show (c + 1).toNat = c.toNat + 1 by omega, pvt_s]
                                                                      rfl
                                  refine g_iinc 3 (ls2 := [(7, .int (gI (c + 1))), (9, .int (gI (i2))), (6, .int (gI (1))), (8, .int (gI (w))), (5, .int (gI ((dY hp F) + (dY hp G)))), (4, .int (gI (dY hp G))), (3, .int (gI (dY hp F))), (0, .ref (B)), (1, .int (gI (a))), (2, .int (gI (b)))]) dX10_byY_522 rfl (by decide) rfl ?_
                                  refine g_goto (tgt := 230) dX10_byY_525 rfl ?_
                                  refine Go.sub [0, 2, 4, 5, 6, 7, 8, 9] rfl ?_
                                  exact ih_lc _ (by omega) (c + 1) (1) (swr A c.toNat w.toNat) (C3a) hc981 rfl fr983 fk983_1 fk983_2 rk983_0 rk983_1 rk983_2 (by rw [← hp11]; exact rn982_0) (by omega) (by omega) hI3 hR2 (fun x y x0 x1 y0 y1 => by rw [hEa x y (by omega) x1 (by omega) y1, if_pos (by omega)])
                                · skip
                                  refine g_iload 3 dX10_byY_405 rfl ?_
                                  refine g_iconst dX10_byY_407 ?_
                                  refine g_iadd dX10_byY_408 ?_
                                  refine g_istore (ls2 := [(10, .int (gI ((c) + (1)))), (9, .int (gI (i2))), (6, .int (gI (1))), (8, .int (gI (w))), (7, .int (gI (c))), (5, .int (gI ((dY hp F) + (dY hp G)))), (4, .int (gI (dY hp G))), (3, .int (gI (dY hp F))), (0, .ref (B)), (1, .int (gI (a))), (2, .int (gI (b)))]) dX10_byY_409 (by decide) rfl ?_
                                  have l2 : ∀ (kk : Nat) (k2 : Int) (C3 : Int → Int → Px p) (hl2 : GH), kk = (12 - k2).toNat → MF B [B + 1, B + 3, B + 7] [0, 1, 2, 3, 4, 5, 6, 7, 8, 9, 10] h hl2 → hl2.2 (B + 4) = some (aI 1500 (gm)) → hl2.2 (B + 7) = some (aJ 6400 (g7)) → MP hp B hl2 (T) → MWA B hl2 → MSq hp B hl2 (fun x y => 0 ≤ x ∧ x < dY hp F + dY hp G ∧ 0 ≤ y ∧ y < dY hp F + dY hp G) (C3) → MG hp B hl2 (10) (pvt (pR hp) A c.toNat) → (c + 1 ≤ k2 ∧ k2 ≤ dY hp F + dY hp G) → (∀ x y, c ≤ x → x < dY hp F + dY hp G → c ≤ y → y < dY hp F + dY hp G → C3 x y = if c < x ∧ c < y ∧ (x < i2 ∨ (x = i2 ∧ y < k2)) then mqI hp (swr A c.toNat w.toNat) (c + 1) x y else mqI hp (swr A c.toNat w.toNat) c x y) → Go N mX10_byY (fun v h1 => Fr [B + 1, B + 3, B + 5, B + 7] h h1 ∧ MS B h1 ∧ ∃ w T2, Ou T (pa12 hp F G) w T2 ∧ v = some (.int (gI w)) ∧ MP hp B h1 T2) 0 0 hl2 411 [(10, .int (gI (k2))), (9, .int (gI (i2))), (6, .int (gI (1))), (8, .int (gI (w))), (7, .int (gI (c))), (5, .int (gI ((dY hp F) + (dY hp G)))), (4, .int (gI (dY hp G))), (3, .int (gI (dY hp F))), (0, .ref (B)), (1, .int (gI (a))), (2, .int (gI (b)))] [] := by
                                    refine Go.ind (fun kk ih_l2 => ?_)
                                    intro k2 C3 hl2 hkk_l2 fr_l2 cf_l2_0 cf_l2_1 cr_l2_0 cr_l2_1 cr_l2_2 cr_l2_3 hk2 hE
                                    have cg_l2_0 : hl2.2 (B) = some (mO B ((p : Int)) (hf) (le) (fc) (pn) (rn) (hn) (qn)) := Fr.at0 (fr_l2).1 (Ni.c ⟨ne4, ne5⟩ (Ni.c ⟨ne0, ne1⟩ (Ni.c ⟨ne2, ne3⟩ (Ni.c ⟨ne6, ne7⟩ (Ni.n _))))) hm
                                    refine g_iload 0 dX10_byY_411 rfl ?_
                                    refine g_iload 5 dX10_byY_413 rfl ?_
                                    refine g_icmp_ge (tgt := 506) dX10_byY_415 rfl (by first | (unfold gW; omega) | (unfold gW; split <;> omega)) (by first | (unfold gW; omega) | (unfold gW; split <;> omega)) (fun c1084 => ?_) (fun c1084 => ?_)
                                    · skip
                                      refine g_iinc 1 (ls2 := [(9, .int (gI (i2 + 1))), (10, .int (gI (k2))), (6, .int (gI (1))), (8, .int (gI (w))), (7, .int (gI (c))), (5, .int (gI ((dY hp F) + (dY hp G)))), (4, .int (gI (dY hp G))), (3, .int (gI (dY hp F))), (0, .ref (B)), (1, .int (gI (a))), (2, .int (gI (b)))]) dX10_byY_506 rfl (by decide) rfl ?_
                                      refine g_goto (tgt := 398) dX10_byY_509 rfl ?_
                                      refine Go.sub [0, 2, 3, 4, 5, 6, 7, 8, 9, 10] rfl ?_
                                      exact ih_l1 _ (by omega) (i2 + 1) (C3) hl2 rfl fr_l2 cf_l2_0 cf_l2_1 cr_l2_0 cr_l2_1 cr_l2_2 cr_l2_3 (by omega) (fun x y x0 x1 y0 y1 => by
                                                                      rw [hE x y x0 x1 y0 y1]
                                                                      by_cases q : c < x ∧ c < y ∧ (x < i2 ∨ (x = i2 ∧ y < k2))
                                                                      · rw [if_pos q, if_pos (by omega)]
                                                                      · rw [if_neg q, if_neg (by omega)])
                                    · skip
                                      refine g_aload_n 8 dX10_byY_418 rfl ?_
                                      refine g_iload 4 dX10_byY_419 rfl ?_
                                      refine g_iload 4 dX10_byY_421 rfl ?_
                                      refine g_iconst dX10_byY_423 ?_
                                      refine g_callV (nc2 := 0) (ns2 := 0) (ci := 10) (As := [.int (gI (c)), .int (gI (c)), .int (gI (1))]) (st := []) rfl dX10_byY_424 okX10_fromSquare lX10_202 itX10_fromSquare seX10_fromSquare rfl cg_l2_0 (by decide) (by decide) rfl (Nat.le_of_ble_eq_true rfl) (sM_fromSquare N _ B p hp hp2 hf le fc pn rn hn qn (c) (c) (1) (by omega) (fun x y => 0 ≤ x ∧ x < dY hp F + dY hp G ∧ 0 ≤ y ∧ y < dY hp F + dY hp G) (C3) (by omega) cg_l2_0 (fr_l2).2.1 cr_l2_2) (by omega) (by omega) (fun v1085 hc1085 q1085 => ?_)
                                      obtain ⟨rfl, mfc1086, rn1086_0⟩ := q1085
                                      have fk1087_0 : hc1085.2 (B) = some (mO B ((p : Int)) (hf) (le) (fc) (pn) (rn) (hn) (qn)) := Fr.at0 (mfc1086).1 (Ni.c ⟨ne4, ne5⟩ (Ni.n _)) cg_l2_0
                                      have fk1087_1 : hc1085.2 (B + 4) = some (aI 1500 (gm)) := Fr.at0 (mfc1086).1 (Ni.c ⟨ne26, ne27⟩ (Ni.n _)) cf_l2_0
                                      have fk1087_2 : hc1085.2 (B + 7) = some (aJ 6400 (g7)) := Fr.at0 (mfc1086).1 (Ni.c ⟨(ne31).s, (ne33).s⟩ (Ni.n _)) cf_l2_1
                                      have rk1087_0 : MP hp B hc1085 (T) := (cr_l2_0).fr (mfc1086).1 (Ni.c ⟨ne11, ne12⟩ (Ni.n _)) (Ni.c ⟨ne17, ne18⟩ (Ni.n _))
                                      have rk1087_1 : MWA B hc1085 := (cr_l2_1).fr (mfc1086).1 (Ni.c ⟨ne22, ne23⟩ (Ni.n _))
                                      have rk1087_2 : MSq hp B hc1085 (fun x y => 0 ≤ x ∧ x < dY hp F + dY hp G ∧ 0 ≤ y ∧ y < dY hp F + dY hp G) (C3) := (cr_l2_2).fr (mfc1086).1 (Ni.c ⟨(ne32).s, (ne34).s⟩ (Ni.n _))
                                      have rk1087_3 : MG hp B hc1085 (10) (pvt (pR hp) A c.toNat) := (cr_l2_3).fr hp2 mfc1086 (Nr.c (by omega) Nr.n)
                                      have fr1087 : MF B [B + 1, B + 3, B + 7] [0, 1, 2, 3, 4, 5, 6, 7, 8, 9, 10] h hc1085 := (fr_l2).tr ((mfc1086).mo sub_n (sbI_c (List.Mem.tail _ (List.Mem.head _)) sbI_n))
                                      refine Go.nf (h' := hc1085) (st' := []) rfl rfl (Nat.le_refl _) (Nat.le_refl _) ?_
                                      refine g_aload_n 8 dX10_byY_427 rfl ?_
                                      refine g_iload 1 dX10_byY_428 rfl ?_
                                      refine g_iload 0 dX10_byY_430 rfl ?_
                                      refine g_iconst dX10_byY_432 ?_
                                      refine g_callV (nc2 := 0) (ns2 := 0) (ci := 10) (As := [.int (gI (i2)), .int (gI (k2)), .int (gI (2))]) (st := []) rfl dX10_byY_433 okX10_fromSquare lX10_202 itX10_fromSquare seX10_fromSquare rfl fk1087_0 (by decide) (by decide) rfl (Nat.le_of_ble_eq_true rfl) (sM_fromSquare N _ B p hp hp2 hf le fc pn rn hn qn (i2) (k2) (2) (by omega) (fun x y => 0 ≤ x ∧ x < dY hp F + dY hp G ∧ 0 ≤ y ∧ y < dY hp F + dY hp G) (C3) (by omega) fk1087_0 (fr1087).2.1 rk1087_2) (by omega) (by omega) (fun v1088 hc1088 q1088 => ?_)
                                      obtain ⟨rfl, mfc1089, rn1089_0⟩ := q1088
                                      have fk1090_0 : hc1088.2 (B) = some (mO B ((p : Int)) (hf) (le) (fc) (pn) (rn) (hn) (qn)) := Fr.at0 (mfc1089).1 (Ni.c ⟨ne4, ne5⟩ (Ni.n _)) fk1087_0
                                      have fk1090_1 : hc1088.2 (B + 4) = some (aI 1500 (gm)) := Fr.at0 (mfc1089).1 (Ni.c ⟨ne26, ne27⟩ (Ni.n _)) fk1087_1
                                      have fk1090_2 : hc1088.2 (B + 7) = some (aJ 6400 (g7)) := Fr.at0 (mfc1089).1 (Ni.c ⟨(ne31).s, (ne33).s⟩ (Ni.n _)) fk1087_2
                                      have rk1090_0 : MP hp B hc1088 (T) := (rk1087_0).fr (mfc1089).1 (Ni.c ⟨ne11, ne12⟩ (Ni.n _)) (Ni.c ⟨ne17, ne18⟩ (Ni.n _))
                                      have rk1090_1 : MWA B hc1088 := (rk1087_1).fr (mfc1089).1 (Ni.c ⟨ne22, ne23⟩ (Ni.n _))
                                      have rk1090_2 : MSq hp B hc1088 (fun x y => 0 ≤ x ∧ x < dY hp F + dY hp G ∧ 0 ≤ y ∧ y < dY hp F + dY hp G) (C3) := (rk1087_2).fr (mfc1089).1 (Ni.c ⟨(ne32).s, (ne34).s⟩ (Ni.n _))
                                      have rk1090_3 : MG hp B hc1088 (10) (pvt (pR hp) A c.toNat) := (rk1087_3).fr hp2 mfc1089 (Nr.c (by omega) Nr.n)
                                      have rk1090_4 : MG hp B hc1088 (1) ((C3) (c) (c)) := (rn1086_0).fr hp2 mfc1089 (Nr.c (by omega) Nr.n)
                                      have fr1090 : MF B [B + 1, B + 3, B + 7] [0, 1, 2, 3, 4, 5, 6, 7, 8, 9, 10] h hc1088 := (fr1087).tr ((mfc1089).mo sub_n (sbI_c (List.Mem.tail _ (List.Mem.tail _ (List.Mem.head _))) sbI_n))
                                      refine Go.nf (h' := hc1088) (st' := []) rfl rfl (Nat.le_refl _) (Nat.le_refl _) ?_
                                      refine g_aload_n 8 dX10_byY_436 rfl ?_
                                      refine g_iload 1 dX10_byY_437 rfl ?_
                                      refine g_iload 4 dX10_byY_439 rfl ?_
                                      refine g_iconst dX10_byY_441 ?_
                                      refine g_callV (nc2 := 0) (ns2 := 0) (ci := 10) (As := [.int (gI (i2)), .int (gI (c)), .int (gI (3))]) (st := []) rfl dX10_byY_442 okX10_fromSquare lX10_202 itX10_fromSquare seX10_fromSquare rfl fk1090_0 (by decide) (by decide) rfl (Nat.le_of_ble_eq_true rfl) (sM_fromSquare N _ B p hp hp2 hf le fc pn rn hn qn (i2) (c) (3) (by omega) (fun x y => 0 ≤ x ∧ x < dY hp F + dY hp G ∧ 0 ≤ y ∧ y < dY hp F + dY hp G) (C3) (by omega) fk1090_0 (fr1090).2.1 rk1090_2) (by omega) (by omega) (fun v1091 hc1091 q1091 => ?_)
                                      obtain ⟨rfl, mfc1092, rn1092_0⟩ := q1091
                                      have fk1093_0 : hc1091.2 (B) = some (mO B ((p : Int)) (hf) (le) (fc) (pn) (rn) (hn) (qn)) := Fr.at0 (mfc1092).1 (Ni.c ⟨ne4, ne5⟩ (Ni.n _)) fk1090_0
                                      have fk1093_1 : hc1091.2 (B + 4) = some (aI 1500 (gm)) := Fr.at0 (mfc1092).1 (Ni.c ⟨ne26, ne27⟩ (Ni.n _)) fk1090_1
                                      have fk1093_2 : hc1091.2 (B + 7) = some (aJ 6400 (g7)) := Fr.at0 (mfc1092).1 (Ni.c ⟨(ne31).s, (ne33).s⟩ (Ni.n _)) fk1090_2
                                      have rk1093_0 : MP hp B hc1091 (T) := (rk1090_0).fr (mfc1092).1 (Ni.c ⟨ne11, ne12⟩ (Ni.n _)) (Ni.c ⟨ne17, ne18⟩ (Ni.n _))
                                      have rk1093_1 : MWA B hc1091 := (rk1090_1).fr (mfc1092).1 (Ni.c ⟨ne22, ne23⟩ (Ni.n _))
                                      have rk1093_2 : MSq hp B hc1091 (fun x y => 0 ≤ x ∧ x < dY hp F + dY hp G ∧ 0 ≤ y ∧ y < dY hp F + dY hp G) (C3) := (rk1090_2).fr (mfc1092).1 (Ni.c ⟨(ne32).s, (ne34).s⟩ (Ni.n _))
                                      have rk1093_3 : MG hp B hc1091 (10) (pvt (pR hp) A c.toNat) := (rk1090_3).fr hp2 mfc1092 (Nr.c (by omega) Nr.n)
                                      have rk1093_4 : MG hp B hc1091 (1) ((C3) (c) (c)) := (rk1090_4).fr hp2 mfc1092 (Nr.c (by omega) Nr.n)
                                      have rk1093_5 : MG hp B hc1091 (2) ((C3) (i2) (k2)) := (rn1089_0).fr hp2 mfc1092 (Nr.c (by omega) Nr.n)
                                      have fr1093 : MF B [B + 1, B + 3, B + 7] [0, 1, 2, 3, 4, 5, 6, 7, 8, 9, 10] h hc1091 := (fr1090).tr ((mfc1092).mo sub_n (sbI_c (List.Mem.tail _ (List.Mem.tail _ (List.Mem.tail _ (List.Mem.head _)))) sbI_n))
                                      refine Go.nf (h' := hc1091) (st' := []) rfl rfl (Nat.le_refl _) (Nat.le_refl _) ?_
                                      refine g_aload_n 8 dX10_byY_445 rfl ?_
                                      refine g_iload 4 dX10_byY_446 rfl ?_
                                      refine g_iload 0 dX10_byY_448 rfl ?_
                                      refine g_iconst dX10_byY_450 ?_
                                      refine g_callV (nc2 := 0) (ns2 := 0) (ci := 10) (As := [.int (gI (c)), .int (gI (k2)), .int (gI (4))]) (st := []) rfl dX10_byY_451 okX10_fromSquare lX10_202 itX10_fromSquare seX10_fromSquare rfl fk1093_0 (by decide) (by decide) rfl (Nat.le_of_ble_eq_true rfl) (sM_fromSquare N _ B p hp hp2 hf le fc pn rn hn qn (c) (k2) (4) (by omega) (fun x y => 0 ≤ x ∧ x < dY hp F + dY hp G ∧ 0 ≤ y ∧ y < dY hp F + dY hp G) (C3) (by omega) fk1093_0 (fr1093).2.1 rk1093_2) (by omega) (by omega) (fun v1094 hc1094 q1094 => ?_)
                                      obtain ⟨rfl, mfc1095, rn1095_0⟩ := q1094
                                      have fk1096_0 : hc1094.2 (B) = some (mO B ((p : Int)) (hf) (le) (fc) (pn) (rn) (hn) (qn)) := Fr.at0 (mfc1095).1 (Ni.c ⟨ne4, ne5⟩ (Ni.n _)) fk1093_0
                                      have fk1096_1 : hc1094.2 (B + 4) = some (aI 1500 (gm)) := Fr.at0 (mfc1095).1 (Ni.c ⟨ne26, ne27⟩ (Ni.n _)) fk1093_1
                                      have fk1096_2 : hc1094.2 (B + 7) = some (aJ 6400 (g7)) := Fr.at0 (mfc1095).1 (Ni.c ⟨(ne31).s, (ne33).s⟩ (Ni.n _)) fk1093_2
                                      have rk1096_0 : MP hp B hc1094 (T) := (rk1093_0).fr (mfc1095).1 (Ni.c ⟨ne11, ne12⟩ (Ni.n _)) (Ni.c ⟨ne17, ne18⟩ (Ni.n _))
                                      have rk1096_1 : MWA B hc1094 := (rk1093_1).fr (mfc1095).1 (Ni.c ⟨ne22, ne23⟩ (Ni.n _))
                                      have rk1096_2 : MSq hp B hc1094 (fun x y => 0 ≤ x ∧ x < dY hp F + dY hp G ∧ 0 ≤ y ∧ y < dY hp F + dY hp G) (C3) := (rk1093_2).fr (mfc1095).1 (Ni.c ⟨(ne32).s, (ne34).s⟩ (Ni.n _))
                                      have rk1096_3 : MG hp B hc1094 (10) (pvt (pR hp) A c.toNat) := (rk1093_3).fr hp2 mfc1095 (Nr.c (by omega) Nr.n)
                                      have rk1096_4 : MG hp B hc1094 (1) ((C3) (c) (c)) := (rk1093_4).fr hp2 mfc1095 (Nr.c (by omega) Nr.n)
                                      have rk1096_5 : MG hp B hc1094 (2) ((C3) (i2) (k2)) := (rk1093_5).fr hp2 mfc1095 (Nr.c (by omega) Nr.n)
                                      have rk1096_6 : MG hp B hc1094 (3) ((C3) (i2) (c)) := (rn1092_0).fr hp2 mfc1095 (Nr.c (by omega) Nr.n)
                                      have fr1096 : MF B [B + 1, B + 3, B + 7] [0, 1, 2, 3, 4, 5, 6, 7, 8, 9, 10] h hc1094 := (fr1093).tr ((mfc1095).mo sub_n (sbI_c (List.Mem.tail _ (List.Mem.tail _ (List.Mem.tail _ (List.Mem.tail _ (List.Mem.head _))))) sbI_n))
                                      refine Go.nf (h' := hc1094) (st' := []) rfl rfl (Nat.le_refl _) (Nat.le_refl _) ?_
                                      have hd9 : ∀ x y : Int, 0 ≤ x → x < dY hp F + dY hp G → 0 ≤ y → y < dY hp F + dY hp G → dgi hp (C3 x y) < 80 := fun x y x0 x1 y0 y1 => ((rk1096_2).at (i := x) (k := y) ⟨x0, x1, y0, y1⟩).2.2
                                      have hd1097 := hd9 c c (by omega) (by omega) (by omega) (by omega)
                                      have hd1098 := hd9 i2 k2 (by omega) (by omega) (by omega) (by omega)
                                      have hd1099 := hd9 i2 c (by omega) (by omega) (by omega) (by omega)
                                      have hd1100 := hd9 c k2 (by omega) (by omega) (by omega) (by omega)
                                      refine g_aload_n 8 dX10_byY_454 rfl ?_
                                      refine g_iconst dX10_byY_455 ?_
                                      refine g_iconst dX10_byY_456 ?_
                                      refine g_iconst dX10_byY_457 ?_
                                      refine g_callV (nc2 := 0) (ns2 := 0) (ci := 10) (As := [.int (gI (1)), .int (gI (2)), .int (gI (5))]) (st := []) rfl dX10_byY_458 okX10_product lX10_189 itX10_product seX10_product rfl fk1096_0 (by decide) (by decide) rfl (Nat.le_of_ble_eq_true rfl) (sM_product N _ B p hp hp2 hf le fc pn rn hn qn (1) (2) (5) (by omega) (by omega) (by omega) ((C3) (c) (c)) ((C3) (i2) (k2)) fk1096_0 (fr1096).2.1 rk1096_4 rk1096_5 (by omega)) (by omega) (by omega) (fun v1101 hc1101 q1101 => ?_)
                                      obtain ⟨rfl, mfc1102, rn1102_0⟩ := q1101
                                      have fk1103_0 : hc1101.2 (B) = some (mO B ((p : Int)) (hf) (le) (fc) (pn) (rn) (hn) (qn)) := Fr.at0 (mfc1102).1 (Ni.c ⟨ne4, ne5⟩ (Ni.n _)) fk1096_0
                                      have fk1103_1 : hc1101.2 (B + 4) = some (aI 1500 (gm)) := Fr.at0 (mfc1102).1 (Ni.c ⟨ne26, ne27⟩ (Ni.n _)) fk1096_1
                                      have fk1103_2 : hc1101.2 (B + 7) = some (aJ 6400 (g7)) := Fr.at0 (mfc1102).1 (Ni.c ⟨(ne31).s, (ne33).s⟩ (Ni.n _)) fk1096_2
                                      have rk1103_0 : MP hp B hc1101 (T) := (rk1096_0).fr (mfc1102).1 (Ni.c ⟨ne11, ne12⟩ (Ni.n _)) (Ni.c ⟨ne17, ne18⟩ (Ni.n _))
                                      have rk1103_1 : MWA B hc1101 := (rk1096_1).fr (mfc1102).1 (Ni.c ⟨ne22, ne23⟩ (Ni.n _))
                                      have rk1103_2 : MSq hp B hc1101 (fun x y => 0 ≤ x ∧ x < dY hp F + dY hp G ∧ 0 ≤ y ∧ y < dY hp F + dY hp G) (C3) := (rk1096_2).fr (mfc1102).1 (Ni.c ⟨(ne32).s, (ne34).s⟩ (Ni.n _))
                                      have rk1103_3 : MG hp B hc1101 (10) (pvt (pR hp) A c.toNat) := (rk1096_3).fr hp2 mfc1102 (Nr.c (by omega) Nr.n)
                                      have rk1103_4 : MG hp B hc1101 (1) ((C3) (c) (c)) := (rk1096_4).fr hp2 mfc1102 (Nr.c (by omega) Nr.n)
                                      have rk1103_5 : MG hp B hc1101 (2) ((C3) (i2) (k2)) := (rk1096_5).fr hp2 mfc1102 (Nr.c (by omega) Nr.n)
                                      have rk1103_6 : MG hp B hc1101 (3) ((C3) (i2) (c)) := (rk1096_6).fr hp2 mfc1102 (Nr.c (by omega) Nr.n)
                                      have rk1103_7 : MG hp B hc1101 (4) ((C3) (c) (k2)) := (rn1095_0).fr hp2 mfc1102 (Nr.c (by omega) Nr.n)
                                      have fr1103 : MF B [B + 1, B + 3, B + 7] [0, 1, 2, 3, 4, 5, 6, 7, 8, 9, 10] h hc1101 := (fr1096).tr ((mfc1102).mo sub_n (sbI_c (List.Mem.tail _ (List.Mem.tail _ (List.Mem.tail _ (List.Mem.tail _ (List.Mem.tail _ (List.Mem.head _)))))) sbI_n))
                                      refine Go.nf (h' := hc1101) (st' := []) rfl rfl (Nat.le_refl _) (Nat.le_refl _) ?_
                                      refine g_aload_n 8 dX10_byY_461 rfl ?_
                                      refine g_iconst dX10_byY_462 ?_
                                      refine g_iconst dX10_byY_463 ?_
                                      refine g_bipush dX10_byY_464 (by decide) ?_
                                      refine g_callV (nc2 := 0) (ns2 := 0) (ci := 10) (As := [.int (gI (3)), .int (gI (4)), .int (gI (6))]) (st := []) rfl dX10_byY_466 okX10_product lX10_189 itX10_product seX10_product rfl fk1103_0 (by decide) (by decide) rfl (Nat.le_of_ble_eq_true rfl) (sM_product N _ B p hp hp2 hf le fc pn rn hn qn (3) (4) (6) (by omega) (by omega) (by omega) ((C3) (i2) (c)) ((C3) (c) (k2)) fk1103_0 (fr1103).2.1 rk1103_6 rk1103_7 (by omega)) (by omega) (by omega) (fun v1104 hc1104 q1104 => ?_)
                                      obtain ⟨rfl, mfc1105, rn1105_0⟩ := q1104
                                      have fk1106_0 : hc1104.2 (B) = some (mO B ((p : Int)) (hf) (le) (fc) (pn) (rn) (hn) (qn)) := Fr.at0 (mfc1105).1 (Ni.c ⟨ne4, ne5⟩ (Ni.n _)) fk1103_0
                                      have fk1106_1 : hc1104.2 (B + 4) = some (aI 1500 (gm)) := Fr.at0 (mfc1105).1 (Ni.c ⟨ne26, ne27⟩ (Ni.n _)) fk1103_1
                                      have fk1106_2 : hc1104.2 (B + 7) = some (aJ 6400 (g7)) := Fr.at0 (mfc1105).1 (Ni.c ⟨(ne31).s, (ne33).s⟩ (Ni.n _)) fk1103_2
                                      have rk1106_0 : MP hp B hc1104 (T) := (rk1103_0).fr (mfc1105).1 (Ni.c ⟨ne11, ne12⟩ (Ni.n _)) (Ni.c ⟨ne17, ne18⟩ (Ni.n _))
                                      have rk1106_1 : MWA B hc1104 := (rk1103_1).fr (mfc1105).1 (Ni.c ⟨ne22, ne23⟩ (Ni.n _))
                                      have rk1106_2 : MSq hp B hc1104 (fun x y => 0 ≤ x ∧ x < dY hp F + dY hp G ∧ 0 ≤ y ∧ y < dY hp F + dY hp G) (C3) := (rk1103_2).fr (mfc1105).1 (Ni.c ⟨(ne32).s, (ne34).s⟩ (Ni.n _))
                                      have rk1106_3 : MG hp B hc1104 (10) (pvt (pR hp) A c.toNat) := (rk1103_3).fr hp2 mfc1105 (Nr.c (by omega) Nr.n)
                                      have rk1106_4 : MG hp B hc1104 (1) ((C3) (c) (c)) := (rk1103_4).fr hp2 mfc1105 (Nr.c (by omega) Nr.n)
                                      have rk1106_5 : MG hp B hc1104 (2) ((C3) (i2) (k2)) := (rk1103_5).fr hp2 mfc1105 (Nr.c (by omega) Nr.n)
                                      have rk1106_6 : MG hp B hc1104 (3) ((C3) (i2) (c)) := (rk1103_6).fr hp2 mfc1105 (Nr.c (by omega) Nr.n)
                                      have rk1106_7 : MG hp B hc1104 (4) ((C3) (c) (k2)) := (rk1103_7).fr hp2 mfc1105 (Nr.c (by omega) Nr.n)
                                      have rk1106_8 : MG hp B hc1104 (5) (pml hp ((C3) (c) (c)) ((C3) (i2) (k2))) := (rn1102_0).fr hp2 mfc1105 (Nr.c (by omega) Nr.n)
                                      have fr1106 : MF B [B + 1, B + 3, B + 7] [0, 1, 2, 3, 4, 5, 6, 7, 8, 9, 10] h hc1104 := (fr1103).tr ((mfc1105).mo sub_n (sbI_c (List.Mem.tail _ (List.Mem.tail _ (List.Mem.tail _ (List.Mem.tail _ (List.Mem.tail _ (List.Mem.tail _ (List.Mem.head _))))))) sbI_n))
                                      refine Go.nf (h' := hc1104) (st' := []) rfl rfl (Nat.le_refl _) (Nat.le_refl _) ?_
                                      refine g_aload_n 8 dX10_byY_469 rfl ?_
                                      refine g_iconst dX10_byY_470 ?_
                                      refine g_bipush dX10_byY_471 (by decide) ?_
                                      refine g_bipush dX10_byY_473 (by decide) ?_
                                      refine g_callV (nc2 := 0) (ns2 := 0) (ci := 10) (As := [.int (gI (5)), .int (gI (6)), .int (gI (7))]) (st := []) rfl dX10_byY_475 okX10_minus lX10_192 itX10_minus seX10_minus rfl fk1106_0 (by decide) (by decide) rfl (Nat.le_of_ble_eq_true rfl) (sM_minus N _ B p hp hp2 hf le fc pn rn hn qn (5) (6) (7) (by omega) (pml hp ((C3) (c) (c)) ((C3) (i2) (k2))) (pml hp ((C3) (i2) (c)) ((C3) (c) (k2))) fk1106_0 (fr1106).2.1 rk1106_8 rn1105_0) (by omega) (by omega) (fun v1107 hc1107 q1107 => ?_)
                                      obtain ⟨rfl, mfc1108, rn1108_0⟩ := q1107
                                      have fk1109_0 : hc1107.2 (B) = some (mO B ((p : Int)) (hf) (le) (fc) (pn) (rn) (hn) (qn)) := Fr.at0 (mfc1108).1 (Ni.c ⟨ne4, ne5⟩ (Ni.n _)) fk1106_0
                                      have fk1109_1 : hc1107.2 (B + 4) = some (aI 1500 (gm)) := Fr.at0 (mfc1108).1 (Ni.c ⟨ne26, ne27⟩ (Ni.n _)) fk1106_1
                                      have fk1109_2 : hc1107.2 (B + 7) = some (aJ 6400 (g7)) := Fr.at0 (mfc1108).1 (Ni.c ⟨(ne31).s, (ne33).s⟩ (Ni.n _)) fk1106_2
                                      have rk1109_0 : MP hp B hc1107 (T) := (rk1106_0).fr (mfc1108).1 (Ni.c ⟨ne11, ne12⟩ (Ni.n _)) (Ni.c ⟨ne17, ne18⟩ (Ni.n _))
                                      have rk1109_1 : MWA B hc1107 := (rk1106_1).fr (mfc1108).1 (Ni.c ⟨ne22, ne23⟩ (Ni.n _))
                                      have rk1109_2 : MSq hp B hc1107 (fun x y => 0 ≤ x ∧ x < dY hp F + dY hp G ∧ 0 ≤ y ∧ y < dY hp F + dY hp G) (C3) := (rk1106_2).fr (mfc1108).1 (Ni.c ⟨(ne32).s, (ne34).s⟩ (Ni.n _))
                                      have rk1109_3 : MG hp B hc1107 (10) (pvt (pR hp) A c.toNat) := (rk1106_3).fr hp2 mfc1108 (Nr.c (by omega) Nr.n)
                                      have rk1109_4 : MG hp B hc1107 (1) ((C3) (c) (c)) := (rk1106_4).fr hp2 mfc1108 (Nr.c (by omega) Nr.n)
                                      have rk1109_5 : MG hp B hc1107 (2) ((C3) (i2) (k2)) := (rk1106_5).fr hp2 mfc1108 (Nr.c (by omega) Nr.n)
                                      have rk1109_6 : MG hp B hc1107 (3) ((C3) (i2) (c)) := (rk1106_6).fr hp2 mfc1108 (Nr.c (by omega) Nr.n)
                                      have rk1109_7 : MG hp B hc1107 (4) ((C3) (c) (k2)) := (rk1106_7).fr hp2 mfc1108 (Nr.c (by omega) Nr.n)
                                      have rk1109_8 : MG hp B hc1107 (5) (pml hp ((C3) (c) (c)) ((C3) (i2) (k2))) := (rk1106_8).fr hp2 mfc1108 (Nr.c (by omega) Nr.n)
                                      have rk1109_9 : MG hp B hc1107 (6) (pml hp ((C3) (i2) (c)) ((C3) (c) (k2))) := (rn1105_0).fr hp2 mfc1108 (Nr.c (by omega) Nr.n)
                                      have fr1109 : MF B [B + 1, B + 3, B + 7] [0, 1, 2, 3, 4, 5, 6, 7, 8, 9, 10] h hc1107 := (fr1106).tr ((mfc1108).mo sub_n (sbI_c (List.Mem.tail _ (List.Mem.tail _ (List.Mem.tail _ (List.Mem.tail _ (List.Mem.tail _ (List.Mem.tail _ (List.Mem.tail _ (List.Mem.head _)))))))) sbI_n))
                                      refine Go.nf (h' := hc1107) (st' := []) rfl rfl (Nat.le_refl _) (Nat.le_refl _) ?_
                                      refine g_aload_n 8 dX10_byY_478 rfl ?_
                                      refine g_bipush dX10_byY_479 (by decide) ?_
                                      refine g_bipush dX10_byY_481 (by decide) ?_
                                      refine g_bipush dX10_byY_483 (by decide) ?_
                                      refine g_bipush dX10_byY_485 (by decide) ?_
                                      refine g_callV (nc2 := 0) (ns2 := 0) (ci := 10) (As := [.int (gI (7)), .int (gI (10)), .int (gI (8)), .int (gI (9))]) (st := []) rfl dX10_byY_487 okX10_divide lX10_176 itX10_divide seX10_divide rfl fk1109_0 (by decide) (by decide) rfl (Nat.le_of_ble_eq_true rfl) (sM_divide N _ B p hp hp2 hf le fc pn rn hn qn (7) (10) (8) (9) (by omega) (by omega) (by omega) (by omega) (by omega) (by omega) (psb hp (pml hp ((C3) (c) (c)) ((C3) (i2) (k2))) (pml hp ((C3) (i2) (c)) ((C3) (c) (k2)))) (pvt (pR hp) A c.toNat) fk1109_0 (fr1109).2.1 rn1108_0 rk1109_3 (by omega)) (by omega) (by omega) (fun v1110 hc1110 q1110 => ?_)
                                      obtain ⟨rfl, mfc1111, rn1111_0, rn1111_1⟩ := q1110
                                      have fk1112_0 : hc1110.2 (B) = some (mO B ((p : Int)) (hf) (le) (fc) (pn) (rn) (hn) (qn)) := Fr.at0 (mfc1111).1 (Ni.c ⟨ne4, ne5⟩ (Ni.n _)) fk1109_0
                                      have fk1112_1 : hc1110.2 (B + 4) = some (aI 1500 (gm)) := Fr.at0 (mfc1111).1 (Ni.c ⟨ne26, ne27⟩ (Ni.n _)) fk1109_1
                                      have fk1112_2 : hc1110.2 (B + 7) = some (aJ 6400 (g7)) := Fr.at0 (mfc1111).1 (Ni.c ⟨(ne31).s, (ne33).s⟩ (Ni.n _)) fk1109_2
                                      have rk1112_0 : MP hp B hc1110 (T) := (rk1109_0).fr (mfc1111).1 (Ni.c ⟨ne11, ne12⟩ (Ni.n _)) (Ni.c ⟨ne17, ne18⟩ (Ni.n _))
                                      have rk1112_1 : MWA B hc1110 := (rk1109_1).fr (mfc1111).1 (Ni.c ⟨ne22, ne23⟩ (Ni.n _))
                                      have rk1112_2 : MSq hp B hc1110 (fun x y => 0 ≤ x ∧ x < dY hp F + dY hp G ∧ 0 ≤ y ∧ y < dY hp F + dY hp G) (C3) := (rk1109_2).fr (mfc1111).1 (Ni.c ⟨(ne32).s, (ne34).s⟩ (Ni.n _))
                                      have rk1112_3 : MG hp B hc1110 (10) (pvt (pR hp) A c.toNat) := (rk1109_3).fr hp2 mfc1111 (Nr.c (by omega) (Nr.c (by omega) Nr.n))
                                      have rk1112_4 : MG hp B hc1110 (1) ((C3) (c) (c)) := (rk1109_4).fr hp2 mfc1111 (Nr.c (by omega) (Nr.c (by omega) Nr.n))
                                      have rk1112_5 : MG hp B hc1110 (2) ((C3) (i2) (k2)) := (rk1109_5).fr hp2 mfc1111 (Nr.c (by omega) (Nr.c (by omega) Nr.n))
                                      have rk1112_6 : MG hp B hc1110 (3) ((C3) (i2) (c)) := (rk1109_6).fr hp2 mfc1111 (Nr.c (by omega) (Nr.c (by omega) Nr.n))
                                      have rk1112_7 : MG hp B hc1110 (4) ((C3) (c) (k2)) := (rk1109_7).fr hp2 mfc1111 (Nr.c (by omega) (Nr.c (by omega) Nr.n))
                                      have rk1112_8 : MG hp B hc1110 (5) (pml hp ((C3) (c) (c)) ((C3) (i2) (k2))) := (rk1109_8).fr hp2 mfc1111 (Nr.c (by omega) (Nr.c (by omega) Nr.n))
                                      have rk1112_9 : MG hp B hc1110 (6) (pml hp ((C3) (i2) (c)) ((C3) (c) (k2))) := (rk1109_9).fr hp2 mfc1111 (Nr.c (by omega) (Nr.c (by omega) Nr.n))
                                      have rk1112_10 : MG hp B hc1110 (7) (psb hp (pml hp ((C3) (c) (c)) ((C3) (i2) (k2))) (pml hp ((C3) (i2) (c)) ((C3) (c) (k2)))) := (rn1108_0).fr hp2 mfc1111 (Nr.c (by omega) (Nr.c (by omega) Nr.n))
                                      have fr1112 : MF B [B + 1, B + 3, B + 7] [0, 1, 2, 3, 4, 5, 6, 7, 8, 9, 10] h hc1110 := (fr1109).tr ((mfc1111).mo sub_n (sbI_c (List.Mem.tail _ (List.Mem.tail _ (List.Mem.tail _ (List.Mem.tail _ (List.Mem.tail _ (List.Mem.tail _ (List.Mem.tail _ (List.Mem.tail _ (List.Mem.tail _ (List.Mem.head _)))))))))) (sbI_c (List.Mem.tail _ (List.Mem.tail _ (List.Mem.tail _ (List.Mem.tail _ (List.Mem.tail _ (List.Mem.tail _ (List.Mem.tail _ (List.Mem.tail _ (List.Mem.head _))))))))) sbI_n)))
                                      refine Go.nf (h' := hc1110) (st' := []) rfl rfl (Nat.le_refl _) (Nat.le_refl _) ?_
                                      have hq8 : qt hp (psb hp (pml hp ((C3) (c) (c)) ((C3) (i2) (k2))) (pml hp ((C3) (i2) (c)) ((C3) (c) (k2)))) (pvt (pR hp) A c.toNat) = mqI hp (swr A c.toNat w.toNat) (c + 1) i2 k2 := by
                                                                      rw [hE c c (by omega) (by omega) (by omega) (by omega), if_neg (by omega), hE i2 k2 (by omega) (by omega) (by omega) (by omega), if_neg (by omega), hE i2 c (by omega) (by omega) (by omega) (by omega), if_neg (by omega), hE c k2 (by omega) (by omega) (by omega) (by omega), if_neg (by omega), ← hpv10]
                                                                      exact bar_qI hp hI2 hc.1 (by omega) (by omega) (by omega) (by omega) (by omega)
                                      have hdz : dgi hp (qt hp (psb hp (pml hp ((C3) (c) (c)) ((C3) (i2) (k2))) (pml hp ((C3) (i2) (c)) ((C3) (c) (k2)))) (pvt (pR hp) A c.toNat)) < 80 := by rw [hq8]; exact (hm3 i2 k2 (by omega) (by omega) (by omega) (by omega)).2
                                      refine g_aload_n 8 dX10_byY_490 rfl ?_
                                      refine g_bipush dX10_byY_491 (by decide) ?_
                                      refine g_iload 1 dX10_byY_493 rfl ?_
                                      refine g_iload 0 dX10_byY_495 rfl ?_
                                      refine g_callV (nc2 := 0) (ns2 := 0) (ci := 10) (As := [.int (gI (8)), .int (gI (i2)), .int (gI (k2))]) (st := []) rfl dX10_byY_497 okX10_toSquare lX10_199 itX10_toSquare seX10_toSquare rfl fk1112_0 (by decide) (by decide) rfl (Nat.le_of_ble_eq_true rfl) (sM_toSquare0 N _ B p hp hp2 hf le fc pn rn hn qn (8) (i2) (k2) (by omega) (fun x y => 0 ≤ x ∧ x < dY hp F + dY hp G ∧ 0 ≤ y ∧ y < dY hp F + dY hp G) (C3) (qt hp (psb hp (pml hp ((C3) (c) (c)) ((C3) (i2) (k2))) (pml hp ((C3) (i2) (c)) ((C3) (c) (k2)))) (pvt (pR hp) A c.toNat)) (g7) fk1112_0 (fr1112).2.1 fk1112_2 rk1112_2 rn1111_1 hdz) (by omega) (by omega) (fun v1113 hc1113 q1113 => ?_)
                                      obtain ⟨rfl, mfc1114, f7_1114, mq1114⟩ := q1113
                                      have fk1115_0 : hc1113.2 (B) = some (mO B ((p : Int)) (hf) (le) (fc) (pn) (rn) (hn) (qn)) := Fr.at0 (mfc1114).1 (Ni.c ⟨ne4, ne5⟩ (Ni.c ⟨ne6, ne7⟩ (Ni.n _))) fk1112_0
                                      have fk1115_1 : hc1113.2 (B + 4) = some (aI 1500 (gm)) := Fr.at0 (mfc1114).1 (Ni.c ⟨ne26, ne27⟩ (Ni.c ⟨ne28, ne29⟩ (Ni.n _))) fk1112_1
                                      have rk1115_0 : MP hp B hc1113 (T) := (rk1112_0).fr (mfc1114).1 (Ni.c ⟨ne11, ne12⟩ (Ni.c ⟨ne13, ne14⟩ (Ni.n _))) (Ni.c ⟨ne17, ne18⟩ (Ni.c ⟨ne19, ne20⟩ (Ni.n _)))
                                      have rk1115_1 : MWA B hc1113 := (rk1112_1).fr (mfc1114).1 (Ni.c ⟨ne22, ne23⟩ (Ni.c ⟨ne24, ne25⟩ (Ni.n _)))
                                      have rk1115_3 : MG hp B hc1113 (10) (pvt (pR hp) A c.toNat) := (rk1112_3).fr hp2 mfc1114 Nr.n
                                      have rk1115_4 : MG hp B hc1113 (1) ((C3) (c) (c)) := (rk1112_4).fr hp2 mfc1114 Nr.n
                                      have rk1115_5 : MG hp B hc1113 (2) ((C3) (i2) (k2)) := (rk1112_5).fr hp2 mfc1114 Nr.n
                                      have rk1115_6 : MG hp B hc1113 (3) ((C3) (i2) (c)) := (rk1112_6).fr hp2 mfc1114 Nr.n
                                      have rk1115_7 : MG hp B hc1113 (4) ((C3) (c) (k2)) := (rk1112_7).fr hp2 mfc1114 Nr.n
                                      have rk1115_8 : MG hp B hc1113 (5) (pml hp ((C3) (c) (c)) ((C3) (i2) (k2))) := (rk1112_8).fr hp2 mfc1114 Nr.n
                                      have rk1115_9 : MG hp B hc1113 (6) (pml hp ((C3) (i2) (c)) ((C3) (c) (k2))) := (rk1112_9).fr hp2 mfc1114 Nr.n
                                      have rk1115_10 : MG hp B hc1113 (7) (psb hp (pml hp ((C3) (c) (c)) ((C3) (i2) (k2))) (pml hp ((C3) (i2) (c)) ((C3) (c) (k2)))) := (rk1112_10).fr hp2 mfc1114 Nr.n
                                      have rk1115_11 : MG hp B hc1113 (9) (rm hp (psb hp (pml hp ((C3) (c) (c)) ((C3) (i2) (k2))) (pml hp ((C3) (i2) (c)) ((C3) (c) (k2)))) (pvt (pR hp) A c.toNat)) := (rn1111_0).fr hp2 mfc1114 Nr.n
                                      have rk1115_12 : MG hp B hc1113 (8) (qt hp (psb hp (pml hp ((C3) (c) (c)) ((C3) (i2) (k2))) (pml hp ((C3) (i2) (c)) ((C3) (c) (k2)))) (pvt (pR hp) A c.toNat)) := (rn1111_1).fr hp2 mfc1114 Nr.n
                                      have fr1115 : MF B [B + 1, B + 3, B + 7] [0, 1, 2, 3, 4, 5, 6, 7, 8, 9, 10] h hc1113 := (fr1112).tr ((mfc1114).mo (sub_c (List.Mem.tail _ (List.Mem.tail _ (List.Mem.head _))) sub_n) sbI_n)
                                      refine Go.nf (h' := hc1113) (st' := []) rfl rfl (Nat.le_refl _) (Nat.le_refl _) ?_
                                      refine g_iinc 0 (ls2 := [(10, .int (gI (k2 + 1))), (9, .int (gI (i2))), (6, .int (gI (1))), (8, .int (gI (w))), (7, .int (gI (c))), (5, .int (gI ((dY hp F) + (dY hp G)))), (4, .int (gI (dY hp G))), (3, .int (gI (dY hp F))), (0, .ref (B)), (1, .int (gI (a))), (2, .int (gI (b)))]) dX10_byY_500 rfl (by decide) rfl ?_
                                      refine g_goto (tgt := 411) dX10_byY_503 rfl ?_
                                      exact ih_l2 _ (by omega) (k2 + 1) (cup C3 i2 k2 (qt hp (psb hp (pml hp ((C3) (c) (c)) ((C3) (i2) (k2))) (pml hp ((C3) (i2) (c)) ((C3) (c) (k2)))) (pvt (pR hp) A c.toNat))) hc1113 rfl fr1115 fk1115_1 f7_1114 rk1115_0 rk1115_1 ((mq1114).mono (D2 := fun x y => 0 ≤ x ∧ x < dY hp F + dY hp G ∧ 0 ≤ y ∧ y < dY hp F + dY hp G) (C2 := cup C3 i2 k2 (qt hp (psb hp (pml hp ((C3) (c) (c)) ((C3) (i2) (k2))) (pml hp ((C3) (i2) (c)) ((C3) (c) (k2)))) (pvt (pR hp) A c.toNat))) (fun x y d => Or.inl d) (fun x y d => rfl)) rk1115_3 (by omega) (fun x y x0 x1 y0 y1 => by
                                                                      unfold cup
                                                                      by_cases z : x = i2 ∧ y = k2
                                                                      · rw [if_pos z, if_pos (by omega), hq8, z.1, z.2]
                                                                      · rw [if_neg z, hE x y x0 x1 y0 y1]
                                                                        by_cases q : c < x ∧ c < y ∧ (x < i2 ∨ (x = i2 ∧ y < k2))
                                                                        · rw [if_pos q, if_pos (by omega)]
                                                                        · rw [if_neg q, if_neg (by omega)])
                                  exact l2 _ (c + 1) (C3a) hl1 rfl fr_l1 cf_l1_0 cf_l1_1 cr_l1_0 cr_l1_1 cr_l1_2 cr_l1_3 (by omega) (fun x y x0 x1 y0 y1 => by
                                                                      rw [hEa x y x0 x1 y0 y1]
                                                                      by_cases q : c < x ∧ c < y ∧ (x < i2 )
                                                                      · rw [if_pos q, if_pos (by omega)]
                                                                      · rw [if_neg q, if_neg (by omega)])
                              exact l1 _ (c + 1) (swC C w c k) hls rfl fr_ls cf_ls_0 cf_ls_1 cr_ls_0 cr_ls_1 cr_ls_2 cr_ls_3 (by omega) (fun x y x0 x1 y0 y1 => by rw [if_neg (by omega)]; exact hC2 x y x0 x1 y0 y1)
                          · skip
                            refine g_iload 1 dX10_byY_319 rfl ?_
                            refine g_iload 2 dX10_byY_321 rfl ?_
                            refine g_icmp_eq (tgt := 368) dX10_byY_323 rfl (by first | (unfold gW; omega) | (unfold gW; split <;> omega)) (by first | (unfold gW; omega) | (unfold gW; split <;> omega)) (fun c1316 => ?_) (fun c1316 => ?_)
                            · skip
                              have hkS : k = dY hp F + dY hp G ∨ w = c := by omega
                              have hC2 : ∀ i q, c ≤ i → i < dY hp F + dY hp G → c ≤ q → q < dY hp F + dY hp G → swC C w c k i q = mqI hp (swr A c.toNat w.toNat) c i q := fun i q i0 i1 q0 q1 => swC_m hp hC hc.1 hw.1 (by omega) hkS i0 i1 q0 q1
                              refine g_iload 3 dX10_byY_368 rfl ?_
                              refine g_iload 1 dX10_byY_370 rfl ?_
                              refine g_iload 2 dX10_byY_372 rfl ?_
                              refine g_icmp_eq (tgt := 381) dX10_byY_374 rfl (by first | (unfold gW; omega) | (unfold gW; split <;> omega)) (by first | (unfold gW; omega) | (unfold gW; split <;> omega)) (fun c1317 => ?_) (fun c1317 => absurd c1317 (by omega))
                              refine g_iconst dX10_byY_381 ?_
                              refine g_icmp_eq (tgt := 389) dX10_byY_382 rfl (by first | (unfold gW; omega) | (unfold gW; split <;> omega)) (by first | (unfold gW; omega) | (unfold gW; split <;> omega)) (fun c1318 => ?_) (fun c1318 => ?_)
                              · skip
                                refine g_iconst dX10_byY_389 ?_
                                refine g_istore (ls2 := [(6, .int (gI (0))), (9, .int (gI (k))), (8, .int (gI (w))), (7, .int (gI (c))), (5, .int (gI ((dY hp F) + (dY hp G)))), (4, .int (gI (dY hp G))), (3, .int (gI (dY hp F))), (0, .ref (B)), (1, .int (gI (a))), (2, .int (gI (b)))]) dX10_byY_390 (by decide) rfl ?_
                                have hR2 : barR hp (dY hp F + dY hp G).toNat (dY hp F + dY hp G - 1 - (c + 1)).toNat (c + 1).toNat (swr A c.toNat w.toNat) (decide ((0 : Int) = 1)) = resY hp F G := by
                                                                      rw [← hR, show (dY hp F + dY hp G - 1 - c).toNat = (dY hp F + dY hp G - 1 - (c + 1)).toNat + 1 by omega, barR_s hp hpvt, show (c + 1).toNat = c.toNat + 1 by omega]
                                                                      rw [if_pos (show w.toNat = c.toNat by omega), show tu = 0 by omega]
                                refine g_iload 3 dX10_byY_392 rfl ?_
                                refine g_iconst dX10_byY_394 ?_
                                refine g_iadd dX10_byY_395 ?_
                                refine g_istore (ls2 := [(9, .int (gI ((c) + (1)))), (6, .int (gI (0))), (8, .int (gI (w))), (7, .int (gI (c))), (5, .int (gI ((dY hp F) + (dY hp G)))), (4, .int (gI (dY hp G))), (3, .int (gI (dY hp F))), (0, .ref (B)), (1, .int (gI (a))), (2, .int (gI (b)))]) dX10_byY_396 (by decide) rfl ?_
                                have hm2 : ∀ x y, c ≤ x → x < dY hp F + dY hp G → c ≤ y → y < dY hp F + dY hp G → po (fR hp) (mqI hp (swr A c.toNat w.toNat) c x y) ∧ dgi hp (mqI hp (swr A c.toNat w.toNat) c x y) < 80 := fun i q i0 i1 q0 q1 => mqI_po hp hI2 (by omega) hc.1 (by omega) i1 (by omega) q1
                                have hpnz : mqI hp (swr A c.toNat w.toNat) c c c ≠ (letI := pR hp; 0) := by
                                                                      unfold mqI
                                                                      rw [mnr_sw hp A (by omega)]
                                                                      have e9 : swi c.toNat w.toNat c.toNat = w.toNat := if_pos rfl
                                                                      rw [e9]; exact hpvt.2.2.1
                                have hI3 : barI hp (dY hp F + dY hp G).toNat (c + 1).toNat (swr A c.toNat w.toNat) := by
                                                                      rw [show (c + 1).toNat = c.toNat + 1 by omega]
                                                                      exact barI_s hp hI2 (by omega) hpnz
                                have hm3 : ∀ x y, 0 ≤ x → x < dY hp F + dY hp G → 0 ≤ y → y < dY hp F + dY hp G → po (fR hp) (mqI hp (swr A c.toNat w.toNat) (c + 1) x y) ∧ dgi hp (mqI hp (swr A c.toNat w.toNat) (c + 1) x y) < 80 := fun i q i0 i1 q0 q1 => mqI_po hp hI3 (by omega) (by omega) i0 i1 q0 q1
                                have hpk := pvt_po hp hI.1 hI.2.1
                                have hpk0 := dgi_nz hp hpk hI.2.2.1
                                have l1 : ∀ (kk : Nat) (i2 : Int) (C3a : Int → Int → Px p) (hl1 : GH), kk = (12 - i2).toNat → MF B [B + 1, B + 3, B + 7] [0, 1, 2, 3, 4, 5, 6, 7, 8, 9, 10] h hl1 → hl1.2 (B + 4) = some (aI 1500 (gm)) → hl1.2 (B + 7) = some (aJ 6400 (g7)) → MP hp B hl1 (T) → MWA B hl1 → MSq hp B hl1 (fun x y => 0 ≤ x ∧ x < dY hp F + dY hp G ∧ 0 ≤ y ∧ y < dY hp F + dY hp G) (C3a) → MG hp B hl1 (10) (pvt (pR hp) A c.toNat) → (c + 1 ≤ i2 ∧ i2 ≤ dY hp F + dY hp G) → (∀ x y, c ≤ x → x < dY hp F + dY hp G → c ≤ y → y < dY hp F + dY hp G → C3a x y = if c < x ∧ c < y ∧ (x < i2 ) then mqI hp (swr A c.toNat w.toNat) (c + 1) x y else mqI hp (swr A c.toNat w.toNat) c x y) → Go N mX10_byY (fun v h1 => Fr [B + 1, B + 3, B + 5, B + 7] h h1 ∧ MS B h1 ∧ ∃ w T2, Ou T (pa12 hp F G) w T2 ∧ v = some (.int (gI w)) ∧ MP hp B h1 T2) 0 0 hl1 398 [(9, .int (gI (i2))), (6, .int (gI (0))), (8, .int (gI (w))), (7, .int (gI (c))), (5, .int (gI ((dY hp F) + (dY hp G)))), (4, .int (gI (dY hp G))), (3, .int (gI (dY hp F))), (0, .ref (B)), (1, .int (gI (a))), (2, .int (gI (b)))] [] := by
                                  refine Go.ind (fun kk ih_l1 => ?_)
                                  intro i2 C3a hl1 hkk_l1 fr_l1 cf_l1_0 cf_l1_1 cr_l1_0 cr_l1_1 cr_l1_2 cr_l1_3 hi2 hEa
                                  have cg_l1_0 : hl1.2 (B) = some (mO B ((p : Int)) (hf) (le) (fc) (pn) (rn) (hn) (qn)) := Fr.at0 (fr_l1).1 (Ni.c ⟨ne4, ne5⟩ (Ni.c ⟨ne0, ne1⟩ (Ni.c ⟨ne2, ne3⟩ (Ni.c ⟨ne6, ne7⟩ (Ni.n _))))) hm
                                  refine g_iload 0 dX10_byY_398 rfl ?_
                                  refine g_iload 4 dX10_byY_400 rfl ?_
                                  refine g_icmp_ge (tgt := 512) dX10_byY_402 rfl (by first | (unfold gW; omega) | (unfold gW; split <;> omega)) (by first | (unfold gW; omega) | (unfold gW; split <;> omega)) (fun c1419 => ?_) (fun c1419 => ?_)
                                  · skip
                                    refine g_aload_n 7 dX10_byY_512 rfl ?_
                                    refine g_iload 3 dX10_byY_513 rfl ?_
                                    refine g_iload 3 dX10_byY_515 rfl ?_
                                    refine g_bipush dX10_byY_517 (by decide) ?_
                                    refine g_callV (nc2 := 0) (ns2 := 0) (ci := 10) (As := [.int (gI (c)), .int (gI (c)), .int (gI (10))]) (st := []) rfl dX10_byY_519 okX10_fromSquare lX10_202 itX10_fromSquare seX10_fromSquare rfl cg_l1_0 (by decide) (by decide) rfl (Nat.le_of_ble_eq_true rfl) (sM_fromSquare N _ B p hp hp2 hf le fc pn rn hn qn (c) (c) (10) (by omega) (fun x y => 0 ≤ x ∧ x < dY hp F + dY hp G ∧ 0 ≤ y ∧ y < dY hp F + dY hp G) (C3a) (by omega) cg_l1_0 (fr_l1).2.1 cr_l1_2) (by omega) (by omega) (fun v1420 hc1420 q1420 => ?_)
                                    obtain ⟨rfl, mfc1421, rn1421_0⟩ := q1420
                                    have fk1422_0 : hc1420.2 (B) = some (mO B ((p : Int)) (hf) (le) (fc) (pn) (rn) (hn) (qn)) := Fr.at0 (mfc1421).1 (Ni.c ⟨ne4, ne5⟩ (Ni.n _)) cg_l1_0
                                    have fk1422_1 : hc1420.2 (B + 4) = some (aI 1500 (gm)) := Fr.at0 (mfc1421).1 (Ni.c ⟨ne26, ne27⟩ (Ni.n _)) cf_l1_0
                                    have fk1422_2 : hc1420.2 (B + 7) = some (aJ 6400 (g7)) := Fr.at0 (mfc1421).1 (Ni.c ⟨(ne31).s, (ne33).s⟩ (Ni.n _)) cf_l1_1
                                    have rk1422_0 : MP hp B hc1420 (T) := (cr_l1_0).fr (mfc1421).1 (Ni.c ⟨ne11, ne12⟩ (Ni.n _)) (Ni.c ⟨ne17, ne18⟩ (Ni.n _))
                                    have rk1422_1 : MWA B hc1420 := (cr_l1_1).fr (mfc1421).1 (Ni.c ⟨ne22, ne23⟩ (Ni.n _))
                                    have rk1422_2 : MSq hp B hc1420 (fun x y => 0 ≤ x ∧ x < dY hp F + dY hp G ∧ 0 ≤ y ∧ y < dY hp F + dY hp G) (C3a) := (cr_l1_2).fr (mfc1421).1 (Ni.c ⟨(ne32).s, (ne34).s⟩ (Ni.n _))
                                    have fr1422 : MF B [B + 1, B + 3, B + 7] [0, 1, 2, 3, 4, 5, 6, 7, 8, 9, 10] h hc1420 := (fr_l1).tr ((mfc1421).mo sub_n (sbI_c (List.Mem.tail _ (List.Mem.tail _ (List.Mem.tail _ (List.Mem.tail _ (List.Mem.tail _ (List.Mem.tail _ (List.Mem.tail _ (List.Mem.tail _ (List.Mem.tail _ (List.Mem.tail _ (List.Mem.head _))))))))))) sbI_n))
                                    refine Go.nf (h' := hc1420) (st' := []) rfl rfl (Nat.le_refl _) (Nat.le_refl _) ?_
                                    have hp11 : (C3a) (c) (c) = pvt (pR hp) (swr A c.toNat w.toNat) (c + 1).toNat := by
                                                                      rw [hEa c c (by omega) (by omega) (by omega) (by omega), if_neg (by omega), show (c + 1).toNat = c.toNat + 1 by omega, pvt_s]
                                                                      rfl
                                    refine g_iinc 3 (ls2 := [(7, .int (gI (c + 1))), (9, .int (gI (i2))), (6, .int (gI (0))), (8, .int (gI (w))), (5, .int (gI ((dY hp F) + (dY hp G)))), (4, .int (gI (dY hp G))), (3, .int (gI (dY hp F))), (0, .ref (B)), (1, .int (gI (a))), (2, .int (gI (b)))]) dX10_byY_522 rfl (by decide) rfl ?_
                                    refine g_goto (tgt := 230) dX10_byY_525 rfl ?_
                                    refine Go.sub [0, 2, 4, 5, 6, 7, 8, 9] rfl ?_
                                    exact ih_lc _ (by omega) (c + 1) (0) (swr A c.toNat w.toNat) (C3a) hc1420 rfl fr1422 fk1422_1 fk1422_2 rk1422_0 rk1422_1 rk1422_2 (by rw [← hp11]; exact rn1421_0) (by omega) (by omega) hI3 hR2 (fun x y x0 x1 y0 y1 => by rw [hEa x y (by omega) x1 (by omega) y1, if_pos (by omega)])
                                  · skip
                                    refine g_iload 3 dX10_byY_405 rfl ?_
                                    refine g_iconst dX10_byY_407 ?_
                                    refine g_iadd dX10_byY_408 ?_
                                    refine g_istore (ls2 := [(10, .int (gI ((c) + (1)))), (9, .int (gI (i2))), (6, .int (gI (0))), (8, .int (gI (w))), (7, .int (gI (c))), (5, .int (gI ((dY hp F) + (dY hp G)))), (4, .int (gI (dY hp G))), (3, .int (gI (dY hp F))), (0, .ref (B)), (1, .int (gI (a))), (2, .int (gI (b)))]) dX10_byY_409 (by decide) rfl ?_
                                    have l2 : ∀ (kk : Nat) (k2 : Int) (C3 : Int → Int → Px p) (hl2 : GH), kk = (12 - k2).toNat → MF B [B + 1, B + 3, B + 7] [0, 1, 2, 3, 4, 5, 6, 7, 8, 9, 10] h hl2 → hl2.2 (B + 4) = some (aI 1500 (gm)) → hl2.2 (B + 7) = some (aJ 6400 (g7)) → MP hp B hl2 (T) → MWA B hl2 → MSq hp B hl2 (fun x y => 0 ≤ x ∧ x < dY hp F + dY hp G ∧ 0 ≤ y ∧ y < dY hp F + dY hp G) (C3) → MG hp B hl2 (10) (pvt (pR hp) A c.toNat) → (c + 1 ≤ k2 ∧ k2 ≤ dY hp F + dY hp G) → (∀ x y, c ≤ x → x < dY hp F + dY hp G → c ≤ y → y < dY hp F + dY hp G → C3 x y = if c < x ∧ c < y ∧ (x < i2 ∨ (x = i2 ∧ y < k2)) then mqI hp (swr A c.toNat w.toNat) (c + 1) x y else mqI hp (swr A c.toNat w.toNat) c x y) → Go N mX10_byY (fun v h1 => Fr [B + 1, B + 3, B + 5, B + 7] h h1 ∧ MS B h1 ∧ ∃ w T2, Ou T (pa12 hp F G) w T2 ∧ v = some (.int (gI w)) ∧ MP hp B h1 T2) 0 0 hl2 411 [(10, .int (gI (k2))), (9, .int (gI (i2))), (6, .int (gI (0))), (8, .int (gI (w))), (7, .int (gI (c))), (5, .int (gI ((dY hp F) + (dY hp G)))), (4, .int (gI (dY hp G))), (3, .int (gI (dY hp F))), (0, .ref (B)), (1, .int (gI (a))), (2, .int (gI (b)))] [] := by
                                      refine Go.ind (fun kk ih_l2 => ?_)
                                      intro k2 C3 hl2 hkk_l2 fr_l2 cf_l2_0 cf_l2_1 cr_l2_0 cr_l2_1 cr_l2_2 cr_l2_3 hk2 hE
                                      have cg_l2_0 : hl2.2 (B) = some (mO B ((p : Int)) (hf) (le) (fc) (pn) (rn) (hn) (qn)) := Fr.at0 (fr_l2).1 (Ni.c ⟨ne4, ne5⟩ (Ni.c ⟨ne0, ne1⟩ (Ni.c ⟨ne2, ne3⟩ (Ni.c ⟨ne6, ne7⟩ (Ni.n _))))) hm
                                      refine g_iload 0 dX10_byY_411 rfl ?_
                                      refine g_iload 5 dX10_byY_413 rfl ?_
                                      refine g_icmp_ge (tgt := 506) dX10_byY_415 rfl (by first | (unfold gW; omega) | (unfold gW; split <;> omega)) (by first | (unfold gW; omega) | (unfold gW; split <;> omega)) (fun c1523 => ?_) (fun c1523 => ?_)
                                      · skip
                                        refine g_iinc 1 (ls2 := [(9, .int (gI (i2 + 1))), (10, .int (gI (k2))), (6, .int (gI (0))), (8, .int (gI (w))), (7, .int (gI (c))), (5, .int (gI ((dY hp F) + (dY hp G)))), (4, .int (gI (dY hp G))), (3, .int (gI (dY hp F))), (0, .ref (B)), (1, .int (gI (a))), (2, .int (gI (b)))]) dX10_byY_506 rfl (by decide) rfl ?_
                                        refine g_goto (tgt := 398) dX10_byY_509 rfl ?_
                                        refine Go.sub [0, 2, 3, 4, 5, 6, 7, 8, 9, 10] rfl ?_
                                        exact ih_l1 _ (by omega) (i2 + 1) (C3) hl2 rfl fr_l2 cf_l2_0 cf_l2_1 cr_l2_0 cr_l2_1 cr_l2_2 cr_l2_3 (by omega) (fun x y x0 x1 y0 y1 => by
                                                                      rw [hE x y x0 x1 y0 y1]
                                                                      by_cases q : c < x ∧ c < y ∧ (x < i2 ∨ (x = i2 ∧ y < k2))
                                                                      · rw [if_pos q, if_pos (by omega)]
                                                                      · rw [if_neg q, if_neg (by omega)])
                                      · skip
                                        refine g_aload_n 8 dX10_byY_418 rfl ?_
                                        refine g_iload 4 dX10_byY_419 rfl ?_
                                        refine g_iload 4 dX10_byY_421 rfl ?_
                                        refine g_iconst dX10_byY_423 ?_
                                        refine g_callV (nc2 := 0) (ns2 := 0) (ci := 10) (As := [.int (gI (c)), .int (gI (c)), .int (gI (1))]) (st := []) rfl dX10_byY_424 okX10_fromSquare lX10_202 itX10_fromSquare seX10_fromSquare rfl cg_l2_0 (by decide) (by decide) rfl (Nat.le_of_ble_eq_true rfl) (sM_fromSquare N _ B p hp hp2 hf le fc pn rn hn qn (c) (c) (1) (by omega) (fun x y => 0 ≤ x ∧ x < dY hp F + dY hp G ∧ 0 ≤ y ∧ y < dY hp F + dY hp G) (C3) (by omega) cg_l2_0 (fr_l2).2.1 cr_l2_2) (by omega) (by omega) (fun v1524 hc1524 q1524 => ?_)
                                        obtain ⟨rfl, mfc1525, rn1525_0⟩ := q1524
                                        have fk1526_0 : hc1524.2 (B) = some (mO B ((p : Int)) (hf) (le) (fc) (pn) (rn) (hn) (qn)) := Fr.at0 (mfc1525).1 (Ni.c ⟨ne4, ne5⟩ (Ni.n _)) cg_l2_0
                                        have fk1526_1 : hc1524.2 (B + 4) = some (aI 1500 (gm)) := Fr.at0 (mfc1525).1 (Ni.c ⟨ne26, ne27⟩ (Ni.n _)) cf_l2_0
                                        have fk1526_2 : hc1524.2 (B + 7) = some (aJ 6400 (g7)) := Fr.at0 (mfc1525).1 (Ni.c ⟨(ne31).s, (ne33).s⟩ (Ni.n _)) cf_l2_1
                                        have rk1526_0 : MP hp B hc1524 (T) := (cr_l2_0).fr (mfc1525).1 (Ni.c ⟨ne11, ne12⟩ (Ni.n _)) (Ni.c ⟨ne17, ne18⟩ (Ni.n _))
                                        have rk1526_1 : MWA B hc1524 := (cr_l2_1).fr (mfc1525).1 (Ni.c ⟨ne22, ne23⟩ (Ni.n _))
                                        have rk1526_2 : MSq hp B hc1524 (fun x y => 0 ≤ x ∧ x < dY hp F + dY hp G ∧ 0 ≤ y ∧ y < dY hp F + dY hp G) (C3) := (cr_l2_2).fr (mfc1525).1 (Ni.c ⟨(ne32).s, (ne34).s⟩ (Ni.n _))
                                        have rk1526_3 : MG hp B hc1524 (10) (pvt (pR hp) A c.toNat) := (cr_l2_3).fr hp2 mfc1525 (Nr.c (by omega) Nr.n)
                                        have fr1526 : MF B [B + 1, B + 3, B + 7] [0, 1, 2, 3, 4, 5, 6, 7, 8, 9, 10] h hc1524 := (fr_l2).tr ((mfc1525).mo sub_n (sbI_c (List.Mem.tail _ (List.Mem.head _)) sbI_n))
                                        refine Go.nf (h' := hc1524) (st' := []) rfl rfl (Nat.le_refl _) (Nat.le_refl _) ?_
                                        refine g_aload_n 8 dX10_byY_427 rfl ?_
                                        refine g_iload 1 dX10_byY_428 rfl ?_
                                        refine g_iload 0 dX10_byY_430 rfl ?_
                                        refine g_iconst dX10_byY_432 ?_
                                        refine g_callV (nc2 := 0) (ns2 := 0) (ci := 10) (As := [.int (gI (i2)), .int (gI (k2)), .int (gI (2))]) (st := []) rfl dX10_byY_433 okX10_fromSquare lX10_202 itX10_fromSquare seX10_fromSquare rfl fk1526_0 (by decide) (by decide) rfl (Nat.le_of_ble_eq_true rfl) (sM_fromSquare N _ B p hp hp2 hf le fc pn rn hn qn (i2) (k2) (2) (by omega) (fun x y => 0 ≤ x ∧ x < dY hp F + dY hp G ∧ 0 ≤ y ∧ y < dY hp F + dY hp G) (C3) (by omega) fk1526_0 (fr1526).2.1 rk1526_2) (by omega) (by omega) (fun v1527 hc1527 q1527 => ?_)
                                        obtain ⟨rfl, mfc1528, rn1528_0⟩ := q1527
                                        have fk1529_0 : hc1527.2 (B) = some (mO B ((p : Int)) (hf) (le) (fc) (pn) (rn) (hn) (qn)) := Fr.at0 (mfc1528).1 (Ni.c ⟨ne4, ne5⟩ (Ni.n _)) fk1526_0
                                        have fk1529_1 : hc1527.2 (B + 4) = some (aI 1500 (gm)) := Fr.at0 (mfc1528).1 (Ni.c ⟨ne26, ne27⟩ (Ni.n _)) fk1526_1
                                        have fk1529_2 : hc1527.2 (B + 7) = some (aJ 6400 (g7)) := Fr.at0 (mfc1528).1 (Ni.c ⟨(ne31).s, (ne33).s⟩ (Ni.n _)) fk1526_2
                                        have rk1529_0 : MP hp B hc1527 (T) := (rk1526_0).fr (mfc1528).1 (Ni.c ⟨ne11, ne12⟩ (Ni.n _)) (Ni.c ⟨ne17, ne18⟩ (Ni.n _))
                                        have rk1529_1 : MWA B hc1527 := (rk1526_1).fr (mfc1528).1 (Ni.c ⟨ne22, ne23⟩ (Ni.n _))
                                        have rk1529_2 : MSq hp B hc1527 (fun x y => 0 ≤ x ∧ x < dY hp F + dY hp G ∧ 0 ≤ y ∧ y < dY hp F + dY hp G) (C3) := (rk1526_2).fr (mfc1528).1 (Ni.c ⟨(ne32).s, (ne34).s⟩ (Ni.n _))
                                        have rk1529_3 : MG hp B hc1527 (10) (pvt (pR hp) A c.toNat) := (rk1526_3).fr hp2 mfc1528 (Nr.c (by omega) Nr.n)
                                        have rk1529_4 : MG hp B hc1527 (1) ((C3) (c) (c)) := (rn1525_0).fr hp2 mfc1528 (Nr.c (by omega) Nr.n)
                                        have fr1529 : MF B [B + 1, B + 3, B + 7] [0, 1, 2, 3, 4, 5, 6, 7, 8, 9, 10] h hc1527 := (fr1526).tr ((mfc1528).mo sub_n (sbI_c (List.Mem.tail _ (List.Mem.tail _ (List.Mem.head _))) sbI_n))
                                        refine Go.nf (h' := hc1527) (st' := []) rfl rfl (Nat.le_refl _) (Nat.le_refl _) ?_
                                        refine g_aload_n 8 dX10_byY_436 rfl ?_
                                        refine g_iload 1 dX10_byY_437 rfl ?_
                                        refine g_iload 4 dX10_byY_439 rfl ?_
                                        refine g_iconst dX10_byY_441 ?_
                                        refine g_callV (nc2 := 0) (ns2 := 0) (ci := 10) (As := [.int (gI (i2)), .int (gI (c)), .int (gI (3))]) (st := []) rfl dX10_byY_442 okX10_fromSquare lX10_202 itX10_fromSquare seX10_fromSquare rfl fk1529_0 (by decide) (by decide) rfl (Nat.le_of_ble_eq_true rfl) (sM_fromSquare N _ B p hp hp2 hf le fc pn rn hn qn (i2) (c) (3) (by omega) (fun x y => 0 ≤ x ∧ x < dY hp F + dY hp G ∧ 0 ≤ y ∧ y < dY hp F + dY hp G) (C3) (by omega) fk1529_0 (fr1529).2.1 rk1529_2) (by omega) (by omega) (fun v1530 hc1530 q1530 => ?_)
                                        obtain ⟨rfl, mfc1531, rn1531_0⟩ := q1530
                                        have fk1532_0 : hc1530.2 (B) = some (mO B ((p : Int)) (hf) (le) (fc) (pn) (rn) (hn) (qn)) := Fr.at0 (mfc1531).1 (Ni.c ⟨ne4, ne5⟩ (Ni.n _)) fk1529_0
                                        have fk1532_1 : hc1530.2 (B + 4) = some (aI 1500 (gm)) := Fr.at0 (mfc1531).1 (Ni.c ⟨ne26, ne27⟩ (Ni.n _)) fk1529_1
                                        have fk1532_2 : hc1530.2 (B + 7) = some (aJ 6400 (g7)) := Fr.at0 (mfc1531).1 (Ni.c ⟨(ne31).s, (ne33).s⟩ (Ni.n _)) fk1529_2
                                        have rk1532_0 : MP hp B hc1530 (T) := (rk1529_0).fr (mfc1531).1 (Ni.c ⟨ne11, ne12⟩ (Ni.n _)) (Ni.c ⟨ne17, ne18⟩ (Ni.n _))
                                        have rk1532_1 : MWA B hc1530 := (rk1529_1).fr (mfc1531).1 (Ni.c ⟨ne22, ne23⟩ (Ni.n _))
                                        have rk1532_2 : MSq hp B hc1530 (fun x y => 0 ≤ x ∧ x < dY hp F + dY hp G ∧ 0 ≤ y ∧ y < dY hp F + dY hp G) (C3) := (rk1529_2).fr (mfc1531).1 (Ni.c ⟨(ne32).s, (ne34).s⟩ (Ni.n _))
                                        have rk1532_3 : MG hp B hc1530 (10) (pvt (pR hp) A c.toNat) := (rk1529_3).fr hp2 mfc1531 (Nr.c (by omega) Nr.n)
                                        have rk1532_4 : MG hp B hc1530 (1) ((C3) (c) (c)) := (rk1529_4).fr hp2 mfc1531 (Nr.c (by omega) Nr.n)
                                        have rk1532_5 : MG hp B hc1530 (2) ((C3) (i2) (k2)) := (rn1528_0).fr hp2 mfc1531 (Nr.c (by omega) Nr.n)
                                        have fr1532 : MF B [B + 1, B + 3, B + 7] [0, 1, 2, 3, 4, 5, 6, 7, 8, 9, 10] h hc1530 := (fr1529).tr ((mfc1531).mo sub_n (sbI_c (List.Mem.tail _ (List.Mem.tail _ (List.Mem.tail _ (List.Mem.head _)))) sbI_n))
                                        refine Go.nf (h' := hc1530) (st' := []) rfl rfl (Nat.le_refl _) (Nat.le_refl _) ?_
                                        refine g_aload_n 8 dX10_byY_445 rfl ?_
                                        refine g_iload 4 dX10_byY_446 rfl ?_
                                        refine g_iload 0 dX10_byY_448 rfl ?_
                                        refine g_iconst dX10_byY_450 ?_
                                        refine g_callV (nc2 := 0) (ns2 := 0) (ci := 10) (As := [.int (gI (c)), .int (gI (k2)), .int (gI (4))]) (st := []) rfl dX10_byY_451 okX10_fromSquare lX10_202 itX10_fromSquare seX10_fromSquare rfl fk1532_0 (by decide) (by decide) rfl (Nat.le_of_ble_eq_true rfl) (sM_fromSquare N _ B p hp hp2 hf le fc pn rn hn qn (c) (k2) (4) (by omega) (fun x y => 0 ≤ x ∧ x < dY hp F + dY hp G ∧ 0 ≤ y ∧ y < dY hp F + dY hp G) (C3) (by omega) fk1532_0 (fr1532).2.1 rk1532_2) (by omega) (by omega) (fun v1533 hc1533 q1533 => ?_)
                                        obtain ⟨rfl, mfc1534, rn1534_0⟩ := q1533
                                        have fk1535_0 : hc1533.2 (B) = some (mO B ((p : Int)) (hf) (le) (fc) (pn) (rn) (hn) (qn)) := Fr.at0 (mfc1534).1 (Ni.c ⟨ne4, ne5⟩ (Ni.n _)) fk1532_0
                                        have fk1535_1 : hc1533.2 (B + 4) = some (aI 1500 (gm)) := Fr.at0 (mfc1534).1 (Ni.c ⟨ne26, ne27⟩ (Ni.n _)) fk1532_1
                                        have fk1535_2 : hc1533.2 (B + 7) = some (aJ 6400 (g7)) := Fr.at0 (mfc1534).1 (Ni.c ⟨(ne31).s, (ne33).s⟩ (Ni.n _)) fk1532_2
                                        have rk1535_0 : MP hp B hc1533 (T) := (rk1532_0).fr (mfc1534).1 (Ni.c ⟨ne11, ne12⟩ (Ni.n _)) (Ni.c ⟨ne17, ne18⟩ (Ni.n _))
                                        have rk1535_1 : MWA B hc1533 := (rk1532_1).fr (mfc1534).1 (Ni.c ⟨ne22, ne23⟩ (Ni.n _))
                                        have rk1535_2 : MSq hp B hc1533 (fun x y => 0 ≤ x ∧ x < dY hp F + dY hp G ∧ 0 ≤ y ∧ y < dY hp F + dY hp G) (C3) := (rk1532_2).fr (mfc1534).1 (Ni.c ⟨(ne32).s, (ne34).s⟩ (Ni.n _))
                                        have rk1535_3 : MG hp B hc1533 (10) (pvt (pR hp) A c.toNat) := (rk1532_3).fr hp2 mfc1534 (Nr.c (by omega) Nr.n)
                                        have rk1535_4 : MG hp B hc1533 (1) ((C3) (c) (c)) := (rk1532_4).fr hp2 mfc1534 (Nr.c (by omega) Nr.n)
                                        have rk1535_5 : MG hp B hc1533 (2) ((C3) (i2) (k2)) := (rk1532_5).fr hp2 mfc1534 (Nr.c (by omega) Nr.n)
                                        have rk1535_6 : MG hp B hc1533 (3) ((C3) (i2) (c)) := (rn1531_0).fr hp2 mfc1534 (Nr.c (by omega) Nr.n)
                                        have fr1535 : MF B [B + 1, B + 3, B + 7] [0, 1, 2, 3, 4, 5, 6, 7, 8, 9, 10] h hc1533 := (fr1532).tr ((mfc1534).mo sub_n (sbI_c (List.Mem.tail _ (List.Mem.tail _ (List.Mem.tail _ (List.Mem.tail _ (List.Mem.head _))))) sbI_n))
                                        refine Go.nf (h' := hc1533) (st' := []) rfl rfl (Nat.le_refl _) (Nat.le_refl _) ?_
                                        have hd9 : ∀ x y : Int, 0 ≤ x → x < dY hp F + dY hp G → 0 ≤ y → y < dY hp F + dY hp G → dgi hp (C3 x y) < 80 := fun x y x0 x1 y0 y1 => ((rk1535_2).at (i := x) (k := y) ⟨x0, x1, y0, y1⟩).2.2
                                        have hd1536 := hd9 c c (by omega) (by omega) (by omega) (by omega)
                                        have hd1537 := hd9 i2 k2 (by omega) (by omega) (by omega) (by omega)
                                        have hd1538 := hd9 i2 c (by omega) (by omega) (by omega) (by omega)
                                        have hd1539 := hd9 c k2 (by omega) (by omega) (by omega) (by omega)
                                        refine g_aload_n 8 dX10_byY_454 rfl ?_
                                        refine g_iconst dX10_byY_455 ?_
                                        refine g_iconst dX10_byY_456 ?_
                                        refine g_iconst dX10_byY_457 ?_
                                        refine g_callV (nc2 := 0) (ns2 := 0) (ci := 10) (As := [.int (gI (1)), .int (gI (2)), .int (gI (5))]) (st := []) rfl dX10_byY_458 okX10_product lX10_189 itX10_product seX10_product rfl fk1535_0 (by decide) (by decide) rfl (Nat.le_of_ble_eq_true rfl) (sM_product N _ B p hp hp2 hf le fc pn rn hn qn (1) (2) (5) (by omega) (by omega) (by omega) ((C3) (c) (c)) ((C3) (i2) (k2)) fk1535_0 (fr1535).2.1 rk1535_4 rk1535_5 (by omega)) (by omega) (by omega) (fun v1540 hc1540 q1540 => ?_)
                                        obtain ⟨rfl, mfc1541, rn1541_0⟩ := q1540
                                        have fk1542_0 : hc1540.2 (B) = some (mO B ((p : Int)) (hf) (le) (fc) (pn) (rn) (hn) (qn)) := Fr.at0 (mfc1541).1 (Ni.c ⟨ne4, ne5⟩ (Ni.n _)) fk1535_0
                                        have fk1542_1 : hc1540.2 (B + 4) = some (aI 1500 (gm)) := Fr.at0 (mfc1541).1 (Ni.c ⟨ne26, ne27⟩ (Ni.n _)) fk1535_1
                                        have fk1542_2 : hc1540.2 (B + 7) = some (aJ 6400 (g7)) := Fr.at0 (mfc1541).1 (Ni.c ⟨(ne31).s, (ne33).s⟩ (Ni.n _)) fk1535_2
                                        have rk1542_0 : MP hp B hc1540 (T) := (rk1535_0).fr (mfc1541).1 (Ni.c ⟨ne11, ne12⟩ (Ni.n _)) (Ni.c ⟨ne17, ne18⟩ (Ni.n _))
                                        have rk1542_1 : MWA B hc1540 := (rk1535_1).fr (mfc1541).1 (Ni.c ⟨ne22, ne23⟩ (Ni.n _))
                                        have rk1542_2 : MSq hp B hc1540 (fun x y => 0 ≤ x ∧ x < dY hp F + dY hp G ∧ 0 ≤ y ∧ y < dY hp F + dY hp G) (C3) := (rk1535_2).fr (mfc1541).1 (Ni.c ⟨(ne32).s, (ne34).s⟩ (Ni.n _))
                                        have rk1542_3 : MG hp B hc1540 (10) (pvt (pR hp) A c.toNat) := (rk1535_3).fr hp2 mfc1541 (Nr.c (by omega) Nr.n)
                                        have rk1542_4 : MG hp B hc1540 (1) ((C3) (c) (c)) := (rk1535_4).fr hp2 mfc1541 (Nr.c (by omega) Nr.n)
                                        have rk1542_5 : MG hp B hc1540 (2) ((C3) (i2) (k2)) := (rk1535_5).fr hp2 mfc1541 (Nr.c (by omega) Nr.n)
                                        have rk1542_6 : MG hp B hc1540 (3) ((C3) (i2) (c)) := (rk1535_6).fr hp2 mfc1541 (Nr.c (by omega) Nr.n)
                                        have rk1542_7 : MG hp B hc1540 (4) ((C3) (c) (k2)) := (rn1534_0).fr hp2 mfc1541 (Nr.c (by omega) Nr.n)
                                        have fr1542 : MF B [B + 1, B + 3, B + 7] [0, 1, 2, 3, 4, 5, 6, 7, 8, 9, 10] h hc1540 := (fr1535).tr ((mfc1541).mo sub_n (sbI_c (List.Mem.tail _ (List.Mem.tail _ (List.Mem.tail _ (List.Mem.tail _ (List.Mem.tail _ (List.Mem.head _)))))) sbI_n))
                                        refine Go.nf (h' := hc1540) (st' := []) rfl rfl (Nat.le_refl _) (Nat.le_refl _) ?_
                                        refine g_aload_n 8 dX10_byY_461 rfl ?_
                                        refine g_iconst dX10_byY_462 ?_
                                        refine g_iconst dX10_byY_463 ?_
                                        refine g_bipush dX10_byY_464 (by decide) ?_
                                        refine g_callV (nc2 := 0) (ns2 := 0) (ci := 10) (As := [.int (gI (3)), .int (gI (4)), .int (gI (6))]) (st := []) rfl dX10_byY_466 okX10_product lX10_189 itX10_product seX10_product rfl fk1542_0 (by decide) (by decide) rfl (Nat.le_of_ble_eq_true rfl) (sM_product N _ B p hp hp2 hf le fc pn rn hn qn (3) (4) (6) (by omega) (by omega) (by omega) ((C3) (i2) (c)) ((C3) (c) (k2)) fk1542_0 (fr1542).2.1 rk1542_6 rk1542_7 (by omega)) (by omega) (by omega) (fun v1543 hc1543 q1543 => ?_)
                                        obtain ⟨rfl, mfc1544, rn1544_0⟩ := q1543
                                        have fk1545_0 : hc1543.2 (B) = some (mO B ((p : Int)) (hf) (le) (fc) (pn) (rn) (hn) (qn)) := Fr.at0 (mfc1544).1 (Ni.c ⟨ne4, ne5⟩ (Ni.n _)) fk1542_0
                                        have fk1545_1 : hc1543.2 (B + 4) = some (aI 1500 (gm)) := Fr.at0 (mfc1544).1 (Ni.c ⟨ne26, ne27⟩ (Ni.n _)) fk1542_1
                                        have fk1545_2 : hc1543.2 (B + 7) = some (aJ 6400 (g7)) := Fr.at0 (mfc1544).1 (Ni.c ⟨(ne31).s, (ne33).s⟩ (Ni.n _)) fk1542_2
                                        have rk1545_0 : MP hp B hc1543 (T) := (rk1542_0).fr (mfc1544).1 (Ni.c ⟨ne11, ne12⟩ (Ni.n _)) (Ni.c ⟨ne17, ne18⟩ (Ni.n _))
                                        have rk1545_1 : MWA B hc1543 := (rk1542_1).fr (mfc1544).1 (Ni.c ⟨ne22, ne23⟩ (Ni.n _))
                                        have rk1545_2 : MSq hp B hc1543 (fun x y => 0 ≤ x ∧ x < dY hp F + dY hp G ∧ 0 ≤ y ∧ y < dY hp F + dY hp G) (C3) := (rk1542_2).fr (mfc1544).1 (Ni.c ⟨(ne32).s, (ne34).s⟩ (Ni.n _))
                                        have rk1545_3 : MG hp B hc1543 (10) (pvt (pR hp) A c.toNat) := (rk1542_3).fr hp2 mfc1544 (Nr.c (by omega) Nr.n)
                                        have rk1545_4 : MG hp B hc1543 (1) ((C3) (c) (c)) := (rk1542_4).fr hp2 mfc1544 (Nr.c (by omega) Nr.n)
                                        have rk1545_5 : MG hp B hc1543 (2) ((C3) (i2) (k2)) := (rk1542_5).fr hp2 mfc1544 (Nr.c (by omega) Nr.n)
                                        have rk1545_6 : MG hp B hc1543 (3) ((C3) (i2) (c)) := (rk1542_6).fr hp2 mfc1544 (Nr.c (by omega) Nr.n)
                                        have rk1545_7 : MG hp B hc1543 (4) ((C3) (c) (k2)) := (rk1542_7).fr hp2 mfc1544 (Nr.c (by omega) Nr.n)
                                        have rk1545_8 : MG hp B hc1543 (5) (pml hp ((C3) (c) (c)) ((C3) (i2) (k2))) := (rn1541_0).fr hp2 mfc1544 (Nr.c (by omega) Nr.n)
                                        have fr1545 : MF B [B + 1, B + 3, B + 7] [0, 1, 2, 3, 4, 5, 6, 7, 8, 9, 10] h hc1543 := (fr1542).tr ((mfc1544).mo sub_n (sbI_c (List.Mem.tail _ (List.Mem.tail _ (List.Mem.tail _ (List.Mem.tail _ (List.Mem.tail _ (List.Mem.tail _ (List.Mem.head _))))))) sbI_n))
                                        refine Go.nf (h' := hc1543) (st' := []) rfl rfl (Nat.le_refl _) (Nat.le_refl _) ?_
                                        refine g_aload_n 8 dX10_byY_469 rfl ?_
                                        refine g_iconst dX10_byY_470 ?_
                                        refine g_bipush dX10_byY_471 (by decide) ?_
                                        refine g_bipush dX10_byY_473 (by decide) ?_
                                        refine g_callV (nc2 := 0) (ns2 := 0) (ci := 10) (As := [.int (gI (5)), .int (gI (6)), .int (gI (7))]) (st := []) rfl dX10_byY_475 okX10_minus lX10_192 itX10_minus seX10_minus rfl fk1545_0 (by decide) (by decide) rfl (Nat.le_of_ble_eq_true rfl) (sM_minus N _ B p hp hp2 hf le fc pn rn hn qn (5) (6) (7) (by omega) (pml hp ((C3) (c) (c)) ((C3) (i2) (k2))) (pml hp ((C3) (i2) (c)) ((C3) (c) (k2))) fk1545_0 (fr1545).2.1 rk1545_8 rn1544_0) (by omega) (by omega) (fun v1546 hc1546 q1546 => ?_)
                                        obtain ⟨rfl, mfc1547, rn1547_0⟩ := q1546
                                        have fk1548_0 : hc1546.2 (B) = some (mO B ((p : Int)) (hf) (le) (fc) (pn) (rn) (hn) (qn)) := Fr.at0 (mfc1547).1 (Ni.c ⟨ne4, ne5⟩ (Ni.n _)) fk1545_0
                                        have fk1548_1 : hc1546.2 (B + 4) = some (aI 1500 (gm)) := Fr.at0 (mfc1547).1 (Ni.c ⟨ne26, ne27⟩ (Ni.n _)) fk1545_1
                                        have fk1548_2 : hc1546.2 (B + 7) = some (aJ 6400 (g7)) := Fr.at0 (mfc1547).1 (Ni.c ⟨(ne31).s, (ne33).s⟩ (Ni.n _)) fk1545_2
                                        have rk1548_0 : MP hp B hc1546 (T) := (rk1545_0).fr (mfc1547).1 (Ni.c ⟨ne11, ne12⟩ (Ni.n _)) (Ni.c ⟨ne17, ne18⟩ (Ni.n _))
                                        have rk1548_1 : MWA B hc1546 := (rk1545_1).fr (mfc1547).1 (Ni.c ⟨ne22, ne23⟩ (Ni.n _))
                                        have rk1548_2 : MSq hp B hc1546 (fun x y => 0 ≤ x ∧ x < dY hp F + dY hp G ∧ 0 ≤ y ∧ y < dY hp F + dY hp G) (C3) := (rk1545_2).fr (mfc1547).1 (Ni.c ⟨(ne32).s, (ne34).s⟩ (Ni.n _))
                                        have rk1548_3 : MG hp B hc1546 (10) (pvt (pR hp) A c.toNat) := (rk1545_3).fr hp2 mfc1547 (Nr.c (by omega) Nr.n)
                                        have rk1548_4 : MG hp B hc1546 (1) ((C3) (c) (c)) := (rk1545_4).fr hp2 mfc1547 (Nr.c (by omega) Nr.n)
                                        have rk1548_5 : MG hp B hc1546 (2) ((C3) (i2) (k2)) := (rk1545_5).fr hp2 mfc1547 (Nr.c (by omega) Nr.n)
                                        have rk1548_6 : MG hp B hc1546 (3) ((C3) (i2) (c)) := (rk1545_6).fr hp2 mfc1547 (Nr.c (by omega) Nr.n)
                                        have rk1548_7 : MG hp B hc1546 (4) ((C3) (c) (k2)) := (rk1545_7).fr hp2 mfc1547 (Nr.c (by omega) Nr.n)
                                        have rk1548_8 : MG hp B hc1546 (5) (pml hp ((C3) (c) (c)) ((C3) (i2) (k2))) := (rk1545_8).fr hp2 mfc1547 (Nr.c (by omega) Nr.n)
                                        have rk1548_9 : MG hp B hc1546 (6) (pml hp ((C3) (i2) (c)) ((C3) (c) (k2))) := (rn1544_0).fr hp2 mfc1547 (Nr.c (by omega) Nr.n)
                                        have fr1548 : MF B [B + 1, B + 3, B + 7] [0, 1, 2, 3, 4, 5, 6, 7, 8, 9, 10] h hc1546 := (fr1545).tr ((mfc1547).mo sub_n (sbI_c (List.Mem.tail _ (List.Mem.tail _ (List.Mem.tail _ (List.Mem.tail _ (List.Mem.tail _ (List.Mem.tail _ (List.Mem.tail _ (List.Mem.head _)))))))) sbI_n))
                                        refine Go.nf (h' := hc1546) (st' := []) rfl rfl (Nat.le_refl _) (Nat.le_refl _) ?_
                                        refine g_aload_n 8 dX10_byY_478 rfl ?_
                                        refine g_bipush dX10_byY_479 (by decide) ?_
                                        refine g_bipush dX10_byY_481 (by decide) ?_
                                        refine g_bipush dX10_byY_483 (by decide) ?_
                                        refine g_bipush dX10_byY_485 (by decide) ?_
                                        refine g_callV (nc2 := 0) (ns2 := 0) (ci := 10) (As := [.int (gI (7)), .int (gI (10)), .int (gI (8)), .int (gI (9))]) (st := []) rfl dX10_byY_487 okX10_divide lX10_176 itX10_divide seX10_divide rfl fk1548_0 (by decide) (by decide) rfl (Nat.le_of_ble_eq_true rfl) (sM_divide N _ B p hp hp2 hf le fc pn rn hn qn (7) (10) (8) (9) (by omega) (by omega) (by omega) (by omega) (by omega) (by omega) (psb hp (pml hp ((C3) (c) (c)) ((C3) (i2) (k2))) (pml hp ((C3) (i2) (c)) ((C3) (c) (k2)))) (pvt (pR hp) A c.toNat) fk1548_0 (fr1548).2.1 rn1547_0 rk1548_3 (by omega)) (by omega) (by omega) (fun v1549 hc1549 q1549 => ?_)
                                        obtain ⟨rfl, mfc1550, rn1550_0, rn1550_1⟩ := q1549
                                        have fk1551_0 : hc1549.2 (B) = some (mO B ((p : Int)) (hf) (le) (fc) (pn) (rn) (hn) (qn)) := Fr.at0 (mfc1550).1 (Ni.c ⟨ne4, ne5⟩ (Ni.n _)) fk1548_0
                                        have fk1551_1 : hc1549.2 (B + 4) = some (aI 1500 (gm)) := Fr.at0 (mfc1550).1 (Ni.c ⟨ne26, ne27⟩ (Ni.n _)) fk1548_1
                                        have fk1551_2 : hc1549.2 (B + 7) = some (aJ 6400 (g7)) := Fr.at0 (mfc1550).1 (Ni.c ⟨(ne31).s, (ne33).s⟩ (Ni.n _)) fk1548_2
                                        have rk1551_0 : MP hp B hc1549 (T) := (rk1548_0).fr (mfc1550).1 (Ni.c ⟨ne11, ne12⟩ (Ni.n _)) (Ni.c ⟨ne17, ne18⟩ (Ni.n _))
                                        have rk1551_1 : MWA B hc1549 := (rk1548_1).fr (mfc1550).1 (Ni.c ⟨ne22, ne23⟩ (Ni.n _))
                                        have rk1551_2 : MSq hp B hc1549 (fun x y => 0 ≤ x ∧ x < dY hp F + dY hp G ∧ 0 ≤ y ∧ y < dY hp F + dY hp G) (C3) := (rk1548_2).fr (mfc1550).1 (Ni.c ⟨(ne32).s, (ne34).s⟩ (Ni.n _))
                                        have rk1551_3 : MG hp B hc1549 (10) (pvt (pR hp) A c.toNat) := (rk1548_3).fr hp2 mfc1550 (Nr.c (by omega) (Nr.c (by omega) Nr.n))
                                        have rk1551_4 : MG hp B hc1549 (1) ((C3) (c) (c)) := (rk1548_4).fr hp2 mfc1550 (Nr.c (by omega) (Nr.c (by omega) Nr.n))
                                        have rk1551_5 : MG hp B hc1549 (2) ((C3) (i2) (k2)) := (rk1548_5).fr hp2 mfc1550 (Nr.c (by omega) (Nr.c (by omega) Nr.n))
                                        have rk1551_6 : MG hp B hc1549 (3) ((C3) (i2) (c)) := (rk1548_6).fr hp2 mfc1550 (Nr.c (by omega) (Nr.c (by omega) Nr.n))
                                        have rk1551_7 : MG hp B hc1549 (4) ((C3) (c) (k2)) := (rk1548_7).fr hp2 mfc1550 (Nr.c (by omega) (Nr.c (by omega) Nr.n))
                                        have rk1551_8 : MG hp B hc1549 (5) (pml hp ((C3) (c) (c)) ((C3) (i2) (k2))) := (rk1548_8).fr hp2 mfc1550 (Nr.c (by omega) (Nr.c (by omega) Nr.n))
                                        have rk1551_9 : MG hp B hc1549 (6) (pml hp ((C3) (i2) (c)) ((C3) (c) (k2))) := (rk1548_9).fr hp2 mfc1550 (Nr.c (by omega) (Nr.c (by omega) Nr.n))
                                        have rk1551_10 : MG hp B hc1549 (7) (psb hp (pml hp ((C3) (c) (c)) ((C3) (i2) (k2))) (pml hp ((C3) (i2) (c)) ((C3) (c) (k2)))) := (rn1547_0).fr hp2 mfc1550 (Nr.c (by omega) (Nr.c (by omega) Nr.n))
                                        have fr1551 : MF B [B + 1, B + 3, B + 7] [0, 1, 2, 3, 4, 5, 6, 7, 8, 9, 10] h hc1549 := (fr1548).tr ((mfc1550).mo sub_n (sbI_c (List.Mem.tail _ (List.Mem.tail _ (List.Mem.tail _ (List.Mem.tail _ (List.Mem.tail _ (List.Mem.tail _ (List.Mem.tail _ (List.Mem.tail _ (List.Mem.tail _ (List.Mem.head _)))))))))) (sbI_c (List.Mem.tail _ (List.Mem.tail _ (List.Mem.tail _ (List.Mem.tail _ (List.Mem.tail _ (List.Mem.tail _ (List.Mem.tail _ (List.Mem.tail _ (List.Mem.head _))))))))) sbI_n)))
                                        refine Go.nf (h' := hc1549) (st' := []) rfl rfl (Nat.le_refl _) (Nat.le_refl _) ?_
                                        have hq8 : qt hp (psb hp (pml hp ((C3) (c) (c)) ((C3) (i2) (k2))) (pml hp ((C3) (i2) (c)) ((C3) (c) (k2)))) (pvt (pR hp) A c.toNat) = mqI hp (swr A c.toNat w.toNat) (c + 1) i2 k2 := by
                                                                      rw [hE c c (by omega) (by omega) (by omega) (by omega), if_neg (by omega), hE i2 k2 (by omega) (by omega) (by omega) (by omega), if_neg (by omega), hE i2 c (by omega) (by omega) (by omega) (by omega), if_neg (by omega), hE c k2 (by omega) (by omega) (by omega) (by omega), if_neg (by omega), ← hpv10]
                                                                      exact bar_qI hp hI2 hc.1 (by omega) (by omega) (by omega) (by omega) (by omega)
                                        have hdz : dgi hp (qt hp (psb hp (pml hp ((C3) (c) (c)) ((C3) (i2) (k2))) (pml hp ((C3) (i2) (c)) ((C3) (c) (k2)))) (pvt (pR hp) A c.toNat)) < 80 := by rw [hq8]; exact (hm3 i2 k2 (by omega) (by omega) (by omega) (by omega)).2
                                        refine g_aload_n 8 dX10_byY_490 rfl ?_
                                        refine g_bipush dX10_byY_491 (by decide) ?_
                                        refine g_iload 1 dX10_byY_493 rfl ?_
                                        refine g_iload 0 dX10_byY_495 rfl ?_
                                        refine g_callV (nc2 := 0) (ns2 := 0) (ci := 10) (As := [.int (gI (8)), .int (gI (i2)), .int (gI (k2))]) (st := []) rfl dX10_byY_497 okX10_toSquare lX10_199 itX10_toSquare seX10_toSquare rfl fk1551_0 (by decide) (by decide) rfl (Nat.le_of_ble_eq_true rfl) (sM_toSquare0 N _ B p hp hp2 hf le fc pn rn hn qn (8) (i2) (k2) (by omega) (fun x y => 0 ≤ x ∧ x < dY hp F + dY hp G ∧ 0 ≤ y ∧ y < dY hp F + dY hp G) (C3) (qt hp (psb hp (pml hp ((C3) (c) (c)) ((C3) (i2) (k2))) (pml hp ((C3) (i2) (c)) ((C3) (c) (k2)))) (pvt (pR hp) A c.toNat)) (g7) fk1551_0 (fr1551).2.1 fk1551_2 rk1551_2 rn1550_1 hdz) (by omega) (by omega) (fun v1552 hc1552 q1552 => ?_)
                                        obtain ⟨rfl, mfc1553, f7_1553, mq1553⟩ := q1552
                                        have fk1554_0 : hc1552.2 (B) = some (mO B ((p : Int)) (hf) (le) (fc) (pn) (rn) (hn) (qn)) := Fr.at0 (mfc1553).1 (Ni.c ⟨ne4, ne5⟩ (Ni.c ⟨ne6, ne7⟩ (Ni.n _))) fk1551_0
                                        have fk1554_1 : hc1552.2 (B + 4) = some (aI 1500 (gm)) := Fr.at0 (mfc1553).1 (Ni.c ⟨ne26, ne27⟩ (Ni.c ⟨ne28, ne29⟩ (Ni.n _))) fk1551_1
                                        have rk1554_0 : MP hp B hc1552 (T) := (rk1551_0).fr (mfc1553).1 (Ni.c ⟨ne11, ne12⟩ (Ni.c ⟨ne13, ne14⟩ (Ni.n _))) (Ni.c ⟨ne17, ne18⟩ (Ni.c ⟨ne19, ne20⟩ (Ni.n _)))
                                        have rk1554_1 : MWA B hc1552 := (rk1551_1).fr (mfc1553).1 (Ni.c ⟨ne22, ne23⟩ (Ni.c ⟨ne24, ne25⟩ (Ni.n _)))
                                        have rk1554_3 : MG hp B hc1552 (10) (pvt (pR hp) A c.toNat) := (rk1551_3).fr hp2 mfc1553 Nr.n
                                        have rk1554_4 : MG hp B hc1552 (1) ((C3) (c) (c)) := (rk1551_4).fr hp2 mfc1553 Nr.n
                                        have rk1554_5 : MG hp B hc1552 (2) ((C3) (i2) (k2)) := (rk1551_5).fr hp2 mfc1553 Nr.n
                                        have rk1554_6 : MG hp B hc1552 (3) ((C3) (i2) (c)) := (rk1551_6).fr hp2 mfc1553 Nr.n
                                        have rk1554_7 : MG hp B hc1552 (4) ((C3) (c) (k2)) := (rk1551_7).fr hp2 mfc1553 Nr.n
                                        have rk1554_8 : MG hp B hc1552 (5) (pml hp ((C3) (c) (c)) ((C3) (i2) (k2))) := (rk1551_8).fr hp2 mfc1553 Nr.n
                                        have rk1554_9 : MG hp B hc1552 (6) (pml hp ((C3) (i2) (c)) ((C3) (c) (k2))) := (rk1551_9).fr hp2 mfc1553 Nr.n
                                        have rk1554_10 : MG hp B hc1552 (7) (psb hp (pml hp ((C3) (c) (c)) ((C3) (i2) (k2))) (pml hp ((C3) (i2) (c)) ((C3) (c) (k2)))) := (rk1551_10).fr hp2 mfc1553 Nr.n
                                        have rk1554_11 : MG hp B hc1552 (9) (rm hp (psb hp (pml hp ((C3) (c) (c)) ((C3) (i2) (k2))) (pml hp ((C3) (i2) (c)) ((C3) (c) (k2)))) (pvt (pR hp) A c.toNat)) := (rn1550_0).fr hp2 mfc1553 Nr.n
                                        have rk1554_12 : MG hp B hc1552 (8) (qt hp (psb hp (pml hp ((C3) (c) (c)) ((C3) (i2) (k2))) (pml hp ((C3) (i2) (c)) ((C3) (c) (k2)))) (pvt (pR hp) A c.toNat)) := (rn1550_1).fr hp2 mfc1553 Nr.n
                                        have fr1554 : MF B [B + 1, B + 3, B + 7] [0, 1, 2, 3, 4, 5, 6, 7, 8, 9, 10] h hc1552 := (fr1551).tr ((mfc1553).mo (sub_c (List.Mem.tail _ (List.Mem.tail _ (List.Mem.head _))) sub_n) sbI_n)
                                        refine Go.nf (h' := hc1552) (st' := []) rfl rfl (Nat.le_refl _) (Nat.le_refl _) ?_
                                        refine g_iinc 0 (ls2 := [(10, .int (gI (k2 + 1))), (9, .int (gI (i2))), (6, .int (gI (0))), (8, .int (gI (w))), (7, .int (gI (c))), (5, .int (gI ((dY hp F) + (dY hp G)))), (4, .int (gI (dY hp G))), (3, .int (gI (dY hp F))), (0, .ref (B)), (1, .int (gI (a))), (2, .int (gI (b)))]) dX10_byY_500 rfl (by decide) rfl ?_
                                        refine g_goto (tgt := 411) dX10_byY_503 rfl ?_
                                        exact ih_l2 _ (by omega) (k2 + 1) (cup C3 i2 k2 (qt hp (psb hp (pml hp ((C3) (c) (c)) ((C3) (i2) (k2))) (pml hp ((C3) (i2) (c)) ((C3) (c) (k2)))) (pvt (pR hp) A c.toNat))) hc1552 rfl fr1554 fk1554_1 f7_1553 rk1554_0 rk1554_1 ((mq1553).mono (D2 := fun x y => 0 ≤ x ∧ x < dY hp F + dY hp G ∧ 0 ≤ y ∧ y < dY hp F + dY hp G) (C2 := cup C3 i2 k2 (qt hp (psb hp (pml hp ((C3) (c) (c)) ((C3) (i2) (k2))) (pml hp ((C3) (i2) (c)) ((C3) (c) (k2)))) (pvt (pR hp) A c.toNat))) (fun x y d => Or.inl d) (fun x y d => rfl)) rk1554_3 (by omega) (fun x y x0 x1 y0 y1 => by
                                                                      unfold cup
                                                                      by_cases z : x = i2 ∧ y = k2
                                                                      · rw [if_pos z, if_pos (by omega), hq8, z.1, z.2]
                                                                      · rw [if_neg z, hE x y x0 x1 y0 y1]
                                                                        by_cases q : c < x ∧ c < y ∧ (x < i2 ∨ (x = i2 ∧ y < k2))
                                                                        · rw [if_pos q, if_pos (by omega)]
                                                                        · rw [if_neg q, if_neg (by omega)])
                                    exact l2 _ (c + 1) (C3a) hl1 rfl fr_l1 cf_l1_0 cf_l1_1 cr_l1_0 cr_l1_1 cr_l1_2 cr_l1_3 (by omega) (fun x y x0 x1 y0 y1 => by
                                                                      rw [hEa x y x0 x1 y0 y1]
                                                                      by_cases q : c < x ∧ c < y ∧ (x < i2 )
                                                                      · rw [if_pos q, if_pos (by omega)]
                                                                      · rw [if_neg q, if_neg (by omega)])
                                exact l1 _ (c + 1) (swC C w c k) hls rfl fr_ls cf_ls_0 cf_ls_1 cr_ls_0 cr_ls_1 cr_ls_2 cr_ls_3 (by omega) (fun x y x0 x1 y0 y1 => by rw [if_neg (by omega)]; exact hC2 x y x0 x1 y0 y1)
                              · skip
                                refine g_iconst dX10_byY_385 ?_
                                refine g_goto (tgt := 390) dX10_byY_386 rfl ?_
                                refine g_istore (ls2 := [(6, .int (gI (1))), (9, .int (gI (k))), (8, .int (gI (w))), (7, .int (gI (c))), (5, .int (gI ((dY hp F) + (dY hp G)))), (4, .int (gI (dY hp G))), (3, .int (gI (dY hp F))), (0, .ref (B)), (1, .int (gI (a))), (2, .int (gI (b)))]) dX10_byY_390 (by decide) rfl ?_
                                have hR2 : barR hp (dY hp F + dY hp G).toNat (dY hp F + dY hp G - 1 - (c + 1)).toNat (c + 1).toNat (swr A c.toNat w.toNat) (decide ((1 : Int) = 1)) = resY hp F G := by
                                                                      rw [← hR, show (dY hp F + dY hp G - 1 - c).toNat = (dY hp F + dY hp G - 1 - (c + 1)).toNat + 1 by omega, barR_s hp hpvt, show (c + 1).toNat = c.toNat + 1 by omega]
                                                                      rw [if_pos (show w.toNat = c.toNat by omega), show tu = 1 by omega]
                                refine g_iload 3 dX10_byY_392 rfl ?_
                                refine g_iconst dX10_byY_394 ?_
                                refine g_iadd dX10_byY_395 ?_
                                refine g_istore (ls2 := [(9, .int (gI ((c) + (1)))), (6, .int (gI (1))), (8, .int (gI (w))), (7, .int (gI (c))), (5, .int (gI ((dY hp F) + (dY hp G)))), (4, .int (gI (dY hp G))), (3, .int (gI (dY hp F))), (0, .ref (B)), (1, .int (gI (a))), (2, .int (gI (b)))]) dX10_byY_396 (by decide) rfl ?_
                                have hm2 : ∀ x y, c ≤ x → x < dY hp F + dY hp G → c ≤ y → y < dY hp F + dY hp G → po (fR hp) (mqI hp (swr A c.toNat w.toNat) c x y) ∧ dgi hp (mqI hp (swr A c.toNat w.toNat) c x y) < 80 := fun i q i0 i1 q0 q1 => mqI_po hp hI2 (by omega) hc.1 (by omega) i1 (by omega) q1
                                have hpnz : mqI hp (swr A c.toNat w.toNat) c c c ≠ (letI := pR hp; 0) := by
                                                                      unfold mqI
                                                                      rw [mnr_sw hp A (by omega)]
                                                                      have e9 : swi c.toNat w.toNat c.toNat = w.toNat := if_pos rfl
                                                                      rw [e9]; exact hpvt.2.2.1
                                have hI3 : barI hp (dY hp F + dY hp G).toNat (c + 1).toNat (swr A c.toNat w.toNat) := by
                                                                      rw [show (c + 1).toNat = c.toNat + 1 by omega]
                                                                      exact barI_s hp hI2 (by omega) hpnz
                                have hm3 : ∀ x y, 0 ≤ x → x < dY hp F + dY hp G → 0 ≤ y → y < dY hp F + dY hp G → po (fR hp) (mqI hp (swr A c.toNat w.toNat) (c + 1) x y) ∧ dgi hp (mqI hp (swr A c.toNat w.toNat) (c + 1) x y) < 80 := fun i q i0 i1 q0 q1 => mqI_po hp hI3 (by omega) (by omega) i0 i1 q0 q1
                                have hpk := pvt_po hp hI.1 hI.2.1
                                have hpk0 := dgi_nz hp hpk hI.2.2.1
                                have l1 : ∀ (kk : Nat) (i2 : Int) (C3a : Int → Int → Px p) (hl1 : GH), kk = (12 - i2).toNat → MF B [B + 1, B + 3, B + 7] [0, 1, 2, 3, 4, 5, 6, 7, 8, 9, 10] h hl1 → hl1.2 (B + 4) = some (aI 1500 (gm)) → hl1.2 (B + 7) = some (aJ 6400 (g7)) → MP hp B hl1 (T) → MWA B hl1 → MSq hp B hl1 (fun x y => 0 ≤ x ∧ x < dY hp F + dY hp G ∧ 0 ≤ y ∧ y < dY hp F + dY hp G) (C3a) → MG hp B hl1 (10) (pvt (pR hp) A c.toNat) → (c + 1 ≤ i2 ∧ i2 ≤ dY hp F + dY hp G) → (∀ x y, c ≤ x → x < dY hp F + dY hp G → c ≤ y → y < dY hp F + dY hp G → C3a x y = if c < x ∧ c < y ∧ (x < i2 ) then mqI hp (swr A c.toNat w.toNat) (c + 1) x y else mqI hp (swr A c.toNat w.toNat) c x y) → Go N mX10_byY (fun v h1 => Fr [B + 1, B + 3, B + 5, B + 7] h h1 ∧ MS B h1 ∧ ∃ w T2, Ou T (pa12 hp F G) w T2 ∧ v = some (.int (gI w)) ∧ MP hp B h1 T2) 0 0 hl1 398 [(9, .int (gI (i2))), (6, .int (gI (1))), (8, .int (gI (w))), (7, .int (gI (c))), (5, .int (gI ((dY hp F) + (dY hp G)))), (4, .int (gI (dY hp G))), (3, .int (gI (dY hp F))), (0, .ref (B)), (1, .int (gI (a))), (2, .int (gI (b)))] [] := by
                                  refine Go.ind (fun kk ih_l1 => ?_)
                                  intro i2 C3a hl1 hkk_l1 fr_l1 cf_l1_0 cf_l1_1 cr_l1_0 cr_l1_1 cr_l1_2 cr_l1_3 hi2 hEa
                                  have cg_l1_0 : hl1.2 (B) = some (mO B ((p : Int)) (hf) (le) (fc) (pn) (rn) (hn) (qn)) := Fr.at0 (fr_l1).1 (Ni.c ⟨ne4, ne5⟩ (Ni.c ⟨ne0, ne1⟩ (Ni.c ⟨ne2, ne3⟩ (Ni.c ⟨ne6, ne7⟩ (Ni.n _))))) hm
                                  refine g_iload 0 dX10_byY_398 rfl ?_
                                  refine g_iload 4 dX10_byY_400 rfl ?_
                                  refine g_icmp_ge (tgt := 512) dX10_byY_402 rfl (by first | (unfold gW; omega) | (unfold gW; split <;> omega)) (by first | (unfold gW; omega) | (unfold gW; split <;> omega)) (fun c1855 => ?_) (fun c1855 => ?_)
                                  · skip
                                    refine g_aload_n 7 dX10_byY_512 rfl ?_
                                    refine g_iload 3 dX10_byY_513 rfl ?_
                                    refine g_iload 3 dX10_byY_515 rfl ?_
                                    refine g_bipush dX10_byY_517 (by decide) ?_
                                    refine g_callV (nc2 := 0) (ns2 := 0) (ci := 10) (As := [.int (gI (c)), .int (gI (c)), .int (gI (10))]) (st := []) rfl dX10_byY_519 okX10_fromSquare lX10_202 itX10_fromSquare seX10_fromSquare rfl cg_l1_0 (by decide) (by decide) rfl (Nat.le_of_ble_eq_true rfl) (sM_fromSquare N _ B p hp hp2 hf le fc pn rn hn qn (c) (c) (10) (by omega) (fun x y => 0 ≤ x ∧ x < dY hp F + dY hp G ∧ 0 ≤ y ∧ y < dY hp F + dY hp G) (C3a) (by omega) cg_l1_0 (fr_l1).2.1 cr_l1_2) (by omega) (by omega) (fun v1856 hc1856 q1856 => ?_)
                                    obtain ⟨rfl, mfc1857, rn1857_0⟩ := q1856
                                    have fk1858_0 : hc1856.2 (B) = some (mO B ((p : Int)) (hf) (le) (fc) (pn) (rn) (hn) (qn)) := Fr.at0 (mfc1857).1 (Ni.c ⟨ne4, ne5⟩ (Ni.n _)) cg_l1_0
                                    have fk1858_1 : hc1856.2 (B + 4) = some (aI 1500 (gm)) := Fr.at0 (mfc1857).1 (Ni.c ⟨ne26, ne27⟩ (Ni.n _)) cf_l1_0
                                    have fk1858_2 : hc1856.2 (B + 7) = some (aJ 6400 (g7)) := Fr.at0 (mfc1857).1 (Ni.c ⟨(ne31).s, (ne33).s⟩ (Ni.n _)) cf_l1_1
                                    have rk1858_0 : MP hp B hc1856 (T) := (cr_l1_0).fr (mfc1857).1 (Ni.c ⟨ne11, ne12⟩ (Ni.n _)) (Ni.c ⟨ne17, ne18⟩ (Ni.n _))
                                    have rk1858_1 : MWA B hc1856 := (cr_l1_1).fr (mfc1857).1 (Ni.c ⟨ne22, ne23⟩ (Ni.n _))
                                    have rk1858_2 : MSq hp B hc1856 (fun x y => 0 ≤ x ∧ x < dY hp F + dY hp G ∧ 0 ≤ y ∧ y < dY hp F + dY hp G) (C3a) := (cr_l1_2).fr (mfc1857).1 (Ni.c ⟨(ne32).s, (ne34).s⟩ (Ni.n _))
                                    have fr1858 : MF B [B + 1, B + 3, B + 7] [0, 1, 2, 3, 4, 5, 6, 7, 8, 9, 10] h hc1856 := (fr_l1).tr ((mfc1857).mo sub_n (sbI_c (List.Mem.tail _ (List.Mem.tail _ (List.Mem.tail _ (List.Mem.tail _ (List.Mem.tail _ (List.Mem.tail _ (List.Mem.tail _ (List.Mem.tail _ (List.Mem.tail _ (List.Mem.tail _ (List.Mem.head _))))))))))) sbI_n))
                                    refine Go.nf (h' := hc1856) (st' := []) rfl rfl (Nat.le_refl _) (Nat.le_refl _) ?_
                                    have hp11 : (C3a) (c) (c) = pvt (pR hp) (swr A c.toNat w.toNat) (c + 1).toNat := by
                                                                      rw [hEa c c (by omega) (by omega) (by omega) (by omega), if_neg (by omega), show (c + 1).toNat = c.toNat + 1 by omega, pvt_s]
                                                                      rfl
                                    refine g_iinc 3 (ls2 := [(7, .int (gI (c + 1))), (9, .int (gI (i2))), (6, .int (gI (1))), (8, .int (gI (w))), (5, .int (gI ((dY hp F) + (dY hp G)))), (4, .int (gI (dY hp G))), (3, .int (gI (dY hp F))), (0, .ref (B)), (1, .int (gI (a))), (2, .int (gI (b)))]) dX10_byY_522 rfl (by decide) rfl ?_
                                    refine g_goto (tgt := 230) dX10_byY_525 rfl ?_
                                    refine Go.sub [0, 2, 4, 5, 6, 7, 8, 9] rfl ?_
                                    exact ih_lc _ (by omega) (c + 1) (1) (swr A c.toNat w.toNat) (C3a) hc1856 rfl fr1858 fk1858_1 fk1858_2 rk1858_0 rk1858_1 rk1858_2 (by rw [← hp11]; exact rn1857_0) (by omega) (by omega) hI3 hR2 (fun x y x0 x1 y0 y1 => by rw [hEa x y (by omega) x1 (by omega) y1, if_pos (by omega)])
                                  · skip
                                    refine g_iload 3 dX10_byY_405 rfl ?_
                                    refine g_iconst dX10_byY_407 ?_
                                    refine g_iadd dX10_byY_408 ?_
                                    refine g_istore (ls2 := [(10, .int (gI ((c) + (1)))), (9, .int (gI (i2))), (6, .int (gI (1))), (8, .int (gI (w))), (7, .int (gI (c))), (5, .int (gI ((dY hp F) + (dY hp G)))), (4, .int (gI (dY hp G))), (3, .int (gI (dY hp F))), (0, .ref (B)), (1, .int (gI (a))), (2, .int (gI (b)))]) dX10_byY_409 (by decide) rfl ?_
                                    have l2 : ∀ (kk : Nat) (k2 : Int) (C3 : Int → Int → Px p) (hl2 : GH), kk = (12 - k2).toNat → MF B [B + 1, B + 3, B + 7] [0, 1, 2, 3, 4, 5, 6, 7, 8, 9, 10] h hl2 → hl2.2 (B + 4) = some (aI 1500 (gm)) → hl2.2 (B + 7) = some (aJ 6400 (g7)) → MP hp B hl2 (T) → MWA B hl2 → MSq hp B hl2 (fun x y => 0 ≤ x ∧ x < dY hp F + dY hp G ∧ 0 ≤ y ∧ y < dY hp F + dY hp G) (C3) → MG hp B hl2 (10) (pvt (pR hp) A c.toNat) → (c + 1 ≤ k2 ∧ k2 ≤ dY hp F + dY hp G) → (∀ x y, c ≤ x → x < dY hp F + dY hp G → c ≤ y → y < dY hp F + dY hp G → C3 x y = if c < x ∧ c < y ∧ (x < i2 ∨ (x = i2 ∧ y < k2)) then mqI hp (swr A c.toNat w.toNat) (c + 1) x y else mqI hp (swr A c.toNat w.toNat) c x y) → Go N mX10_byY (fun v h1 => Fr [B + 1, B + 3, B + 5, B + 7] h h1 ∧ MS B h1 ∧ ∃ w T2, Ou T (pa12 hp F G) w T2 ∧ v = some (.int (gI w)) ∧ MP hp B h1 T2) 0 0 hl2 411 [(10, .int (gI (k2))), (9, .int (gI (i2))), (6, .int (gI (1))), (8, .int (gI (w))), (7, .int (gI (c))), (5, .int (gI ((dY hp F) + (dY hp G)))), (4, .int (gI (dY hp G))), (3, .int (gI (dY hp F))), (0, .ref (B)), (1, .int (gI (a))), (2, .int (gI (b)))] [] := by
                                      refine Go.ind (fun kk ih_l2 => ?_)
                                      intro k2 C3 hl2 hkk_l2 fr_l2 cf_l2_0 cf_l2_1 cr_l2_0 cr_l2_1 cr_l2_2 cr_l2_3 hk2 hE
                                      have cg_l2_0 : hl2.2 (B) = some (mO B ((p : Int)) (hf) (le) (fc) (pn) (rn) (hn) (qn)) := Fr.at0 (fr_l2).1 (Ni.c ⟨ne4, ne5⟩ (Ni.c ⟨ne0, ne1⟩ (Ni.c ⟨ne2, ne3⟩ (Ni.c ⟨ne6, ne7⟩ (Ni.n _))))) hm
                                      refine g_iload 0 dX10_byY_411 rfl ?_
                                      refine g_iload 5 dX10_byY_413 rfl ?_
                                      refine g_icmp_ge (tgt := 506) dX10_byY_415 rfl (by first | (unfold gW; omega) | (unfold gW; split <;> omega)) (by first | (unfold gW; omega) | (unfold gW; split <;> omega)) (fun c1959 => ?_) (fun c1959 => ?_)
                                      · skip
                                        refine g_iinc 1 (ls2 := [(9, .int (gI (i2 + 1))), (10, .int (gI (k2))), (6, .int (gI (1))), (8, .int (gI (w))), (7, .int (gI (c))), (5, .int (gI ((dY hp F) + (dY hp G)))), (4, .int (gI (dY hp G))), (3, .int (gI (dY hp F))), (0, .ref (B)), (1, .int (gI (a))), (2, .int (gI (b)))]) dX10_byY_506 rfl (by decide) rfl ?_
                                        refine g_goto (tgt := 398) dX10_byY_509 rfl ?_
                                        refine Go.sub [0, 2, 3, 4, 5, 6, 7, 8, 9, 10] rfl ?_
                                        exact ih_l1 _ (by omega) (i2 + 1) (C3) hl2 rfl fr_l2 cf_l2_0 cf_l2_1 cr_l2_0 cr_l2_1 cr_l2_2 cr_l2_3 (by omega) (fun x y x0 x1 y0 y1 => by
                                                                      rw [hE x y x0 x1 y0 y1]
                                                                      by_cases q : c < x ∧ c < y ∧ (x < i2 ∨ (x = i2 ∧ y < k2))
                                                                      · rw [if_pos q, if_pos (by omega)]
                                                                      · rw [if_neg q, if_neg (by omega)])
                                      · skip
                                        refine g_aload_n 8 dX10_byY_418 rfl ?_
                                        refine g_iload 4 dX10_byY_419 rfl ?_
                                        refine g_iload 4 dX10_byY_421 rfl ?_
                                        refine g_iconst dX10_byY_423 ?_
                                        refine g_callV (nc2 := 0) (ns2 := 0) (ci := 10) (As := [.int (gI (c)), .int (gI (c)), .int (gI (1))]) (st := []) rfl dX10_byY_424 okX10_fromSquare lX10_202 itX10_fromSquare seX10_fromSquare rfl cg_l2_0 (by decide) (by decide) rfl (Nat.le_of_ble_eq_true rfl) (sM_fromSquare N _ B p hp hp2 hf le fc pn rn hn qn (c) (c) (1) (by omega) (fun x y => 0 ≤ x ∧ x < dY hp F + dY hp G ∧ 0 ≤ y ∧ y < dY hp F + dY hp G) (C3) (by omega) cg_l2_0 (fr_l2).2.1 cr_l2_2) (by omega) (by omega) (fun v1960 hc1960 q1960 => ?_)
                                        obtain ⟨rfl, mfc1961, rn1961_0⟩ := q1960
                                        have fk1962_0 : hc1960.2 (B) = some (mO B ((p : Int)) (hf) (le) (fc) (pn) (rn) (hn) (qn)) := Fr.at0 (mfc1961).1 (Ni.c ⟨ne4, ne5⟩ (Ni.n _)) cg_l2_0
                                        have fk1962_1 : hc1960.2 (B + 4) = some (aI 1500 (gm)) := Fr.at0 (mfc1961).1 (Ni.c ⟨ne26, ne27⟩ (Ni.n _)) cf_l2_0
                                        have fk1962_2 : hc1960.2 (B + 7) = some (aJ 6400 (g7)) := Fr.at0 (mfc1961).1 (Ni.c ⟨(ne31).s, (ne33).s⟩ (Ni.n _)) cf_l2_1
                                        have rk1962_0 : MP hp B hc1960 (T) := (cr_l2_0).fr (mfc1961).1 (Ni.c ⟨ne11, ne12⟩ (Ni.n _)) (Ni.c ⟨ne17, ne18⟩ (Ni.n _))
                                        have rk1962_1 : MWA B hc1960 := (cr_l2_1).fr (mfc1961).1 (Ni.c ⟨ne22, ne23⟩ (Ni.n _))
                                        have rk1962_2 : MSq hp B hc1960 (fun x y => 0 ≤ x ∧ x < dY hp F + dY hp G ∧ 0 ≤ y ∧ y < dY hp F + dY hp G) (C3) := (cr_l2_2).fr (mfc1961).1 (Ni.c ⟨(ne32).s, (ne34).s⟩ (Ni.n _))
                                        have rk1962_3 : MG hp B hc1960 (10) (pvt (pR hp) A c.toNat) := (cr_l2_3).fr hp2 mfc1961 (Nr.c (by omega) Nr.n)
                                        have fr1962 : MF B [B + 1, B + 3, B + 7] [0, 1, 2, 3, 4, 5, 6, 7, 8, 9, 10] h hc1960 := (fr_l2).tr ((mfc1961).mo sub_n (sbI_c (List.Mem.tail _ (List.Mem.head _)) sbI_n))
                                        refine Go.nf (h' := hc1960) (st' := []) rfl rfl (Nat.le_refl _) (Nat.le_refl _) ?_
                                        refine g_aload_n 8 dX10_byY_427 rfl ?_
                                        refine g_iload 1 dX10_byY_428 rfl ?_
                                        refine g_iload 0 dX10_byY_430 rfl ?_
                                        refine g_iconst dX10_byY_432 ?_
                                        refine g_callV (nc2 := 0) (ns2 := 0) (ci := 10) (As := [.int (gI (i2)), .int (gI (k2)), .int (gI (2))]) (st := []) rfl dX10_byY_433 okX10_fromSquare lX10_202 itX10_fromSquare seX10_fromSquare rfl fk1962_0 (by decide) (by decide) rfl (Nat.le_of_ble_eq_true rfl) (sM_fromSquare N _ B p hp hp2 hf le fc pn rn hn qn (i2) (k2) (2) (by omega) (fun x y => 0 ≤ x ∧ x < dY hp F + dY hp G ∧ 0 ≤ y ∧ y < dY hp F + dY hp G) (C3) (by omega) fk1962_0 (fr1962).2.1 rk1962_2) (by omega) (by omega) (fun v1963 hc1963 q1963 => ?_)
                                        obtain ⟨rfl, mfc1964, rn1964_0⟩ := q1963
                                        have fk1965_0 : hc1963.2 (B) = some (mO B ((p : Int)) (hf) (le) (fc) (pn) (rn) (hn) (qn)) := Fr.at0 (mfc1964).1 (Ni.c ⟨ne4, ne5⟩ (Ni.n _)) fk1962_0
                                        have fk1965_1 : hc1963.2 (B + 4) = some (aI 1500 (gm)) := Fr.at0 (mfc1964).1 (Ni.c ⟨ne26, ne27⟩ (Ni.n _)) fk1962_1
                                        have fk1965_2 : hc1963.2 (B + 7) = some (aJ 6400 (g7)) := Fr.at0 (mfc1964).1 (Ni.c ⟨(ne31).s, (ne33).s⟩ (Ni.n _)) fk1962_2
                                        have rk1965_0 : MP hp B hc1963 (T) := (rk1962_0).fr (mfc1964).1 (Ni.c ⟨ne11, ne12⟩ (Ni.n _)) (Ni.c ⟨ne17, ne18⟩ (Ni.n _))
                                        have rk1965_1 : MWA B hc1963 := (rk1962_1).fr (mfc1964).1 (Ni.c ⟨ne22, ne23⟩ (Ni.n _))
                                        have rk1965_2 : MSq hp B hc1963 (fun x y => 0 ≤ x ∧ x < dY hp F + dY hp G ∧ 0 ≤ y ∧ y < dY hp F + dY hp G) (C3) := (rk1962_2).fr (mfc1964).1 (Ni.c ⟨(ne32).s, (ne34).s⟩ (Ni.n _))
                                        have rk1965_3 : MG hp B hc1963 (10) (pvt (pR hp) A c.toNat) := (rk1962_3).fr hp2 mfc1964 (Nr.c (by omega) Nr.n)
                                        have rk1965_4 : MG hp B hc1963 (1) ((C3) (c) (c)) := (rn1961_0).fr hp2 mfc1964 (Nr.c (by omega) Nr.n)
                                        have fr1965 : MF B [B + 1, B + 3, B + 7] [0, 1, 2, 3, 4, 5, 6, 7, 8, 9, 10] h hc1963 := (fr1962).tr ((mfc1964).mo sub_n (sbI_c (List.Mem.tail _ (List.Mem.tail _ (List.Mem.head _))) sbI_n))
                                        refine Go.nf (h' := hc1963) (st' := []) rfl rfl (Nat.le_refl _) (Nat.le_refl _) ?_
                                        refine g_aload_n 8 dX10_byY_436 rfl ?_
                                        refine g_iload 1 dX10_byY_437 rfl ?_
                                        refine g_iload 4 dX10_byY_439 rfl ?_
                                        refine g_iconst dX10_byY_441 ?_
                                        refine g_callV (nc2 := 0) (ns2 := 0) (ci := 10) (As := [.int (gI (i2)), .int (gI (c)), .int (gI (3))]) (st := []) rfl dX10_byY_442 okX10_fromSquare lX10_202 itX10_fromSquare seX10_fromSquare rfl fk1965_0 (by decide) (by decide) rfl (Nat.le_of_ble_eq_true rfl) (sM_fromSquare N _ B p hp hp2 hf le fc pn rn hn qn (i2) (c) (3) (by omega) (fun x y => 0 ≤ x ∧ x < dY hp F + dY hp G ∧ 0 ≤ y ∧ y < dY hp F + dY hp G) (C3) (by omega) fk1965_0 (fr1965).2.1 rk1965_2) (by omega) (by omega) (fun v1966 hc1966 q1966 => ?_)
                                        obtain ⟨rfl, mfc1967, rn1967_0⟩ := q1966
                                        have fk1968_0 : hc1966.2 (B) = some (mO B ((p : Int)) (hf) (le) (fc) (pn) (rn) (hn) (qn)) := Fr.at0 (mfc1967).1 (Ni.c ⟨ne4, ne5⟩ (Ni.n _)) fk1965_0
                                        have fk1968_1 : hc1966.2 (B + 4) = some (aI 1500 (gm)) := Fr.at0 (mfc1967).1 (Ni.c ⟨ne26, ne27⟩ (Ni.n _)) fk1965_1
                                        have fk1968_2 : hc1966.2 (B + 7) = some (aJ 6400 (g7)) := Fr.at0 (mfc1967).1 (Ni.c ⟨(ne31).s, (ne33).s⟩ (Ni.n _)) fk1965_2
                                        have rk1968_0 : MP hp B hc1966 (T) := (rk1965_0).fr (mfc1967).1 (Ni.c ⟨ne11, ne12⟩ (Ni.n _)) (Ni.c ⟨ne17, ne18⟩ (Ni.n _))
                                        have rk1968_1 : MWA B hc1966 := (rk1965_1).fr (mfc1967).1 (Ni.c ⟨ne22, ne23⟩ (Ni.n _))
                                        have rk1968_2 : MSq hp B hc1966 (fun x y => 0 ≤ x ∧ x < dY hp F + dY hp G ∧ 0 ≤ y ∧ y < dY hp F + dY hp G) (C3) := (rk1965_2).fr (mfc1967).1 (Ni.c ⟨(ne32).s, (ne34).s⟩ (Ni.n _))
                                        have rk1968_3 : MG hp B hc1966 (10) (pvt (pR hp) A c.toNat) := (rk1965_3).fr hp2 mfc1967 (Nr.c (by omega) Nr.n)
                                        have rk1968_4 : MG hp B hc1966 (1) ((C3) (c) (c)) := (rk1965_4).fr hp2 mfc1967 (Nr.c (by omega) Nr.n)
                                        have rk1968_5 : MG hp B hc1966 (2) ((C3) (i2) (k2)) := (rn1964_0).fr hp2 mfc1967 (Nr.c (by omega) Nr.n)
                                        have fr1968 : MF B [B + 1, B + 3, B + 7] [0, 1, 2, 3, 4, 5, 6, 7, 8, 9, 10] h hc1966 := (fr1965).tr ((mfc1967).mo sub_n (sbI_c (List.Mem.tail _ (List.Mem.tail _ (List.Mem.tail _ (List.Mem.head _)))) sbI_n))
                                        refine Go.nf (h' := hc1966) (st' := []) rfl rfl (Nat.le_refl _) (Nat.le_refl _) ?_
                                        refine g_aload_n 8 dX10_byY_445 rfl ?_
                                        refine g_iload 4 dX10_byY_446 rfl ?_
                                        refine g_iload 0 dX10_byY_448 rfl ?_
                                        refine g_iconst dX10_byY_450 ?_
                                        refine g_callV (nc2 := 0) (ns2 := 0) (ci := 10) (As := [.int (gI (c)), .int (gI (k2)), .int (gI (4))]) (st := []) rfl dX10_byY_451 okX10_fromSquare lX10_202 itX10_fromSquare seX10_fromSquare rfl fk1968_0 (by decide) (by decide) rfl (Nat.le_of_ble_eq_true rfl) (sM_fromSquare N _ B p hp hp2 hf le fc pn rn hn qn (c) (k2) (4) (by omega) (fun x y => 0 ≤ x ∧ x < dY hp F + dY hp G ∧ 0 ≤ y ∧ y < dY hp F + dY hp G) (C3) (by omega) fk1968_0 (fr1968).2.1 rk1968_2) (by omega) (by omega) (fun v1969 hc1969 q1969 => ?_)
                                        obtain ⟨rfl, mfc1970, rn1970_0⟩ := q1969
                                        have fk1971_0 : hc1969.2 (B) = some (mO B ((p : Int)) (hf) (le) (fc) (pn) (rn) (hn) (qn)) := Fr.at0 (mfc1970).1 (Ni.c ⟨ne4, ne5⟩ (Ni.n _)) fk1968_0
                                        have fk1971_1 : hc1969.2 (B + 4) = some (aI 1500 (gm)) := Fr.at0 (mfc1970).1 (Ni.c ⟨ne26, ne27⟩ (Ni.n _)) fk1968_1
                                        have fk1971_2 : hc1969.2 (B + 7) = some (aJ 6400 (g7)) := Fr.at0 (mfc1970).1 (Ni.c ⟨(ne31).s, (ne33).s⟩ (Ni.n _)) fk1968_2
                                        have rk1971_0 : MP hp B hc1969 (T) := (rk1968_0).fr (mfc1970).1 (Ni.c ⟨ne11, ne12⟩ (Ni.n _)) (Ni.c ⟨ne17, ne18⟩ (Ni.n _))
                                        have rk1971_1 : MWA B hc1969 := (rk1968_1).fr (mfc1970).1 (Ni.c ⟨ne22, ne23⟩ (Ni.n _))
                                        have rk1971_2 : MSq hp B hc1969 (fun x y => 0 ≤ x ∧ x < dY hp F + dY hp G ∧ 0 ≤ y ∧ y < dY hp F + dY hp G) (C3) := (rk1968_2).fr (mfc1970).1 (Ni.c ⟨(ne32).s, (ne34).s⟩ (Ni.n _))
                                        have rk1971_3 : MG hp B hc1969 (10) (pvt (pR hp) A c.toNat) := (rk1968_3).fr hp2 mfc1970 (Nr.c (by omega) Nr.n)
                                        have rk1971_4 : MG hp B hc1969 (1) ((C3) (c) (c)) := (rk1968_4).fr hp2 mfc1970 (Nr.c (by omega) Nr.n)
                                        have rk1971_5 : MG hp B hc1969 (2) ((C3) (i2) (k2)) := (rk1968_5).fr hp2 mfc1970 (Nr.c (by omega) Nr.n)
                                        have rk1971_6 : MG hp B hc1969 (3) ((C3) (i2) (c)) := (rn1967_0).fr hp2 mfc1970 (Nr.c (by omega) Nr.n)
                                        have fr1971 : MF B [B + 1, B + 3, B + 7] [0, 1, 2, 3, 4, 5, 6, 7, 8, 9, 10] h hc1969 := (fr1968).tr ((mfc1970).mo sub_n (sbI_c (List.Mem.tail _ (List.Mem.tail _ (List.Mem.tail _ (List.Mem.tail _ (List.Mem.head _))))) sbI_n))
                                        refine Go.nf (h' := hc1969) (st' := []) rfl rfl (Nat.le_refl _) (Nat.le_refl _) ?_
                                        have hd9 : ∀ x y : Int, 0 ≤ x → x < dY hp F + dY hp G → 0 ≤ y → y < dY hp F + dY hp G → dgi hp (C3 x y) < 80 := fun x y x0 x1 y0 y1 => ((rk1971_2).at (i := x) (k := y) ⟨x0, x1, y0, y1⟩).2.2
                                        have hd1972 := hd9 c c (by omega) (by omega) (by omega) (by omega)
                                        have hd1973 := hd9 i2 k2 (by omega) (by omega) (by omega) (by omega)
                                        have hd1974 := hd9 i2 c (by omega) (by omega) (by omega) (by omega)
                                        have hd1975 := hd9 c k2 (by omega) (by omega) (by omega) (by omega)
                                        refine g_aload_n 8 dX10_byY_454 rfl ?_
                                        refine g_iconst dX10_byY_455 ?_
                                        refine g_iconst dX10_byY_456 ?_
                                        refine g_iconst dX10_byY_457 ?_
                                        refine g_callV (nc2 := 0) (ns2 := 0) (ci := 10) (As := [.int (gI (1)), .int (gI (2)), .int (gI (5))]) (st := []) rfl dX10_byY_458 okX10_product lX10_189 itX10_product seX10_product rfl fk1971_0 (by decide) (by decide) rfl (Nat.le_of_ble_eq_true rfl) (sM_product N _ B p hp hp2 hf le fc pn rn hn qn (1) (2) (5) (by omega) (by omega) (by omega) ((C3) (c) (c)) ((C3) (i2) (k2)) fk1971_0 (fr1971).2.1 rk1971_4 rk1971_5 (by omega)) (by omega) (by omega) (fun v1976 hc1976 q1976 => ?_)
                                        obtain ⟨rfl, mfc1977, rn1977_0⟩ := q1976
                                        have fk1978_0 : hc1976.2 (B) = some (mO B ((p : Int)) (hf) (le) (fc) (pn) (rn) (hn) (qn)) := Fr.at0 (mfc1977).1 (Ni.c ⟨ne4, ne5⟩ (Ni.n _)) fk1971_0
                                        have fk1978_1 : hc1976.2 (B + 4) = some (aI 1500 (gm)) := Fr.at0 (mfc1977).1 (Ni.c ⟨ne26, ne27⟩ (Ni.n _)) fk1971_1
                                        have fk1978_2 : hc1976.2 (B + 7) = some (aJ 6400 (g7)) := Fr.at0 (mfc1977).1 (Ni.c ⟨(ne31).s, (ne33).s⟩ (Ni.n _)) fk1971_2
                                        have rk1978_0 : MP hp B hc1976 (T) := (rk1971_0).fr (mfc1977).1 (Ni.c ⟨ne11, ne12⟩ (Ni.n _)) (Ni.c ⟨ne17, ne18⟩ (Ni.n _))
                                        have rk1978_1 : MWA B hc1976 := (rk1971_1).fr (mfc1977).1 (Ni.c ⟨ne22, ne23⟩ (Ni.n _))
                                        have rk1978_2 : MSq hp B hc1976 (fun x y => 0 ≤ x ∧ x < dY hp F + dY hp G ∧ 0 ≤ y ∧ y < dY hp F + dY hp G) (C3) := (rk1971_2).fr (mfc1977).1 (Ni.c ⟨(ne32).s, (ne34).s⟩ (Ni.n _))
                                        have rk1978_3 : MG hp B hc1976 (10) (pvt (pR hp) A c.toNat) := (rk1971_3).fr hp2 mfc1977 (Nr.c (by omega) Nr.n)
                                        have rk1978_4 : MG hp B hc1976 (1) ((C3) (c) (c)) := (rk1971_4).fr hp2 mfc1977 (Nr.c (by omega) Nr.n)
                                        have rk1978_5 : MG hp B hc1976 (2) ((C3) (i2) (k2)) := (rk1971_5).fr hp2 mfc1977 (Nr.c (by omega) Nr.n)
                                        have rk1978_6 : MG hp B hc1976 (3) ((C3) (i2) (c)) := (rk1971_6).fr hp2 mfc1977 (Nr.c (by omega) Nr.n)
                                        have rk1978_7 : MG hp B hc1976 (4) ((C3) (c) (k2)) := (rn1970_0).fr hp2 mfc1977 (Nr.c (by omega) Nr.n)
                                        have fr1978 : MF B [B + 1, B + 3, B + 7] [0, 1, 2, 3, 4, 5, 6, 7, 8, 9, 10] h hc1976 := (fr1971).tr ((mfc1977).mo sub_n (sbI_c (List.Mem.tail _ (List.Mem.tail _ (List.Mem.tail _ (List.Mem.tail _ (List.Mem.tail _ (List.Mem.head _)))))) sbI_n))
                                        refine Go.nf (h' := hc1976) (st' := []) rfl rfl (Nat.le_refl _) (Nat.le_refl _) ?_
                                        refine g_aload_n 8 dX10_byY_461 rfl ?_
                                        refine g_iconst dX10_byY_462 ?_
                                        refine g_iconst dX10_byY_463 ?_
                                        refine g_bipush dX10_byY_464 (by decide) ?_
                                        refine g_callV (nc2 := 0) (ns2 := 0) (ci := 10) (As := [.int (gI (3)), .int (gI (4)), .int (gI (6))]) (st := []) rfl dX10_byY_466 okX10_product lX10_189 itX10_product seX10_product rfl fk1978_0 (by decide) (by decide) rfl (Nat.le_of_ble_eq_true rfl) (sM_product N _ B p hp hp2 hf le fc pn rn hn qn (3) (4) (6) (by omega) (by omega) (by omega) ((C3) (i2) (c)) ((C3) (c) (k2)) fk1978_0 (fr1978).2.1 rk1978_6 rk1978_7 (by omega)) (by omega) (by omega) (fun v1979 hc1979 q1979 => ?_)
                                        obtain ⟨rfl, mfc1980, rn1980_0⟩ := q1979
                                        have fk1981_0 : hc1979.2 (B) = some (mO B ((p : Int)) (hf) (le) (fc) (pn) (rn) (hn) (qn)) := Fr.at0 (mfc1980).1 (Ni.c ⟨ne4, ne5⟩ (Ni.n _)) fk1978_0
                                        have fk1981_1 : hc1979.2 (B + 4) = some (aI 1500 (gm)) := Fr.at0 (mfc1980).1 (Ni.c ⟨ne26, ne27⟩ (Ni.n _)) fk1978_1
                                        have fk1981_2 : hc1979.2 (B + 7) = some (aJ 6400 (g7)) := Fr.at0 (mfc1980).1 (Ni.c ⟨(ne31).s, (ne33).s⟩ (Ni.n _)) fk1978_2
                                        have rk1981_0 : MP hp B hc1979 (T) := (rk1978_0).fr (mfc1980).1 (Ni.c ⟨ne11, ne12⟩ (Ni.n _)) (Ni.c ⟨ne17, ne18⟩ (Ni.n _))
                                        have rk1981_1 : MWA B hc1979 := (rk1978_1).fr (mfc1980).1 (Ni.c ⟨ne22, ne23⟩ (Ni.n _))
                                        have rk1981_2 : MSq hp B hc1979 (fun x y => 0 ≤ x ∧ x < dY hp F + dY hp G ∧ 0 ≤ y ∧ y < dY hp F + dY hp G) (C3) := (rk1978_2).fr (mfc1980).1 (Ni.c ⟨(ne32).s, (ne34).s⟩ (Ni.n _))
                                        have rk1981_3 : MG hp B hc1979 (10) (pvt (pR hp) A c.toNat) := (rk1978_3).fr hp2 mfc1980 (Nr.c (by omega) Nr.n)
                                        have rk1981_4 : MG hp B hc1979 (1) ((C3) (c) (c)) := (rk1978_4).fr hp2 mfc1980 (Nr.c (by omega) Nr.n)
                                        have rk1981_5 : MG hp B hc1979 (2) ((C3) (i2) (k2)) := (rk1978_5).fr hp2 mfc1980 (Nr.c (by omega) Nr.n)
                                        have rk1981_6 : MG hp B hc1979 (3) ((C3) (i2) (c)) := (rk1978_6).fr hp2 mfc1980 (Nr.c (by omega) Nr.n)
                                        have rk1981_7 : MG hp B hc1979 (4) ((C3) (c) (k2)) := (rk1978_7).fr hp2 mfc1980 (Nr.c (by omega) Nr.n)
                                        have rk1981_8 : MG hp B hc1979 (5) (pml hp ((C3) (c) (c)) ((C3) (i2) (k2))) := (rn1977_0).fr hp2 mfc1980 (Nr.c (by omega) Nr.n)
                                        have fr1981 : MF B [B + 1, B + 3, B + 7] [0, 1, 2, 3, 4, 5, 6, 7, 8, 9, 10] h hc1979 := (fr1978).tr ((mfc1980).mo sub_n (sbI_c (List.Mem.tail _ (List.Mem.tail _ (List.Mem.tail _ (List.Mem.tail _ (List.Mem.tail _ (List.Mem.tail _ (List.Mem.head _))))))) sbI_n))
                                        refine Go.nf (h' := hc1979) (st' := []) rfl rfl (Nat.le_refl _) (Nat.le_refl _) ?_
                                        refine g_aload_n 8 dX10_byY_469 rfl ?_
                                        refine g_iconst dX10_byY_470 ?_
                                        refine g_bipush dX10_byY_471 (by decide) ?_
                                        refine g_bipush dX10_byY_473 (by decide) ?_
                                        refine g_callV (nc2 := 0) (ns2 := 0) (ci := 10) (As := [.int (gI (5)), .int (gI (6)), .int (gI (7))]) (st := []) rfl dX10_byY_475 okX10_minus lX10_192 itX10_minus seX10_minus rfl fk1981_0 (by decide) (by decide) rfl (Nat.le_of_ble_eq_true rfl) (sM_minus N _ B p hp hp2 hf le fc pn rn hn qn (5) (6) (7) (by omega) (pml hp ((C3) (c) (c)) ((C3) (i2) (k2))) (pml hp ((C3) (i2) (c)) ((C3) (c) (k2))) fk1981_0 (fr1981).2.1 rk1981_8 rn1980_0) (by omega) (by omega) (fun v1982 hc1982 q1982 => ?_)
                                        obtain ⟨rfl, mfc1983, rn1983_0⟩ := q1982
                                        have fk1984_0 : hc1982.2 (B) = some (mO B ((p : Int)) (hf) (le) (fc) (pn) (rn) (hn) (qn)) := Fr.at0 (mfc1983).1 (Ni.c ⟨ne4, ne5⟩ (Ni.n _)) fk1981_0
                                        have fk1984_1 : hc1982.2 (B + 4) = some (aI 1500 (gm)) := Fr.at0 (mfc1983).1 (Ni.c ⟨ne26, ne27⟩ (Ni.n _)) fk1981_1
                                        have fk1984_2 : hc1982.2 (B + 7) = some (aJ 6400 (g7)) := Fr.at0 (mfc1983).1 (Ni.c ⟨(ne31).s, (ne33).s⟩ (Ni.n _)) fk1981_2
                                        have rk1984_0 : MP hp B hc1982 (T) := (rk1981_0).fr (mfc1983).1 (Ni.c ⟨ne11, ne12⟩ (Ni.n _)) (Ni.c ⟨ne17, ne18⟩ (Ni.n _))
                                        have rk1984_1 : MWA B hc1982 := (rk1981_1).fr (mfc1983).1 (Ni.c ⟨ne22, ne23⟩ (Ni.n _))
                                        have rk1984_2 : MSq hp B hc1982 (fun x y => 0 ≤ x ∧ x < dY hp F + dY hp G ∧ 0 ≤ y ∧ y < dY hp F + dY hp G) (C3) := (rk1981_2).fr (mfc1983).1 (Ni.c ⟨(ne32).s, (ne34).s⟩ (Ni.n _))
                                        have rk1984_3 : MG hp B hc1982 (10) (pvt (pR hp) A c.toNat) := (rk1981_3).fr hp2 mfc1983 (Nr.c (by omega) Nr.n)
                                        have rk1984_4 : MG hp B hc1982 (1) ((C3) (c) (c)) := (rk1981_4).fr hp2 mfc1983 (Nr.c (by omega) Nr.n)
                                        have rk1984_5 : MG hp B hc1982 (2) ((C3) (i2) (k2)) := (rk1981_5).fr hp2 mfc1983 (Nr.c (by omega) Nr.n)
                                        have rk1984_6 : MG hp B hc1982 (3) ((C3) (i2) (c)) := (rk1981_6).fr hp2 mfc1983 (Nr.c (by omega) Nr.n)
                                        have rk1984_7 : MG hp B hc1982 (4) ((C3) (c) (k2)) := (rk1981_7).fr hp2 mfc1983 (Nr.c (by omega) Nr.n)
                                        have rk1984_8 : MG hp B hc1982 (5) (pml hp ((C3) (c) (c)) ((C3) (i2) (k2))) := (rk1981_8).fr hp2 mfc1983 (Nr.c (by omega) Nr.n)
                                        have rk1984_9 : MG hp B hc1982 (6) (pml hp ((C3) (i2) (c)) ((C3) (c) (k2))) := (rn1980_0).fr hp2 mfc1983 (Nr.c (by omega) Nr.n)
                                        have fr1984 : MF B [B + 1, B + 3, B + 7] [0, 1, 2, 3, 4, 5, 6, 7, 8, 9, 10] h hc1982 := (fr1981).tr ((mfc1983).mo sub_n (sbI_c (List.Mem.tail _ (List.Mem.tail _ (List.Mem.tail _ (List.Mem.tail _ (List.Mem.tail _ (List.Mem.tail _ (List.Mem.tail _ (List.Mem.head _)))))))) sbI_n))
                                        refine Go.nf (h' := hc1982) (st' := []) rfl rfl (Nat.le_refl _) (Nat.le_refl _) ?_
                                        refine g_aload_n 8 dX10_byY_478 rfl ?_
                                        refine g_bipush dX10_byY_479 (by decide) ?_
                                        refine g_bipush dX10_byY_481 (by decide) ?_
                                        refine g_bipush dX10_byY_483 (by decide) ?_
                                        refine g_bipush dX10_byY_485 (by decide) ?_
                                        refine g_callV (nc2 := 0) (ns2 := 0) (ci := 10) (As := [.int (gI (7)), .int (gI (10)), .int (gI (8)), .int (gI (9))]) (st := []) rfl dX10_byY_487 okX10_divide lX10_176 itX10_divide seX10_divide rfl fk1984_0 (by decide) (by decide) rfl (Nat.le_of_ble_eq_true rfl) (sM_divide N _ B p hp hp2 hf le fc pn rn hn qn (7) (10) (8) (9) (by omega) (by omega) (by omega) (by omega) (by omega) (by omega) (psb hp (pml hp ((C3) (c) (c)) ((C3) (i2) (k2))) (pml hp ((C3) (i2) (c)) ((C3) (c) (k2)))) (pvt (pR hp) A c.toNat) fk1984_0 (fr1984).2.1 rn1983_0 rk1984_3 (by omega)) (by omega) (by omega) (fun v1985 hc1985 q1985 => ?_)
                                        obtain ⟨rfl, mfc1986, rn1986_0, rn1986_1⟩ := q1985
                                        have fk1987_0 : hc1985.2 (B) = some (mO B ((p : Int)) (hf) (le) (fc) (pn) (rn) (hn) (qn)) := Fr.at0 (mfc1986).1 (Ni.c ⟨ne4, ne5⟩ (Ni.n _)) fk1984_0
                                        have fk1987_1 : hc1985.2 (B + 4) = some (aI 1500 (gm)) := Fr.at0 (mfc1986).1 (Ni.c ⟨ne26, ne27⟩ (Ni.n _)) fk1984_1
                                        have fk1987_2 : hc1985.2 (B + 7) = some (aJ 6400 (g7)) := Fr.at0 (mfc1986).1 (Ni.c ⟨(ne31).s, (ne33).s⟩ (Ni.n _)) fk1984_2
                                        have rk1987_0 : MP hp B hc1985 (T) := (rk1984_0).fr (mfc1986).1 (Ni.c ⟨ne11, ne12⟩ (Ni.n _)) (Ni.c ⟨ne17, ne18⟩ (Ni.n _))
                                        have rk1987_1 : MWA B hc1985 := (rk1984_1).fr (mfc1986).1 (Ni.c ⟨ne22, ne23⟩ (Ni.n _))
                                        have rk1987_2 : MSq hp B hc1985 (fun x y => 0 ≤ x ∧ x < dY hp F + dY hp G ∧ 0 ≤ y ∧ y < dY hp F + dY hp G) (C3) := (rk1984_2).fr (mfc1986).1 (Ni.c ⟨(ne32).s, (ne34).s⟩ (Ni.n _))
                                        have rk1987_3 : MG hp B hc1985 (10) (pvt (pR hp) A c.toNat) := (rk1984_3).fr hp2 mfc1986 (Nr.c (by omega) (Nr.c (by omega) Nr.n))
                                        have rk1987_4 : MG hp B hc1985 (1) ((C3) (c) (c)) := (rk1984_4).fr hp2 mfc1986 (Nr.c (by omega) (Nr.c (by omega) Nr.n))
                                        have rk1987_5 : MG hp B hc1985 (2) ((C3) (i2) (k2)) := (rk1984_5).fr hp2 mfc1986 (Nr.c (by omega) (Nr.c (by omega) Nr.n))
                                        have rk1987_6 : MG hp B hc1985 (3) ((C3) (i2) (c)) := (rk1984_6).fr hp2 mfc1986 (Nr.c (by omega) (Nr.c (by omega) Nr.n))
                                        have rk1987_7 : MG hp B hc1985 (4) ((C3) (c) (k2)) := (rk1984_7).fr hp2 mfc1986 (Nr.c (by omega) (Nr.c (by omega) Nr.n))
                                        have rk1987_8 : MG hp B hc1985 (5) (pml hp ((C3) (c) (c)) ((C3) (i2) (k2))) := (rk1984_8).fr hp2 mfc1986 (Nr.c (by omega) (Nr.c (by omega) Nr.n))
                                        have rk1987_9 : MG hp B hc1985 (6) (pml hp ((C3) (i2) (c)) ((C3) (c) (k2))) := (rk1984_9).fr hp2 mfc1986 (Nr.c (by omega) (Nr.c (by omega) Nr.n))
                                        have rk1987_10 : MG hp B hc1985 (7) (psb hp (pml hp ((C3) (c) (c)) ((C3) (i2) (k2))) (pml hp ((C3) (i2) (c)) ((C3) (c) (k2)))) := (rn1983_0).fr hp2 mfc1986 (Nr.c (by omega) (Nr.c (by omega) Nr.n))
                                        have fr1987 : MF B [B + 1, B + 3, B + 7] [0, 1, 2, 3, 4, 5, 6, 7, 8, 9, 10] h hc1985 := (fr1984).tr ((mfc1986).mo sub_n (sbI_c (List.Mem.tail _ (List.Mem.tail _ (List.Mem.tail _ (List.Mem.tail _ (List.Mem.tail _ (List.Mem.tail _ (List.Mem.tail _ (List.Mem.tail _ (List.Mem.tail _ (List.Mem.head _)))))))))) (sbI_c (List.Mem.tail _ (List.Mem.tail _ (List.Mem.tail _ (List.Mem.tail _ (List.Mem.tail _ (List.Mem.tail _ (List.Mem.tail _ (List.Mem.tail _ (List.Mem.head _))))))))) sbI_n)))
                                        refine Go.nf (h' := hc1985) (st' := []) rfl rfl (Nat.le_refl _) (Nat.le_refl _) ?_
                                        have hq8 : qt hp (psb hp (pml hp ((C3) (c) (c)) ((C3) (i2) (k2))) (pml hp ((C3) (i2) (c)) ((C3) (c) (k2)))) (pvt (pR hp) A c.toNat) = mqI hp (swr A c.toNat w.toNat) (c + 1) i2 k2 := by
                                                                      rw [hE c c (by omega) (by omega) (by omega) (by omega), if_neg (by omega), hE i2 k2 (by omega) (by omega) (by omega) (by omega), if_neg (by omega), hE i2 c (by omega) (by omega) (by omega) (by omega), if_neg (by omega), hE c k2 (by omega) (by omega) (by omega) (by omega), if_neg (by omega), ← hpv10]
                                                                      exact bar_qI hp hI2 hc.1 (by omega) (by omega) (by omega) (by omega) (by omega)
                                        have hdz : dgi hp (qt hp (psb hp (pml hp ((C3) (c) (c)) ((C3) (i2) (k2))) (pml hp ((C3) (i2) (c)) ((C3) (c) (k2)))) (pvt (pR hp) A c.toNat)) < 80 := by rw [hq8]; exact (hm3 i2 k2 (by omega) (by omega) (by omega) (by omega)).2
                                        refine g_aload_n 8 dX10_byY_490 rfl ?_
                                        refine g_bipush dX10_byY_491 (by decide) ?_
                                        refine g_iload 1 dX10_byY_493 rfl ?_
                                        refine g_iload 0 dX10_byY_495 rfl ?_
                                        refine g_callV (nc2 := 0) (ns2 := 0) (ci := 10) (As := [.int (gI (8)), .int (gI (i2)), .int (gI (k2))]) (st := []) rfl dX10_byY_497 okX10_toSquare lX10_199 itX10_toSquare seX10_toSquare rfl fk1987_0 (by decide) (by decide) rfl (Nat.le_of_ble_eq_true rfl) (sM_toSquare0 N _ B p hp hp2 hf le fc pn rn hn qn (8) (i2) (k2) (by omega) (fun x y => 0 ≤ x ∧ x < dY hp F + dY hp G ∧ 0 ≤ y ∧ y < dY hp F + dY hp G) (C3) (qt hp (psb hp (pml hp ((C3) (c) (c)) ((C3) (i2) (k2))) (pml hp ((C3) (i2) (c)) ((C3) (c) (k2)))) (pvt (pR hp) A c.toNat)) (g7) fk1987_0 (fr1987).2.1 fk1987_2 rk1987_2 rn1986_1 hdz) (by omega) (by omega) (fun v1988 hc1988 q1988 => ?_)
                                        obtain ⟨rfl, mfc1989, f7_1989, mq1989⟩ := q1988
                                        have fk1990_0 : hc1988.2 (B) = some (mO B ((p : Int)) (hf) (le) (fc) (pn) (rn) (hn) (qn)) := Fr.at0 (mfc1989).1 (Ni.c ⟨ne4, ne5⟩ (Ni.c ⟨ne6, ne7⟩ (Ni.n _))) fk1987_0
                                        have fk1990_1 : hc1988.2 (B + 4) = some (aI 1500 (gm)) := Fr.at0 (mfc1989).1 (Ni.c ⟨ne26, ne27⟩ (Ni.c ⟨ne28, ne29⟩ (Ni.n _))) fk1987_1
                                        have rk1990_0 : MP hp B hc1988 (T) := (rk1987_0).fr (mfc1989).1 (Ni.c ⟨ne11, ne12⟩ (Ni.c ⟨ne13, ne14⟩ (Ni.n _))) (Ni.c ⟨ne17, ne18⟩ (Ni.c ⟨ne19, ne20⟩ (Ni.n _)))
                                        have rk1990_1 : MWA B hc1988 := (rk1987_1).fr (mfc1989).1 (Ni.c ⟨ne22, ne23⟩ (Ni.c ⟨ne24, ne25⟩ (Ni.n _)))
                                        have rk1990_3 : MG hp B hc1988 (10) (pvt (pR hp) A c.toNat) := (rk1987_3).fr hp2 mfc1989 Nr.n
                                        have rk1990_4 : MG hp B hc1988 (1) ((C3) (c) (c)) := (rk1987_4).fr hp2 mfc1989 Nr.n
                                        have rk1990_5 : MG hp B hc1988 (2) ((C3) (i2) (k2)) := (rk1987_5).fr hp2 mfc1989 Nr.n
                                        have rk1990_6 : MG hp B hc1988 (3) ((C3) (i2) (c)) := (rk1987_6).fr hp2 mfc1989 Nr.n
                                        have rk1990_7 : MG hp B hc1988 (4) ((C3) (c) (k2)) := (rk1987_7).fr hp2 mfc1989 Nr.n
                                        have rk1990_8 : MG hp B hc1988 (5) (pml hp ((C3) (c) (c)) ((C3) (i2) (k2))) := (rk1987_8).fr hp2 mfc1989 Nr.n
                                        have rk1990_9 : MG hp B hc1988 (6) (pml hp ((C3) (i2) (c)) ((C3) (c) (k2))) := (rk1987_9).fr hp2 mfc1989 Nr.n
                                        have rk1990_10 : MG hp B hc1988 (7) (psb hp (pml hp ((C3) (c) (c)) ((C3) (i2) (k2))) (pml hp ((C3) (i2) (c)) ((C3) (c) (k2)))) := (rk1987_10).fr hp2 mfc1989 Nr.n
                                        have rk1990_11 : MG hp B hc1988 (9) (rm hp (psb hp (pml hp ((C3) (c) (c)) ((C3) (i2) (k2))) (pml hp ((C3) (i2) (c)) ((C3) (c) (k2)))) (pvt (pR hp) A c.toNat)) := (rn1986_0).fr hp2 mfc1989 Nr.n
                                        have rk1990_12 : MG hp B hc1988 (8) (qt hp (psb hp (pml hp ((C3) (c) (c)) ((C3) (i2) (k2))) (pml hp ((C3) (i2) (c)) ((C3) (c) (k2)))) (pvt (pR hp) A c.toNat)) := (rn1986_1).fr hp2 mfc1989 Nr.n
                                        have fr1990 : MF B [B + 1, B + 3, B + 7] [0, 1, 2, 3, 4, 5, 6, 7, 8, 9, 10] h hc1988 := (fr1987).tr ((mfc1989).mo (sub_c (List.Mem.tail _ (List.Mem.tail _ (List.Mem.head _))) sub_n) sbI_n)
                                        refine Go.nf (h' := hc1988) (st' := []) rfl rfl (Nat.le_refl _) (Nat.le_refl _) ?_
                                        refine g_iinc 0 (ls2 := [(10, .int (gI (k2 + 1))), (9, .int (gI (i2))), (6, .int (gI (1))), (8, .int (gI (w))), (7, .int (gI (c))), (5, .int (gI ((dY hp F) + (dY hp G)))), (4, .int (gI (dY hp G))), (3, .int (gI (dY hp F))), (0, .ref (B)), (1, .int (gI (a))), (2, .int (gI (b)))]) dX10_byY_500 rfl (by decide) rfl ?_
                                        refine g_goto (tgt := 411) dX10_byY_503 rfl ?_
                                        exact ih_l2 _ (by omega) (k2 + 1) (cup C3 i2 k2 (qt hp (psb hp (pml hp ((C3) (c) (c)) ((C3) (i2) (k2))) (pml hp ((C3) (i2) (c)) ((C3) (c) (k2)))) (pvt (pR hp) A c.toNat))) hc1988 rfl fr1990 fk1990_1 f7_1989 rk1990_0 rk1990_1 ((mq1989).mono (D2 := fun x y => 0 ≤ x ∧ x < dY hp F + dY hp G ∧ 0 ≤ y ∧ y < dY hp F + dY hp G) (C2 := cup C3 i2 k2 (qt hp (psb hp (pml hp ((C3) (c) (c)) ((C3) (i2) (k2))) (pml hp ((C3) (i2) (c)) ((C3) (c) (k2)))) (pvt (pR hp) A c.toNat))) (fun x y d => Or.inl d) (fun x y d => rfl)) rk1990_3 (by omega) (fun x y x0 x1 y0 y1 => by
                                                                      unfold cup
                                                                      by_cases z : x = i2 ∧ y = k2
                                                                      · rw [if_pos z, if_pos (by omega), hq8, z.1, z.2]
                                                                      · rw [if_neg z, hE x y x0 x1 y0 y1]
                                                                        by_cases q : c < x ∧ c < y ∧ (x < i2 ∨ (x = i2 ∧ y < k2))
                                                                        · rw [if_pos q, if_pos (by omega)]
                                                                        · rw [if_neg q, if_neg (by omega)])
                                    exact l2 _ (c + 1) (C3a) hl1 rfl fr_l1 cf_l1_0 cf_l1_1 cr_l1_0 cr_l1_1 cr_l1_2 cr_l1_3 (by omega) (fun x y x0 x1 y0 y1 => by
                                                                      rw [hEa x y x0 x1 y0 y1]
                                                                      by_cases q : c < x ∧ c < y ∧ (x < i2 )
                                                                      · rw [if_pos q, if_pos (by omega)]
                                                                      · rw [if_neg q, if_neg (by omega)])
                                exact l1 _ (c + 1) (swC C w c k) hls rfl fr_ls cf_ls_0 cf_ls_1 cr_ls_0 cr_ls_1 cr_ls_2 cr_ls_3 (by omega) (fun x y x0 x1 y0 y1 => by rw [if_neg (by omega)]; exact hC2 x y x0 x1 y0 y1)
                            · skip
                              refine g_aload_n 7 dX10_byY_326 rfl ?_
                              refine g_iload 1 dX10_byY_327 rfl ?_
                              refine g_iload 0 dX10_byY_329 rfl ?_
                              refine g_iconst dX10_byY_331 ?_
                              refine g_callV (nc2 := 0) (ns2 := 0) (ci := 10) (As := [.int (gI (w)), .int (gI (k)), .int (gI (2))]) (st := []) rfl dX10_byY_332 okX10_fromSquare lX10_202 itX10_fromSquare seX10_fromSquare rfl cg_ls_0 (by decide) (by decide) rfl (Nat.le_of_ble_eq_true rfl) (sM_fromSquare N _ B p hp hp2 hf le fc pn rn hn qn (w) (k) (2) (by omega) (fun x y => 0 ≤ x ∧ x < dY hp F + dY hp G ∧ 0 ≤ y ∧ y < dY hp F + dY hp G) (swC C w c k) (by omega) cg_ls_0 (fr_ls).2.1 cr_ls_2) (by omega) (by omega) (fun v2191 hc2191 q2191 => ?_)
                              obtain ⟨rfl, mfc2192, rn2192_0⟩ := q2191
                              have fk2193_0 : hc2191.2 (B) = some (mO B ((p : Int)) (hf) (le) (fc) (pn) (rn) (hn) (qn)) := Fr.at0 (mfc2192).1 (Ni.c ⟨ne4, ne5⟩ (Ni.n _)) cg_ls_0
                              have fk2193_1 : hc2191.2 (B + 4) = some (aI 1500 (gm)) := Fr.at0 (mfc2192).1 (Ni.c ⟨ne26, ne27⟩ (Ni.n _)) cf_ls_0
                              have fk2193_2 : hc2191.2 (B + 7) = some (aJ 6400 (g7)) := Fr.at0 (mfc2192).1 (Ni.c ⟨(ne31).s, (ne33).s⟩ (Ni.n _)) cf_ls_1
                              have rk2193_0 : MP hp B hc2191 (T) := (cr_ls_0).fr (mfc2192).1 (Ni.c ⟨ne11, ne12⟩ (Ni.n _)) (Ni.c ⟨ne17, ne18⟩ (Ni.n _))
                              have rk2193_1 : MWA B hc2191 := (cr_ls_1).fr (mfc2192).1 (Ni.c ⟨ne22, ne23⟩ (Ni.n _))
                              have rk2193_2 : MSq hp B hc2191 (fun x y => 0 ≤ x ∧ x < dY hp F + dY hp G ∧ 0 ≤ y ∧ y < dY hp F + dY hp G) (swC C w c k) := (cr_ls_2).fr (mfc2192).1 (Ni.c ⟨(ne32).s, (ne34).s⟩ (Ni.n _))
                              have rk2193_3 : MG hp B hc2191 (10) (pvt (pR hp) A c.toNat) := (cr_ls_3).fr hp2 mfc2192 (Nr.c (by omega) Nr.n)
                              have fr2193 : MF B [B + 1, B + 3, B + 7] [0, 1, 2, 3, 4, 5, 6, 7, 8, 9, 10] h hc2191 := (fr_ls).tr ((mfc2192).mo sub_n (sbI_c (List.Mem.tail _ (List.Mem.tail _ (List.Mem.head _))) sbI_n))
                              refine Go.nf (h' := hc2191) (st' := []) rfl rfl (Nat.le_refl _) (Nat.le_refl _) ?_
                              refine g_aload_n 7 dX10_byY_335 rfl ?_
                              refine g_iload 2 dX10_byY_336 rfl ?_
                              refine g_iload 0 dX10_byY_338 rfl ?_
                              refine g_iconst dX10_byY_340 ?_
                              refine g_callV (nc2 := 0) (ns2 := 0) (ci := 10) (As := [.int (gI (c)), .int (gI (k)), .int (gI (3))]) (st := []) rfl dX10_byY_341 okX10_fromSquare lX10_202 itX10_fromSquare seX10_fromSquare rfl fk2193_0 (by decide) (by decide) rfl (Nat.le_of_ble_eq_true rfl) (sM_fromSquare N _ B p hp hp2 hf le fc pn rn hn qn (c) (k) (3) (by omega) (fun x y => 0 ≤ x ∧ x < dY hp F + dY hp G ∧ 0 ≤ y ∧ y < dY hp F + dY hp G) (swC C w c k) (by omega) fk2193_0 (fr2193).2.1 rk2193_2) (by omega) (by omega) (fun v2194 hc2194 q2194 => ?_)
                              obtain ⟨rfl, mfc2195, rn2195_0⟩ := q2194
                              have fk2196_0 : hc2194.2 (B) = some (mO B ((p : Int)) (hf) (le) (fc) (pn) (rn) (hn) (qn)) := Fr.at0 (mfc2195).1 (Ni.c ⟨ne4, ne5⟩ (Ni.n _)) fk2193_0
                              have fk2196_1 : hc2194.2 (B + 4) = some (aI 1500 (gm)) := Fr.at0 (mfc2195).1 (Ni.c ⟨ne26, ne27⟩ (Ni.n _)) fk2193_1
                              have fk2196_2 : hc2194.2 (B + 7) = some (aJ 6400 (g7)) := Fr.at0 (mfc2195).1 (Ni.c ⟨(ne31).s, (ne33).s⟩ (Ni.n _)) fk2193_2
                              have rk2196_0 : MP hp B hc2194 (T) := (rk2193_0).fr (mfc2195).1 (Ni.c ⟨ne11, ne12⟩ (Ni.n _)) (Ni.c ⟨ne17, ne18⟩ (Ni.n _))
                              have rk2196_1 : MWA B hc2194 := (rk2193_1).fr (mfc2195).1 (Ni.c ⟨ne22, ne23⟩ (Ni.n _))
                              have rk2196_2 : MSq hp B hc2194 (fun x y => 0 ≤ x ∧ x < dY hp F + dY hp G ∧ 0 ≤ y ∧ y < dY hp F + dY hp G) (swC C w c k) := (rk2193_2).fr (mfc2195).1 (Ni.c ⟨(ne32).s, (ne34).s⟩ (Ni.n _))
                              have rk2196_3 : MG hp B hc2194 (10) (pvt (pR hp) A c.toNat) := (rk2193_3).fr hp2 mfc2195 (Nr.c (by omega) Nr.n)
                              have rk2196_4 : MG hp B hc2194 (2) ((swC C w c k) (w) (k)) := (rn2192_0).fr hp2 mfc2195 (Nr.c (by omega) Nr.n)
                              have fr2196 : MF B [B + 1, B + 3, B + 7] [0, 1, 2, 3, 4, 5, 6, 7, 8, 9, 10] h hc2194 := (fr2193).tr ((mfc2195).mo sub_n (sbI_c (List.Mem.tail _ (List.Mem.tail _ (List.Mem.tail _ (List.Mem.head _)))) sbI_n))
                              refine Go.nf (h' := hc2194) (st' := []) rfl rfl (Nat.le_refl _) (Nat.le_refl _) ?_
                              refine g_aload_n 7 dX10_byY_344 rfl ?_
                              refine g_iconst dX10_byY_345 ?_
                              refine g_iload 1 dX10_byY_346 rfl ?_
                              refine g_iload 0 dX10_byY_348 rfl ?_
                              refine g_callV (nc2 := 0) (ns2 := 0) (ci := 10) (As := [.int (gI (3)), .int (gI (w)), .int (gI (k))]) (st := []) rfl dX10_byY_350 okX10_toSquare lX10_199 itX10_toSquare seX10_toSquare rfl fk2196_0 (by decide) (by decide) rfl (Nat.le_of_ble_eq_true rfl) (sM_toSquare0 N _ B p hp hp2 hf le fc pn rn hn qn (3) (w) (k) (by omega) (fun x y => 0 ≤ x ∧ x < dY hp F + dY hp G ∧ 0 ≤ y ∧ y < dY hp F + dY hp G) (swC C w c k) ((swC C w c k) (c) (k)) (g7) fk2196_0 (fr2196).2.1 fk2196_2 rk2196_2 rn2195_0 (hdq _ _ (by omega) (by omega) (by omega) (by omega))) (by omega) (by omega) (fun v2197 hc2197 q2197 => ?_)
                              obtain ⟨rfl, mfc2198, f7_2198, mq2198⟩ := q2197
                              have fk2199_0 : hc2197.2 (B) = some (mO B ((p : Int)) (hf) (le) (fc) (pn) (rn) (hn) (qn)) := Fr.at0 (mfc2198).1 (Ni.c ⟨ne4, ne5⟩ (Ni.c ⟨ne6, ne7⟩ (Ni.n _))) fk2196_0
                              have fk2199_1 : hc2197.2 (B + 4) = some (aI 1500 (gm)) := Fr.at0 (mfc2198).1 (Ni.c ⟨ne26, ne27⟩ (Ni.c ⟨ne28, ne29⟩ (Ni.n _))) fk2196_1
                              have rk2199_0 : MP hp B hc2197 (T) := (rk2196_0).fr (mfc2198).1 (Ni.c ⟨ne11, ne12⟩ (Ni.c ⟨ne13, ne14⟩ (Ni.n _))) (Ni.c ⟨ne17, ne18⟩ (Ni.c ⟨ne19, ne20⟩ (Ni.n _)))
                              have rk2199_1 : MWA B hc2197 := (rk2196_1).fr (mfc2198).1 (Ni.c ⟨ne22, ne23⟩ (Ni.c ⟨ne24, ne25⟩ (Ni.n _)))
                              have rk2199_3 : MG hp B hc2197 (10) (pvt (pR hp) A c.toNat) := (rk2196_3).fr hp2 mfc2198 Nr.n
                              have rk2199_4 : MG hp B hc2197 (2) ((swC C w c k) (w) (k)) := (rk2196_4).fr hp2 mfc2198 Nr.n
                              have rk2199_5 : MG hp B hc2197 (3) ((swC C w c k) (c) (k)) := (rn2195_0).fr hp2 mfc2198 Nr.n
                              have fr2199 : MF B [B + 1, B + 3, B + 7] [0, 1, 2, 3, 4, 5, 6, 7, 8, 9, 10] h hc2197 := (fr2196).tr ((mfc2198).mo (sub_c (List.Mem.tail _ (List.Mem.tail _ (List.Mem.head _))) sub_n) sbI_n)
                              refine Go.nf (h' := hc2197) (st' := []) rfl rfl (Nat.le_refl _) (Nat.le_refl _) ?_
                              refine g_aload_n 7 dX10_byY_353 rfl ?_
                              refine g_iconst dX10_byY_354 ?_
                              refine g_iload 2 dX10_byY_355 rfl ?_
                              refine g_iload 0 dX10_byY_357 rfl ?_
                              refine g_callV (nc2 := 0) (ns2 := 0) (ci := 10) (As := [.int (gI (2)), .int (gI (c)), .int (gI (k))]) (st := []) rfl dX10_byY_359 okX10_toSquare lX10_199 itX10_toSquare seX10_toSquare rfl fk2199_0 (by decide) (by decide) rfl (Nat.le_of_ble_eq_true rfl) (sM_toSquare0 N _ B p hp hp2 hf le fc pn rn hn qn (2) (c) (k) (by omega) (fun a b => (fun x y => 0 ≤ x ∧ x < dY hp F + dY hp G ∧ 0 ≤ y ∧ y < dY hp F + dY hp G) a b ∨ (a = w ∧ b = k)) (cup (swC C w c k) (w) (k) ((swC C w c k) (c) (k))) ((swC C w c k) (w) (k)) (g7) fk2199_0 (fr2199).2.1 f7_2198 mq2198 rk2199_4 (hdq _ _ (by omega) (by omega) (by omega) (by omega))) (by omega) (by omega) (fun v2200 hc2200 q2200 => ?_)
                              obtain ⟨rfl, mfc2201, f7_2201, mq2201⟩ := q2200
                              have fk2202_0 : hc2200.2 (B) = some (mO B ((p : Int)) (hf) (le) (fc) (pn) (rn) (hn) (qn)) := Fr.at0 (mfc2201).1 (Ni.c ⟨ne4, ne5⟩ (Ni.c ⟨ne6, ne7⟩ (Ni.n _))) fk2199_0
                              have fk2202_1 : hc2200.2 (B + 4) = some (aI 1500 (gm)) := Fr.at0 (mfc2201).1 (Ni.c ⟨ne26, ne27⟩ (Ni.c ⟨ne28, ne29⟩ (Ni.n _))) fk2199_1
                              have rk2202_0 : MP hp B hc2200 (T) := (rk2199_0).fr (mfc2201).1 (Ni.c ⟨ne11, ne12⟩ (Ni.c ⟨ne13, ne14⟩ (Ni.n _))) (Ni.c ⟨ne17, ne18⟩ (Ni.c ⟨ne19, ne20⟩ (Ni.n _)))
                              have rk2202_1 : MWA B hc2200 := (rk2199_1).fr (mfc2201).1 (Ni.c ⟨ne22, ne23⟩ (Ni.c ⟨ne24, ne25⟩ (Ni.n _)))
                              have rk2202_2 : MG hp B hc2200 (10) (pvt (pR hp) A c.toNat) := (rk2199_3).fr hp2 mfc2201 Nr.n
                              have rk2202_3 : MG hp B hc2200 (2) ((swC C w c k) (w) (k)) := (rk2199_4).fr hp2 mfc2201 Nr.n
                              have rk2202_4 : MG hp B hc2200 (3) ((swC C w c k) (c) (k)) := (rk2199_5).fr hp2 mfc2201 Nr.n
                              have fr2202 : MF B [B + 1, B + 3, B + 7] [0, 1, 2, 3, 4, 5, 6, 7, 8, 9, 10] h hc2200 := (fr2199).tr ((mfc2201).mo (sub_c (List.Mem.tail _ (List.Mem.tail _ (List.Mem.head _))) sub_n) sbI_n)
                              refine Go.nf (h' := hc2200) (st' := []) rfl rfl (Nat.le_refl _) (Nat.le_refl _) ?_
                              refine g_iinc 0 (ls2 := [(9, .int (gI (k + 1))), (8, .int (gI (w))), (7, .int (gI (c))), (6, .int (gI (tu))), (5, .int (gI ((dY hp F) + (dY hp G)))), (4, .int (gI (dY hp G))), (3, .int (gI (dY hp F))), (0, .ref (B)), (1, .int (gI (a))), (2, .int (gI (b)))]) dX10_byY_362 rfl (by decide) rfl ?_
                              refine g_goto (tgt := 312) dX10_byY_365 rfl ?_
                              exact ih_ls _ (by omega) (k + 1) hc2200 rfl fr2202 fk2202_1 f7_2201 rk2202_0 rk2202_1 ((mq2201).mono (D2 := fun x y => 0 ≤ x ∧ x < dY hp F + dY hp G ∧ 0 ≤ y ∧ y < dY hp F + dY hp G) (C2 := swC C w c (k + 1)) (fun x y d => Or.inl (Or.inl d)) (fun x y d => by
                                                                      have e2 : swC C w c k w k = C w k := by unfold swC; rw [if_neg (by omega)]
                                                                      have e3 : swC C w c k c k = C c k := by unfold swC; rw [if_neg (by omega)]
                                                                      rw [e2, e3]; exact swC_s C (show w ≠ c by omega) x y)) rk2202_2 (by omega) (Or.inr (by omega))
                        exact ls _ (0) hlw rfl fr_lw cf_lw_0 cf_lw_1 cr_lw_0 cr_lw_1 ((cr_lw_2).mono (D2 := fun x y => 0 ≤ x ∧ x < dY hp F + dY hp G ∧ 0 ≤ y ∧ y < dY hp F + dY hp G) (C2 := swC C w c 0) (fun x y d => d) (fun x y d => by unfold swC; rw [if_neg (by omega)])) cr_lw_3 (by omega) (Or.inl rfl)
                      · skip
                        have hR0 : resY hp F G = cz hp (zi hp 0) := by
                                                                      rw [← hR, cz_z0, show (dY hp F + dY hp G - 1 - c).toNat = (dY hp F + dY hp G - 1 - c).toNat - 1 + 1 by omega]
                                                                      exact barR_none hp hc.1 (fun s s0 s1 => hZ s s0 (by omega)) (fun s s0 s1 => (hmp s c s0 s1 (by omega) (by omega)).1)
                        refine g_aload_n 6 dX10_byY_297 rfl ?_
                        refine g_iconst dX10_byY_298 ?_
                        refine g_iconst dX10_byY_299 ?_
                        refine g_callV (nc2 := 0) (ns2 := 0) (ci := 10) (As := [.int (gI (2)), .int (gI (0))]) (st := []) rfl dX10_byY_300 okX10_be lX10_170 itX10_be seX10_be rfl cg_lw_0 (by decide) (by decide) rfl (Nat.le_of_ble_eq_true rfl) (sM_be N _ B p hp hp2 hf le fc pn rn hn qn (2) (0) (by omega) (by omega) (by omega) cg_lw_0 (fr_lw).2.1) (by omega) (by omega) (fun v2303 hc2303 q2303 => ?_)
                        obtain ⟨rfl, mfc2304, rn2304_0⟩ := q2303
                        have fk2305_0 : hc2303.2 (B) = some (mO B ((p : Int)) (hf) (le) (fc) (pn) (rn) (hn) (qn)) := Fr.at0 (mfc2304).1 (Ni.c ⟨ne4, ne5⟩ (Ni.n _)) cg_lw_0
                        have fk2305_1 : hc2303.2 (B + 4) = some (aI 1500 (gm)) := Fr.at0 (mfc2304).1 (Ni.c ⟨ne26, ne27⟩ (Ni.n _)) cf_lw_0
                        have fk2305_2 : hc2303.2 (B + 7) = some (aJ 6400 (g7)) := Fr.at0 (mfc2304).1 (Ni.c ⟨(ne31).s, (ne33).s⟩ (Ni.n _)) cf_lw_1
                        have rk2305_0 : MP hp B hc2303 (T) := (cr_lw_0).fr (mfc2304).1 (Ni.c ⟨ne11, ne12⟩ (Ni.n _)) (Ni.c ⟨ne17, ne18⟩ (Ni.n _))
                        have rk2305_1 : MWA B hc2303 := (cr_lw_1).fr (mfc2304).1 (Ni.c ⟨ne22, ne23⟩ (Ni.n _))
                        have rk2305_2 : MSq hp B hc2303 (fun x y => 0 ≤ x ∧ x < dY hp F + dY hp G ∧ 0 ≤ y ∧ y < dY hp F + dY hp G) (C) := (cr_lw_2).fr (mfc2304).1 (Ni.c ⟨(ne32).s, (ne34).s⟩ (Ni.n _))
                        have rk2305_3 : MG hp B hc2303 (10) (pvt (pR hp) A c.toNat) := (cr_lw_3).fr hp2 mfc2304 (Nr.c (by omega) Nr.n)
                        have rk2305_4 : MG hp B hc2303 (1) (f1) := (cr_lw_4).fr hp2 mfc2304 (Nr.c (by omega) Nr.n)
                        have fr2305 : MF B [B + 1, B + 3, B + 7] [0, 1, 2, 3, 4, 5, 6, 7, 8, 9, 10] h hc2303 := (fr_lw).tr ((mfc2304).mo sub_n (sbI_c (List.Mem.tail _ (List.Mem.tail _ (List.Mem.head _))) sbI_n))
                        refine Go.nf (h' := hc2303) (st' := []) rfl rfl (Nat.le_refl _) (Nat.le_refl _) ?_
                        refine g_aload_n 6 dX10_byY_303 rfl ?_
                        refine g_iconst dX10_byY_304 ?_
                        refine g_callV (nc2 := 0) (ns2 := 0) (ci := 10) (As := [.int (gI (2))]) (st := []) rfl dX10_byY_305 okX10_keepRegister lX10_182 itX10_keepRegister seX10_keepRegister rfl fk2305_0 (by decide) (by decide) rfl (Nat.le_of_ble_eq_true rfl) (sM_keepR N _ B p hp hp2 hf le fc pn rn hn qn T (2) (cz hp (zi hp (0))) (gm) fk2305_0 rk2305_0 rk2305_1 fk2305_1 rn2304_0) (by omega) (by omega) (fun v2306 hc2306 q2306 => ?_)
                        obtain ⟨mfc2307, f4_2307, mwa2307, w2307, T2_2307, hO2307, rfl, mp2307⟩ := q2306
                        have fk2308_0 : hc2306.2 (B) = some (mO B ((p : Int)) (hf) (le) (fc) (pn) (rn) (hn) (qn)) := Fr.at0 (mfc2307).1 (Ni.c ⟨ne4, ne5⟩ (Ni.c ⟨ne0, ne1⟩ (Ni.c ⟨ne2, ne3⟩ (Ni.n _)))) fk2305_0
                        have fk2308_2 : hc2306.2 (B + 7) = some (aJ 6400 (g7)) := Fr.at0 (mfc2307).1 (Ni.c ⟨(ne31).s, (ne33).s⟩ (Ni.c ⟨(ne13).s, (ne19).s⟩ (Ni.c ⟨(ne24).s, (ne28).s⟩ (Ni.n _)))) fk2305_2
                        have rk2308_2 : MSq hp B hc2306 (fun x y => 0 ≤ x ∧ x < dY hp F + dY hp G ∧ 0 ≤ y ∧ y < dY hp F + dY hp G) (C) := (rk2305_2).fr (mfc2307).1 (Ni.c ⟨(ne32).s, (ne34).s⟩ (Ni.c ⟨(ne14).s, (ne20).s⟩ (Ni.c ⟨(ne25).s, (ne29).s⟩ (Ni.n _))))
                        have rk2308_3 : MG hp B hc2306 (10) (pvt (pR hp) A c.toNat) := (rk2305_3).fr hp2 mfc2307 Nr.n
                        have rk2308_4 : MG hp B hc2306 (1) (f1) := (rk2305_4).fr hp2 mfc2307 Nr.n
                        have rk2308_5 : MG hp B hc2306 (2) (cz hp (zi hp (0))) := (rn2304_0).fr hp2 mfc2307 Nr.n
                        have fr2308 : MF B [B + 1, B + 3, B + 7] [0, 1, 2, 3, 4, 5, 6, 7, 8, 9, 10] h hc2306 := (fr2305).tr ((mfc2307).mo (sub_c (List.Mem.head _) (sub_c (List.Mem.tail _ (List.Mem.head _)) sub_n)) sbI_n)
                        refine Go.nf (h' := hc2306) (st' := [.int (gI (w2307))]) rfl rfl (Nat.le_refl _) (Nat.le_refl _) ?_
                        exact g_iret dX10_byY_308 rfl ⟨((fr2308).1.mo (sub_c (List.Mem.tail _ (List.Mem.tail _ (List.Mem.head _))) (sub_c (List.Mem.head _) (sub_c (List.Mem.tail _ (List.Mem.head _)) (sub_c (List.Mem.tail _ (List.Mem.tail _ (List.Mem.tail _ (List.Mem.head _)))) sub_n))))), ⟨(fr2308).2.1, mwa2307, ⟨_, f4_2307⟩, ⟨_, fk2308_2⟩, (rk2308_2).o⟩, w2307, T2_2307, (by unfold pa12; rw [if_neg (by omega), hR0]; exact hO2307), rfl, mp2307⟩
                    · skip
                      refine g_aload_n 6 dX10_byY_259 rfl ?_
                      refine g_getf 6 dX10_byY_260 kX10 (by decide) fX10_26 cg_lw_0 rfl ?_
                      refine g_iconst dX10_byY_263 ?_
                      obtain ⟨dz2309, ez2309, fz2309⟩ := MG.get cr_lw_4
                      refine g_iaload dX10_byY_264 ez2309 (by omega) (by omega) (by omega) ?_
                      rw [fz2309]
                      refine g_if_ge (tgt := 290) dX10_byY_265 rfl (by first | (unfold gW; omega) | (unfold gW; split <;> omega)) (fun c2310 => ?_) (fun c2310 => ?_)
                      · skip
                        refine g_iload 0 dX10_byY_290 rfl ?_
                        refine g_iload 3 dX10_byY_292 rfl ?_
                        refine g_icmp_ne (tgt := 309) dX10_byY_294 rfl (by first | (unfold gW; omega) | (unfold gW; split <;> omega)) (by first | (unfold gW; omega) | (unfold gW; split <;> omega)) (fun c2311 => ?_) (fun c2311 => ?_)
                        · skip
                          have hf1b := hw1 (by omega)
                          have hpvt : isPv hp (dY hp F + dY hp G).toNat c.toNat A w.toNat := isPv_I hp hc.1 hw.1 (by omega) (by rw [← hf1b]; omega) hZ (fun s s0 s1 => (hmp s c s0 s1 (by omega) (by omega)).1)
                          have hI2 : barI hp (dY hp F + dY hp G).toNat c.toNat (swr A c.toNat w.toNat) := barI_sw hp hI (by omega) (by omega)
                          refine g_iconst dX10_byY_309 ?_
                          refine g_istore (ls2 := [(9, .int (gI (0))), (8, .int (gI (w))), (7, .int (gI (c))), (6, .int (gI (tu))), (5, .int (gI ((dY hp F) + (dY hp G)))), (4, .int (gI (dY hp G))), (3, .int (gI (dY hp F))), (0, .ref (B)), (1, .int (gI (a))), (2, .int (gI (b)))]) dX10_byY_310 (by decide) rfl ?_
                          have hpv10 : pvt (pR hp) (swr A c.toNat w.toNat) c.toNat = pvt (pR hp) A c.toNat := pvt_cg _ (fun a b ha => swr_row A (by omega) (by omega) b)
                          have ls : ∀ (kk : Nat) (k : Int) (hls : GH), kk = (12 - k).toNat → MF B [B + 1, B + 3, B + 7] [0, 1, 2, 3, 4, 5, 6, 7, 8, 9, 10] h hls → hls.2 (B + 4) = some (aI 1500 (gm)) → hls.2 (B + 7) = some (aJ 6400 (g7)) → MP hp B hls (T) → MWA B hls → MSq hp B hls (fun x y => 0 ≤ x ∧ x < dY hp F + dY hp G ∧ 0 ≤ y ∧ y < dY hp F + dY hp G) (swC C w c k) → MG hp B hls (10) (pvt (pR hp) A c.toNat) → (0 ≤ k ∧ k ≤ dY hp F + dY hp G) → (k = 0 ∨ w ≠ c) → Go N mX10_byY (fun v h1 => Fr [B + 1, B + 3, B + 5, B + 7] h h1 ∧ MS B h1 ∧ ∃ w T2, Ou T (pa12 hp F G) w T2 ∧ v = some (.int (gI w)) ∧ MP hp B h1 T2) 0 0 hls 312 [(9, .int (gI (k))), (8, .int (gI (w))), (7, .int (gI (c))), (6, .int (gI (tu))), (5, .int (gI ((dY hp F) + (dY hp G)))), (4, .int (gI (dY hp G))), (3, .int (gI (dY hp F))), (0, .ref (B)), (1, .int (gI (a))), (2, .int (gI (b)))] [] := by
                            refine Go.ind (fun kk ih_ls => ?_)
                            intro k hls hkk_ls fr_ls cf_ls_0 cf_ls_1 cr_ls_0 cr_ls_1 cr_ls_2 cr_ls_3 hk hkw
                            have cg_ls_0 : hls.2 (B) = some (mO B ((p : Int)) (hf) (le) (fc) (pn) (rn) (hn) (qn)) := Fr.at0 (fr_ls).1 (Ni.c ⟨ne4, ne5⟩ (Ni.c ⟨ne0, ne1⟩ (Ni.c ⟨ne2, ne3⟩ (Ni.c ⟨ne6, ne7⟩ (Ni.n _))))) hm
                            have hdq : ∀ x y : Int, 0 ≤ x → x < dY hp F + dY hp G → 0 ≤ y → y < dY hp F + dY hp G → dgi hp (swC C w c k x y) < 80 := fun x y x0 x1 y0 y1 => ((cr_ls_2).at (i := x) (k := y) ⟨x0, x1, y0, y1⟩).2.2
                            refine g_iload 0 dX10_byY_312 rfl ?_
                            refine g_iload 4 dX10_byY_314 rfl ?_
                            refine g_icmp_ge (tgt := 368) dX10_byY_316 rfl (by first | (unfold gW; omega) | (unfold gW; split <;> omega)) (by first | (unfold gW; omega) | (unfold gW; split <;> omega)) (fun c2412 => ?_) (fun c2412 => ?_)
                            · skip
                              have hkS : k = dY hp F + dY hp G ∨ w = c := by omega
                              have hC2 : ∀ i q, c ≤ i → i < dY hp F + dY hp G → c ≤ q → q < dY hp F + dY hp G → swC C w c k i q = mqI hp (swr A c.toNat w.toNat) c i q := fun i q i0 i1 q0 q1 => swC_m hp hC hc.1 hw.1 (by omega) hkS i0 i1 q0 q1
                              refine g_iload 3 dX10_byY_368 rfl ?_
                              refine g_iload 1 dX10_byY_370 rfl ?_
                              refine g_iload 2 dX10_byY_372 rfl ?_
                              refine g_icmp_eq (tgt := 381) dX10_byY_374 rfl (by first | (unfold gW; omega) | (unfold gW; split <;> omega)) (by first | (unfold gW; omega) | (unfold gW; split <;> omega)) (fun c2413 => absurd c2413 (by omega)) (fun c2413 => ?_)
                              refine g_iconst dX10_byY_377 ?_
                              refine g_goto (tgt := 382) dX10_byY_378 rfl ?_
                              refine g_icmp_eq (tgt := 389) dX10_byY_382 rfl (by first | (unfold gW; omega) | (unfold gW; split <;> omega)) (by first | (unfold gW; omega) | (unfold gW; split <;> omega)) (fun c2414 => ?_) (fun c2414 => ?_)
                              · skip
                                refine g_iconst dX10_byY_389 ?_
                                refine g_istore (ls2 := [(6, .int (gI (0))), (9, .int (gI (k))), (8, .int (gI (w))), (7, .int (gI (c))), (5, .int (gI ((dY hp F) + (dY hp G)))), (4, .int (gI (dY hp G))), (3, .int (gI (dY hp F))), (0, .ref (B)), (1, .int (gI (a))), (2, .int (gI (b)))]) dX10_byY_390 (by decide) rfl ?_
                                have hR2 : barR hp (dY hp F + dY hp G).toNat (dY hp F + dY hp G - 1 - (c + 1)).toNat (c + 1).toNat (swr A c.toNat w.toNat) (decide ((0 : Int) = 1)) = resY hp F G := by
                                                                      rw [← hR, show (dY hp F + dY hp G - 1 - c).toNat = (dY hp F + dY hp G - 1 - (c + 1)).toNat + 1 by omega, barR_s hp hpvt, show (c + 1).toNat = c.toNat + 1 by omega]
                                                                      rw [if_neg (show ¬ w.toNat = c.toNat by omega), show tu = 1 by omega]; rfl
                                refine g_iload 3 dX10_byY_392 rfl ?_
                                refine g_iconst dX10_byY_394 ?_
                                refine g_iadd dX10_byY_395 ?_
                                refine g_istore (ls2 := [(9, .int (gI ((c) + (1)))), (6, .int (gI (0))), (8, .int (gI (w))), (7, .int (gI (c))), (5, .int (gI ((dY hp F) + (dY hp G)))), (4, .int (gI (dY hp G))), (3, .int (gI (dY hp F))), (0, .ref (B)), (1, .int (gI (a))), (2, .int (gI (b)))]) dX10_byY_396 (by decide) rfl ?_
                                have hm2 : ∀ x y, c ≤ x → x < dY hp F + dY hp G → c ≤ y → y < dY hp F + dY hp G → po (fR hp) (mqI hp (swr A c.toNat w.toNat) c x y) ∧ dgi hp (mqI hp (swr A c.toNat w.toNat) c x y) < 80 := fun i q i0 i1 q0 q1 => mqI_po hp hI2 (by omega) hc.1 (by omega) i1 (by omega) q1
                                have hpnz : mqI hp (swr A c.toNat w.toNat) c c c ≠ (letI := pR hp; 0) := by
                                                                      unfold mqI
                                                                      rw [mnr_sw hp A (by omega)]
                                                                      have e9 : swi c.toNat w.toNat c.toNat = w.toNat := if_pos rfl
                                                                      rw [e9]; exact hpvt.2.2.1
                                have hI3 : barI hp (dY hp F + dY hp G).toNat (c + 1).toNat (swr A c.toNat w.toNat) := by
                                                                      rw [show (c + 1).toNat = c.toNat + 1 by omega]
                                                                      exact barI_s hp hI2 (by omega) hpnz
                                have hm3 : ∀ x y, 0 ≤ x → x < dY hp F + dY hp G → 0 ≤ y → y < dY hp F + dY hp G → po (fR hp) (mqI hp (swr A c.toNat w.toNat) (c + 1) x y) ∧ dgi hp (mqI hp (swr A c.toNat w.toNat) (c + 1) x y) < 80 := fun i q i0 i1 q0 q1 => mqI_po hp hI3 (by omega) (by omega) i0 i1 q0 q1
                                have hpk := pvt_po hp hI.1 hI.2.1
                                have hpk0 := dgi_nz hp hpk hI.2.2.1
                                have l1 : ∀ (kk : Nat) (i2 : Int) (C3a : Int → Int → Px p) (hl1 : GH), kk = (12 - i2).toNat → MF B [B + 1, B + 3, B + 7] [0, 1, 2, 3, 4, 5, 6, 7, 8, 9, 10] h hl1 → hl1.2 (B + 4) = some (aI 1500 (gm)) → hl1.2 (B + 7) = some (aJ 6400 (g7)) → MP hp B hl1 (T) → MWA B hl1 → MSq hp B hl1 (fun x y => 0 ≤ x ∧ x < dY hp F + dY hp G ∧ 0 ≤ y ∧ y < dY hp F + dY hp G) (C3a) → MG hp B hl1 (10) (pvt (pR hp) A c.toNat) → (c + 1 ≤ i2 ∧ i2 ≤ dY hp F + dY hp G) → (∀ x y, c ≤ x → x < dY hp F + dY hp G → c ≤ y → y < dY hp F + dY hp G → C3a x y = if c < x ∧ c < y ∧ (x < i2 ) then mqI hp (swr A c.toNat w.toNat) (c + 1) x y else mqI hp (swr A c.toNat w.toNat) c x y) → Go N mX10_byY (fun v h1 => Fr [B + 1, B + 3, B + 5, B + 7] h h1 ∧ MS B h1 ∧ ∃ w T2, Ou T (pa12 hp F G) w T2 ∧ v = some (.int (gI w)) ∧ MP hp B h1 T2) 0 0 hl1 398 [(9, .int (gI (i2))), (6, .int (gI (0))), (8, .int (gI (w))), (7, .int (gI (c))), (5, .int (gI ((dY hp F) + (dY hp G)))), (4, .int (gI (dY hp G))), (3, .int (gI (dY hp F))), (0, .ref (B)), (1, .int (gI (a))), (2, .int (gI (b)))] [] := by
                                  refine Go.ind (fun kk ih_l1 => ?_)
                                  intro i2 C3a hl1 hkk_l1 fr_l1 cf_l1_0 cf_l1_1 cr_l1_0 cr_l1_1 cr_l1_2 cr_l1_3 hi2 hEa
                                  have cg_l1_0 : hl1.2 (B) = some (mO B ((p : Int)) (hf) (le) (fc) (pn) (rn) (hn) (qn)) := Fr.at0 (fr_l1).1 (Ni.c ⟨ne4, ne5⟩ (Ni.c ⟨ne0, ne1⟩ (Ni.c ⟨ne2, ne3⟩ (Ni.c ⟨ne6, ne7⟩ (Ni.n _))))) hm
                                  refine g_iload 0 dX10_byY_398 rfl ?_
                                  refine g_iload 4 dX10_byY_400 rfl ?_
                                  refine g_icmp_ge (tgt := 512) dX10_byY_402 rfl (by first | (unfold gW; omega) | (unfold gW; split <;> omega)) (by first | (unfold gW; omega) | (unfold gW; split <;> omega)) (fun c2515 => ?_) (fun c2515 => ?_)
                                  · skip
                                    refine g_aload_n 7 dX10_byY_512 rfl ?_
                                    refine g_iload 3 dX10_byY_513 rfl ?_
                                    refine g_iload 3 dX10_byY_515 rfl ?_
                                    refine g_bipush dX10_byY_517 (by decide) ?_
                                    refine g_callV (nc2 := 0) (ns2 := 0) (ci := 10) (As := [.int (gI (c)), .int (gI (c)), .int (gI (10))]) (st := []) rfl dX10_byY_519 okX10_fromSquare lX10_202 itX10_fromSquare seX10_fromSquare rfl cg_l1_0 (by decide) (by decide) rfl (Nat.le_of_ble_eq_true rfl) (sM_fromSquare N _ B p hp hp2 hf le fc pn rn hn qn (c) (c) (10) (by omega) (fun x y => 0 ≤ x ∧ x < dY hp F + dY hp G ∧ 0 ≤ y ∧ y < dY hp F + dY hp G) (C3a) (by omega) cg_l1_0 (fr_l1).2.1 cr_l1_2) (by omega) (by omega) (fun v2516 hc2516 q2516 => ?_)
                                    obtain ⟨rfl, mfc2517, rn2517_0⟩ := q2516
                                    have fk2518_0 : hc2516.2 (B) = some (mO B ((p : Int)) (hf) (le) (fc) (pn) (rn) (hn) (qn)) := Fr.at0 (mfc2517).1 (Ni.c ⟨ne4, ne5⟩ (Ni.n _)) cg_l1_0
                                    have fk2518_1 : hc2516.2 (B + 4) = some (aI 1500 (gm)) := Fr.at0 (mfc2517).1 (Ni.c ⟨ne26, ne27⟩ (Ni.n _)) cf_l1_0
                                    have fk2518_2 : hc2516.2 (B + 7) = some (aJ 6400 (g7)) := Fr.at0 (mfc2517).1 (Ni.c ⟨(ne31).s, (ne33).s⟩ (Ni.n _)) cf_l1_1
                                    have rk2518_0 : MP hp B hc2516 (T) := (cr_l1_0).fr (mfc2517).1 (Ni.c ⟨ne11, ne12⟩ (Ni.n _)) (Ni.c ⟨ne17, ne18⟩ (Ni.n _))
                                    have rk2518_1 : MWA B hc2516 := (cr_l1_1).fr (mfc2517).1 (Ni.c ⟨ne22, ne23⟩ (Ni.n _))
                                    have rk2518_2 : MSq hp B hc2516 (fun x y => 0 ≤ x ∧ x < dY hp F + dY hp G ∧ 0 ≤ y ∧ y < dY hp F + dY hp G) (C3a) := (cr_l1_2).fr (mfc2517).1 (Ni.c ⟨(ne32).s, (ne34).s⟩ (Ni.n _))
                                    have fr2518 : MF B [B + 1, B + 3, B + 7] [0, 1, 2, 3, 4, 5, 6, 7, 8, 9, 10] h hc2516 := (fr_l1).tr ((mfc2517).mo sub_n (sbI_c (List.Mem.tail _ (List.Mem.tail _ (List.Mem.tail _ (List.Mem.tail _ (List.Mem.tail _ (List.Mem.tail _ (List.Mem.tail _ (List.Mem.tail _ (List.Mem.tail _ (List.Mem.tail _ (List.Mem.head _))))))))))) sbI_n))
                                    refine Go.nf (h' := hc2516) (st' := []) rfl rfl (Nat.le_refl _) (Nat.le_refl _) ?_
                                    have hp11 : (C3a) (c) (c) = pvt (pR hp) (swr A c.toNat w.toNat) (c + 1).toNat := by
                                                                      rw [hEa c c (by omega) (by omega) (by omega) (by omega), if_neg (by omega), show (c + 1).toNat = c.toNat + 1 by omega, pvt_s]
                                                                      rfl
                                    refine g_iinc 3 (ls2 := [(7, .int (gI (c + 1))), (9, .int (gI (i2))), (6, .int (gI (0))), (8, .int (gI (w))), (5, .int (gI ((dY hp F) + (dY hp G)))), (4, .int (gI (dY hp G))), (3, .int (gI (dY hp F))), (0, .ref (B)), (1, .int (gI (a))), (2, .int (gI (b)))]) dX10_byY_522 rfl (by decide) rfl ?_
                                    refine g_goto (tgt := 230) dX10_byY_525 rfl ?_
                                    refine Go.sub [0, 2, 4, 5, 6, 7, 8, 9] rfl ?_
                                    exact ih_lc _ (by omega) (c + 1) (0) (swr A c.toNat w.toNat) (C3a) hc2516 rfl fr2518 fk2518_1 fk2518_2 rk2518_0 rk2518_1 rk2518_2 (by rw [← hp11]; exact rn2517_0) (by omega) (by omega) hI3 hR2 (fun x y x0 x1 y0 y1 => by rw [hEa x y (by omega) x1 (by omega) y1, if_pos (by omega)])
                                  · skip
                                    refine g_iload 3 dX10_byY_405 rfl ?_
                                    refine g_iconst dX10_byY_407 ?_
                                    refine g_iadd dX10_byY_408 ?_
                                    refine g_istore (ls2 := [(10, .int (gI ((c) + (1)))), (9, .int (gI (i2))), (6, .int (gI (0))), (8, .int (gI (w))), (7, .int (gI (c))), (5, .int (gI ((dY hp F) + (dY hp G)))), (4, .int (gI (dY hp G))), (3, .int (gI (dY hp F))), (0, .ref (B)), (1, .int (gI (a))), (2, .int (gI (b)))]) dX10_byY_409 (by decide) rfl ?_
                                    have l2 : ∀ (kk : Nat) (k2 : Int) (C3 : Int → Int → Px p) (hl2 : GH), kk = (12 - k2).toNat → MF B [B + 1, B + 3, B + 7] [0, 1, 2, 3, 4, 5, 6, 7, 8, 9, 10] h hl2 → hl2.2 (B + 4) = some (aI 1500 (gm)) → hl2.2 (B + 7) = some (aJ 6400 (g7)) → MP hp B hl2 (T) → MWA B hl2 → MSq hp B hl2 (fun x y => 0 ≤ x ∧ x < dY hp F + dY hp G ∧ 0 ≤ y ∧ y < dY hp F + dY hp G) (C3) → MG hp B hl2 (10) (pvt (pR hp) A c.toNat) → (c + 1 ≤ k2 ∧ k2 ≤ dY hp F + dY hp G) → (∀ x y, c ≤ x → x < dY hp F + dY hp G → c ≤ y → y < dY hp F + dY hp G → C3 x y = if c < x ∧ c < y ∧ (x < i2 ∨ (x = i2 ∧ y < k2)) then mqI hp (swr A c.toNat w.toNat) (c + 1) x y else mqI hp (swr A c.toNat w.toNat) c x y) → Go N mX10_byY (fun v h1 => Fr [B + 1, B + 3, B + 5, B + 7] h h1 ∧ MS B h1 ∧ ∃ w T2, Ou T (pa12 hp F G) w T2 ∧ v = some (.int (gI w)) ∧ MP hp B h1 T2) 0 0 hl2 411 [(10, .int (gI (k2))), (9, .int (gI (i2))), (6, .int (gI (0))), (8, .int (gI (w))), (7, .int (gI (c))), (5, .int (gI ((dY hp F) + (dY hp G)))), (4, .int (gI (dY hp G))), (3, .int (gI (dY hp F))), (0, .ref (B)), (1, .int (gI (a))), (2, .int (gI (b)))] [] := by
                                      refine Go.ind (fun kk ih_l2 => ?_)
                                      intro k2 C3 hl2 hkk_l2 fr_l2 cf_l2_0 cf_l2_1 cr_l2_0 cr_l2_1 cr_l2_2 cr_l2_3 hk2 hE
                                      have cg_l2_0 : hl2.2 (B) = some (mO B ((p : Int)) (hf) (le) (fc) (pn) (rn) (hn) (qn)) := Fr.at0 (fr_l2).1 (Ni.c ⟨ne4, ne5⟩ (Ni.c ⟨ne0, ne1⟩ (Ni.c ⟨ne2, ne3⟩ (Ni.c ⟨ne6, ne7⟩ (Ni.n _))))) hm
                                      refine g_iload 0 dX10_byY_411 rfl ?_
                                      refine g_iload 5 dX10_byY_413 rfl ?_
                                      refine g_icmp_ge (tgt := 506) dX10_byY_415 rfl (by first | (unfold gW; omega) | (unfold gW; split <;> omega)) (by first | (unfold gW; omega) | (unfold gW; split <;> omega)) (fun c2619 => ?_) (fun c2619 => ?_)
                                      · skip
                                        refine g_iinc 1 (ls2 := [(9, .int (gI (i2 + 1))), (10, .int (gI (k2))), (6, .int (gI (0))), (8, .int (gI (w))), (7, .int (gI (c))), (5, .int (gI ((dY hp F) + (dY hp G)))), (4, .int (gI (dY hp G))), (3, .int (gI (dY hp F))), (0, .ref (B)), (1, .int (gI (a))), (2, .int (gI (b)))]) dX10_byY_506 rfl (by decide) rfl ?_
                                        refine g_goto (tgt := 398) dX10_byY_509 rfl ?_
                                        refine Go.sub [0, 2, 3, 4, 5, 6, 7, 8, 9, 10] rfl ?_
                                        exact ih_l1 _ (by omega) (i2 + 1) (C3) hl2 rfl fr_l2 cf_l2_0 cf_l2_1 cr_l2_0 cr_l2_1 cr_l2_2 cr_l2_3 (by omega) (fun x y x0 x1 y0 y1 => by
                                                                      rw [hE x y x0 x1 y0 y1]
                                                                      by_cases q : c < x ∧ c < y ∧ (x < i2 ∨ (x = i2 ∧ y < k2))
                                                                      · rw [if_pos q, if_pos (by omega)]
                                                                      · rw [if_neg q, if_neg (by omega)])
                                      · skip
                                        refine g_aload_n 8 dX10_byY_418 rfl ?_
                                        refine g_iload 4 dX10_byY_419 rfl ?_
                                        refine g_iload 4 dX10_byY_421 rfl ?_
                                        refine g_iconst dX10_byY_423 ?_
                                        refine g_callV (nc2 := 0) (ns2 := 0) (ci := 10) (As := [.int (gI (c)), .int (gI (c)), .int (gI (1))]) (st := []) rfl dX10_byY_424 okX10_fromSquare lX10_202 itX10_fromSquare seX10_fromSquare rfl cg_l2_0 (by decide) (by decide) rfl (Nat.le_of_ble_eq_true rfl) (sM_fromSquare N _ B p hp hp2 hf le fc pn rn hn qn (c) (c) (1) (by omega) (fun x y => 0 ≤ x ∧ x < dY hp F + dY hp G ∧ 0 ≤ y ∧ y < dY hp F + dY hp G) (C3) (by omega) cg_l2_0 (fr_l2).2.1 cr_l2_2) (by omega) (by omega) (fun v2620 hc2620 q2620 => ?_)
                                        obtain ⟨rfl, mfc2621, rn2621_0⟩ := q2620
                                        have fk2622_0 : hc2620.2 (B) = some (mO B ((p : Int)) (hf) (le) (fc) (pn) (rn) (hn) (qn)) := Fr.at0 (mfc2621).1 (Ni.c ⟨ne4, ne5⟩ (Ni.n _)) cg_l2_0
                                        have fk2622_1 : hc2620.2 (B + 4) = some (aI 1500 (gm)) := Fr.at0 (mfc2621).1 (Ni.c ⟨ne26, ne27⟩ (Ni.n _)) cf_l2_0
                                        have fk2622_2 : hc2620.2 (B + 7) = some (aJ 6400 (g7)) := Fr.at0 (mfc2621).1 (Ni.c ⟨(ne31).s, (ne33).s⟩ (Ni.n _)) cf_l2_1
                                        have rk2622_0 : MP hp B hc2620 (T) := (cr_l2_0).fr (mfc2621).1 (Ni.c ⟨ne11, ne12⟩ (Ni.n _)) (Ni.c ⟨ne17, ne18⟩ (Ni.n _))
                                        have rk2622_1 : MWA B hc2620 := (cr_l2_1).fr (mfc2621).1 (Ni.c ⟨ne22, ne23⟩ (Ni.n _))
                                        have rk2622_2 : MSq hp B hc2620 (fun x y => 0 ≤ x ∧ x < dY hp F + dY hp G ∧ 0 ≤ y ∧ y < dY hp F + dY hp G) (C3) := (cr_l2_2).fr (mfc2621).1 (Ni.c ⟨(ne32).s, (ne34).s⟩ (Ni.n _))
                                        have rk2622_3 : MG hp B hc2620 (10) (pvt (pR hp) A c.toNat) := (cr_l2_3).fr hp2 mfc2621 (Nr.c (by omega) Nr.n)
                                        have fr2622 : MF B [B + 1, B + 3, B + 7] [0, 1, 2, 3, 4, 5, 6, 7, 8, 9, 10] h hc2620 := (fr_l2).tr ((mfc2621).mo sub_n (sbI_c (List.Mem.tail _ (List.Mem.head _)) sbI_n))
                                        refine Go.nf (h' := hc2620) (st' := []) rfl rfl (Nat.le_refl _) (Nat.le_refl _) ?_
                                        refine g_aload_n 8 dX10_byY_427 rfl ?_
                                        refine g_iload 1 dX10_byY_428 rfl ?_
                                        refine g_iload 0 dX10_byY_430 rfl ?_
                                        refine g_iconst dX10_byY_432 ?_
                                        refine g_callV (nc2 := 0) (ns2 := 0) (ci := 10) (As := [.int (gI (i2)), .int (gI (k2)), .int (gI (2))]) (st := []) rfl dX10_byY_433 okX10_fromSquare lX10_202 itX10_fromSquare seX10_fromSquare rfl fk2622_0 (by decide) (by decide) rfl (Nat.le_of_ble_eq_true rfl) (sM_fromSquare N _ B p hp hp2 hf le fc pn rn hn qn (i2) (k2) (2) (by omega) (fun x y => 0 ≤ x ∧ x < dY hp F + dY hp G ∧ 0 ≤ y ∧ y < dY hp F + dY hp G) (C3) (by omega) fk2622_0 (fr2622).2.1 rk2622_2) (by omega) (by omega) (fun v2623 hc2623 q2623 => ?_)
                                        obtain ⟨rfl, mfc2624, rn2624_0⟩ := q2623
                                        have fk2625_0 : hc2623.2 (B) = some (mO B ((p : Int)) (hf) (le) (fc) (pn) (rn) (hn) (qn)) := Fr.at0 (mfc2624).1 (Ni.c ⟨ne4, ne5⟩ (Ni.n _)) fk2622_0
                                        have fk2625_1 : hc2623.2 (B + 4) = some (aI 1500 (gm)) := Fr.at0 (mfc2624).1 (Ni.c ⟨ne26, ne27⟩ (Ni.n _)) fk2622_1
                                        have fk2625_2 : hc2623.2 (B + 7) = some (aJ 6400 (g7)) := Fr.at0 (mfc2624).1 (Ni.c ⟨(ne31).s, (ne33).s⟩ (Ni.n _)) fk2622_2
                                        have rk2625_0 : MP hp B hc2623 (T) := (rk2622_0).fr (mfc2624).1 (Ni.c ⟨ne11, ne12⟩ (Ni.n _)) (Ni.c ⟨ne17, ne18⟩ (Ni.n _))
                                        have rk2625_1 : MWA B hc2623 := (rk2622_1).fr (mfc2624).1 (Ni.c ⟨ne22, ne23⟩ (Ni.n _))
                                        have rk2625_2 : MSq hp B hc2623 (fun x y => 0 ≤ x ∧ x < dY hp F + dY hp G ∧ 0 ≤ y ∧ y < dY hp F + dY hp G) (C3) := (rk2622_2).fr (mfc2624).1 (Ni.c ⟨(ne32).s, (ne34).s⟩ (Ni.n _))
                                        have rk2625_3 : MG hp B hc2623 (10) (pvt (pR hp) A c.toNat) := (rk2622_3).fr hp2 mfc2624 (Nr.c (by omega) Nr.n)
                                        have rk2625_4 : MG hp B hc2623 (1) ((C3) (c) (c)) := (rn2621_0).fr hp2 mfc2624 (Nr.c (by omega) Nr.n)
                                        have fr2625 : MF B [B + 1, B + 3, B + 7] [0, 1, 2, 3, 4, 5, 6, 7, 8, 9, 10] h hc2623 := (fr2622).tr ((mfc2624).mo sub_n (sbI_c (List.Mem.tail _ (List.Mem.tail _ (List.Mem.head _))) sbI_n))
                                        refine Go.nf (h' := hc2623) (st' := []) rfl rfl (Nat.le_refl _) (Nat.le_refl _) ?_
                                        refine g_aload_n 8 dX10_byY_436 rfl ?_
                                        refine g_iload 1 dX10_byY_437 rfl ?_
                                        refine g_iload 4 dX10_byY_439 rfl ?_
                                        refine g_iconst dX10_byY_441 ?_
                                        refine g_callV (nc2 := 0) (ns2 := 0) (ci := 10) (As := [.int (gI (i2)), .int (gI (c)), .int (gI (3))]) (st := []) rfl dX10_byY_442 okX10_fromSquare lX10_202 itX10_fromSquare seX10_fromSquare rfl fk2625_0 (by decide) (by decide) rfl (Nat.le_of_ble_eq_true rfl) (sM_fromSquare N _ B p hp hp2 hf le fc pn rn hn qn (i2) (c) (3) (by omega) (fun x y => 0 ≤ x ∧ x < dY hp F + dY hp G ∧ 0 ≤ y ∧ y < dY hp F + dY hp G) (C3) (by omega) fk2625_0 (fr2625).2.1 rk2625_2) (by omega) (by omega) (fun v2626 hc2626 q2626 => ?_)
                                        obtain ⟨rfl, mfc2627, rn2627_0⟩ := q2626
                                        have fk2628_0 : hc2626.2 (B) = some (mO B ((p : Int)) (hf) (le) (fc) (pn) (rn) (hn) (qn)) := Fr.at0 (mfc2627).1 (Ni.c ⟨ne4, ne5⟩ (Ni.n _)) fk2625_0
                                        have fk2628_1 : hc2626.2 (B + 4) = some (aI 1500 (gm)) := Fr.at0 (mfc2627).1 (Ni.c ⟨ne26, ne27⟩ (Ni.n _)) fk2625_1
                                        have fk2628_2 : hc2626.2 (B + 7) = some (aJ 6400 (g7)) := Fr.at0 (mfc2627).1 (Ni.c ⟨(ne31).s, (ne33).s⟩ (Ni.n _)) fk2625_2
                                        have rk2628_0 : MP hp B hc2626 (T) := (rk2625_0).fr (mfc2627).1 (Ni.c ⟨ne11, ne12⟩ (Ni.n _)) (Ni.c ⟨ne17, ne18⟩ (Ni.n _))
                                        have rk2628_1 : MWA B hc2626 := (rk2625_1).fr (mfc2627).1 (Ni.c ⟨ne22, ne23⟩ (Ni.n _))
                                        have rk2628_2 : MSq hp B hc2626 (fun x y => 0 ≤ x ∧ x < dY hp F + dY hp G ∧ 0 ≤ y ∧ y < dY hp F + dY hp G) (C3) := (rk2625_2).fr (mfc2627).1 (Ni.c ⟨(ne32).s, (ne34).s⟩ (Ni.n _))
                                        have rk2628_3 : MG hp B hc2626 (10) (pvt (pR hp) A c.toNat) := (rk2625_3).fr hp2 mfc2627 (Nr.c (by omega) Nr.n)
                                        have rk2628_4 : MG hp B hc2626 (1) ((C3) (c) (c)) := (rk2625_4).fr hp2 mfc2627 (Nr.c (by omega) Nr.n)
                                        have rk2628_5 : MG hp B hc2626 (2) ((C3) (i2) (k2)) := (rn2624_0).fr hp2 mfc2627 (Nr.c (by omega) Nr.n)
                                        have fr2628 : MF B [B + 1, B + 3, B + 7] [0, 1, 2, 3, 4, 5, 6, 7, 8, 9, 10] h hc2626 := (fr2625).tr ((mfc2627).mo sub_n (sbI_c (List.Mem.tail _ (List.Mem.tail _ (List.Mem.tail _ (List.Mem.head _)))) sbI_n))
                                        refine Go.nf (h' := hc2626) (st' := []) rfl rfl (Nat.le_refl _) (Nat.le_refl _) ?_
                                        refine g_aload_n 8 dX10_byY_445 rfl ?_
                                        refine g_iload 4 dX10_byY_446 rfl ?_
                                        refine g_iload 0 dX10_byY_448 rfl ?_
                                        refine g_iconst dX10_byY_450 ?_
                                        refine g_callV (nc2 := 0) (ns2 := 0) (ci := 10) (As := [.int (gI (c)), .int (gI (k2)), .int (gI (4))]) (st := []) rfl dX10_byY_451 okX10_fromSquare lX10_202 itX10_fromSquare seX10_fromSquare rfl fk2628_0 (by decide) (by decide) rfl (Nat.le_of_ble_eq_true rfl) (sM_fromSquare N _ B p hp hp2 hf le fc pn rn hn qn (c) (k2) (4) (by omega) (fun x y => 0 ≤ x ∧ x < dY hp F + dY hp G ∧ 0 ≤ y ∧ y < dY hp F + dY hp G) (C3) (by omega) fk2628_0 (fr2628).2.1 rk2628_2) (by omega) (by omega) (fun v2629 hc2629 q2629 => ?_)
                                        obtain ⟨rfl, mfc2630, rn2630_0⟩ := q2629
                                        have fk2631_0 : hc2629.2 (B) = some (mO B ((p : Int)) (hf) (le) (fc) (pn) (rn) (hn) (qn)) := Fr.at0 (mfc2630).1 (Ni.c ⟨ne4, ne5⟩ (Ni.n _)) fk2628_0
                                        have fk2631_1 : hc2629.2 (B + 4) = some (aI 1500 (gm)) := Fr.at0 (mfc2630).1 (Ni.c ⟨ne26, ne27⟩ (Ni.n _)) fk2628_1
                                        have fk2631_2 : hc2629.2 (B + 7) = some (aJ 6400 (g7)) := Fr.at0 (mfc2630).1 (Ni.c ⟨(ne31).s, (ne33).s⟩ (Ni.n _)) fk2628_2
                                        have rk2631_0 : MP hp B hc2629 (T) := (rk2628_0).fr (mfc2630).1 (Ni.c ⟨ne11, ne12⟩ (Ni.n _)) (Ni.c ⟨ne17, ne18⟩ (Ni.n _))
                                        have rk2631_1 : MWA B hc2629 := (rk2628_1).fr (mfc2630).1 (Ni.c ⟨ne22, ne23⟩ (Ni.n _))
                                        have rk2631_2 : MSq hp B hc2629 (fun x y => 0 ≤ x ∧ x < dY hp F + dY hp G ∧ 0 ≤ y ∧ y < dY hp F + dY hp G) (C3) := (rk2628_2).fr (mfc2630).1 (Ni.c ⟨(ne32).s, (ne34).s⟩ (Ni.n _))
                                        have rk2631_3 : MG hp B hc2629 (10) (pvt (pR hp) A c.toNat) := (rk2628_3).fr hp2 mfc2630 (Nr.c (by omega) Nr.n)
                                        have rk2631_4 : MG hp B hc2629 (1) ((C3) (c) (c)) := (rk2628_4).fr hp2 mfc2630 (Nr.c (by omega) Nr.n)
                                        have rk2631_5 : MG hp B hc2629 (2) ((C3) (i2) (k2)) := (rk2628_5).fr hp2 mfc2630 (Nr.c (by omega) Nr.n)
                                        have rk2631_6 : MG hp B hc2629 (3) ((C3) (i2) (c)) := (rn2627_0).fr hp2 mfc2630 (Nr.c (by omega) Nr.n)
                                        have fr2631 : MF B [B + 1, B + 3, B + 7] [0, 1, 2, 3, 4, 5, 6, 7, 8, 9, 10] h hc2629 := (fr2628).tr ((mfc2630).mo sub_n (sbI_c (List.Mem.tail _ (List.Mem.tail _ (List.Mem.tail _ (List.Mem.tail _ (List.Mem.head _))))) sbI_n))
                                        refine Go.nf (h' := hc2629) (st' := []) rfl rfl (Nat.le_refl _) (Nat.le_refl _) ?_
                                        have hd9 : ∀ x y : Int, 0 ≤ x → x < dY hp F + dY hp G → 0 ≤ y → y < dY hp F + dY hp G → dgi hp (C3 x y) < 80 := fun x y x0 x1 y0 y1 => ((rk2631_2).at (i := x) (k := y) ⟨x0, x1, y0, y1⟩).2.2
                                        have hd2632 := hd9 c c (by omega) (by omega) (by omega) (by omega)
                                        have hd2633 := hd9 i2 k2 (by omega) (by omega) (by omega) (by omega)
                                        have hd2634 := hd9 i2 c (by omega) (by omega) (by omega) (by omega)
                                        have hd2635 := hd9 c k2 (by omega) (by omega) (by omega) (by omega)
                                        refine g_aload_n 8 dX10_byY_454 rfl ?_
                                        refine g_iconst dX10_byY_455 ?_
                                        refine g_iconst dX10_byY_456 ?_
                                        refine g_iconst dX10_byY_457 ?_
                                        refine g_callV (nc2 := 0) (ns2 := 0) (ci := 10) (As := [.int (gI (1)), .int (gI (2)), .int (gI (5))]) (st := []) rfl dX10_byY_458 okX10_product lX10_189 itX10_product seX10_product rfl fk2631_0 (by decide) (by decide) rfl (Nat.le_of_ble_eq_true rfl) (sM_product N _ B p hp hp2 hf le fc pn rn hn qn (1) (2) (5) (by omega) (by omega) (by omega) ((C3) (c) (c)) ((C3) (i2) (k2)) fk2631_0 (fr2631).2.1 rk2631_4 rk2631_5 (by omega)) (by omega) (by omega) (fun v2636 hc2636 q2636 => ?_)
                                        obtain ⟨rfl, mfc2637, rn2637_0⟩ := q2636
                                        have fk2638_0 : hc2636.2 (B) = some (mO B ((p : Int)) (hf) (le) (fc) (pn) (rn) (hn) (qn)) := Fr.at0 (mfc2637).1 (Ni.c ⟨ne4, ne5⟩ (Ni.n _)) fk2631_0
                                        have fk2638_1 : hc2636.2 (B + 4) = some (aI 1500 (gm)) := Fr.at0 (mfc2637).1 (Ni.c ⟨ne26, ne27⟩ (Ni.n _)) fk2631_1
                                        have fk2638_2 : hc2636.2 (B + 7) = some (aJ 6400 (g7)) := Fr.at0 (mfc2637).1 (Ni.c ⟨(ne31).s, (ne33).s⟩ (Ni.n _)) fk2631_2
                                        have rk2638_0 : MP hp B hc2636 (T) := (rk2631_0).fr (mfc2637).1 (Ni.c ⟨ne11, ne12⟩ (Ni.n _)) (Ni.c ⟨ne17, ne18⟩ (Ni.n _))
                                        have rk2638_1 : MWA B hc2636 := (rk2631_1).fr (mfc2637).1 (Ni.c ⟨ne22, ne23⟩ (Ni.n _))
                                        have rk2638_2 : MSq hp B hc2636 (fun x y => 0 ≤ x ∧ x < dY hp F + dY hp G ∧ 0 ≤ y ∧ y < dY hp F + dY hp G) (C3) := (rk2631_2).fr (mfc2637).1 (Ni.c ⟨(ne32).s, (ne34).s⟩ (Ni.n _))
                                        have rk2638_3 : MG hp B hc2636 (10) (pvt (pR hp) A c.toNat) := (rk2631_3).fr hp2 mfc2637 (Nr.c (by omega) Nr.n)
                                        have rk2638_4 : MG hp B hc2636 (1) ((C3) (c) (c)) := (rk2631_4).fr hp2 mfc2637 (Nr.c (by omega) Nr.n)
                                        have rk2638_5 : MG hp B hc2636 (2) ((C3) (i2) (k2)) := (rk2631_5).fr hp2 mfc2637 (Nr.c (by omega) Nr.n)
                                        have rk2638_6 : MG hp B hc2636 (3) ((C3) (i2) (c)) := (rk2631_6).fr hp2 mfc2637 (Nr.c (by omega) Nr.n)
                                        have rk2638_7 : MG hp B hc2636 (4) ((C3) (c) (k2)) := (rn2630_0).fr hp2 mfc2637 (Nr.c (by omega) Nr.n)
                                        have fr2638 : MF B [B + 1, B + 3, B + 7] [0, 1, 2, 3, 4, 5, 6, 7, 8, 9, 10] h hc2636 := (fr2631).tr ((mfc2637).mo sub_n (sbI_c (List.Mem.tail _ (List.Mem.tail _ (List.Mem.tail _ (List.Mem.tail _ (List.Mem.tail _ (List.Mem.head _)))))) sbI_n))
                                        refine Go.nf (h' := hc2636) (st' := []) rfl rfl (Nat.le_refl _) (Nat.le_refl _) ?_
                                        refine g_aload_n 8 dX10_byY_461 rfl ?_
                                        refine g_iconst dX10_byY_462 ?_
                                        refine g_iconst dX10_byY_463 ?_
                                        refine g_bipush dX10_byY_464 (by decide) ?_
                                        refine g_callV (nc2 := 0) (ns2 := 0) (ci := 10) (As := [.int (gI (3)), .int (gI (4)), .int (gI (6))]) (st := []) rfl dX10_byY_466 okX10_product lX10_189 itX10_product seX10_product rfl fk2638_0 (by decide) (by decide) rfl (Nat.le_of_ble_eq_true rfl) (sM_product N _ B p hp hp2 hf le fc pn rn hn qn (3) (4) (6) (by omega) (by omega) (by omega) ((C3) (i2) (c)) ((C3) (c) (k2)) fk2638_0 (fr2638).2.1 rk2638_6 rk2638_7 (by omega)) (by omega) (by omega) (fun v2639 hc2639 q2639 => ?_)
                                        obtain ⟨rfl, mfc2640, rn2640_0⟩ := q2639
                                        have fk2641_0 : hc2639.2 (B) = some (mO B ((p : Int)) (hf) (le) (fc) (pn) (rn) (hn) (qn)) := Fr.at0 (mfc2640).1 (Ni.c ⟨ne4, ne5⟩ (Ni.n _)) fk2638_0
                                        have fk2641_1 : hc2639.2 (B + 4) = some (aI 1500 (gm)) := Fr.at0 (mfc2640).1 (Ni.c ⟨ne26, ne27⟩ (Ni.n _)) fk2638_1
                                        have fk2641_2 : hc2639.2 (B + 7) = some (aJ 6400 (g7)) := Fr.at0 (mfc2640).1 (Ni.c ⟨(ne31).s, (ne33).s⟩ (Ni.n _)) fk2638_2
                                        have rk2641_0 : MP hp B hc2639 (T) := (rk2638_0).fr (mfc2640).1 (Ni.c ⟨ne11, ne12⟩ (Ni.n _)) (Ni.c ⟨ne17, ne18⟩ (Ni.n _))
                                        have rk2641_1 : MWA B hc2639 := (rk2638_1).fr (mfc2640).1 (Ni.c ⟨ne22, ne23⟩ (Ni.n _))
                                        have rk2641_2 : MSq hp B hc2639 (fun x y => 0 ≤ x ∧ x < dY hp F + dY hp G ∧ 0 ≤ y ∧ y < dY hp F + dY hp G) (C3) := (rk2638_2).fr (mfc2640).1 (Ni.c ⟨(ne32).s, (ne34).s⟩ (Ni.n _))
                                        have rk2641_3 : MG hp B hc2639 (10) (pvt (pR hp) A c.toNat) := (rk2638_3).fr hp2 mfc2640 (Nr.c (by omega) Nr.n)
                                        have rk2641_4 : MG hp B hc2639 (1) ((C3) (c) (c)) := (rk2638_4).fr hp2 mfc2640 (Nr.c (by omega) Nr.n)
                                        have rk2641_5 : MG hp B hc2639 (2) ((C3) (i2) (k2)) := (rk2638_5).fr hp2 mfc2640 (Nr.c (by omega) Nr.n)
                                        have rk2641_6 : MG hp B hc2639 (3) ((C3) (i2) (c)) := (rk2638_6).fr hp2 mfc2640 (Nr.c (by omega) Nr.n)
                                        have rk2641_7 : MG hp B hc2639 (4) ((C3) (c) (k2)) := (rk2638_7).fr hp2 mfc2640 (Nr.c (by omega) Nr.n)
                                        have rk2641_8 : MG hp B hc2639 (5) (pml hp ((C3) (c) (c)) ((C3) (i2) (k2))) := (rn2637_0).fr hp2 mfc2640 (Nr.c (by omega) Nr.n)
                                        have fr2641 : MF B [B + 1, B + 3, B + 7] [0, 1, 2, 3, 4, 5, 6, 7, 8, 9, 10] h hc2639 := (fr2638).tr ((mfc2640).mo sub_n (sbI_c (List.Mem.tail _ (List.Mem.tail _ (List.Mem.tail _ (List.Mem.tail _ (List.Mem.tail _ (List.Mem.tail _ (List.Mem.head _))))))) sbI_n))
                                        refine Go.nf (h' := hc2639) (st' := []) rfl rfl (Nat.le_refl _) (Nat.le_refl _) ?_
                                        refine g_aload_n 8 dX10_byY_469 rfl ?_
                                        refine g_iconst dX10_byY_470 ?_
                                        refine g_bipush dX10_byY_471 (by decide) ?_
                                        refine g_bipush dX10_byY_473 (by decide) ?_
                                        refine g_callV (nc2 := 0) (ns2 := 0) (ci := 10) (As := [.int (gI (5)), .int (gI (6)), .int (gI (7))]) (st := []) rfl dX10_byY_475 okX10_minus lX10_192 itX10_minus seX10_minus rfl fk2641_0 (by decide) (by decide) rfl (Nat.le_of_ble_eq_true rfl) (sM_minus N _ B p hp hp2 hf le fc pn rn hn qn (5) (6) (7) (by omega) (pml hp ((C3) (c) (c)) ((C3) (i2) (k2))) (pml hp ((C3) (i2) (c)) ((C3) (c) (k2))) fk2641_0 (fr2641).2.1 rk2641_8 rn2640_0) (by omega) (by omega) (fun v2642 hc2642 q2642 => ?_)
                                        obtain ⟨rfl, mfc2643, rn2643_0⟩ := q2642
                                        have fk2644_0 : hc2642.2 (B) = some (mO B ((p : Int)) (hf) (le) (fc) (pn) (rn) (hn) (qn)) := Fr.at0 (mfc2643).1 (Ni.c ⟨ne4, ne5⟩ (Ni.n _)) fk2641_0
                                        have fk2644_1 : hc2642.2 (B + 4) = some (aI 1500 (gm)) := Fr.at0 (mfc2643).1 (Ni.c ⟨ne26, ne27⟩ (Ni.n _)) fk2641_1
                                        have fk2644_2 : hc2642.2 (B + 7) = some (aJ 6400 (g7)) := Fr.at0 (mfc2643).1 (Ni.c ⟨(ne31).s, (ne33).s⟩ (Ni.n _)) fk2641_2
                                        have rk2644_0 : MP hp B hc2642 (T) := (rk2641_0).fr (mfc2643).1 (Ni.c ⟨ne11, ne12⟩ (Ni.n _)) (Ni.c ⟨ne17, ne18⟩ (Ni.n _))
                                        have rk2644_1 : MWA B hc2642 := (rk2641_1).fr (mfc2643).1 (Ni.c ⟨ne22, ne23⟩ (Ni.n _))
                                        have rk2644_2 : MSq hp B hc2642 (fun x y => 0 ≤ x ∧ x < dY hp F + dY hp G ∧ 0 ≤ y ∧ y < dY hp F + dY hp G) (C3) := (rk2641_2).fr (mfc2643).1 (Ni.c ⟨(ne32).s, (ne34).s⟩ (Ni.n _))
                                        have rk2644_3 : MG hp B hc2642 (10) (pvt (pR hp) A c.toNat) := (rk2641_3).fr hp2 mfc2643 (Nr.c (by omega) Nr.n)
                                        have rk2644_4 : MG hp B hc2642 (1) ((C3) (c) (c)) := (rk2641_4).fr hp2 mfc2643 (Nr.c (by omega) Nr.n)
                                        have rk2644_5 : MG hp B hc2642 (2) ((C3) (i2) (k2)) := (rk2641_5).fr hp2 mfc2643 (Nr.c (by omega) Nr.n)
                                        have rk2644_6 : MG hp B hc2642 (3) ((C3) (i2) (c)) := (rk2641_6).fr hp2 mfc2643 (Nr.c (by omega) Nr.n)
                                        have rk2644_7 : MG hp B hc2642 (4) ((C3) (c) (k2)) := (rk2641_7).fr hp2 mfc2643 (Nr.c (by omega) Nr.n)
                                        have rk2644_8 : MG hp B hc2642 (5) (pml hp ((C3) (c) (c)) ((C3) (i2) (k2))) := (rk2641_8).fr hp2 mfc2643 (Nr.c (by omega) Nr.n)
                                        have rk2644_9 : MG hp B hc2642 (6) (pml hp ((C3) (i2) (c)) ((C3) (c) (k2))) := (rn2640_0).fr hp2 mfc2643 (Nr.c (by omega) Nr.n)
                                        have fr2644 : MF B [B + 1, B + 3, B + 7] [0, 1, 2, 3, 4, 5, 6, 7, 8, 9, 10] h hc2642 := (fr2641).tr ((mfc2643).mo sub_n (sbI_c (List.Mem.tail _ (List.Mem.tail _ (List.Mem.tail _ (List.Mem.tail _ (List.Mem.tail _ (List.Mem.tail _ (List.Mem.tail _ (List.Mem.head _)))))))) sbI_n))
                                        refine Go.nf (h' := hc2642) (st' := []) rfl rfl (Nat.le_refl _) (Nat.le_refl _) ?_
                                        refine g_aload_n 8 dX10_byY_478 rfl ?_
                                        refine g_bipush dX10_byY_479 (by decide) ?_
                                        refine g_bipush dX10_byY_481 (by decide) ?_
                                        refine g_bipush dX10_byY_483 (by decide) ?_
                                        refine g_bipush dX10_byY_485 (by decide) ?_
                                        refine g_callV (nc2 := 0) (ns2 := 0) (ci := 10) (As := [.int (gI (7)), .int (gI (10)), .int (gI (8)), .int (gI (9))]) (st := []) rfl dX10_byY_487 okX10_divide lX10_176 itX10_divide seX10_divide rfl fk2644_0 (by decide) (by decide) rfl (Nat.le_of_ble_eq_true rfl) (sM_divide N _ B p hp hp2 hf le fc pn rn hn qn (7) (10) (8) (9) (by omega) (by omega) (by omega) (by omega) (by omega) (by omega) (psb hp (pml hp ((C3) (c) (c)) ((C3) (i2) (k2))) (pml hp ((C3) (i2) (c)) ((C3) (c) (k2)))) (pvt (pR hp) A c.toNat) fk2644_0 (fr2644).2.1 rn2643_0 rk2644_3 (by omega)) (by omega) (by omega) (fun v2645 hc2645 q2645 => ?_)
                                        obtain ⟨rfl, mfc2646, rn2646_0, rn2646_1⟩ := q2645
                                        have fk2647_0 : hc2645.2 (B) = some (mO B ((p : Int)) (hf) (le) (fc) (pn) (rn) (hn) (qn)) := Fr.at0 (mfc2646).1 (Ni.c ⟨ne4, ne5⟩ (Ni.n _)) fk2644_0
                                        have fk2647_1 : hc2645.2 (B + 4) = some (aI 1500 (gm)) := Fr.at0 (mfc2646).1 (Ni.c ⟨ne26, ne27⟩ (Ni.n _)) fk2644_1
                                        have fk2647_2 : hc2645.2 (B + 7) = some (aJ 6400 (g7)) := Fr.at0 (mfc2646).1 (Ni.c ⟨(ne31).s, (ne33).s⟩ (Ni.n _)) fk2644_2
                                        have rk2647_0 : MP hp B hc2645 (T) := (rk2644_0).fr (mfc2646).1 (Ni.c ⟨ne11, ne12⟩ (Ni.n _)) (Ni.c ⟨ne17, ne18⟩ (Ni.n _))
                                        have rk2647_1 : MWA B hc2645 := (rk2644_1).fr (mfc2646).1 (Ni.c ⟨ne22, ne23⟩ (Ni.n _))
                                        have rk2647_2 : MSq hp B hc2645 (fun x y => 0 ≤ x ∧ x < dY hp F + dY hp G ∧ 0 ≤ y ∧ y < dY hp F + dY hp G) (C3) := (rk2644_2).fr (mfc2646).1 (Ni.c ⟨(ne32).s, (ne34).s⟩ (Ni.n _))
                                        have rk2647_3 : MG hp B hc2645 (10) (pvt (pR hp) A c.toNat) := (rk2644_3).fr hp2 mfc2646 (Nr.c (by omega) (Nr.c (by omega) Nr.n))
                                        have rk2647_4 : MG hp B hc2645 (1) ((C3) (c) (c)) := (rk2644_4).fr hp2 mfc2646 (Nr.c (by omega) (Nr.c (by omega) Nr.n))
                                        have rk2647_5 : MG hp B hc2645 (2) ((C3) (i2) (k2)) := (rk2644_5).fr hp2 mfc2646 (Nr.c (by omega) (Nr.c (by omega) Nr.n))
                                        have rk2647_6 : MG hp B hc2645 (3) ((C3) (i2) (c)) := (rk2644_6).fr hp2 mfc2646 (Nr.c (by omega) (Nr.c (by omega) Nr.n))
                                        have rk2647_7 : MG hp B hc2645 (4) ((C3) (c) (k2)) := (rk2644_7).fr hp2 mfc2646 (Nr.c (by omega) (Nr.c (by omega) Nr.n))
                                        have rk2647_8 : MG hp B hc2645 (5) (pml hp ((C3) (c) (c)) ((C3) (i2) (k2))) := (rk2644_8).fr hp2 mfc2646 (Nr.c (by omega) (Nr.c (by omega) Nr.n))
                                        have rk2647_9 : MG hp B hc2645 (6) (pml hp ((C3) (i2) (c)) ((C3) (c) (k2))) := (rk2644_9).fr hp2 mfc2646 (Nr.c (by omega) (Nr.c (by omega) Nr.n))
                                        have rk2647_10 : MG hp B hc2645 (7) (psb hp (pml hp ((C3) (c) (c)) ((C3) (i2) (k2))) (pml hp ((C3) (i2) (c)) ((C3) (c) (k2)))) := (rn2643_0).fr hp2 mfc2646 (Nr.c (by omega) (Nr.c (by omega) Nr.n))
                                        have fr2647 : MF B [B + 1, B + 3, B + 7] [0, 1, 2, 3, 4, 5, 6, 7, 8, 9, 10] h hc2645 := (fr2644).tr ((mfc2646).mo sub_n (sbI_c (List.Mem.tail _ (List.Mem.tail _ (List.Mem.tail _ (List.Mem.tail _ (List.Mem.tail _ (List.Mem.tail _ (List.Mem.tail _ (List.Mem.tail _ (List.Mem.tail _ (List.Mem.head _)))))))))) (sbI_c (List.Mem.tail _ (List.Mem.tail _ (List.Mem.tail _ (List.Mem.tail _ (List.Mem.tail _ (List.Mem.tail _ (List.Mem.tail _ (List.Mem.tail _ (List.Mem.head _))))))))) sbI_n)))
                                        refine Go.nf (h' := hc2645) (st' := []) rfl rfl (Nat.le_refl _) (Nat.le_refl _) ?_
                                        have hq8 : qt hp (psb hp (pml hp ((C3) (c) (c)) ((C3) (i2) (k2))) (pml hp ((C3) (i2) (c)) ((C3) (c) (k2)))) (pvt (pR hp) A c.toNat) = mqI hp (swr A c.toNat w.toNat) (c + 1) i2 k2 := by
                                                                      rw [hE c c (by omega) (by omega) (by omega) (by omega), if_neg (by omega), hE i2 k2 (by omega) (by omega) (by omega) (by omega), if_neg (by omega), hE i2 c (by omega) (by omega) (by omega) (by omega), if_neg (by omega), hE c k2 (by omega) (by omega) (by omega) (by omega), if_neg (by omega), ← hpv10]
                                                                      exact bar_qI hp hI2 hc.1 (by omega) (by omega) (by omega) (by omega) (by omega)
                                        have hdz : dgi hp (qt hp (psb hp (pml hp ((C3) (c) (c)) ((C3) (i2) (k2))) (pml hp ((C3) (i2) (c)) ((C3) (c) (k2)))) (pvt (pR hp) A c.toNat)) < 80 := by rw [hq8]; exact (hm3 i2 k2 (by omega) (by omega) (by omega) (by omega)).2
                                        refine g_aload_n 8 dX10_byY_490 rfl ?_
                                        refine g_bipush dX10_byY_491 (by decide) ?_
                                        refine g_iload 1 dX10_byY_493 rfl ?_
                                        refine g_iload 0 dX10_byY_495 rfl ?_
                                        refine g_callV (nc2 := 0) (ns2 := 0) (ci := 10) (As := [.int (gI (8)), .int (gI (i2)), .int (gI (k2))]) (st := []) rfl dX10_byY_497 okX10_toSquare lX10_199 itX10_toSquare seX10_toSquare rfl fk2647_0 (by decide) (by decide) rfl (Nat.le_of_ble_eq_true rfl) (sM_toSquare0 N _ B p hp hp2 hf le fc pn rn hn qn (8) (i2) (k2) (by omega) (fun x y => 0 ≤ x ∧ x < dY hp F + dY hp G ∧ 0 ≤ y ∧ y < dY hp F + dY hp G) (C3) (qt hp (psb hp (pml hp ((C3) (c) (c)) ((C3) (i2) (k2))) (pml hp ((C3) (i2) (c)) ((C3) (c) (k2)))) (pvt (pR hp) A c.toNat)) (g7) fk2647_0 (fr2647).2.1 fk2647_2 rk2647_2 rn2646_1 hdz) (by omega) (by omega) (fun v2648 hc2648 q2648 => ?_)
                                        obtain ⟨rfl, mfc2649, f7_2649, mq2649⟩ := q2648
                                        have fk2650_0 : hc2648.2 (B) = some (mO B ((p : Int)) (hf) (le) (fc) (pn) (rn) (hn) (qn)) := Fr.at0 (mfc2649).1 (Ni.c ⟨ne4, ne5⟩ (Ni.c ⟨ne6, ne7⟩ (Ni.n _))) fk2647_0
                                        have fk2650_1 : hc2648.2 (B + 4) = some (aI 1500 (gm)) := Fr.at0 (mfc2649).1 (Ni.c ⟨ne26, ne27⟩ (Ni.c ⟨ne28, ne29⟩ (Ni.n _))) fk2647_1
                                        have rk2650_0 : MP hp B hc2648 (T) := (rk2647_0).fr (mfc2649).1 (Ni.c ⟨ne11, ne12⟩ (Ni.c ⟨ne13, ne14⟩ (Ni.n _))) (Ni.c ⟨ne17, ne18⟩ (Ni.c ⟨ne19, ne20⟩ (Ni.n _)))
                                        have rk2650_1 : MWA B hc2648 := (rk2647_1).fr (mfc2649).1 (Ni.c ⟨ne22, ne23⟩ (Ni.c ⟨ne24, ne25⟩ (Ni.n _)))
                                        have rk2650_3 : MG hp B hc2648 (10) (pvt (pR hp) A c.toNat) := (rk2647_3).fr hp2 mfc2649 Nr.n
                                        have rk2650_4 : MG hp B hc2648 (1) ((C3) (c) (c)) := (rk2647_4).fr hp2 mfc2649 Nr.n
                                        have rk2650_5 : MG hp B hc2648 (2) ((C3) (i2) (k2)) := (rk2647_5).fr hp2 mfc2649 Nr.n
                                        have rk2650_6 : MG hp B hc2648 (3) ((C3) (i2) (c)) := (rk2647_6).fr hp2 mfc2649 Nr.n
                                        have rk2650_7 : MG hp B hc2648 (4) ((C3) (c) (k2)) := (rk2647_7).fr hp2 mfc2649 Nr.n
                                        have rk2650_8 : MG hp B hc2648 (5) (pml hp ((C3) (c) (c)) ((C3) (i2) (k2))) := (rk2647_8).fr hp2 mfc2649 Nr.n
                                        have rk2650_9 : MG hp B hc2648 (6) (pml hp ((C3) (i2) (c)) ((C3) (c) (k2))) := (rk2647_9).fr hp2 mfc2649 Nr.n
                                        have rk2650_10 : MG hp B hc2648 (7) (psb hp (pml hp ((C3) (c) (c)) ((C3) (i2) (k2))) (pml hp ((C3) (i2) (c)) ((C3) (c) (k2)))) := (rk2647_10).fr hp2 mfc2649 Nr.n
                                        have rk2650_11 : MG hp B hc2648 (9) (rm hp (psb hp (pml hp ((C3) (c) (c)) ((C3) (i2) (k2))) (pml hp ((C3) (i2) (c)) ((C3) (c) (k2)))) (pvt (pR hp) A c.toNat)) := (rn2646_0).fr hp2 mfc2649 Nr.n
                                        have rk2650_12 : MG hp B hc2648 (8) (qt hp (psb hp (pml hp ((C3) (c) (c)) ((C3) (i2) (k2))) (pml hp ((C3) (i2) (c)) ((C3) (c) (k2)))) (pvt (pR hp) A c.toNat)) := (rn2646_1).fr hp2 mfc2649 Nr.n
                                        have fr2650 : MF B [B + 1, B + 3, B + 7] [0, 1, 2, 3, 4, 5, 6, 7, 8, 9, 10] h hc2648 := (fr2647).tr ((mfc2649).mo (sub_c (List.Mem.tail _ (List.Mem.tail _ (List.Mem.head _))) sub_n) sbI_n)
                                        refine Go.nf (h' := hc2648) (st' := []) rfl rfl (Nat.le_refl _) (Nat.le_refl _) ?_
                                        refine g_iinc 0 (ls2 := [(10, .int (gI (k2 + 1))), (9, .int (gI (i2))), (6, .int (gI (0))), (8, .int (gI (w))), (7, .int (gI (c))), (5, .int (gI ((dY hp F) + (dY hp G)))), (4, .int (gI (dY hp G))), (3, .int (gI (dY hp F))), (0, .ref (B)), (1, .int (gI (a))), (2, .int (gI (b)))]) dX10_byY_500 rfl (by decide) rfl ?_
                                        refine g_goto (tgt := 411) dX10_byY_503 rfl ?_
                                        exact ih_l2 _ (by omega) (k2 + 1) (cup C3 i2 k2 (qt hp (psb hp (pml hp ((C3) (c) (c)) ((C3) (i2) (k2))) (pml hp ((C3) (i2) (c)) ((C3) (c) (k2)))) (pvt (pR hp) A c.toNat))) hc2648 rfl fr2650 fk2650_1 f7_2649 rk2650_0 rk2650_1 ((mq2649).mono (D2 := fun x y => 0 ≤ x ∧ x < dY hp F + dY hp G ∧ 0 ≤ y ∧ y < dY hp F + dY hp G) (C2 := cup C3 i2 k2 (qt hp (psb hp (pml hp ((C3) (c) (c)) ((C3) (i2) (k2))) (pml hp ((C3) (i2) (c)) ((C3) (c) (k2)))) (pvt (pR hp) A c.toNat))) (fun x y d => Or.inl d) (fun x y d => rfl)) rk2650_3 (by omega) (fun x y x0 x1 y0 y1 => by
                                                                      unfold cup
                                                                      by_cases z : x = i2 ∧ y = k2
                                                                      · rw [if_pos z, if_pos (by omega), hq8, z.1, z.2]
                                                                      · rw [if_neg z, hE x y x0 x1 y0 y1]
                                                                        by_cases q : c < x ∧ c < y ∧ (x < i2 ∨ (x = i2 ∧ y < k2))
                                                                        · rw [if_pos q, if_pos (by omega)]
                                                                        · rw [if_neg q, if_neg (by omega)])
                                    exact l2 _ (c + 1) (C3a) hl1 rfl fr_l1 cf_l1_0 cf_l1_1 cr_l1_0 cr_l1_1 cr_l1_2 cr_l1_3 (by omega) (fun x y x0 x1 y0 y1 => by
                                                                      rw [hEa x y x0 x1 y0 y1]
                                                                      by_cases q : c < x ∧ c < y ∧ (x < i2 )
                                                                      · rw [if_pos q, if_pos (by omega)]
                                                                      · rw [if_neg q, if_neg (by omega)])
                                exact l1 _ (c + 1) (swC C w c k) hls rfl fr_ls cf_ls_0 cf_ls_1 cr_ls_0 cr_ls_1 cr_ls_2 cr_ls_3 (by omega) (fun x y x0 x1 y0 y1 => by rw [if_neg (by omega)]; exact hC2 x y x0 x1 y0 y1)
                              · skip
                                refine g_iconst dX10_byY_385 ?_
                                refine g_goto (tgt := 390) dX10_byY_386 rfl ?_
                                refine g_istore (ls2 := [(6, .int (gI (1))), (9, .int (gI (k))), (8, .int (gI (w))), (7, .int (gI (c))), (5, .int (gI ((dY hp F) + (dY hp G)))), (4, .int (gI (dY hp G))), (3, .int (gI (dY hp F))), (0, .ref (B)), (1, .int (gI (a))), (2, .int (gI (b)))]) dX10_byY_390 (by decide) rfl ?_
                                have hR2 : barR hp (dY hp F + dY hp G).toNat (dY hp F + dY hp G - 1 - (c + 1)).toNat (c + 1).toNat (swr A c.toNat w.toNat) (decide ((1 : Int) = 1)) = resY hp F G := by
                                                                      rw [← hR, show (dY hp F + dY hp G - 1 - c).toNat = (dY hp F + dY hp G - 1 - (c + 1)).toNat + 1 by omega, barR_s hp hpvt, show (c + 1).toNat = c.toNat + 1 by omega]
                                                                      rw [if_neg (show ¬ w.toNat = c.toNat by omega), show tu = 0 by omega]; rfl
                                refine g_iload 3 dX10_byY_392 rfl ?_
                                refine g_iconst dX10_byY_394 ?_
                                refine g_iadd dX10_byY_395 ?_
                                refine g_istore (ls2 := [(9, .int (gI ((c) + (1)))), (6, .int (gI (1))), (8, .int (gI (w))), (7, .int (gI (c))), (5, .int (gI ((dY hp F) + (dY hp G)))), (4, .int (gI (dY hp G))), (3, .int (gI (dY hp F))), (0, .ref (B)), (1, .int (gI (a))), (2, .int (gI (b)))]) dX10_byY_396 (by decide) rfl ?_
                                have hm2 : ∀ x y, c ≤ x → x < dY hp F + dY hp G → c ≤ y → y < dY hp F + dY hp G → po (fR hp) (mqI hp (swr A c.toNat w.toNat) c x y) ∧ dgi hp (mqI hp (swr A c.toNat w.toNat) c x y) < 80 := fun i q i0 i1 q0 q1 => mqI_po hp hI2 (by omega) hc.1 (by omega) i1 (by omega) q1
                                have hpnz : mqI hp (swr A c.toNat w.toNat) c c c ≠ (letI := pR hp; 0) := by
                                                                      unfold mqI
                                                                      rw [mnr_sw hp A (by omega)]
                                                                      have e9 : swi c.toNat w.toNat c.toNat = w.toNat := if_pos rfl
                                                                      rw [e9]; exact hpvt.2.2.1
                                have hI3 : barI hp (dY hp F + dY hp G).toNat (c + 1).toNat (swr A c.toNat w.toNat) := by
                                                                      rw [show (c + 1).toNat = c.toNat + 1 by omega]
                                                                      exact barI_s hp hI2 (by omega) hpnz
                                have hm3 : ∀ x y, 0 ≤ x → x < dY hp F + dY hp G → 0 ≤ y → y < dY hp F + dY hp G → po (fR hp) (mqI hp (swr A c.toNat w.toNat) (c + 1) x y) ∧ dgi hp (mqI hp (swr A c.toNat w.toNat) (c + 1) x y) < 80 := fun i q i0 i1 q0 q1 => mqI_po hp hI3 (by omega) (by omega) i0 i1 q0 q1
                                have hpk := pvt_po hp hI.1 hI.2.1
                                have hpk0 := dgi_nz hp hpk hI.2.2.1
                                have l1 : ∀ (kk : Nat) (i2 : Int) (C3a : Int → Int → Px p) (hl1 : GH), kk = (12 - i2).toNat → MF B [B + 1, B + 3, B + 7] [0, 1, 2, 3, 4, 5, 6, 7, 8, 9, 10] h hl1 → hl1.2 (B + 4) = some (aI 1500 (gm)) → hl1.2 (B + 7) = some (aJ 6400 (g7)) → MP hp B hl1 (T) → MWA B hl1 → MSq hp B hl1 (fun x y => 0 ≤ x ∧ x < dY hp F + dY hp G ∧ 0 ≤ y ∧ y < dY hp F + dY hp G) (C3a) → MG hp B hl1 (10) (pvt (pR hp) A c.toNat) → (c + 1 ≤ i2 ∧ i2 ≤ dY hp F + dY hp G) → (∀ x y, c ≤ x → x < dY hp F + dY hp G → c ≤ y → y < dY hp F + dY hp G → C3a x y = if c < x ∧ c < y ∧ (x < i2 ) then mqI hp (swr A c.toNat w.toNat) (c + 1) x y else mqI hp (swr A c.toNat w.toNat) c x y) → Go N mX10_byY (fun v h1 => Fr [B + 1, B + 3, B + 5, B + 7] h h1 ∧ MS B h1 ∧ ∃ w T2, Ou T (pa12 hp F G) w T2 ∧ v = some (.int (gI w)) ∧ MP hp B h1 T2) 0 0 hl1 398 [(9, .int (gI (i2))), (6, .int (gI (1))), (8, .int (gI (w))), (7, .int (gI (c))), (5, .int (gI ((dY hp F) + (dY hp G)))), (4, .int (gI (dY hp G))), (3, .int (gI (dY hp F))), (0, .ref (B)), (1, .int (gI (a))), (2, .int (gI (b)))] [] := by
                                  refine Go.ind (fun kk ih_l1 => ?_)
                                  intro i2 C3a hl1 hkk_l1 fr_l1 cf_l1_0 cf_l1_1 cr_l1_0 cr_l1_1 cr_l1_2 cr_l1_3 hi2 hEa
                                  have cg_l1_0 : hl1.2 (B) = some (mO B ((p : Int)) (hf) (le) (fc) (pn) (rn) (hn) (qn)) := Fr.at0 (fr_l1).1 (Ni.c ⟨ne4, ne5⟩ (Ni.c ⟨ne0, ne1⟩ (Ni.c ⟨ne2, ne3⟩ (Ni.c ⟨ne6, ne7⟩ (Ni.n _))))) hm
                                  refine g_iload 0 dX10_byY_398 rfl ?_
                                  refine g_iload 4 dX10_byY_400 rfl ?_
                                  refine g_icmp_ge (tgt := 512) dX10_byY_402 rfl (by first | (unfold gW; omega) | (unfold gW; split <;> omega)) (by first | (unfold gW; omega) | (unfold gW; split <;> omega)) (fun c2951 => ?_) (fun c2951 => ?_)
                                  · skip
                                    refine g_aload_n 7 dX10_byY_512 rfl ?_
                                    refine g_iload 3 dX10_byY_513 rfl ?_
                                    refine g_iload 3 dX10_byY_515 rfl ?_
                                    refine g_bipush dX10_byY_517 (by decide) ?_
                                    refine g_callV (nc2 := 0) (ns2 := 0) (ci := 10) (As := [.int (gI (c)), .int (gI (c)), .int (gI (10))]) (st := []) rfl dX10_byY_519 okX10_fromSquare lX10_202 itX10_fromSquare seX10_fromSquare rfl cg_l1_0 (by decide) (by decide) rfl (Nat.le_of_ble_eq_true rfl) (sM_fromSquare N _ B p hp hp2 hf le fc pn rn hn qn (c) (c) (10) (by omega) (fun x y => 0 ≤ x ∧ x < dY hp F + dY hp G ∧ 0 ≤ y ∧ y < dY hp F + dY hp G) (C3a) (by omega) cg_l1_0 (fr_l1).2.1 cr_l1_2) (by omega) (by omega) (fun v2952 hc2952 q2952 => ?_)
                                    obtain ⟨rfl, mfc2953, rn2953_0⟩ := q2952
                                    have fk2954_0 : hc2952.2 (B) = some (mO B ((p : Int)) (hf) (le) (fc) (pn) (rn) (hn) (qn)) := Fr.at0 (mfc2953).1 (Ni.c ⟨ne4, ne5⟩ (Ni.n _)) cg_l1_0
                                    have fk2954_1 : hc2952.2 (B + 4) = some (aI 1500 (gm)) := Fr.at0 (mfc2953).1 (Ni.c ⟨ne26, ne27⟩ (Ni.n _)) cf_l1_0
                                    have fk2954_2 : hc2952.2 (B + 7) = some (aJ 6400 (g7)) := Fr.at0 (mfc2953).1 (Ni.c ⟨(ne31).s, (ne33).s⟩ (Ni.n _)) cf_l1_1
                                    have rk2954_0 : MP hp B hc2952 (T) := (cr_l1_0).fr (mfc2953).1 (Ni.c ⟨ne11, ne12⟩ (Ni.n _)) (Ni.c ⟨ne17, ne18⟩ (Ni.n _))
                                    have rk2954_1 : MWA B hc2952 := (cr_l1_1).fr (mfc2953).1 (Ni.c ⟨ne22, ne23⟩ (Ni.n _))
                                    have rk2954_2 : MSq hp B hc2952 (fun x y => 0 ≤ x ∧ x < dY hp F + dY hp G ∧ 0 ≤ y ∧ y < dY hp F + dY hp G) (C3a) := (cr_l1_2).fr (mfc2953).1 (Ni.c ⟨(ne32).s, (ne34).s⟩ (Ni.n _))
                                    have fr2954 : MF B [B + 1, B + 3, B + 7] [0, 1, 2, 3, 4, 5, 6, 7, 8, 9, 10] h hc2952 := (fr_l1).tr ((mfc2953).mo sub_n (sbI_c (List.Mem.tail _ (List.Mem.tail _ (List.Mem.tail _ (List.Mem.tail _ (List.Mem.tail _ (List.Mem.tail _ (List.Mem.tail _ (List.Mem.tail _ (List.Mem.tail _ (List.Mem.tail _ (List.Mem.head _))))))))))) sbI_n))
                                    refine Go.nf (h' := hc2952) (st' := []) rfl rfl (Nat.le_refl _) (Nat.le_refl _) ?_
                                    have hp11 : (C3a) (c) (c) = pvt (pR hp) (swr A c.toNat w.toNat) (c + 1).toNat := by
                                                                      rw [hEa c c (by omega) (by omega) (by omega) (by omega), if_neg (by omega), show (c + 1).toNat = c.toNat + 1 by omega, pvt_s]
                                                                      rfl
                                    refine g_iinc 3 (ls2 := [(7, .int (gI (c + 1))), (9, .int (gI (i2))), (6, .int (gI (1))), (8, .int (gI (w))), (5, .int (gI ((dY hp F) + (dY hp G)))), (4, .int (gI (dY hp G))), (3, .int (gI (dY hp F))), (0, .ref (B)), (1, .int (gI (a))), (2, .int (gI (b)))]) dX10_byY_522 rfl (by decide) rfl ?_
                                    refine g_goto (tgt := 230) dX10_byY_525 rfl ?_
                                    refine Go.sub [0, 2, 4, 5, 6, 7, 8, 9] rfl ?_
                                    exact ih_lc _ (by omega) (c + 1) (1) (swr A c.toNat w.toNat) (C3a) hc2952 rfl fr2954 fk2954_1 fk2954_2 rk2954_0 rk2954_1 rk2954_2 (by rw [← hp11]; exact rn2953_0) (by omega) (by omega) hI3 hR2 (fun x y x0 x1 y0 y1 => by rw [hEa x y (by omega) x1 (by omega) y1, if_pos (by omega)])
                                  · skip
                                    refine g_iload 3 dX10_byY_405 rfl ?_
                                    refine g_iconst dX10_byY_407 ?_
                                    refine g_iadd dX10_byY_408 ?_
                                    refine g_istore (ls2 := [(10, .int (gI ((c) + (1)))), (9, .int (gI (i2))), (6, .int (gI (1))), (8, .int (gI (w))), (7, .int (gI (c))), (5, .int (gI ((dY hp F) + (dY hp G)))), (4, .int (gI (dY hp G))), (3, .int (gI (dY hp F))), (0, .ref (B)), (1, .int (gI (a))), (2, .int (gI (b)))]) dX10_byY_409 (by decide) rfl ?_
                                    have l2 : ∀ (kk : Nat) (k2 : Int) (C3 : Int → Int → Px p) (hl2 : GH), kk = (12 - k2).toNat → MF B [B + 1, B + 3, B + 7] [0, 1, 2, 3, 4, 5, 6, 7, 8, 9, 10] h hl2 → hl2.2 (B + 4) = some (aI 1500 (gm)) → hl2.2 (B + 7) = some (aJ 6400 (g7)) → MP hp B hl2 (T) → MWA B hl2 → MSq hp B hl2 (fun x y => 0 ≤ x ∧ x < dY hp F + dY hp G ∧ 0 ≤ y ∧ y < dY hp F + dY hp G) (C3) → MG hp B hl2 (10) (pvt (pR hp) A c.toNat) → (c + 1 ≤ k2 ∧ k2 ≤ dY hp F + dY hp G) → (∀ x y, c ≤ x → x < dY hp F + dY hp G → c ≤ y → y < dY hp F + dY hp G → C3 x y = if c < x ∧ c < y ∧ (x < i2 ∨ (x = i2 ∧ y < k2)) then mqI hp (swr A c.toNat w.toNat) (c + 1) x y else mqI hp (swr A c.toNat w.toNat) c x y) → Go N mX10_byY (fun v h1 => Fr [B + 1, B + 3, B + 5, B + 7] h h1 ∧ MS B h1 ∧ ∃ w T2, Ou T (pa12 hp F G) w T2 ∧ v = some (.int (gI w)) ∧ MP hp B h1 T2) 0 0 hl2 411 [(10, .int (gI (k2))), (9, .int (gI (i2))), (6, .int (gI (1))), (8, .int (gI (w))), (7, .int (gI (c))), (5, .int (gI ((dY hp F) + (dY hp G)))), (4, .int (gI (dY hp G))), (3, .int (gI (dY hp F))), (0, .ref (B)), (1, .int (gI (a))), (2, .int (gI (b)))] [] := by
                                      refine Go.ind (fun kk ih_l2 => ?_)
                                      intro k2 C3 hl2 hkk_l2 fr_l2 cf_l2_0 cf_l2_1 cr_l2_0 cr_l2_1 cr_l2_2 cr_l2_3 hk2 hE
                                      have cg_l2_0 : hl2.2 (B) = some (mO B ((p : Int)) (hf) (le) (fc) (pn) (rn) (hn) (qn)) := Fr.at0 (fr_l2).1 (Ni.c ⟨ne4, ne5⟩ (Ni.c ⟨ne0, ne1⟩ (Ni.c ⟨ne2, ne3⟩ (Ni.c ⟨ne6, ne7⟩ (Ni.n _))))) hm
                                      refine g_iload 0 dX10_byY_411 rfl ?_
                                      refine g_iload 5 dX10_byY_413 rfl ?_
                                      refine g_icmp_ge (tgt := 506) dX10_byY_415 rfl (by first | (unfold gW; omega) | (unfold gW; split <;> omega)) (by first | (unfold gW; omega) | (unfold gW; split <;> omega)) (fun c3055 => ?_) (fun c3055 => ?_)
                                      · skip
                                        refine g_iinc 1 (ls2 := [(9, .int (gI (i2 + 1))), (10, .int (gI (k2))), (6, .int (gI (1))), (8, .int (gI (w))), (7, .int (gI (c))), (5, .int (gI ((dY hp F) + (dY hp G)))), (4, .int (gI (dY hp G))), (3, .int (gI (dY hp F))), (0, .ref (B)), (1, .int (gI (a))), (2, .int (gI (b)))]) dX10_byY_506 rfl (by decide) rfl ?_
                                        refine g_goto (tgt := 398) dX10_byY_509 rfl ?_
                                        refine Go.sub [0, 2, 3, 4, 5, 6, 7, 8, 9, 10] rfl ?_
                                        exact ih_l1 _ (by omega) (i2 + 1) (C3) hl2 rfl fr_l2 cf_l2_0 cf_l2_1 cr_l2_0 cr_l2_1 cr_l2_2 cr_l2_3 (by omega) (fun x y x0 x1 y0 y1 => by
                                                                      rw [hE x y x0 x1 y0 y1]
                                                                      by_cases q : c < x ∧ c < y ∧ (x < i2 ∨ (x = i2 ∧ y < k2))
                                                                      · rw [if_pos q, if_pos (by omega)]
                                                                      · rw [if_neg q, if_neg (by omega)])
                                      · skip
                                        refine g_aload_n 8 dX10_byY_418 rfl ?_
                                        refine g_iload 4 dX10_byY_419 rfl ?_
                                        refine g_iload 4 dX10_byY_421 rfl ?_
                                        refine g_iconst dX10_byY_423 ?_
                                        refine g_callV (nc2 := 0) (ns2 := 0) (ci := 10) (As := [.int (gI (c)), .int (gI (c)), .int (gI (1))]) (st := []) rfl dX10_byY_424 okX10_fromSquare lX10_202 itX10_fromSquare seX10_fromSquare rfl cg_l2_0 (by decide) (by decide) rfl (Nat.le_of_ble_eq_true rfl) (sM_fromSquare N _ B p hp hp2 hf le fc pn rn hn qn (c) (c) (1) (by omega) (fun x y => 0 ≤ x ∧ x < dY hp F + dY hp G ∧ 0 ≤ y ∧ y < dY hp F + dY hp G) (C3) (by omega) cg_l2_0 (fr_l2).2.1 cr_l2_2) (by omega) (by omega) (fun v3056 hc3056 q3056 => ?_)
                                        obtain ⟨rfl, mfc3057, rn3057_0⟩ := q3056
                                        have fk3058_0 : hc3056.2 (B) = some (mO B ((p : Int)) (hf) (le) (fc) (pn) (rn) (hn) (qn)) := Fr.at0 (mfc3057).1 (Ni.c ⟨ne4, ne5⟩ (Ni.n _)) cg_l2_0
                                        have fk3058_1 : hc3056.2 (B + 4) = some (aI 1500 (gm)) := Fr.at0 (mfc3057).1 (Ni.c ⟨ne26, ne27⟩ (Ni.n _)) cf_l2_0
                                        have fk3058_2 : hc3056.2 (B + 7) = some (aJ 6400 (g7)) := Fr.at0 (mfc3057).1 (Ni.c ⟨(ne31).s, (ne33).s⟩ (Ni.n _)) cf_l2_1
                                        have rk3058_0 : MP hp B hc3056 (T) := (cr_l2_0).fr (mfc3057).1 (Ni.c ⟨ne11, ne12⟩ (Ni.n _)) (Ni.c ⟨ne17, ne18⟩ (Ni.n _))
                                        have rk3058_1 : MWA B hc3056 := (cr_l2_1).fr (mfc3057).1 (Ni.c ⟨ne22, ne23⟩ (Ni.n _))
                                        have rk3058_2 : MSq hp B hc3056 (fun x y => 0 ≤ x ∧ x < dY hp F + dY hp G ∧ 0 ≤ y ∧ y < dY hp F + dY hp G) (C3) := (cr_l2_2).fr (mfc3057).1 (Ni.c ⟨(ne32).s, (ne34).s⟩ (Ni.n _))
                                        have rk3058_3 : MG hp B hc3056 (10) (pvt (pR hp) A c.toNat) := (cr_l2_3).fr hp2 mfc3057 (Nr.c (by omega) Nr.n)
                                        have fr3058 : MF B [B + 1, B + 3, B + 7] [0, 1, 2, 3, 4, 5, 6, 7, 8, 9, 10] h hc3056 := (fr_l2).tr ((mfc3057).mo sub_n (sbI_c (List.Mem.tail _ (List.Mem.head _)) sbI_n))
                                        refine Go.nf (h' := hc3056) (st' := []) rfl rfl (Nat.le_refl _) (Nat.le_refl _) ?_
                                        refine g_aload_n 8 dX10_byY_427 rfl ?_
                                        refine g_iload 1 dX10_byY_428 rfl ?_
                                        refine g_iload 0 dX10_byY_430 rfl ?_
                                        refine g_iconst dX10_byY_432 ?_
                                        refine g_callV (nc2 := 0) (ns2 := 0) (ci := 10) (As := [.int (gI (i2)), .int (gI (k2)), .int (gI (2))]) (st := []) rfl dX10_byY_433 okX10_fromSquare lX10_202 itX10_fromSquare seX10_fromSquare rfl fk3058_0 (by decide) (by decide) rfl (Nat.le_of_ble_eq_true rfl) (sM_fromSquare N _ B p hp hp2 hf le fc pn rn hn qn (i2) (k2) (2) (by omega) (fun x y => 0 ≤ x ∧ x < dY hp F + dY hp G ∧ 0 ≤ y ∧ y < dY hp F + dY hp G) (C3) (by omega) fk3058_0 (fr3058).2.1 rk3058_2) (by omega) (by omega) (fun v3059 hc3059 q3059 => ?_)
                                        obtain ⟨rfl, mfc3060, rn3060_0⟩ := q3059
                                        have fk3061_0 : hc3059.2 (B) = some (mO B ((p : Int)) (hf) (le) (fc) (pn) (rn) (hn) (qn)) := Fr.at0 (mfc3060).1 (Ni.c ⟨ne4, ne5⟩ (Ni.n _)) fk3058_0
                                        have fk3061_1 : hc3059.2 (B + 4) = some (aI 1500 (gm)) := Fr.at0 (mfc3060).1 (Ni.c ⟨ne26, ne27⟩ (Ni.n _)) fk3058_1
                                        have fk3061_2 : hc3059.2 (B + 7) = some (aJ 6400 (g7)) := Fr.at0 (mfc3060).1 (Ni.c ⟨(ne31).s, (ne33).s⟩ (Ni.n _)) fk3058_2
                                        have rk3061_0 : MP hp B hc3059 (T) := (rk3058_0).fr (mfc3060).1 (Ni.c ⟨ne11, ne12⟩ (Ni.n _)) (Ni.c ⟨ne17, ne18⟩ (Ni.n _))
                                        have rk3061_1 : MWA B hc3059 := (rk3058_1).fr (mfc3060).1 (Ni.c ⟨ne22, ne23⟩ (Ni.n _))
                                        have rk3061_2 : MSq hp B hc3059 (fun x y => 0 ≤ x ∧ x < dY hp F + dY hp G ∧ 0 ≤ y ∧ y < dY hp F + dY hp G) (C3) := (rk3058_2).fr (mfc3060).1 (Ni.c ⟨(ne32).s, (ne34).s⟩ (Ni.n _))
                                        have rk3061_3 : MG hp B hc3059 (10) (pvt (pR hp) A c.toNat) := (rk3058_3).fr hp2 mfc3060 (Nr.c (by omega) Nr.n)
                                        have rk3061_4 : MG hp B hc3059 (1) ((C3) (c) (c)) := (rn3057_0).fr hp2 mfc3060 (Nr.c (by omega) Nr.n)
                                        have fr3061 : MF B [B + 1, B + 3, B + 7] [0, 1, 2, 3, 4, 5, 6, 7, 8, 9, 10] h hc3059 := (fr3058).tr ((mfc3060).mo sub_n (sbI_c (List.Mem.tail _ (List.Mem.tail _ (List.Mem.head _))) sbI_n))
                                        refine Go.nf (h' := hc3059) (st' := []) rfl rfl (Nat.le_refl _) (Nat.le_refl _) ?_
                                        refine g_aload_n 8 dX10_byY_436 rfl ?_
                                        refine g_iload 1 dX10_byY_437 rfl ?_
                                        refine g_iload 4 dX10_byY_439 rfl ?_
                                        refine g_iconst dX10_byY_441 ?_
                                        refine g_callV (nc2 := 0) (ns2 := 0) (ci := 10) (As := [.int (gI (i2)), .int (gI (c)), .int (gI (3))]) (st := []) rfl dX10_byY_442 okX10_fromSquare lX10_202 itX10_fromSquare seX10_fromSquare rfl fk3061_0 (by decide) (by decide) rfl (Nat.le_of_ble_eq_true rfl) (sM_fromSquare N _ B p hp hp2 hf le fc pn rn hn qn (i2) (c) (3) (by omega) (fun x y => 0 ≤ x ∧ x < dY hp F + dY hp G ∧ 0 ≤ y ∧ y < dY hp F + dY hp G) (C3) (by omega) fk3061_0 (fr3061).2.1 rk3061_2) (by omega) (by omega) (fun v3062 hc3062 q3062 => ?_)
                                        obtain ⟨rfl, mfc3063, rn3063_0⟩ := q3062
                                        have fk3064_0 : hc3062.2 (B) = some (mO B ((p : Int)) (hf) (le) (fc) (pn) (rn) (hn) (qn)) := Fr.at0 (mfc3063).1 (Ni.c ⟨ne4, ne5⟩ (Ni.n _)) fk3061_0
                                        have fk3064_1 : hc3062.2 (B + 4) = some (aI 1500 (gm)) := Fr.at0 (mfc3063).1 (Ni.c ⟨ne26, ne27⟩ (Ni.n _)) fk3061_1
                                        have fk3064_2 : hc3062.2 (B + 7) = some (aJ 6400 (g7)) := Fr.at0 (mfc3063).1 (Ni.c ⟨(ne31).s, (ne33).s⟩ (Ni.n _)) fk3061_2
                                        have rk3064_0 : MP hp B hc3062 (T) := (rk3061_0).fr (mfc3063).1 (Ni.c ⟨ne11, ne12⟩ (Ni.n _)) (Ni.c ⟨ne17, ne18⟩ (Ni.n _))
                                        have rk3064_1 : MWA B hc3062 := (rk3061_1).fr (mfc3063).1 (Ni.c ⟨ne22, ne23⟩ (Ni.n _))
                                        have rk3064_2 : MSq hp B hc3062 (fun x y => 0 ≤ x ∧ x < dY hp F + dY hp G ∧ 0 ≤ y ∧ y < dY hp F + dY hp G) (C3) := (rk3061_2).fr (mfc3063).1 (Ni.c ⟨(ne32).s, (ne34).s⟩ (Ni.n _))
                                        have rk3064_3 : MG hp B hc3062 (10) (pvt (pR hp) A c.toNat) := (rk3061_3).fr hp2 mfc3063 (Nr.c (by omega) Nr.n)
                                        have rk3064_4 : MG hp B hc3062 (1) ((C3) (c) (c)) := (rk3061_4).fr hp2 mfc3063 (Nr.c (by omega) Nr.n)
                                        have rk3064_5 : MG hp B hc3062 (2) ((C3) (i2) (k2)) := (rn3060_0).fr hp2 mfc3063 (Nr.c (by omega) Nr.n)
                                        have fr3064 : MF B [B + 1, B + 3, B + 7] [0, 1, 2, 3, 4, 5, 6, 7, 8, 9, 10] h hc3062 := (fr3061).tr ((mfc3063).mo sub_n (sbI_c (List.Mem.tail _ (List.Mem.tail _ (List.Mem.tail _ (List.Mem.head _)))) sbI_n))
                                        refine Go.nf (h' := hc3062) (st' := []) rfl rfl (Nat.le_refl _) (Nat.le_refl _) ?_
                                        refine g_aload_n 8 dX10_byY_445 rfl ?_
                                        refine g_iload 4 dX10_byY_446 rfl ?_
                                        refine g_iload 0 dX10_byY_448 rfl ?_
                                        refine g_iconst dX10_byY_450 ?_
                                        refine g_callV (nc2 := 0) (ns2 := 0) (ci := 10) (As := [.int (gI (c)), .int (gI (k2)), .int (gI (4))]) (st := []) rfl dX10_byY_451 okX10_fromSquare lX10_202 itX10_fromSquare seX10_fromSquare rfl fk3064_0 (by decide) (by decide) rfl (Nat.le_of_ble_eq_true rfl) (sM_fromSquare N _ B p hp hp2 hf le fc pn rn hn qn (c) (k2) (4) (by omega) (fun x y => 0 ≤ x ∧ x < dY hp F + dY hp G ∧ 0 ≤ y ∧ y < dY hp F + dY hp G) (C3) (by omega) fk3064_0 (fr3064).2.1 rk3064_2) (by omega) (by omega) (fun v3065 hc3065 q3065 => ?_)
                                        obtain ⟨rfl, mfc3066, rn3066_0⟩ := q3065
                                        have fk3067_0 : hc3065.2 (B) = some (mO B ((p : Int)) (hf) (le) (fc) (pn) (rn) (hn) (qn)) := Fr.at0 (mfc3066).1 (Ni.c ⟨ne4, ne5⟩ (Ni.n _)) fk3064_0
                                        have fk3067_1 : hc3065.2 (B + 4) = some (aI 1500 (gm)) := Fr.at0 (mfc3066).1 (Ni.c ⟨ne26, ne27⟩ (Ni.n _)) fk3064_1
                                        have fk3067_2 : hc3065.2 (B + 7) = some (aJ 6400 (g7)) := Fr.at0 (mfc3066).1 (Ni.c ⟨(ne31).s, (ne33).s⟩ (Ni.n _)) fk3064_2
                                        have rk3067_0 : MP hp B hc3065 (T) := (rk3064_0).fr (mfc3066).1 (Ni.c ⟨ne11, ne12⟩ (Ni.n _)) (Ni.c ⟨ne17, ne18⟩ (Ni.n _))
                                        have rk3067_1 : MWA B hc3065 := (rk3064_1).fr (mfc3066).1 (Ni.c ⟨ne22, ne23⟩ (Ni.n _))
                                        have rk3067_2 : MSq hp B hc3065 (fun x y => 0 ≤ x ∧ x < dY hp F + dY hp G ∧ 0 ≤ y ∧ y < dY hp F + dY hp G) (C3) := (rk3064_2).fr (mfc3066).1 (Ni.c ⟨(ne32).s, (ne34).s⟩ (Ni.n _))
                                        have rk3067_3 : MG hp B hc3065 (10) (pvt (pR hp) A c.toNat) := (rk3064_3).fr hp2 mfc3066 (Nr.c (by omega) Nr.n)
                                        have rk3067_4 : MG hp B hc3065 (1) ((C3) (c) (c)) := (rk3064_4).fr hp2 mfc3066 (Nr.c (by omega) Nr.n)
                                        have rk3067_5 : MG hp B hc3065 (2) ((C3) (i2) (k2)) := (rk3064_5).fr hp2 mfc3066 (Nr.c (by omega) Nr.n)
                                        have rk3067_6 : MG hp B hc3065 (3) ((C3) (i2) (c)) := (rn3063_0).fr hp2 mfc3066 (Nr.c (by omega) Nr.n)
                                        have fr3067 : MF B [B + 1, B + 3, B + 7] [0, 1, 2, 3, 4, 5, 6, 7, 8, 9, 10] h hc3065 := (fr3064).tr ((mfc3066).mo sub_n (sbI_c (List.Mem.tail _ (List.Mem.tail _ (List.Mem.tail _ (List.Mem.tail _ (List.Mem.head _))))) sbI_n))
                                        refine Go.nf (h' := hc3065) (st' := []) rfl rfl (Nat.le_refl _) (Nat.le_refl _) ?_
                                        have hd9 : ∀ x y : Int, 0 ≤ x → x < dY hp F + dY hp G → 0 ≤ y → y < dY hp F + dY hp G → dgi hp (C3 x y) < 80 := fun x y x0 x1 y0 y1 => ((rk3067_2).at (i := x) (k := y) ⟨x0, x1, y0, y1⟩).2.2
                                        have hd3068 := hd9 c c (by omega) (by omega) (by omega) (by omega)
                                        have hd3069 := hd9 i2 k2 (by omega) (by omega) (by omega) (by omega)
                                        have hd3070 := hd9 i2 c (by omega) (by omega) (by omega) (by omega)
                                        have hd3071 := hd9 c k2 (by omega) (by omega) (by omega) (by omega)
                                        refine g_aload_n 8 dX10_byY_454 rfl ?_
                                        refine g_iconst dX10_byY_455 ?_
                                        refine g_iconst dX10_byY_456 ?_
                                        refine g_iconst dX10_byY_457 ?_
                                        refine g_callV (nc2 := 0) (ns2 := 0) (ci := 10) (As := [.int (gI (1)), .int (gI (2)), .int (gI (5))]) (st := []) rfl dX10_byY_458 okX10_product lX10_189 itX10_product seX10_product rfl fk3067_0 (by decide) (by decide) rfl (Nat.le_of_ble_eq_true rfl) (sM_product N _ B p hp hp2 hf le fc pn rn hn qn (1) (2) (5) (by omega) (by omega) (by omega) ((C3) (c) (c)) ((C3) (i2) (k2)) fk3067_0 (fr3067).2.1 rk3067_4 rk3067_5 (by omega)) (by omega) (by omega) (fun v3072 hc3072 q3072 => ?_)
                                        obtain ⟨rfl, mfc3073, rn3073_0⟩ := q3072
                                        have fk3074_0 : hc3072.2 (B) = some (mO B ((p : Int)) (hf) (le) (fc) (pn) (rn) (hn) (qn)) := Fr.at0 (mfc3073).1 (Ni.c ⟨ne4, ne5⟩ (Ni.n _)) fk3067_0
                                        have fk3074_1 : hc3072.2 (B + 4) = some (aI 1500 (gm)) := Fr.at0 (mfc3073).1 (Ni.c ⟨ne26, ne27⟩ (Ni.n _)) fk3067_1
                                        have fk3074_2 : hc3072.2 (B + 7) = some (aJ 6400 (g7)) := Fr.at0 (mfc3073).1 (Ni.c ⟨(ne31).s, (ne33).s⟩ (Ni.n _)) fk3067_2
                                        have rk3074_0 : MP hp B hc3072 (T) := (rk3067_0).fr (mfc3073).1 (Ni.c ⟨ne11, ne12⟩ (Ni.n _)) (Ni.c ⟨ne17, ne18⟩ (Ni.n _))
                                        have rk3074_1 : MWA B hc3072 := (rk3067_1).fr (mfc3073).1 (Ni.c ⟨ne22, ne23⟩ (Ni.n _))
                                        have rk3074_2 : MSq hp B hc3072 (fun x y => 0 ≤ x ∧ x < dY hp F + dY hp G ∧ 0 ≤ y ∧ y < dY hp F + dY hp G) (C3) := (rk3067_2).fr (mfc3073).1 (Ni.c ⟨(ne32).s, (ne34).s⟩ (Ni.n _))
                                        have rk3074_3 : MG hp B hc3072 (10) (pvt (pR hp) A c.toNat) := (rk3067_3).fr hp2 mfc3073 (Nr.c (by omega) Nr.n)
                                        have rk3074_4 : MG hp B hc3072 (1) ((C3) (c) (c)) := (rk3067_4).fr hp2 mfc3073 (Nr.c (by omega) Nr.n)
                                        have rk3074_5 : MG hp B hc3072 (2) ((C3) (i2) (k2)) := (rk3067_5).fr hp2 mfc3073 (Nr.c (by omega) Nr.n)
                                        have rk3074_6 : MG hp B hc3072 (3) ((C3) (i2) (c)) := (rk3067_6).fr hp2 mfc3073 (Nr.c (by omega) Nr.n)
                                        have rk3074_7 : MG hp B hc3072 (4) ((C3) (c) (k2)) := (rn3066_0).fr hp2 mfc3073 (Nr.c (by omega) Nr.n)
                                        have fr3074 : MF B [B + 1, B + 3, B + 7] [0, 1, 2, 3, 4, 5, 6, 7, 8, 9, 10] h hc3072 := (fr3067).tr ((mfc3073).mo sub_n (sbI_c (List.Mem.tail _ (List.Mem.tail _ (List.Mem.tail _ (List.Mem.tail _ (List.Mem.tail _ (List.Mem.head _)))))) sbI_n))
                                        refine Go.nf (h' := hc3072) (st' := []) rfl rfl (Nat.le_refl _) (Nat.le_refl _) ?_
                                        refine g_aload_n 8 dX10_byY_461 rfl ?_
                                        refine g_iconst dX10_byY_462 ?_
                                        refine g_iconst dX10_byY_463 ?_
                                        refine g_bipush dX10_byY_464 (by decide) ?_
                                        refine g_callV (nc2 := 0) (ns2 := 0) (ci := 10) (As := [.int (gI (3)), .int (gI (4)), .int (gI (6))]) (st := []) rfl dX10_byY_466 okX10_product lX10_189 itX10_product seX10_product rfl fk3074_0 (by decide) (by decide) rfl (Nat.le_of_ble_eq_true rfl) (sM_product N _ B p hp hp2 hf le fc pn rn hn qn (3) (4) (6) (by omega) (by omega) (by omega) ((C3) (i2) (c)) ((C3) (c) (k2)) fk3074_0 (fr3074).2.1 rk3074_6 rk3074_7 (by omega)) (by omega) (by omega) (fun v3075 hc3075 q3075 => ?_)
                                        obtain ⟨rfl, mfc3076, rn3076_0⟩ := q3075
                                        have fk3077_0 : hc3075.2 (B) = some (mO B ((p : Int)) (hf) (le) (fc) (pn) (rn) (hn) (qn)) := Fr.at0 (mfc3076).1 (Ni.c ⟨ne4, ne5⟩ (Ni.n _)) fk3074_0
                                        have fk3077_1 : hc3075.2 (B + 4) = some (aI 1500 (gm)) := Fr.at0 (mfc3076).1 (Ni.c ⟨ne26, ne27⟩ (Ni.n _)) fk3074_1
                                        have fk3077_2 : hc3075.2 (B + 7) = some (aJ 6400 (g7)) := Fr.at0 (mfc3076).1 (Ni.c ⟨(ne31).s, (ne33).s⟩ (Ni.n _)) fk3074_2
                                        have rk3077_0 : MP hp B hc3075 (T) := (rk3074_0).fr (mfc3076).1 (Ni.c ⟨ne11, ne12⟩ (Ni.n _)) (Ni.c ⟨ne17, ne18⟩ (Ni.n _))
                                        have rk3077_1 : MWA B hc3075 := (rk3074_1).fr (mfc3076).1 (Ni.c ⟨ne22, ne23⟩ (Ni.n _))
                                        have rk3077_2 : MSq hp B hc3075 (fun x y => 0 ≤ x ∧ x < dY hp F + dY hp G ∧ 0 ≤ y ∧ y < dY hp F + dY hp G) (C3) := (rk3074_2).fr (mfc3076).1 (Ni.c ⟨(ne32).s, (ne34).s⟩ (Ni.n _))
                                        have rk3077_3 : MG hp B hc3075 (10) (pvt (pR hp) A c.toNat) := (rk3074_3).fr hp2 mfc3076 (Nr.c (by omega) Nr.n)
                                        have rk3077_4 : MG hp B hc3075 (1) ((C3) (c) (c)) := (rk3074_4).fr hp2 mfc3076 (Nr.c (by omega) Nr.n)
                                        have rk3077_5 : MG hp B hc3075 (2) ((C3) (i2) (k2)) := (rk3074_5).fr hp2 mfc3076 (Nr.c (by omega) Nr.n)
                                        have rk3077_6 : MG hp B hc3075 (3) ((C3) (i2) (c)) := (rk3074_6).fr hp2 mfc3076 (Nr.c (by omega) Nr.n)
                                        have rk3077_7 : MG hp B hc3075 (4) ((C3) (c) (k2)) := (rk3074_7).fr hp2 mfc3076 (Nr.c (by omega) Nr.n)
                                        have rk3077_8 : MG hp B hc3075 (5) (pml hp ((C3) (c) (c)) ((C3) (i2) (k2))) := (rn3073_0).fr hp2 mfc3076 (Nr.c (by omega) Nr.n)
                                        have fr3077 : MF B [B + 1, B + 3, B + 7] [0, 1, 2, 3, 4, 5, 6, 7, 8, 9, 10] h hc3075 := (fr3074).tr ((mfc3076).mo sub_n (sbI_c (List.Mem.tail _ (List.Mem.tail _ (List.Mem.tail _ (List.Mem.tail _ (List.Mem.tail _ (List.Mem.tail _ (List.Mem.head _))))))) sbI_n))
                                        refine Go.nf (h' := hc3075) (st' := []) rfl rfl (Nat.le_refl _) (Nat.le_refl _) ?_
                                        refine g_aload_n 8 dX10_byY_469 rfl ?_
                                        refine g_iconst dX10_byY_470 ?_
                                        refine g_bipush dX10_byY_471 (by decide) ?_
                                        refine g_bipush dX10_byY_473 (by decide) ?_
                                        refine g_callV (nc2 := 0) (ns2 := 0) (ci := 10) (As := [.int (gI (5)), .int (gI (6)), .int (gI (7))]) (st := []) rfl dX10_byY_475 okX10_minus lX10_192 itX10_minus seX10_minus rfl fk3077_0 (by decide) (by decide) rfl (Nat.le_of_ble_eq_true rfl) (sM_minus N _ B p hp hp2 hf le fc pn rn hn qn (5) (6) (7) (by omega) (pml hp ((C3) (c) (c)) ((C3) (i2) (k2))) (pml hp ((C3) (i2) (c)) ((C3) (c) (k2))) fk3077_0 (fr3077).2.1 rk3077_8 rn3076_0) (by omega) (by omega) (fun v3078 hc3078 q3078 => ?_)
                                        obtain ⟨rfl, mfc3079, rn3079_0⟩ := q3078
                                        have fk3080_0 : hc3078.2 (B) = some (mO B ((p : Int)) (hf) (le) (fc) (pn) (rn) (hn) (qn)) := Fr.at0 (mfc3079).1 (Ni.c ⟨ne4, ne5⟩ (Ni.n _)) fk3077_0
                                        have fk3080_1 : hc3078.2 (B + 4) = some (aI 1500 (gm)) := Fr.at0 (mfc3079).1 (Ni.c ⟨ne26, ne27⟩ (Ni.n _)) fk3077_1
                                        have fk3080_2 : hc3078.2 (B + 7) = some (aJ 6400 (g7)) := Fr.at0 (mfc3079).1 (Ni.c ⟨(ne31).s, (ne33).s⟩ (Ni.n _)) fk3077_2
                                        have rk3080_0 : MP hp B hc3078 (T) := (rk3077_0).fr (mfc3079).1 (Ni.c ⟨ne11, ne12⟩ (Ni.n _)) (Ni.c ⟨ne17, ne18⟩ (Ni.n _))
                                        have rk3080_1 : MWA B hc3078 := (rk3077_1).fr (mfc3079).1 (Ni.c ⟨ne22, ne23⟩ (Ni.n _))
                                        have rk3080_2 : MSq hp B hc3078 (fun x y => 0 ≤ x ∧ x < dY hp F + dY hp G ∧ 0 ≤ y ∧ y < dY hp F + dY hp G) (C3) := (rk3077_2).fr (mfc3079).1 (Ni.c ⟨(ne32).s, (ne34).s⟩ (Ni.n _))
                                        have rk3080_3 : MG hp B hc3078 (10) (pvt (pR hp) A c.toNat) := (rk3077_3).fr hp2 mfc3079 (Nr.c (by omega) Nr.n)
                                        have rk3080_4 : MG hp B hc3078 (1) ((C3) (c) (c)) := (rk3077_4).fr hp2 mfc3079 (Nr.c (by omega) Nr.n)
                                        have rk3080_5 : MG hp B hc3078 (2) ((C3) (i2) (k2)) := (rk3077_5).fr hp2 mfc3079 (Nr.c (by omega) Nr.n)
                                        have rk3080_6 : MG hp B hc3078 (3) ((C3) (i2) (c)) := (rk3077_6).fr hp2 mfc3079 (Nr.c (by omega) Nr.n)
                                        have rk3080_7 : MG hp B hc3078 (4) ((C3) (c) (k2)) := (rk3077_7).fr hp2 mfc3079 (Nr.c (by omega) Nr.n)
                                        have rk3080_8 : MG hp B hc3078 (5) (pml hp ((C3) (c) (c)) ((C3) (i2) (k2))) := (rk3077_8).fr hp2 mfc3079 (Nr.c (by omega) Nr.n)
                                        have rk3080_9 : MG hp B hc3078 (6) (pml hp ((C3) (i2) (c)) ((C3) (c) (k2))) := (rn3076_0).fr hp2 mfc3079 (Nr.c (by omega) Nr.n)
                                        have fr3080 : MF B [B + 1, B + 3, B + 7] [0, 1, 2, 3, 4, 5, 6, 7, 8, 9, 10] h hc3078 := (fr3077).tr ((mfc3079).mo sub_n (sbI_c (List.Mem.tail _ (List.Mem.tail _ (List.Mem.tail _ (List.Mem.tail _ (List.Mem.tail _ (List.Mem.tail _ (List.Mem.tail _ (List.Mem.head _)))))))) sbI_n))
                                        refine Go.nf (h' := hc3078) (st' := []) rfl rfl (Nat.le_refl _) (Nat.le_refl _) ?_
                                        refine g_aload_n 8 dX10_byY_478 rfl ?_
                                        refine g_bipush dX10_byY_479 (by decide) ?_
                                        refine g_bipush dX10_byY_481 (by decide) ?_
                                        refine g_bipush dX10_byY_483 (by decide) ?_
                                        refine g_bipush dX10_byY_485 (by decide) ?_
                                        refine g_callV (nc2 := 0) (ns2 := 0) (ci := 10) (As := [.int (gI (7)), .int (gI (10)), .int (gI (8)), .int (gI (9))]) (st := []) rfl dX10_byY_487 okX10_divide lX10_176 itX10_divide seX10_divide rfl fk3080_0 (by decide) (by decide) rfl (Nat.le_of_ble_eq_true rfl) (sM_divide N _ B p hp hp2 hf le fc pn rn hn qn (7) (10) (8) (9) (by omega) (by omega) (by omega) (by omega) (by omega) (by omega) (psb hp (pml hp ((C3) (c) (c)) ((C3) (i2) (k2))) (pml hp ((C3) (i2) (c)) ((C3) (c) (k2)))) (pvt (pR hp) A c.toNat) fk3080_0 (fr3080).2.1 rn3079_0 rk3080_3 (by omega)) (by omega) (by omega) (fun v3081 hc3081 q3081 => ?_)
                                        obtain ⟨rfl, mfc3082, rn3082_0, rn3082_1⟩ := q3081
                                        have fk3083_0 : hc3081.2 (B) = some (mO B ((p : Int)) (hf) (le) (fc) (pn) (rn) (hn) (qn)) := Fr.at0 (mfc3082).1 (Ni.c ⟨ne4, ne5⟩ (Ni.n _)) fk3080_0
                                        have fk3083_1 : hc3081.2 (B + 4) = some (aI 1500 (gm)) := Fr.at0 (mfc3082).1 (Ni.c ⟨ne26, ne27⟩ (Ni.n _)) fk3080_1
                                        have fk3083_2 : hc3081.2 (B + 7) = some (aJ 6400 (g7)) := Fr.at0 (mfc3082).1 (Ni.c ⟨(ne31).s, (ne33).s⟩ (Ni.n _)) fk3080_2
                                        have rk3083_0 : MP hp B hc3081 (T) := (rk3080_0).fr (mfc3082).1 (Ni.c ⟨ne11, ne12⟩ (Ni.n _)) (Ni.c ⟨ne17, ne18⟩ (Ni.n _))
                                        have rk3083_1 : MWA B hc3081 := (rk3080_1).fr (mfc3082).1 (Ni.c ⟨ne22, ne23⟩ (Ni.n _))
                                        have rk3083_2 : MSq hp B hc3081 (fun x y => 0 ≤ x ∧ x < dY hp F + dY hp G ∧ 0 ≤ y ∧ y < dY hp F + dY hp G) (C3) := (rk3080_2).fr (mfc3082).1 (Ni.c ⟨(ne32).s, (ne34).s⟩ (Ni.n _))
                                        have rk3083_3 : MG hp B hc3081 (10) (pvt (pR hp) A c.toNat) := (rk3080_3).fr hp2 mfc3082 (Nr.c (by omega) (Nr.c (by omega) Nr.n))
                                        have rk3083_4 : MG hp B hc3081 (1) ((C3) (c) (c)) := (rk3080_4).fr hp2 mfc3082 (Nr.c (by omega) (Nr.c (by omega) Nr.n))
                                        have rk3083_5 : MG hp B hc3081 (2) ((C3) (i2) (k2)) := (rk3080_5).fr hp2 mfc3082 (Nr.c (by omega) (Nr.c (by omega) Nr.n))
                                        have rk3083_6 : MG hp B hc3081 (3) ((C3) (i2) (c)) := (rk3080_6).fr hp2 mfc3082 (Nr.c (by omega) (Nr.c (by omega) Nr.n))
                                        have rk3083_7 : MG hp B hc3081 (4) ((C3) (c) (k2)) := (rk3080_7).fr hp2 mfc3082 (Nr.c (by omega) (Nr.c (by omega) Nr.n))
                                        have rk3083_8 : MG hp B hc3081 (5) (pml hp ((C3) (c) (c)) ((C3) (i2) (k2))) := (rk3080_8).fr hp2 mfc3082 (Nr.c (by omega) (Nr.c (by omega) Nr.n))
                                        have rk3083_9 : MG hp B hc3081 (6) (pml hp ((C3) (i2) (c)) ((C3) (c) (k2))) := (rk3080_9).fr hp2 mfc3082 (Nr.c (by omega) (Nr.c (by omega) Nr.n))
                                        have rk3083_10 : MG hp B hc3081 (7) (psb hp (pml hp ((C3) (c) (c)) ((C3) (i2) (k2))) (pml hp ((C3) (i2) (c)) ((C3) (c) (k2)))) := (rn3079_0).fr hp2 mfc3082 (Nr.c (by omega) (Nr.c (by omega) Nr.n))
                                        have fr3083 : MF B [B + 1, B + 3, B + 7] [0, 1, 2, 3, 4, 5, 6, 7, 8, 9, 10] h hc3081 := (fr3080).tr ((mfc3082).mo sub_n (sbI_c (List.Mem.tail _ (List.Mem.tail _ (List.Mem.tail _ (List.Mem.tail _ (List.Mem.tail _ (List.Mem.tail _ (List.Mem.tail _ (List.Mem.tail _ (List.Mem.tail _ (List.Mem.head _)))))))))) (sbI_c (List.Mem.tail _ (List.Mem.tail _ (List.Mem.tail _ (List.Mem.tail _ (List.Mem.tail _ (List.Mem.tail _ (List.Mem.tail _ (List.Mem.tail _ (List.Mem.head _))))))))) sbI_n)))
                                        refine Go.nf (h' := hc3081) (st' := []) rfl rfl (Nat.le_refl _) (Nat.le_refl _) ?_
                                        have hq8 : qt hp (psb hp (pml hp ((C3) (c) (c)) ((C3) (i2) (k2))) (pml hp ((C3) (i2) (c)) ((C3) (c) (k2)))) (pvt (pR hp) A c.toNat) = mqI hp (swr A c.toNat w.toNat) (c + 1) i2 k2 := by
                                                                      rw [hE c c (by omega) (by omega) (by omega) (by omega), if_neg (by omega), hE i2 k2 (by omega) (by omega) (by omega) (by omega), if_neg (by omega), hE i2 c (by omega) (by omega) (by omega) (by omega), if_neg (by omega), hE c k2 (by omega) (by omega) (by omega) (by omega), if_neg (by omega), ← hpv10]
                                                                      exact bar_qI hp hI2 hc.1 (by omega) (by omega) (by omega) (by omega) (by omega)
                                        have hdz : dgi hp (qt hp (psb hp (pml hp ((C3) (c) (c)) ((C3) (i2) (k2))) (pml hp ((C3) (i2) (c)) ((C3) (c) (k2)))) (pvt (pR hp) A c.toNat)) < 80 := by rw [hq8]; exact (hm3 i2 k2 (by omega) (by omega) (by omega) (by omega)).2
                                        refine g_aload_n 8 dX10_byY_490 rfl ?_
                                        refine g_bipush dX10_byY_491 (by decide) ?_
                                        refine g_iload 1 dX10_byY_493 rfl ?_
                                        refine g_iload 0 dX10_byY_495 rfl ?_
                                        refine g_callV (nc2 := 0) (ns2 := 0) (ci := 10) (As := [.int (gI (8)), .int (gI (i2)), .int (gI (k2))]) (st := []) rfl dX10_byY_497 okX10_toSquare lX10_199 itX10_toSquare seX10_toSquare rfl fk3083_0 (by decide) (by decide) rfl (Nat.le_of_ble_eq_true rfl) (sM_toSquare0 N _ B p hp hp2 hf le fc pn rn hn qn (8) (i2) (k2) (by omega) (fun x y => 0 ≤ x ∧ x < dY hp F + dY hp G ∧ 0 ≤ y ∧ y < dY hp F + dY hp G) (C3) (qt hp (psb hp (pml hp ((C3) (c) (c)) ((C3) (i2) (k2))) (pml hp ((C3) (i2) (c)) ((C3) (c) (k2)))) (pvt (pR hp) A c.toNat)) (g7) fk3083_0 (fr3083).2.1 fk3083_2 rk3083_2 rn3082_1 hdz) (by omega) (by omega) (fun v3084 hc3084 q3084 => ?_)
                                        obtain ⟨rfl, mfc3085, f7_3085, mq3085⟩ := q3084
                                        have fk3086_0 : hc3084.2 (B) = some (mO B ((p : Int)) (hf) (le) (fc) (pn) (rn) (hn) (qn)) := Fr.at0 (mfc3085).1 (Ni.c ⟨ne4, ne5⟩ (Ni.c ⟨ne6, ne7⟩ (Ni.n _))) fk3083_0
                                        have fk3086_1 : hc3084.2 (B + 4) = some (aI 1500 (gm)) := Fr.at0 (mfc3085).1 (Ni.c ⟨ne26, ne27⟩ (Ni.c ⟨ne28, ne29⟩ (Ni.n _))) fk3083_1
                                        have rk3086_0 : MP hp B hc3084 (T) := (rk3083_0).fr (mfc3085).1 (Ni.c ⟨ne11, ne12⟩ (Ni.c ⟨ne13, ne14⟩ (Ni.n _))) (Ni.c ⟨ne17, ne18⟩ (Ni.c ⟨ne19, ne20⟩ (Ni.n _)))
                                        have rk3086_1 : MWA B hc3084 := (rk3083_1).fr (mfc3085).1 (Ni.c ⟨ne22, ne23⟩ (Ni.c ⟨ne24, ne25⟩ (Ni.n _)))
                                        have rk3086_3 : MG hp B hc3084 (10) (pvt (pR hp) A c.toNat) := (rk3083_3).fr hp2 mfc3085 Nr.n
                                        have rk3086_4 : MG hp B hc3084 (1) ((C3) (c) (c)) := (rk3083_4).fr hp2 mfc3085 Nr.n
                                        have rk3086_5 : MG hp B hc3084 (2) ((C3) (i2) (k2)) := (rk3083_5).fr hp2 mfc3085 Nr.n
                                        have rk3086_6 : MG hp B hc3084 (3) ((C3) (i2) (c)) := (rk3083_6).fr hp2 mfc3085 Nr.n
                                        have rk3086_7 : MG hp B hc3084 (4) ((C3) (c) (k2)) := (rk3083_7).fr hp2 mfc3085 Nr.n
                                        have rk3086_8 : MG hp B hc3084 (5) (pml hp ((C3) (c) (c)) ((C3) (i2) (k2))) := (rk3083_8).fr hp2 mfc3085 Nr.n
                                        have rk3086_9 : MG hp B hc3084 (6) (pml hp ((C3) (i2) (c)) ((C3) (c) (k2))) := (rk3083_9).fr hp2 mfc3085 Nr.n
                                        have rk3086_10 : MG hp B hc3084 (7) (psb hp (pml hp ((C3) (c) (c)) ((C3) (i2) (k2))) (pml hp ((C3) (i2) (c)) ((C3) (c) (k2)))) := (rk3083_10).fr hp2 mfc3085 Nr.n
                                        have rk3086_11 : MG hp B hc3084 (9) (rm hp (psb hp (pml hp ((C3) (c) (c)) ((C3) (i2) (k2))) (pml hp ((C3) (i2) (c)) ((C3) (c) (k2)))) (pvt (pR hp) A c.toNat)) := (rn3082_0).fr hp2 mfc3085 Nr.n
                                        have rk3086_12 : MG hp B hc3084 (8) (qt hp (psb hp (pml hp ((C3) (c) (c)) ((C3) (i2) (k2))) (pml hp ((C3) (i2) (c)) ((C3) (c) (k2)))) (pvt (pR hp) A c.toNat)) := (rn3082_1).fr hp2 mfc3085 Nr.n
                                        have fr3086 : MF B [B + 1, B + 3, B + 7] [0, 1, 2, 3, 4, 5, 6, 7, 8, 9, 10] h hc3084 := (fr3083).tr ((mfc3085).mo (sub_c (List.Mem.tail _ (List.Mem.tail _ (List.Mem.head _))) sub_n) sbI_n)
                                        refine Go.nf (h' := hc3084) (st' := []) rfl rfl (Nat.le_refl _) (Nat.le_refl _) ?_
                                        refine g_iinc 0 (ls2 := [(10, .int (gI (k2 + 1))), (9, .int (gI (i2))), (6, .int (gI (1))), (8, .int (gI (w))), (7, .int (gI (c))), (5, .int (gI ((dY hp F) + (dY hp G)))), (4, .int (gI (dY hp G))), (3, .int (gI (dY hp F))), (0, .ref (B)), (1, .int (gI (a))), (2, .int (gI (b)))]) dX10_byY_500 rfl (by decide) rfl ?_
                                        refine g_goto (tgt := 411) dX10_byY_503 rfl ?_
                                        exact ih_l2 _ (by omega) (k2 + 1) (cup C3 i2 k2 (qt hp (psb hp (pml hp ((C3) (c) (c)) ((C3) (i2) (k2))) (pml hp ((C3) (i2) (c)) ((C3) (c) (k2)))) (pvt (pR hp) A c.toNat))) hc3084 rfl fr3086 fk3086_1 f7_3085 rk3086_0 rk3086_1 ((mq3085).mono (D2 := fun x y => 0 ≤ x ∧ x < dY hp F + dY hp G ∧ 0 ≤ y ∧ y < dY hp F + dY hp G) (C2 := cup C3 i2 k2 (qt hp (psb hp (pml hp ((C3) (c) (c)) ((C3) (i2) (k2))) (pml hp ((C3) (i2) (c)) ((C3) (c) (k2)))) (pvt (pR hp) A c.toNat))) (fun x y d => Or.inl d) (fun x y d => rfl)) rk3086_3 (by omega) (fun x y x0 x1 y0 y1 => by
                                                                      unfold cup
                                                                      by_cases z : x = i2 ∧ y = k2
                                                                      · rw [if_pos z, if_pos (by omega), hq8, z.1, z.2]
                                                                      · rw [if_neg z, hE x y x0 x1 y0 y1]
                                                                        by_cases q : c < x ∧ c < y ∧ (x < i2 ∨ (x = i2 ∧ y < k2))
                                                                        · rw [if_pos q, if_pos (by omega)]
                                                                        · rw [if_neg q, if_neg (by omega)])
                                    exact l2 _ (c + 1) (C3a) hl1 rfl fr_l1 cf_l1_0 cf_l1_1 cr_l1_0 cr_l1_1 cr_l1_2 cr_l1_3 (by omega) (fun x y x0 x1 y0 y1 => by
                                                                      rw [hEa x y x0 x1 y0 y1]
                                                                      by_cases q : c < x ∧ c < y ∧ (x < i2 )
                                                                      · rw [if_pos q, if_pos (by omega)]
                                                                      · rw [if_neg q, if_neg (by omega)])
                                exact l1 _ (c + 1) (swC C w c k) hls rfl fr_ls cf_ls_0 cf_ls_1 cr_ls_0 cr_ls_1 cr_ls_2 cr_ls_3 (by omega) (fun x y x0 x1 y0 y1 => by rw [if_neg (by omega)]; exact hC2 x y x0 x1 y0 y1)
                            · skip
                              refine g_iload 1 dX10_byY_319 rfl ?_
                              refine g_iload 2 dX10_byY_321 rfl ?_
                              refine g_icmp_eq (tgt := 368) dX10_byY_323 rfl (by first | (unfold gW; omega) | (unfold gW; split <;> omega)) (by first | (unfold gW; omega) | (unfold gW; split <;> omega)) (fun c3287 => ?_) (fun c3287 => ?_)
                              · skip
                                have hkS : k = dY hp F + dY hp G ∨ w = c := by omega
                                have hC2 : ∀ i q, c ≤ i → i < dY hp F + dY hp G → c ≤ q → q < dY hp F + dY hp G → swC C w c k i q = mqI hp (swr A c.toNat w.toNat) c i q := fun i q i0 i1 q0 q1 => swC_m hp hC hc.1 hw.1 (by omega) hkS i0 i1 q0 q1
                                refine g_iload 3 dX10_byY_368 rfl ?_
                                refine g_iload 1 dX10_byY_370 rfl ?_
                                refine g_iload 2 dX10_byY_372 rfl ?_
                                refine g_icmp_eq (tgt := 381) dX10_byY_374 rfl (by first | (unfold gW; omega) | (unfold gW; split <;> omega)) (by first | (unfold gW; omega) | (unfold gW; split <;> omega)) (fun c3288 => ?_) (fun c3288 => absurd c3288 (by omega))
                                refine g_iconst dX10_byY_381 ?_
                                refine g_icmp_eq (tgt := 389) dX10_byY_382 rfl (by first | (unfold gW; omega) | (unfold gW; split <;> omega)) (by first | (unfold gW; omega) | (unfold gW; split <;> omega)) (fun c3289 => ?_) (fun c3289 => ?_)
                                · skip
                                  refine g_iconst dX10_byY_389 ?_
                                  refine g_istore (ls2 := [(6, .int (gI (0))), (9, .int (gI (k))), (8, .int (gI (w))), (7, .int (gI (c))), (5, .int (gI ((dY hp F) + (dY hp G)))), (4, .int (gI (dY hp G))), (3, .int (gI (dY hp F))), (0, .ref (B)), (1, .int (gI (a))), (2, .int (gI (b)))]) dX10_byY_390 (by decide) rfl ?_
                                  have hR2 : barR hp (dY hp F + dY hp G).toNat (dY hp F + dY hp G - 1 - (c + 1)).toNat (c + 1).toNat (swr A c.toNat w.toNat) (decide ((0 : Int) = 1)) = resY hp F G := by
                                                                      rw [← hR, show (dY hp F + dY hp G - 1 - c).toNat = (dY hp F + dY hp G - 1 - (c + 1)).toNat + 1 by omega, barR_s hp hpvt, show (c + 1).toNat = c.toNat + 1 by omega]
                                                                      rw [if_pos (show w.toNat = c.toNat by omega), show tu = 0 by omega]
                                  refine g_iload 3 dX10_byY_392 rfl ?_
                                  refine g_iconst dX10_byY_394 ?_
                                  refine g_iadd dX10_byY_395 ?_
                                  refine g_istore (ls2 := [(9, .int (gI ((c) + (1)))), (6, .int (gI (0))), (8, .int (gI (w))), (7, .int (gI (c))), (5, .int (gI ((dY hp F) + (dY hp G)))), (4, .int (gI (dY hp G))), (3, .int (gI (dY hp F))), (0, .ref (B)), (1, .int (gI (a))), (2, .int (gI (b)))]) dX10_byY_396 (by decide) rfl ?_
                                  have hm2 : ∀ x y, c ≤ x → x < dY hp F + dY hp G → c ≤ y → y < dY hp F + dY hp G → po (fR hp) (mqI hp (swr A c.toNat w.toNat) c x y) ∧ dgi hp (mqI hp (swr A c.toNat w.toNat) c x y) < 80 := fun i q i0 i1 q0 q1 => mqI_po hp hI2 (by omega) hc.1 (by omega) i1 (by omega) q1
                                  have hpnz : mqI hp (swr A c.toNat w.toNat) c c c ≠ (letI := pR hp; 0) := by
                                                                      unfold mqI
                                                                      rw [mnr_sw hp A (by omega)]
                                                                      have e9 : swi c.toNat w.toNat c.toNat = w.toNat := if_pos rfl
                                                                      rw [e9]; exact hpvt.2.2.1
                                  have hI3 : barI hp (dY hp F + dY hp G).toNat (c + 1).toNat (swr A c.toNat w.toNat) := by
                                                                      rw [show (c + 1).toNat = c.toNat + 1 by omega]
                                                                      exact barI_s hp hI2 (by omega) hpnz
                                  have hm3 : ∀ x y, 0 ≤ x → x < dY hp F + dY hp G → 0 ≤ y → y < dY hp F + dY hp G → po (fR hp) (mqI hp (swr A c.toNat w.toNat) (c + 1) x y) ∧ dgi hp (mqI hp (swr A c.toNat w.toNat) (c + 1) x y) < 80 := fun i q i0 i1 q0 q1 => mqI_po hp hI3 (by omega) (by omega) i0 i1 q0 q1
                                  have hpk := pvt_po hp hI.1 hI.2.1
                                  have hpk0 := dgi_nz hp hpk hI.2.2.1
                                  have l1 : ∀ (kk : Nat) (i2 : Int) (C3a : Int → Int → Px p) (hl1 : GH), kk = (12 - i2).toNat → MF B [B + 1, B + 3, B + 7] [0, 1, 2, 3, 4, 5, 6, 7, 8, 9, 10] h hl1 → hl1.2 (B + 4) = some (aI 1500 (gm)) → hl1.2 (B + 7) = some (aJ 6400 (g7)) → MP hp B hl1 (T) → MWA B hl1 → MSq hp B hl1 (fun x y => 0 ≤ x ∧ x < dY hp F + dY hp G ∧ 0 ≤ y ∧ y < dY hp F + dY hp G) (C3a) → MG hp B hl1 (10) (pvt (pR hp) A c.toNat) → (c + 1 ≤ i2 ∧ i2 ≤ dY hp F + dY hp G) → (∀ x y, c ≤ x → x < dY hp F + dY hp G → c ≤ y → y < dY hp F + dY hp G → C3a x y = if c < x ∧ c < y ∧ (x < i2 ) then mqI hp (swr A c.toNat w.toNat) (c + 1) x y else mqI hp (swr A c.toNat w.toNat) c x y) → Go N mX10_byY (fun v h1 => Fr [B + 1, B + 3, B + 5, B + 7] h h1 ∧ MS B h1 ∧ ∃ w T2, Ou T (pa12 hp F G) w T2 ∧ v = some (.int (gI w)) ∧ MP hp B h1 T2) 0 0 hl1 398 [(9, .int (gI (i2))), (6, .int (gI (0))), (8, .int (gI (w))), (7, .int (gI (c))), (5, .int (gI ((dY hp F) + (dY hp G)))), (4, .int (gI (dY hp G))), (3, .int (gI (dY hp F))), (0, .ref (B)), (1, .int (gI (a))), (2, .int (gI (b)))] [] := by
                                    refine Go.ind (fun kk ih_l1 => ?_)
                                    intro i2 C3a hl1 hkk_l1 fr_l1 cf_l1_0 cf_l1_1 cr_l1_0 cr_l1_1 cr_l1_2 cr_l1_3 hi2 hEa
                                    have cg_l1_0 : hl1.2 (B) = some (mO B ((p : Int)) (hf) (le) (fc) (pn) (rn) (hn) (qn)) := Fr.at0 (fr_l1).1 (Ni.c ⟨ne4, ne5⟩ (Ni.c ⟨ne0, ne1⟩ (Ni.c ⟨ne2, ne3⟩ (Ni.c ⟨ne6, ne7⟩ (Ni.n _))))) hm
                                    refine g_iload 0 dX10_byY_398 rfl ?_
                                    refine g_iload 4 dX10_byY_400 rfl ?_
                                    refine g_icmp_ge (tgt := 512) dX10_byY_402 rfl (by first | (unfold gW; omega) | (unfold gW; split <;> omega)) (by first | (unfold gW; omega) | (unfold gW; split <;> omega)) (fun c3390 => ?_) (fun c3390 => ?_)
                                    · skip
                                      refine g_aload_n 7 dX10_byY_512 rfl ?_
                                      refine g_iload 3 dX10_byY_513 rfl ?_
                                      refine g_iload 3 dX10_byY_515 rfl ?_
                                      refine g_bipush dX10_byY_517 (by decide) ?_
                                      refine g_callV (nc2 := 0) (ns2 := 0) (ci := 10) (As := [.int (gI (c)), .int (gI (c)), .int (gI (10))]) (st := []) rfl dX10_byY_519 okX10_fromSquare lX10_202 itX10_fromSquare seX10_fromSquare rfl cg_l1_0 (by decide) (by decide) rfl (Nat.le_of_ble_eq_true rfl) (sM_fromSquare N _ B p hp hp2 hf le fc pn rn hn qn (c) (c) (10) (by omega) (fun x y => 0 ≤ x ∧ x < dY hp F + dY hp G ∧ 0 ≤ y ∧ y < dY hp F + dY hp G) (C3a) (by omega) cg_l1_0 (fr_l1).2.1 cr_l1_2) (by omega) (by omega) (fun v3391 hc3391 q3391 => ?_)
                                      obtain ⟨rfl, mfc3392, rn3392_0⟩ := q3391
                                      have fk3393_0 : hc3391.2 (B) = some (mO B ((p : Int)) (hf) (le) (fc) (pn) (rn) (hn) (qn)) := Fr.at0 (mfc3392).1 (Ni.c ⟨ne4, ne5⟩ (Ni.n _)) cg_l1_0
                                      have fk3393_1 : hc3391.2 (B + 4) = some (aI 1500 (gm)) := Fr.at0 (mfc3392).1 (Ni.c ⟨ne26, ne27⟩ (Ni.n _)) cf_l1_0
                                      have fk3393_2 : hc3391.2 (B + 7) = some (aJ 6400 (g7)) := Fr.at0 (mfc3392).1 (Ni.c ⟨(ne31).s, (ne33).s⟩ (Ni.n _)) cf_l1_1
                                      have rk3393_0 : MP hp B hc3391 (T) := (cr_l1_0).fr (mfc3392).1 (Ni.c ⟨ne11, ne12⟩ (Ni.n _)) (Ni.c ⟨ne17, ne18⟩ (Ni.n _))
                                      have rk3393_1 : MWA B hc3391 := (cr_l1_1).fr (mfc3392).1 (Ni.c ⟨ne22, ne23⟩ (Ni.n _))
                                      have rk3393_2 : MSq hp B hc3391 (fun x y => 0 ≤ x ∧ x < dY hp F + dY hp G ∧ 0 ≤ y ∧ y < dY hp F + dY hp G) (C3a) := (cr_l1_2).fr (mfc3392).1 (Ni.c ⟨(ne32).s, (ne34).s⟩ (Ni.n _))
                                      have fr3393 : MF B [B + 1, B + 3, B + 7] [0, 1, 2, 3, 4, 5, 6, 7, 8, 9, 10] h hc3391 := (fr_l1).tr ((mfc3392).mo sub_n (sbI_c (List.Mem.tail _ (List.Mem.tail _ (List.Mem.tail _ (List.Mem.tail _ (List.Mem.tail _ (List.Mem.tail _ (List.Mem.tail _ (List.Mem.tail _ (List.Mem.tail _ (List.Mem.tail _ (List.Mem.head _))))))))))) sbI_n))
                                      refine Go.nf (h' := hc3391) (st' := []) rfl rfl (Nat.le_refl _) (Nat.le_refl _) ?_
                                      have hp11 : (C3a) (c) (c) = pvt (pR hp) (swr A c.toNat w.toNat) (c + 1).toNat := by
                                                                      rw [hEa c c (by omega) (by omega) (by omega) (by omega), if_neg (by omega), show (c + 1).toNat = c.toNat + 1 by omega, pvt_s]
                                                                      rfl
                                      refine g_iinc 3 (ls2 := [(7, .int (gI (c + 1))), (9, .int (gI (i2))), (6, .int (gI (0))), (8, .int (gI (w))), (5, .int (gI ((dY hp F) + (dY hp G)))), (4, .int (gI (dY hp G))), (3, .int (gI (dY hp F))), (0, .ref (B)), (1, .int (gI (a))), (2, .int (gI (b)))]) dX10_byY_522 rfl (by decide) rfl ?_
                                      refine g_goto (tgt := 230) dX10_byY_525 rfl ?_
                                      refine Go.sub [0, 2, 4, 5, 6, 7, 8, 9] rfl ?_
                                      exact ih_lc _ (by omega) (c + 1) (0) (swr A c.toNat w.toNat) (C3a) hc3391 rfl fr3393 fk3393_1 fk3393_2 rk3393_0 rk3393_1 rk3393_2 (by rw [← hp11]; exact rn3392_0) (by omega) (by omega) hI3 hR2 (fun x y x0 x1 y0 y1 => by rw [hEa x y (by omega) x1 (by omega) y1, if_pos (by omega)])
                                    · skip
                                      refine g_iload 3 dX10_byY_405 rfl ?_
                                      refine g_iconst dX10_byY_407 ?_
                                      refine g_iadd dX10_byY_408 ?_
                                      refine g_istore (ls2 := [(10, .int (gI ((c) + (1)))), (9, .int (gI (i2))), (6, .int (gI (0))), (8, .int (gI (w))), (7, .int (gI (c))), (5, .int (gI ((dY hp F) + (dY hp G)))), (4, .int (gI (dY hp G))), (3, .int (gI (dY hp F))), (0, .ref (B)), (1, .int (gI (a))), (2, .int (gI (b)))]) dX10_byY_409 (by decide) rfl ?_
                                      have l2 : ∀ (kk : Nat) (k2 : Int) (C3 : Int → Int → Px p) (hl2 : GH), kk = (12 - k2).toNat → MF B [B + 1, B + 3, B + 7] [0, 1, 2, 3, 4, 5, 6, 7, 8, 9, 10] h hl2 → hl2.2 (B + 4) = some (aI 1500 (gm)) → hl2.2 (B + 7) = some (aJ 6400 (g7)) → MP hp B hl2 (T) → MWA B hl2 → MSq hp B hl2 (fun x y => 0 ≤ x ∧ x < dY hp F + dY hp G ∧ 0 ≤ y ∧ y < dY hp F + dY hp G) (C3) → MG hp B hl2 (10) (pvt (pR hp) A c.toNat) → (c + 1 ≤ k2 ∧ k2 ≤ dY hp F + dY hp G) → (∀ x y, c ≤ x → x < dY hp F + dY hp G → c ≤ y → y < dY hp F + dY hp G → C3 x y = if c < x ∧ c < y ∧ (x < i2 ∨ (x = i2 ∧ y < k2)) then mqI hp (swr A c.toNat w.toNat) (c + 1) x y else mqI hp (swr A c.toNat w.toNat) c x y) → Go N mX10_byY (fun v h1 => Fr [B + 1, B + 3, B + 5, B + 7] h h1 ∧ MS B h1 ∧ ∃ w T2, Ou T (pa12 hp F G) w T2 ∧ v = some (.int (gI w)) ∧ MP hp B h1 T2) 0 0 hl2 411 [(10, .int (gI (k2))), (9, .int (gI (i2))), (6, .int (gI (0))), (8, .int (gI (w))), (7, .int (gI (c))), (5, .int (gI ((dY hp F) + (dY hp G)))), (4, .int (gI (dY hp G))), (3, .int (gI (dY hp F))), (0, .ref (B)), (1, .int (gI (a))), (2, .int (gI (b)))] [] := by
                                        refine Go.ind (fun kk ih_l2 => ?_)
                                        intro k2 C3 hl2 hkk_l2 fr_l2 cf_l2_0 cf_l2_1 cr_l2_0 cr_l2_1 cr_l2_2 cr_l2_3 hk2 hE
                                        have cg_l2_0 : hl2.2 (B) = some (mO B ((p : Int)) (hf) (le) (fc) (pn) (rn) (hn) (qn)) := Fr.at0 (fr_l2).1 (Ni.c ⟨ne4, ne5⟩ (Ni.c ⟨ne0, ne1⟩ (Ni.c ⟨ne2, ne3⟩ (Ni.c ⟨ne6, ne7⟩ (Ni.n _))))) hm
                                        refine g_iload 0 dX10_byY_411 rfl ?_
                                        refine g_iload 5 dX10_byY_413 rfl ?_
                                        refine g_icmp_ge (tgt := 506) dX10_byY_415 rfl (by first | (unfold gW; omega) | (unfold gW; split <;> omega)) (by first | (unfold gW; omega) | (unfold gW; split <;> omega)) (fun c3494 => ?_) (fun c3494 => ?_)
                                        · skip
                                          refine g_iinc 1 (ls2 := [(9, .int (gI (i2 + 1))), (10, .int (gI (k2))), (6, .int (gI (0))), (8, .int (gI (w))), (7, .int (gI (c))), (5, .int (gI ((dY hp F) + (dY hp G)))), (4, .int (gI (dY hp G))), (3, .int (gI (dY hp F))), (0, .ref (B)), (1, .int (gI (a))), (2, .int (gI (b)))]) dX10_byY_506 rfl (by decide) rfl ?_
                                          refine g_goto (tgt := 398) dX10_byY_509 rfl ?_
                                          refine Go.sub [0, 2, 3, 4, 5, 6, 7, 8, 9, 10] rfl ?_
                                          exact ih_l1 _ (by omega) (i2 + 1) (C3) hl2 rfl fr_l2 cf_l2_0 cf_l2_1 cr_l2_0 cr_l2_1 cr_l2_2 cr_l2_3 (by omega) (fun x y x0 x1 y0 y1 => by
                                                                      rw [hE x y x0 x1 y0 y1]
                                                                      by_cases q : c < x ∧ c < y ∧ (x < i2 ∨ (x = i2 ∧ y < k2))
                                                                      · rw [if_pos q, if_pos (by omega)]
                                                                      · rw [if_neg q, if_neg (by omega)])
                                        · skip
                                          refine g_aload_n 8 dX10_byY_418 rfl ?_
                                          refine g_iload 4 dX10_byY_419 rfl ?_
                                          refine g_iload 4 dX10_byY_421 rfl ?_
                                          refine g_iconst dX10_byY_423 ?_
                                          refine g_callV (nc2 := 0) (ns2 := 0) (ci := 10) (As := [.int (gI (c)), .int (gI (c)), .int (gI (1))]) (st := []) rfl dX10_byY_424 okX10_fromSquare lX10_202 itX10_fromSquare seX10_fromSquare rfl cg_l2_0 (by decide) (by decide) rfl (Nat.le_of_ble_eq_true rfl) (sM_fromSquare N _ B p hp hp2 hf le fc pn rn hn qn (c) (c) (1) (by omega) (fun x y => 0 ≤ x ∧ x < dY hp F + dY hp G ∧ 0 ≤ y ∧ y < dY hp F + dY hp G) (C3) (by omega) cg_l2_0 (fr_l2).2.1 cr_l2_2) (by omega) (by omega) (fun v3495 hc3495 q3495 => ?_)
                                          obtain ⟨rfl, mfc3496, rn3496_0⟩ := q3495
                                          have fk3497_0 : hc3495.2 (B) = some (mO B ((p : Int)) (hf) (le) (fc) (pn) (rn) (hn) (qn)) := Fr.at0 (mfc3496).1 (Ni.c ⟨ne4, ne5⟩ (Ni.n _)) cg_l2_0
                                          have fk3497_1 : hc3495.2 (B + 4) = some (aI 1500 (gm)) := Fr.at0 (mfc3496).1 (Ni.c ⟨ne26, ne27⟩ (Ni.n _)) cf_l2_0
                                          have fk3497_2 : hc3495.2 (B + 7) = some (aJ 6400 (g7)) := Fr.at0 (mfc3496).1 (Ni.c ⟨(ne31).s, (ne33).s⟩ (Ni.n _)) cf_l2_1
                                          have rk3497_0 : MP hp B hc3495 (T) := (cr_l2_0).fr (mfc3496).1 (Ni.c ⟨ne11, ne12⟩ (Ni.n _)) (Ni.c ⟨ne17, ne18⟩ (Ni.n _))
                                          have rk3497_1 : MWA B hc3495 := (cr_l2_1).fr (mfc3496).1 (Ni.c ⟨ne22, ne23⟩ (Ni.n _))
                                          have rk3497_2 : MSq hp B hc3495 (fun x y => 0 ≤ x ∧ x < dY hp F + dY hp G ∧ 0 ≤ y ∧ y < dY hp F + dY hp G) (C3) := (cr_l2_2).fr (mfc3496).1 (Ni.c ⟨(ne32).s, (ne34).s⟩ (Ni.n _))
                                          have rk3497_3 : MG hp B hc3495 (10) (pvt (pR hp) A c.toNat) := (cr_l2_3).fr hp2 mfc3496 (Nr.c (by omega) Nr.n)
                                          have fr3497 : MF B [B + 1, B + 3, B + 7] [0, 1, 2, 3, 4, 5, 6, 7, 8, 9, 10] h hc3495 := (fr_l2).tr ((mfc3496).mo sub_n (sbI_c (List.Mem.tail _ (List.Mem.head _)) sbI_n))
                                          refine Go.nf (h' := hc3495) (st' := []) rfl rfl (Nat.le_refl _) (Nat.le_refl _) ?_
                                          refine g_aload_n 8 dX10_byY_427 rfl ?_
                                          refine g_iload 1 dX10_byY_428 rfl ?_
                                          refine g_iload 0 dX10_byY_430 rfl ?_
                                          refine g_iconst dX10_byY_432 ?_
                                          refine g_callV (nc2 := 0) (ns2 := 0) (ci := 10) (As := [.int (gI (i2)), .int (gI (k2)), .int (gI (2))]) (st := []) rfl dX10_byY_433 okX10_fromSquare lX10_202 itX10_fromSquare seX10_fromSquare rfl fk3497_0 (by decide) (by decide) rfl (Nat.le_of_ble_eq_true rfl) (sM_fromSquare N _ B p hp hp2 hf le fc pn rn hn qn (i2) (k2) (2) (by omega) (fun x y => 0 ≤ x ∧ x < dY hp F + dY hp G ∧ 0 ≤ y ∧ y < dY hp F + dY hp G) (C3) (by omega) fk3497_0 (fr3497).2.1 rk3497_2) (by omega) (by omega) (fun v3498 hc3498 q3498 => ?_)
                                          obtain ⟨rfl, mfc3499, rn3499_0⟩ := q3498
                                          have fk3500_0 : hc3498.2 (B) = some (mO B ((p : Int)) (hf) (le) (fc) (pn) (rn) (hn) (qn)) := Fr.at0 (mfc3499).1 (Ni.c ⟨ne4, ne5⟩ (Ni.n _)) fk3497_0
                                          have fk3500_1 : hc3498.2 (B + 4) = some (aI 1500 (gm)) := Fr.at0 (mfc3499).1 (Ni.c ⟨ne26, ne27⟩ (Ni.n _)) fk3497_1
                                          have fk3500_2 : hc3498.2 (B + 7) = some (aJ 6400 (g7)) := Fr.at0 (mfc3499).1 (Ni.c ⟨(ne31).s, (ne33).s⟩ (Ni.n _)) fk3497_2
                                          have rk3500_0 : MP hp B hc3498 (T) := (rk3497_0).fr (mfc3499).1 (Ni.c ⟨ne11, ne12⟩ (Ni.n _)) (Ni.c ⟨ne17, ne18⟩ (Ni.n _))
                                          have rk3500_1 : MWA B hc3498 := (rk3497_1).fr (mfc3499).1 (Ni.c ⟨ne22, ne23⟩ (Ni.n _))
                                          have rk3500_2 : MSq hp B hc3498 (fun x y => 0 ≤ x ∧ x < dY hp F + dY hp G ∧ 0 ≤ y ∧ y < dY hp F + dY hp G) (C3) := (rk3497_2).fr (mfc3499).1 (Ni.c ⟨(ne32).s, (ne34).s⟩ (Ni.n _))
                                          have rk3500_3 : MG hp B hc3498 (10) (pvt (pR hp) A c.toNat) := (rk3497_3).fr hp2 mfc3499 (Nr.c (by omega) Nr.n)
                                          have rk3500_4 : MG hp B hc3498 (1) ((C3) (c) (c)) := (rn3496_0).fr hp2 mfc3499 (Nr.c (by omega) Nr.n)
                                          have fr3500 : MF B [B + 1, B + 3, B + 7] [0, 1, 2, 3, 4, 5, 6, 7, 8, 9, 10] h hc3498 := (fr3497).tr ((mfc3499).mo sub_n (sbI_c (List.Mem.tail _ (List.Mem.tail _ (List.Mem.head _))) sbI_n))
                                          refine Go.nf (h' := hc3498) (st' := []) rfl rfl (Nat.le_refl _) (Nat.le_refl _) ?_
                                          refine g_aload_n 8 dX10_byY_436 rfl ?_
                                          refine g_iload 1 dX10_byY_437 rfl ?_
                                          refine g_iload 4 dX10_byY_439 rfl ?_
                                          refine g_iconst dX10_byY_441 ?_
                                          refine g_callV (nc2 := 0) (ns2 := 0) (ci := 10) (As := [.int (gI (i2)), .int (gI (c)), .int (gI (3))]) (st := []) rfl dX10_byY_442 okX10_fromSquare lX10_202 itX10_fromSquare seX10_fromSquare rfl fk3500_0 (by decide) (by decide) rfl (Nat.le_of_ble_eq_true rfl) (sM_fromSquare N _ B p hp hp2 hf le fc pn rn hn qn (i2) (c) (3) (by omega) (fun x y => 0 ≤ x ∧ x < dY hp F + dY hp G ∧ 0 ≤ y ∧ y < dY hp F + dY hp G) (C3) (by omega) fk3500_0 (fr3500).2.1 rk3500_2) (by omega) (by omega) (fun v3501 hc3501 q3501 => ?_)
                                          obtain ⟨rfl, mfc3502, rn3502_0⟩ := q3501
                                          have fk3503_0 : hc3501.2 (B) = some (mO B ((p : Int)) (hf) (le) (fc) (pn) (rn) (hn) (qn)) := Fr.at0 (mfc3502).1 (Ni.c ⟨ne4, ne5⟩ (Ni.n _)) fk3500_0
                                          have fk3503_1 : hc3501.2 (B + 4) = some (aI 1500 (gm)) := Fr.at0 (mfc3502).1 (Ni.c ⟨ne26, ne27⟩ (Ni.n _)) fk3500_1
                                          have fk3503_2 : hc3501.2 (B + 7) = some (aJ 6400 (g7)) := Fr.at0 (mfc3502).1 (Ni.c ⟨(ne31).s, (ne33).s⟩ (Ni.n _)) fk3500_2
                                          have rk3503_0 : MP hp B hc3501 (T) := (rk3500_0).fr (mfc3502).1 (Ni.c ⟨ne11, ne12⟩ (Ni.n _)) (Ni.c ⟨ne17, ne18⟩ (Ni.n _))
                                          have rk3503_1 : MWA B hc3501 := (rk3500_1).fr (mfc3502).1 (Ni.c ⟨ne22, ne23⟩ (Ni.n _))
                                          have rk3503_2 : MSq hp B hc3501 (fun x y => 0 ≤ x ∧ x < dY hp F + dY hp G ∧ 0 ≤ y ∧ y < dY hp F + dY hp G) (C3) := (rk3500_2).fr (mfc3502).1 (Ni.c ⟨(ne32).s, (ne34).s⟩ (Ni.n _))
                                          have rk3503_3 : MG hp B hc3501 (10) (pvt (pR hp) A c.toNat) := (rk3500_3).fr hp2 mfc3502 (Nr.c (by omega) Nr.n)
                                          have rk3503_4 : MG hp B hc3501 (1) ((C3) (c) (c)) := (rk3500_4).fr hp2 mfc3502 (Nr.c (by omega) Nr.n)
                                          have rk3503_5 : MG hp B hc3501 (2) ((C3) (i2) (k2)) := (rn3499_0).fr hp2 mfc3502 (Nr.c (by omega) Nr.n)
                                          have fr3503 : MF B [B + 1, B + 3, B + 7] [0, 1, 2, 3, 4, 5, 6, 7, 8, 9, 10] h hc3501 := (fr3500).tr ((mfc3502).mo sub_n (sbI_c (List.Mem.tail _ (List.Mem.tail _ (List.Mem.tail _ (List.Mem.head _)))) sbI_n))
                                          refine Go.nf (h' := hc3501) (st' := []) rfl rfl (Nat.le_refl _) (Nat.le_refl _) ?_
                                          refine g_aload_n 8 dX10_byY_445 rfl ?_
                                          refine g_iload 4 dX10_byY_446 rfl ?_
                                          refine g_iload 0 dX10_byY_448 rfl ?_
                                          refine g_iconst dX10_byY_450 ?_
                                          refine g_callV (nc2 := 0) (ns2 := 0) (ci := 10) (As := [.int (gI (c)), .int (gI (k2)), .int (gI (4))]) (st := []) rfl dX10_byY_451 okX10_fromSquare lX10_202 itX10_fromSquare seX10_fromSquare rfl fk3503_0 (by decide) (by decide) rfl (Nat.le_of_ble_eq_true rfl) (sM_fromSquare N _ B p hp hp2 hf le fc pn rn hn qn (c) (k2) (4) (by omega) (fun x y => 0 ≤ x ∧ x < dY hp F + dY hp G ∧ 0 ≤ y ∧ y < dY hp F + dY hp G) (C3) (by omega) fk3503_0 (fr3503).2.1 rk3503_2) (by omega) (by omega) (fun v3504 hc3504 q3504 => ?_)
                                          obtain ⟨rfl, mfc3505, rn3505_0⟩ := q3504
                                          have fk3506_0 : hc3504.2 (B) = some (mO B ((p : Int)) (hf) (le) (fc) (pn) (rn) (hn) (qn)) := Fr.at0 (mfc3505).1 (Ni.c ⟨ne4, ne5⟩ (Ni.n _)) fk3503_0
                                          have fk3506_1 : hc3504.2 (B + 4) = some (aI 1500 (gm)) := Fr.at0 (mfc3505).1 (Ni.c ⟨ne26, ne27⟩ (Ni.n _)) fk3503_1
                                          have fk3506_2 : hc3504.2 (B + 7) = some (aJ 6400 (g7)) := Fr.at0 (mfc3505).1 (Ni.c ⟨(ne31).s, (ne33).s⟩ (Ni.n _)) fk3503_2
                                          have rk3506_0 : MP hp B hc3504 (T) := (rk3503_0).fr (mfc3505).1 (Ni.c ⟨ne11, ne12⟩ (Ni.n _)) (Ni.c ⟨ne17, ne18⟩ (Ni.n _))
                                          have rk3506_1 : MWA B hc3504 := (rk3503_1).fr (mfc3505).1 (Ni.c ⟨ne22, ne23⟩ (Ni.n _))
                                          have rk3506_2 : MSq hp B hc3504 (fun x y => 0 ≤ x ∧ x < dY hp F + dY hp G ∧ 0 ≤ y ∧ y < dY hp F + dY hp G) (C3) := (rk3503_2).fr (mfc3505).1 (Ni.c ⟨(ne32).s, (ne34).s⟩ (Ni.n _))
                                          have rk3506_3 : MG hp B hc3504 (10) (pvt (pR hp) A c.toNat) := (rk3503_3).fr hp2 mfc3505 (Nr.c (by omega) Nr.n)
                                          have rk3506_4 : MG hp B hc3504 (1) ((C3) (c) (c)) := (rk3503_4).fr hp2 mfc3505 (Nr.c (by omega) Nr.n)
                                          have rk3506_5 : MG hp B hc3504 (2) ((C3) (i2) (k2)) := (rk3503_5).fr hp2 mfc3505 (Nr.c (by omega) Nr.n)
                                          have rk3506_6 : MG hp B hc3504 (3) ((C3) (i2) (c)) := (rn3502_0).fr hp2 mfc3505 (Nr.c (by omega) Nr.n)
                                          have fr3506 : MF B [B + 1, B + 3, B + 7] [0, 1, 2, 3, 4, 5, 6, 7, 8, 9, 10] h hc3504 := (fr3503).tr ((mfc3505).mo sub_n (sbI_c (List.Mem.tail _ (List.Mem.tail _ (List.Mem.tail _ (List.Mem.tail _ (List.Mem.head _))))) sbI_n))
                                          refine Go.nf (h' := hc3504) (st' := []) rfl rfl (Nat.le_refl _) (Nat.le_refl _) ?_
                                          have hd9 : ∀ x y : Int, 0 ≤ x → x < dY hp F + dY hp G → 0 ≤ y → y < dY hp F + dY hp G → dgi hp (C3 x y) < 80 := fun x y x0 x1 y0 y1 => ((rk3506_2).at (i := x) (k := y) ⟨x0, x1, y0, y1⟩).2.2
                                          have hd3507 := hd9 c c (by omega) (by omega) (by omega) (by omega)
                                          have hd3508 := hd9 i2 k2 (by omega) (by omega) (by omega) (by omega)
                                          have hd3509 := hd9 i2 c (by omega) (by omega) (by omega) (by omega)
                                          have hd3510 := hd9 c k2 (by omega) (by omega) (by omega) (by omega)
                                          refine g_aload_n 8 dX10_byY_454 rfl ?_
                                          refine g_iconst dX10_byY_455 ?_
                                          refine g_iconst dX10_byY_456 ?_
                                          refine g_iconst dX10_byY_457 ?_
                                          refine g_callV (nc2 := 0) (ns2 := 0) (ci := 10) (As := [.int (gI (1)), .int (gI (2)), .int (gI (5))]) (st := []) rfl dX10_byY_458 okX10_product lX10_189 itX10_product seX10_product rfl fk3506_0 (by decide) (by decide) rfl (Nat.le_of_ble_eq_true rfl) (sM_product N _ B p hp hp2 hf le fc pn rn hn qn (1) (2) (5) (by omega) (by omega) (by omega) ((C3) (c) (c)) ((C3) (i2) (k2)) fk3506_0 (fr3506).2.1 rk3506_4 rk3506_5 (by omega)) (by omega) (by omega) (fun v3511 hc3511 q3511 => ?_)
                                          obtain ⟨rfl, mfc3512, rn3512_0⟩ := q3511
                                          have fk3513_0 : hc3511.2 (B) = some (mO B ((p : Int)) (hf) (le) (fc) (pn) (rn) (hn) (qn)) := Fr.at0 (mfc3512).1 (Ni.c ⟨ne4, ne5⟩ (Ni.n _)) fk3506_0
                                          have fk3513_1 : hc3511.2 (B + 4) = some (aI 1500 (gm)) := Fr.at0 (mfc3512).1 (Ni.c ⟨ne26, ne27⟩ (Ni.n _)) fk3506_1
                                          have fk3513_2 : hc3511.2 (B + 7) = some (aJ 6400 (g7)) := Fr.at0 (mfc3512).1 (Ni.c ⟨(ne31).s, (ne33).s⟩ (Ni.n _)) fk3506_2
                                          have rk3513_0 : MP hp B hc3511 (T) := (rk3506_0).fr (mfc3512).1 (Ni.c ⟨ne11, ne12⟩ (Ni.n _)) (Ni.c ⟨ne17, ne18⟩ (Ni.n _))
                                          have rk3513_1 : MWA B hc3511 := (rk3506_1).fr (mfc3512).1 (Ni.c ⟨ne22, ne23⟩ (Ni.n _))
                                          have rk3513_2 : MSq hp B hc3511 (fun x y => 0 ≤ x ∧ x < dY hp F + dY hp G ∧ 0 ≤ y ∧ y < dY hp F + dY hp G) (C3) := (rk3506_2).fr (mfc3512).1 (Ni.c ⟨(ne32).s, (ne34).s⟩ (Ni.n _))
                                          have rk3513_3 : MG hp B hc3511 (10) (pvt (pR hp) A c.toNat) := (rk3506_3).fr hp2 mfc3512 (Nr.c (by omega) Nr.n)
                                          have rk3513_4 : MG hp B hc3511 (1) ((C3) (c) (c)) := (rk3506_4).fr hp2 mfc3512 (Nr.c (by omega) Nr.n)
                                          have rk3513_5 : MG hp B hc3511 (2) ((C3) (i2) (k2)) := (rk3506_5).fr hp2 mfc3512 (Nr.c (by omega) Nr.n)
                                          have rk3513_6 : MG hp B hc3511 (3) ((C3) (i2) (c)) := (rk3506_6).fr hp2 mfc3512 (Nr.c (by omega) Nr.n)
                                          have rk3513_7 : MG hp B hc3511 (4) ((C3) (c) (k2)) := (rn3505_0).fr hp2 mfc3512 (Nr.c (by omega) Nr.n)
                                          have fr3513 : MF B [B + 1, B + 3, B + 7] [0, 1, 2, 3, 4, 5, 6, 7, 8, 9, 10] h hc3511 := (fr3506).tr ((mfc3512).mo sub_n (sbI_c (List.Mem.tail _ (List.Mem.tail _ (List.Mem.tail _ (List.Mem.tail _ (List.Mem.tail _ (List.Mem.head _)))))) sbI_n))
                                          refine Go.nf (h' := hc3511) (st' := []) rfl rfl (Nat.le_refl _) (Nat.le_refl _) ?_
                                          refine g_aload_n 8 dX10_byY_461 rfl ?_
                                          refine g_iconst dX10_byY_462 ?_
                                          refine g_iconst dX10_byY_463 ?_
                                          refine g_bipush dX10_byY_464 (by decide) ?_
                                          refine g_callV (nc2 := 0) (ns2 := 0) (ci := 10) (As := [.int (gI (3)), .int (gI (4)), .int (gI (6))]) (st := []) rfl dX10_byY_466 okX10_product lX10_189 itX10_product seX10_product rfl fk3513_0 (by decide) (by decide) rfl (Nat.le_of_ble_eq_true rfl) (sM_product N _ B p hp hp2 hf le fc pn rn hn qn (3) (4) (6) (by omega) (by omega) (by omega) ((C3) (i2) (c)) ((C3) (c) (k2)) fk3513_0 (fr3513).2.1 rk3513_6 rk3513_7 (by omega)) (by omega) (by omega) (fun v3514 hc3514 q3514 => ?_)
                                          obtain ⟨rfl, mfc3515, rn3515_0⟩ := q3514
                                          have fk3516_0 : hc3514.2 (B) = some (mO B ((p : Int)) (hf) (le) (fc) (pn) (rn) (hn) (qn)) := Fr.at0 (mfc3515).1 (Ni.c ⟨ne4, ne5⟩ (Ni.n _)) fk3513_0
                                          have fk3516_1 : hc3514.2 (B + 4) = some (aI 1500 (gm)) := Fr.at0 (mfc3515).1 (Ni.c ⟨ne26, ne27⟩ (Ni.n _)) fk3513_1
                                          have fk3516_2 : hc3514.2 (B + 7) = some (aJ 6400 (g7)) := Fr.at0 (mfc3515).1 (Ni.c ⟨(ne31).s, (ne33).s⟩ (Ni.n _)) fk3513_2
                                          have rk3516_0 : MP hp B hc3514 (T) := (rk3513_0).fr (mfc3515).1 (Ni.c ⟨ne11, ne12⟩ (Ni.n _)) (Ni.c ⟨ne17, ne18⟩ (Ni.n _))
                                          have rk3516_1 : MWA B hc3514 := (rk3513_1).fr (mfc3515).1 (Ni.c ⟨ne22, ne23⟩ (Ni.n _))
                                          have rk3516_2 : MSq hp B hc3514 (fun x y => 0 ≤ x ∧ x < dY hp F + dY hp G ∧ 0 ≤ y ∧ y < dY hp F + dY hp G) (C3) := (rk3513_2).fr (mfc3515).1 (Ni.c ⟨(ne32).s, (ne34).s⟩ (Ni.n _))
                                          have rk3516_3 : MG hp B hc3514 (10) (pvt (pR hp) A c.toNat) := (rk3513_3).fr hp2 mfc3515 (Nr.c (by omega) Nr.n)
                                          have rk3516_4 : MG hp B hc3514 (1) ((C3) (c) (c)) := (rk3513_4).fr hp2 mfc3515 (Nr.c (by omega) Nr.n)
                                          have rk3516_5 : MG hp B hc3514 (2) ((C3) (i2) (k2)) := (rk3513_5).fr hp2 mfc3515 (Nr.c (by omega) Nr.n)
                                          have rk3516_6 : MG hp B hc3514 (3) ((C3) (i2) (c)) := (rk3513_6).fr hp2 mfc3515 (Nr.c (by omega) Nr.n)
                                          have rk3516_7 : MG hp B hc3514 (4) ((C3) (c) (k2)) := (rk3513_7).fr hp2 mfc3515 (Nr.c (by omega) Nr.n)
                                          have rk3516_8 : MG hp B hc3514 (5) (pml hp ((C3) (c) (c)) ((C3) (i2) (k2))) := (rn3512_0).fr hp2 mfc3515 (Nr.c (by omega) Nr.n)
                                          have fr3516 : MF B [B + 1, B + 3, B + 7] [0, 1, 2, 3, 4, 5, 6, 7, 8, 9, 10] h hc3514 := (fr3513).tr ((mfc3515).mo sub_n (sbI_c (List.Mem.tail _ (List.Mem.tail _ (List.Mem.tail _ (List.Mem.tail _ (List.Mem.tail _ (List.Mem.tail _ (List.Mem.head _))))))) sbI_n))
                                          refine Go.nf (h' := hc3514) (st' := []) rfl rfl (Nat.le_refl _) (Nat.le_refl _) ?_
                                          refine g_aload_n 8 dX10_byY_469 rfl ?_
                                          refine g_iconst dX10_byY_470 ?_
                                          refine g_bipush dX10_byY_471 (by decide) ?_
                                          refine g_bipush dX10_byY_473 (by decide) ?_
                                          refine g_callV (nc2 := 0) (ns2 := 0) (ci := 10) (As := [.int (gI (5)), .int (gI (6)), .int (gI (7))]) (st := []) rfl dX10_byY_475 okX10_minus lX10_192 itX10_minus seX10_minus rfl fk3516_0 (by decide) (by decide) rfl (Nat.le_of_ble_eq_true rfl) (sM_minus N _ B p hp hp2 hf le fc pn rn hn qn (5) (6) (7) (by omega) (pml hp ((C3) (c) (c)) ((C3) (i2) (k2))) (pml hp ((C3) (i2) (c)) ((C3) (c) (k2))) fk3516_0 (fr3516).2.1 rk3516_8 rn3515_0) (by omega) (by omega) (fun v3517 hc3517 q3517 => ?_)
                                          obtain ⟨rfl, mfc3518, rn3518_0⟩ := q3517
                                          have fk3519_0 : hc3517.2 (B) = some (mO B ((p : Int)) (hf) (le) (fc) (pn) (rn) (hn) (qn)) := Fr.at0 (mfc3518).1 (Ni.c ⟨ne4, ne5⟩ (Ni.n _)) fk3516_0
                                          have fk3519_1 : hc3517.2 (B + 4) = some (aI 1500 (gm)) := Fr.at0 (mfc3518).1 (Ni.c ⟨ne26, ne27⟩ (Ni.n _)) fk3516_1
                                          have fk3519_2 : hc3517.2 (B + 7) = some (aJ 6400 (g7)) := Fr.at0 (mfc3518).1 (Ni.c ⟨(ne31).s, (ne33).s⟩ (Ni.n _)) fk3516_2
                                          have rk3519_0 : MP hp B hc3517 (T) := (rk3516_0).fr (mfc3518).1 (Ni.c ⟨ne11, ne12⟩ (Ni.n _)) (Ni.c ⟨ne17, ne18⟩ (Ni.n _))
                                          have rk3519_1 : MWA B hc3517 := (rk3516_1).fr (mfc3518).1 (Ni.c ⟨ne22, ne23⟩ (Ni.n _))
                                          have rk3519_2 : MSq hp B hc3517 (fun x y => 0 ≤ x ∧ x < dY hp F + dY hp G ∧ 0 ≤ y ∧ y < dY hp F + dY hp G) (C3) := (rk3516_2).fr (mfc3518).1 (Ni.c ⟨(ne32).s, (ne34).s⟩ (Ni.n _))
                                          have rk3519_3 : MG hp B hc3517 (10) (pvt (pR hp) A c.toNat) := (rk3516_3).fr hp2 mfc3518 (Nr.c (by omega) Nr.n)
                                          have rk3519_4 : MG hp B hc3517 (1) ((C3) (c) (c)) := (rk3516_4).fr hp2 mfc3518 (Nr.c (by omega) Nr.n)
                                          have rk3519_5 : MG hp B hc3517 (2) ((C3) (i2) (k2)) := (rk3516_5).fr hp2 mfc3518 (Nr.c (by omega) Nr.n)
                                          have rk3519_6 : MG hp B hc3517 (3) ((C3) (i2) (c)) := (rk3516_6).fr hp2 mfc3518 (Nr.c (by omega) Nr.n)
                                          have rk3519_7 : MG hp B hc3517 (4) ((C3) (c) (k2)) := (rk3516_7).fr hp2 mfc3518 (Nr.c (by omega) Nr.n)
                                          have rk3519_8 : MG hp B hc3517 (5) (pml hp ((C3) (c) (c)) ((C3) (i2) (k2))) := (rk3516_8).fr hp2 mfc3518 (Nr.c (by omega) Nr.n)
                                          have rk3519_9 : MG hp B hc3517 (6) (pml hp ((C3) (i2) (c)) ((C3) (c) (k2))) := (rn3515_0).fr hp2 mfc3518 (Nr.c (by omega) Nr.n)
                                          have fr3519 : MF B [B + 1, B + 3, B + 7] [0, 1, 2, 3, 4, 5, 6, 7, 8, 9, 10] h hc3517 := (fr3516).tr ((mfc3518).mo sub_n (sbI_c (List.Mem.tail _ (List.Mem.tail _ (List.Mem.tail _ (List.Mem.tail _ (List.Mem.tail _ (List.Mem.tail _ (List.Mem.tail _ (List.Mem.head _)))))))) sbI_n))
                                          refine Go.nf (h' := hc3517) (st' := []) rfl rfl (Nat.le_refl _) (Nat.le_refl _) ?_
                                          refine g_aload_n 8 dX10_byY_478 rfl ?_
                                          refine g_bipush dX10_byY_479 (by decide) ?_
                                          refine g_bipush dX10_byY_481 (by decide) ?_
                                          refine g_bipush dX10_byY_483 (by decide) ?_
                                          refine g_bipush dX10_byY_485 (by decide) ?_
                                          refine g_callV (nc2 := 0) (ns2 := 0) (ci := 10) (As := [.int (gI (7)), .int (gI (10)), .int (gI (8)), .int (gI (9))]) (st := []) rfl dX10_byY_487 okX10_divide lX10_176 itX10_divide seX10_divide rfl fk3519_0 (by decide) (by decide) rfl (Nat.le_of_ble_eq_true rfl) (sM_divide N _ B p hp hp2 hf le fc pn rn hn qn (7) (10) (8) (9) (by omega) (by omega) (by omega) (by omega) (by omega) (by omega) (psb hp (pml hp ((C3) (c) (c)) ((C3) (i2) (k2))) (pml hp ((C3) (i2) (c)) ((C3) (c) (k2)))) (pvt (pR hp) A c.toNat) fk3519_0 (fr3519).2.1 rn3518_0 rk3519_3 (by omega)) (by omega) (by omega) (fun v3520 hc3520 q3520 => ?_)
                                          obtain ⟨rfl, mfc3521, rn3521_0, rn3521_1⟩ := q3520
                                          have fk3522_0 : hc3520.2 (B) = some (mO B ((p : Int)) (hf) (le) (fc) (pn) (rn) (hn) (qn)) := Fr.at0 (mfc3521).1 (Ni.c ⟨ne4, ne5⟩ (Ni.n _)) fk3519_0
                                          have fk3522_1 : hc3520.2 (B + 4) = some (aI 1500 (gm)) := Fr.at0 (mfc3521).1 (Ni.c ⟨ne26, ne27⟩ (Ni.n _)) fk3519_1
                                          have fk3522_2 : hc3520.2 (B + 7) = some (aJ 6400 (g7)) := Fr.at0 (mfc3521).1 (Ni.c ⟨(ne31).s, (ne33).s⟩ (Ni.n _)) fk3519_2
                                          have rk3522_0 : MP hp B hc3520 (T) := (rk3519_0).fr (mfc3521).1 (Ni.c ⟨ne11, ne12⟩ (Ni.n _)) (Ni.c ⟨ne17, ne18⟩ (Ni.n _))
                                          have rk3522_1 : MWA B hc3520 := (rk3519_1).fr (mfc3521).1 (Ni.c ⟨ne22, ne23⟩ (Ni.n _))
                                          have rk3522_2 : MSq hp B hc3520 (fun x y => 0 ≤ x ∧ x < dY hp F + dY hp G ∧ 0 ≤ y ∧ y < dY hp F + dY hp G) (C3) := (rk3519_2).fr (mfc3521).1 (Ni.c ⟨(ne32).s, (ne34).s⟩ (Ni.n _))
                                          have rk3522_3 : MG hp B hc3520 (10) (pvt (pR hp) A c.toNat) := (rk3519_3).fr hp2 mfc3521 (Nr.c (by omega) (Nr.c (by omega) Nr.n))
                                          have rk3522_4 : MG hp B hc3520 (1) ((C3) (c) (c)) := (rk3519_4).fr hp2 mfc3521 (Nr.c (by omega) (Nr.c (by omega) Nr.n))
                                          have rk3522_5 : MG hp B hc3520 (2) ((C3) (i2) (k2)) := (rk3519_5).fr hp2 mfc3521 (Nr.c (by omega) (Nr.c (by omega) Nr.n))
                                          have rk3522_6 : MG hp B hc3520 (3) ((C3) (i2) (c)) := (rk3519_6).fr hp2 mfc3521 (Nr.c (by omega) (Nr.c (by omega) Nr.n))
                                          have rk3522_7 : MG hp B hc3520 (4) ((C3) (c) (k2)) := (rk3519_7).fr hp2 mfc3521 (Nr.c (by omega) (Nr.c (by omega) Nr.n))
                                          have rk3522_8 : MG hp B hc3520 (5) (pml hp ((C3) (c) (c)) ((C3) (i2) (k2))) := (rk3519_8).fr hp2 mfc3521 (Nr.c (by omega) (Nr.c (by omega) Nr.n))
                                          have rk3522_9 : MG hp B hc3520 (6) (pml hp ((C3) (i2) (c)) ((C3) (c) (k2))) := (rk3519_9).fr hp2 mfc3521 (Nr.c (by omega) (Nr.c (by omega) Nr.n))
                                          have rk3522_10 : MG hp B hc3520 (7) (psb hp (pml hp ((C3) (c) (c)) ((C3) (i2) (k2))) (pml hp ((C3) (i2) (c)) ((C3) (c) (k2)))) := (rn3518_0).fr hp2 mfc3521 (Nr.c (by omega) (Nr.c (by omega) Nr.n))
                                          have fr3522 : MF B [B + 1, B + 3, B + 7] [0, 1, 2, 3, 4, 5, 6, 7, 8, 9, 10] h hc3520 := (fr3519).tr ((mfc3521).mo sub_n (sbI_c (List.Mem.tail _ (List.Mem.tail _ (List.Mem.tail _ (List.Mem.tail _ (List.Mem.tail _ (List.Mem.tail _ (List.Mem.tail _ (List.Mem.tail _ (List.Mem.tail _ (List.Mem.head _)))))))))) (sbI_c (List.Mem.tail _ (List.Mem.tail _ (List.Mem.tail _ (List.Mem.tail _ (List.Mem.tail _ (List.Mem.tail _ (List.Mem.tail _ (List.Mem.tail _ (List.Mem.head _))))))))) sbI_n)))
                                          refine Go.nf (h' := hc3520) (st' := []) rfl rfl (Nat.le_refl _) (Nat.le_refl _) ?_
                                          have hq8 : qt hp (psb hp (pml hp ((C3) (c) (c)) ((C3) (i2) (k2))) (pml hp ((C3) (i2) (c)) ((C3) (c) (k2)))) (pvt (pR hp) A c.toNat) = mqI hp (swr A c.toNat w.toNat) (c + 1) i2 k2 := by
                                                                      rw [hE c c (by omega) (by omega) (by omega) (by omega), if_neg (by omega), hE i2 k2 (by omega) (by omega) (by omega) (by omega), if_neg (by omega), hE i2 c (by omega) (by omega) (by omega) (by omega), if_neg (by omega), hE c k2 (by omega) (by omega) (by omega) (by omega), if_neg (by omega), ← hpv10]
                                                                      exact bar_qI hp hI2 hc.1 (by omega) (by omega) (by omega) (by omega) (by omega)
                                          have hdz : dgi hp (qt hp (psb hp (pml hp ((C3) (c) (c)) ((C3) (i2) (k2))) (pml hp ((C3) (i2) (c)) ((C3) (c) (k2)))) (pvt (pR hp) A c.toNat)) < 80 := by rw [hq8]; exact (hm3 i2 k2 (by omega) (by omega) (by omega) (by omega)).2
                                          refine g_aload_n 8 dX10_byY_490 rfl ?_
                                          refine g_bipush dX10_byY_491 (by decide) ?_
                                          refine g_iload 1 dX10_byY_493 rfl ?_
                                          refine g_iload 0 dX10_byY_495 rfl ?_
                                          refine g_callV (nc2 := 0) (ns2 := 0) (ci := 10) (As := [.int (gI (8)), .int (gI (i2)), .int (gI (k2))]) (st := []) rfl dX10_byY_497 okX10_toSquare lX10_199 itX10_toSquare seX10_toSquare rfl fk3522_0 (by decide) (by decide) rfl (Nat.le_of_ble_eq_true rfl) (sM_toSquare0 N _ B p hp hp2 hf le fc pn rn hn qn (8) (i2) (k2) (by omega) (fun x y => 0 ≤ x ∧ x < dY hp F + dY hp G ∧ 0 ≤ y ∧ y < dY hp F + dY hp G) (C3) (qt hp (psb hp (pml hp ((C3) (c) (c)) ((C3) (i2) (k2))) (pml hp ((C3) (i2) (c)) ((C3) (c) (k2)))) (pvt (pR hp) A c.toNat)) (g7) fk3522_0 (fr3522).2.1 fk3522_2 rk3522_2 rn3521_1 hdz) (by omega) (by omega) (fun v3523 hc3523 q3523 => ?_)
                                          obtain ⟨rfl, mfc3524, f7_3524, mq3524⟩ := q3523
                                          have fk3525_0 : hc3523.2 (B) = some (mO B ((p : Int)) (hf) (le) (fc) (pn) (rn) (hn) (qn)) := Fr.at0 (mfc3524).1 (Ni.c ⟨ne4, ne5⟩ (Ni.c ⟨ne6, ne7⟩ (Ni.n _))) fk3522_0
                                          have fk3525_1 : hc3523.2 (B + 4) = some (aI 1500 (gm)) := Fr.at0 (mfc3524).1 (Ni.c ⟨ne26, ne27⟩ (Ni.c ⟨ne28, ne29⟩ (Ni.n _))) fk3522_1
                                          have rk3525_0 : MP hp B hc3523 (T) := (rk3522_0).fr (mfc3524).1 (Ni.c ⟨ne11, ne12⟩ (Ni.c ⟨ne13, ne14⟩ (Ni.n _))) (Ni.c ⟨ne17, ne18⟩ (Ni.c ⟨ne19, ne20⟩ (Ni.n _)))
                                          have rk3525_1 : MWA B hc3523 := (rk3522_1).fr (mfc3524).1 (Ni.c ⟨ne22, ne23⟩ (Ni.c ⟨ne24, ne25⟩ (Ni.n _)))
                                          have rk3525_3 : MG hp B hc3523 (10) (pvt (pR hp) A c.toNat) := (rk3522_3).fr hp2 mfc3524 Nr.n
                                          have rk3525_4 : MG hp B hc3523 (1) ((C3) (c) (c)) := (rk3522_4).fr hp2 mfc3524 Nr.n
                                          have rk3525_5 : MG hp B hc3523 (2) ((C3) (i2) (k2)) := (rk3522_5).fr hp2 mfc3524 Nr.n
                                          have rk3525_6 : MG hp B hc3523 (3) ((C3) (i2) (c)) := (rk3522_6).fr hp2 mfc3524 Nr.n
                                          have rk3525_7 : MG hp B hc3523 (4) ((C3) (c) (k2)) := (rk3522_7).fr hp2 mfc3524 Nr.n
                                          have rk3525_8 : MG hp B hc3523 (5) (pml hp ((C3) (c) (c)) ((C3) (i2) (k2))) := (rk3522_8).fr hp2 mfc3524 Nr.n
                                          have rk3525_9 : MG hp B hc3523 (6) (pml hp ((C3) (i2) (c)) ((C3) (c) (k2))) := (rk3522_9).fr hp2 mfc3524 Nr.n
                                          have rk3525_10 : MG hp B hc3523 (7) (psb hp (pml hp ((C3) (c) (c)) ((C3) (i2) (k2))) (pml hp ((C3) (i2) (c)) ((C3) (c) (k2)))) := (rk3522_10).fr hp2 mfc3524 Nr.n
                                          have rk3525_11 : MG hp B hc3523 (9) (rm hp (psb hp (pml hp ((C3) (c) (c)) ((C3) (i2) (k2))) (pml hp ((C3) (i2) (c)) ((C3) (c) (k2)))) (pvt (pR hp) A c.toNat)) := (rn3521_0).fr hp2 mfc3524 Nr.n
                                          have rk3525_12 : MG hp B hc3523 (8) (qt hp (psb hp (pml hp ((C3) (c) (c)) ((C3) (i2) (k2))) (pml hp ((C3) (i2) (c)) ((C3) (c) (k2)))) (pvt (pR hp) A c.toNat)) := (rn3521_1).fr hp2 mfc3524 Nr.n
                                          have fr3525 : MF B [B + 1, B + 3, B + 7] [0, 1, 2, 3, 4, 5, 6, 7, 8, 9, 10] h hc3523 := (fr3522).tr ((mfc3524).mo (sub_c (List.Mem.tail _ (List.Mem.tail _ (List.Mem.head _))) sub_n) sbI_n)
                                          refine Go.nf (h' := hc3523) (st' := []) rfl rfl (Nat.le_refl _) (Nat.le_refl _) ?_
                                          refine g_iinc 0 (ls2 := [(10, .int (gI (k2 + 1))), (9, .int (gI (i2))), (6, .int (gI (0))), (8, .int (gI (w))), (7, .int (gI (c))), (5, .int (gI ((dY hp F) + (dY hp G)))), (4, .int (gI (dY hp G))), (3, .int (gI (dY hp F))), (0, .ref (B)), (1, .int (gI (a))), (2, .int (gI (b)))]) dX10_byY_500 rfl (by decide) rfl ?_
                                          refine g_goto (tgt := 411) dX10_byY_503 rfl ?_
                                          exact ih_l2 _ (by omega) (k2 + 1) (cup C3 i2 k2 (qt hp (psb hp (pml hp ((C3) (c) (c)) ((C3) (i2) (k2))) (pml hp ((C3) (i2) (c)) ((C3) (c) (k2)))) (pvt (pR hp) A c.toNat))) hc3523 rfl fr3525 fk3525_1 f7_3524 rk3525_0 rk3525_1 ((mq3524).mono (D2 := fun x y => 0 ≤ x ∧ x < dY hp F + dY hp G ∧ 0 ≤ y ∧ y < dY hp F + dY hp G) (C2 := cup C3 i2 k2 (qt hp (psb hp (pml hp ((C3) (c) (c)) ((C3) (i2) (k2))) (pml hp ((C3) (i2) (c)) ((C3) (c) (k2)))) (pvt (pR hp) A c.toNat))) (fun x y d => Or.inl d) (fun x y d => rfl)) rk3525_3 (by omega) (fun x y x0 x1 y0 y1 => by
                                                                      unfold cup
                                                                      by_cases z : x = i2 ∧ y = k2
                                                                      · rw [if_pos z, if_pos (by omega), hq8, z.1, z.2]
                                                                      · rw [if_neg z, hE x y x0 x1 y0 y1]
                                                                        by_cases q : c < x ∧ c < y ∧ (x < i2 ∨ (x = i2 ∧ y < k2))
                                                                        · rw [if_pos q, if_pos (by omega)]
                                                                        · rw [if_neg q, if_neg (by omega)])
                                      exact l2 _ (c + 1) (C3a) hl1 rfl fr_l1 cf_l1_0 cf_l1_1 cr_l1_0 cr_l1_1 cr_l1_2 cr_l1_3 (by omega) (fun x y x0 x1 y0 y1 => by
                                                                      rw [hEa x y x0 x1 y0 y1]
                                                                      by_cases q : c < x ∧ c < y ∧ (x < i2 )
                                                                      · rw [if_pos q, if_pos (by omega)]
                                                                      · rw [if_neg q, if_neg (by omega)])
                                  exact l1 _ (c + 1) (swC C w c k) hls rfl fr_ls cf_ls_0 cf_ls_1 cr_ls_0 cr_ls_1 cr_ls_2 cr_ls_3 (by omega) (fun x y x0 x1 y0 y1 => by rw [if_neg (by omega)]; exact hC2 x y x0 x1 y0 y1)
                                · skip
                                  refine g_iconst dX10_byY_385 ?_
                                  refine g_goto (tgt := 390) dX10_byY_386 rfl ?_
                                  refine g_istore (ls2 := [(6, .int (gI (1))), (9, .int (gI (k))), (8, .int (gI (w))), (7, .int (gI (c))), (5, .int (gI ((dY hp F) + (dY hp G)))), (4, .int (gI (dY hp G))), (3, .int (gI (dY hp F))), (0, .ref (B)), (1, .int (gI (a))), (2, .int (gI (b)))]) dX10_byY_390 (by decide) rfl ?_
                                  have hR2 : barR hp (dY hp F + dY hp G).toNat (dY hp F + dY hp G - 1 - (c + 1)).toNat (c + 1).toNat (swr A c.toNat w.toNat) (decide ((1 : Int) = 1)) = resY hp F G := by
                                                                      rw [← hR, show (dY hp F + dY hp G - 1 - c).toNat = (dY hp F + dY hp G - 1 - (c + 1)).toNat + 1 by omega, barR_s hp hpvt, show (c + 1).toNat = c.toNat + 1 by omega]
                                                                      rw [if_pos (show w.toNat = c.toNat by omega), show tu = 1 by omega]
                                  refine g_iload 3 dX10_byY_392 rfl ?_
                                  refine g_iconst dX10_byY_394 ?_
                                  refine g_iadd dX10_byY_395 ?_
                                  refine g_istore (ls2 := [(9, .int (gI ((c) + (1)))), (6, .int (gI (1))), (8, .int (gI (w))), (7, .int (gI (c))), (5, .int (gI ((dY hp F) + (dY hp G)))), (4, .int (gI (dY hp G))), (3, .int (gI (dY hp F))), (0, .ref (B)), (1, .int (gI (a))), (2, .int (gI (b)))]) dX10_byY_396 (by decide) rfl ?_
                                  have hm2 : ∀ x y, c ≤ x → x < dY hp F + dY hp G → c ≤ y → y < dY hp F + dY hp G → po (fR hp) (mqI hp (swr A c.toNat w.toNat) c x y) ∧ dgi hp (mqI hp (swr A c.toNat w.toNat) c x y) < 80 := fun i q i0 i1 q0 q1 => mqI_po hp hI2 (by omega) hc.1 (by omega) i1 (by omega) q1
                                  have hpnz : mqI hp (swr A c.toNat w.toNat) c c c ≠ (letI := pR hp; 0) := by
                                                                      unfold mqI
                                                                      rw [mnr_sw hp A (by omega)]
                                                                      have e9 : swi c.toNat w.toNat c.toNat = w.toNat := if_pos rfl
                                                                      rw [e9]; exact hpvt.2.2.1
                                  have hI3 : barI hp (dY hp F + dY hp G).toNat (c + 1).toNat (swr A c.toNat w.toNat) := by
                                                                      rw [show (c + 1).toNat = c.toNat + 1 by omega]
                                                                      exact barI_s hp hI2 (by omega) hpnz
                                  have hm3 : ∀ x y, 0 ≤ x → x < dY hp F + dY hp G → 0 ≤ y → y < dY hp F + dY hp G → po (fR hp) (mqI hp (swr A c.toNat w.toNat) (c + 1) x y) ∧ dgi hp (mqI hp (swr A c.toNat w.toNat) (c + 1) x y) < 80 := fun i q i0 i1 q0 q1 => mqI_po hp hI3 (by omega) (by omega) i0 i1 q0 q1
                                  have hpk := pvt_po hp hI.1 hI.2.1
                                  have hpk0 := dgi_nz hp hpk hI.2.2.1
                                  have l1 : ∀ (kk : Nat) (i2 : Int) (C3a : Int → Int → Px p) (hl1 : GH), kk = (12 - i2).toNat → MF B [B + 1, B + 3, B + 7] [0, 1, 2, 3, 4, 5, 6, 7, 8, 9, 10] h hl1 → hl1.2 (B + 4) = some (aI 1500 (gm)) → hl1.2 (B + 7) = some (aJ 6400 (g7)) → MP hp B hl1 (T) → MWA B hl1 → MSq hp B hl1 (fun x y => 0 ≤ x ∧ x < dY hp F + dY hp G ∧ 0 ≤ y ∧ y < dY hp F + dY hp G) (C3a) → MG hp B hl1 (10) (pvt (pR hp) A c.toNat) → (c + 1 ≤ i2 ∧ i2 ≤ dY hp F + dY hp G) → (∀ x y, c ≤ x → x < dY hp F + dY hp G → c ≤ y → y < dY hp F + dY hp G → C3a x y = if c < x ∧ c < y ∧ (x < i2 ) then mqI hp (swr A c.toNat w.toNat) (c + 1) x y else mqI hp (swr A c.toNat w.toNat) c x y) → Go N mX10_byY (fun v h1 => Fr [B + 1, B + 3, B + 5, B + 7] h h1 ∧ MS B h1 ∧ ∃ w T2, Ou T (pa12 hp F G) w T2 ∧ v = some (.int (gI w)) ∧ MP hp B h1 T2) 0 0 hl1 398 [(9, .int (gI (i2))), (6, .int (gI (1))), (8, .int (gI (w))), (7, .int (gI (c))), (5, .int (gI ((dY hp F) + (dY hp G)))), (4, .int (gI (dY hp G))), (3, .int (gI (dY hp F))), (0, .ref (B)), (1, .int (gI (a))), (2, .int (gI (b)))] [] := by
                                    refine Go.ind (fun kk ih_l1 => ?_)
                                    intro i2 C3a hl1 hkk_l1 fr_l1 cf_l1_0 cf_l1_1 cr_l1_0 cr_l1_1 cr_l1_2 cr_l1_3 hi2 hEa
                                    have cg_l1_0 : hl1.2 (B) = some (mO B ((p : Int)) (hf) (le) (fc) (pn) (rn) (hn) (qn)) := Fr.at0 (fr_l1).1 (Ni.c ⟨ne4, ne5⟩ (Ni.c ⟨ne0, ne1⟩ (Ni.c ⟨ne2, ne3⟩ (Ni.c ⟨ne6, ne7⟩ (Ni.n _))))) hm
                                    refine g_iload 0 dX10_byY_398 rfl ?_
                                    refine g_iload 4 dX10_byY_400 rfl ?_
                                    refine g_icmp_ge (tgt := 512) dX10_byY_402 rfl (by first | (unfold gW; omega) | (unfold gW; split <;> omega)) (by first | (unfold gW; omega) | (unfold gW; split <;> omega)) (fun c3826 => ?_) (fun c3826 => ?_)
                                    · skip
                                      refine g_aload_n 7 dX10_byY_512 rfl ?_
                                      refine g_iload 3 dX10_byY_513 rfl ?_
                                      refine g_iload 3 dX10_byY_515 rfl ?_
                                      refine g_bipush dX10_byY_517 (by decide) ?_
                                      refine g_callV (nc2 := 0) (ns2 := 0) (ci := 10) (As := [.int (gI (c)), .int (gI (c)), .int (gI (10))]) (st := []) rfl dX10_byY_519 okX10_fromSquare lX10_202 itX10_fromSquare seX10_fromSquare rfl cg_l1_0 (by decide) (by decide) rfl (Nat.le_of_ble_eq_true rfl) (sM_fromSquare N _ B p hp hp2 hf le fc pn rn hn qn (c) (c) (10) (by omega) (fun x y => 0 ≤ x ∧ x < dY hp F + dY hp G ∧ 0 ≤ y ∧ y < dY hp F + dY hp G) (C3a) (by omega) cg_l1_0 (fr_l1).2.1 cr_l1_2) (by omega) (by omega) (fun v3827 hc3827 q3827 => ?_)
                                      obtain ⟨rfl, mfc3828, rn3828_0⟩ := q3827
                                      have fk3829_0 : hc3827.2 (B) = some (mO B ((p : Int)) (hf) (le) (fc) (pn) (rn) (hn) (qn)) := Fr.at0 (mfc3828).1 (Ni.c ⟨ne4, ne5⟩ (Ni.n _)) cg_l1_0
                                      have fk3829_1 : hc3827.2 (B + 4) = some (aI 1500 (gm)) := Fr.at0 (mfc3828).1 (Ni.c ⟨ne26, ne27⟩ (Ni.n _)) cf_l1_0
                                      have fk3829_2 : hc3827.2 (B + 7) = some (aJ 6400 (g7)) := Fr.at0 (mfc3828).1 (Ni.c ⟨(ne31).s, (ne33).s⟩ (Ni.n _)) cf_l1_1
                                      have rk3829_0 : MP hp B hc3827 (T) := (cr_l1_0).fr (mfc3828).1 (Ni.c ⟨ne11, ne12⟩ (Ni.n _)) (Ni.c ⟨ne17, ne18⟩ (Ni.n _))
                                      have rk3829_1 : MWA B hc3827 := (cr_l1_1).fr (mfc3828).1 (Ni.c ⟨ne22, ne23⟩ (Ni.n _))
                                      have rk3829_2 : MSq hp B hc3827 (fun x y => 0 ≤ x ∧ x < dY hp F + dY hp G ∧ 0 ≤ y ∧ y < dY hp F + dY hp G) (C3a) := (cr_l1_2).fr (mfc3828).1 (Ni.c ⟨(ne32).s, (ne34).s⟩ (Ni.n _))
                                      have fr3829 : MF B [B + 1, B + 3, B + 7] [0, 1, 2, 3, 4, 5, 6, 7, 8, 9, 10] h hc3827 := (fr_l1).tr ((mfc3828).mo sub_n (sbI_c (List.Mem.tail _ (List.Mem.tail _ (List.Mem.tail _ (List.Mem.tail _ (List.Mem.tail _ (List.Mem.tail _ (List.Mem.tail _ (List.Mem.tail _ (List.Mem.tail _ (List.Mem.tail _ (List.Mem.head _))))))))))) sbI_n))
                                      refine Go.nf (h' := hc3827) (st' := []) rfl rfl (Nat.le_refl _) (Nat.le_refl _) ?_
                                      have hp11 : (C3a) (c) (c) = pvt (pR hp) (swr A c.toNat w.toNat) (c + 1).toNat := by
                                                                      rw [hEa c c (by omega) (by omega) (by omega) (by omega), if_neg (by omega), show (c + 1).toNat = c.toNat + 1 by omega, pvt_s]
                                                                      rfl
                                      refine g_iinc 3 (ls2 := [(7, .int (gI (c + 1))), (9, .int (gI (i2))), (6, .int (gI (1))), (8, .int (gI (w))), (5, .int (gI ((dY hp F) + (dY hp G)))), (4, .int (gI (dY hp G))), (3, .int (gI (dY hp F))), (0, .ref (B)), (1, .int (gI (a))), (2, .int (gI (b)))]) dX10_byY_522 rfl (by decide) rfl ?_
                                      refine g_goto (tgt := 230) dX10_byY_525 rfl ?_
                                      refine Go.sub [0, 2, 4, 5, 6, 7, 8, 9] rfl ?_
                                      exact ih_lc _ (by omega) (c + 1) (1) (swr A c.toNat w.toNat) (C3a) hc3827 rfl fr3829 fk3829_1 fk3829_2 rk3829_0 rk3829_1 rk3829_2 (by rw [← hp11]; exact rn3828_0) (by omega) (by omega) hI3 hR2 (fun x y x0 x1 y0 y1 => by rw [hEa x y (by omega) x1 (by omega) y1, if_pos (by omega)])
                                    · skip
                                      refine g_iload 3 dX10_byY_405 rfl ?_
                                      refine g_iconst dX10_byY_407 ?_
                                      refine g_iadd dX10_byY_408 ?_
                                      refine g_istore (ls2 := [(10, .int (gI ((c) + (1)))), (9, .int (gI (i2))), (6, .int (gI (1))), (8, .int (gI (w))), (7, .int (gI (c))), (5, .int (gI ((dY hp F) + (dY hp G)))), (4, .int (gI (dY hp G))), (3, .int (gI (dY hp F))), (0, .ref (B)), (1, .int (gI (a))), (2, .int (gI (b)))]) dX10_byY_409 (by decide) rfl ?_
                                      have l2 : ∀ (kk : Nat) (k2 : Int) (C3 : Int → Int → Px p) (hl2 : GH), kk = (12 - k2).toNat → MF B [B + 1, B + 3, B + 7] [0, 1, 2, 3, 4, 5, 6, 7, 8, 9, 10] h hl2 → hl2.2 (B + 4) = some (aI 1500 (gm)) → hl2.2 (B + 7) = some (aJ 6400 (g7)) → MP hp B hl2 (T) → MWA B hl2 → MSq hp B hl2 (fun x y => 0 ≤ x ∧ x < dY hp F + dY hp G ∧ 0 ≤ y ∧ y < dY hp F + dY hp G) (C3) → MG hp B hl2 (10) (pvt (pR hp) A c.toNat) → (c + 1 ≤ k2 ∧ k2 ≤ dY hp F + dY hp G) → (∀ x y, c ≤ x → x < dY hp F + dY hp G → c ≤ y → y < dY hp F + dY hp G → C3 x y = if c < x ∧ c < y ∧ (x < i2 ∨ (x = i2 ∧ y < k2)) then mqI hp (swr A c.toNat w.toNat) (c + 1) x y else mqI hp (swr A c.toNat w.toNat) c x y) → Go N mX10_byY (fun v h1 => Fr [B + 1, B + 3, B + 5, B + 7] h h1 ∧ MS B h1 ∧ ∃ w T2, Ou T (pa12 hp F G) w T2 ∧ v = some (.int (gI w)) ∧ MP hp B h1 T2) 0 0 hl2 411 [(10, .int (gI (k2))), (9, .int (gI (i2))), (6, .int (gI (1))), (8, .int (gI (w))), (7, .int (gI (c))), (5, .int (gI ((dY hp F) + (dY hp G)))), (4, .int (gI (dY hp G))), (3, .int (gI (dY hp F))), (0, .ref (B)), (1, .int (gI (a))), (2, .int (gI (b)))] [] := by
                                        refine Go.ind (fun kk ih_l2 => ?_)
                                        intro k2 C3 hl2 hkk_l2 fr_l2 cf_l2_0 cf_l2_1 cr_l2_0 cr_l2_1 cr_l2_2 cr_l2_3 hk2 hE
                                        have cg_l2_0 : hl2.2 (B) = some (mO B ((p : Int)) (hf) (le) (fc) (pn) (rn) (hn) (qn)) := Fr.at0 (fr_l2).1 (Ni.c ⟨ne4, ne5⟩ (Ni.c ⟨ne0, ne1⟩ (Ni.c ⟨ne2, ne3⟩ (Ni.c ⟨ne6, ne7⟩ (Ni.n _))))) hm
                                        refine g_iload 0 dX10_byY_411 rfl ?_
                                        refine g_iload 5 dX10_byY_413 rfl ?_
                                        refine g_icmp_ge (tgt := 506) dX10_byY_415 rfl (by first | (unfold gW; omega) | (unfold gW; split <;> omega)) (by first | (unfold gW; omega) | (unfold gW; split <;> omega)) (fun c3930 => ?_) (fun c3930 => ?_)
                                        · skip
                                          refine g_iinc 1 (ls2 := [(9, .int (gI (i2 + 1))), (10, .int (gI (k2))), (6, .int (gI (1))), (8, .int (gI (w))), (7, .int (gI (c))), (5, .int (gI ((dY hp F) + (dY hp G)))), (4, .int (gI (dY hp G))), (3, .int (gI (dY hp F))), (0, .ref (B)), (1, .int (gI (a))), (2, .int (gI (b)))]) dX10_byY_506 rfl (by decide) rfl ?_
                                          refine g_goto (tgt := 398) dX10_byY_509 rfl ?_
                                          refine Go.sub [0, 2, 3, 4, 5, 6, 7, 8, 9, 10] rfl ?_
                                          exact ih_l1 _ (by omega) (i2 + 1) (C3) hl2 rfl fr_l2 cf_l2_0 cf_l2_1 cr_l2_0 cr_l2_1 cr_l2_2 cr_l2_3 (by omega) (fun x y x0 x1 y0 y1 => by
                                                                      rw [hE x y x0 x1 y0 y1]
                                                                      by_cases q : c < x ∧ c < y ∧ (x < i2 ∨ (x = i2 ∧ y < k2))
                                                                      · rw [if_pos q, if_pos (by omega)]
                                                                      · rw [if_neg q, if_neg (by omega)])
                                        · skip
                                          refine g_aload_n 8 dX10_byY_418 rfl ?_
                                          refine g_iload 4 dX10_byY_419 rfl ?_
                                          refine g_iload 4 dX10_byY_421 rfl ?_
                                          refine g_iconst dX10_byY_423 ?_
                                          refine g_callV (nc2 := 0) (ns2 := 0) (ci := 10) (As := [.int (gI (c)), .int (gI (c)), .int (gI (1))]) (st := []) rfl dX10_byY_424 okX10_fromSquare lX10_202 itX10_fromSquare seX10_fromSquare rfl cg_l2_0 (by decide) (by decide) rfl (Nat.le_of_ble_eq_true rfl) (sM_fromSquare N _ B p hp hp2 hf le fc pn rn hn qn (c) (c) (1) (by omega) (fun x y => 0 ≤ x ∧ x < dY hp F + dY hp G ∧ 0 ≤ y ∧ y < dY hp F + dY hp G) (C3) (by omega) cg_l2_0 (fr_l2).2.1 cr_l2_2) (by omega) (by omega) (fun v3931 hc3931 q3931 => ?_)
                                          obtain ⟨rfl, mfc3932, rn3932_0⟩ := q3931
                                          have fk3933_0 : hc3931.2 (B) = some (mO B ((p : Int)) (hf) (le) (fc) (pn) (rn) (hn) (qn)) := Fr.at0 (mfc3932).1 (Ni.c ⟨ne4, ne5⟩ (Ni.n _)) cg_l2_0
                                          have fk3933_1 : hc3931.2 (B + 4) = some (aI 1500 (gm)) := Fr.at0 (mfc3932).1 (Ni.c ⟨ne26, ne27⟩ (Ni.n _)) cf_l2_0
                                          have fk3933_2 : hc3931.2 (B + 7) = some (aJ 6400 (g7)) := Fr.at0 (mfc3932).1 (Ni.c ⟨(ne31).s, (ne33).s⟩ (Ni.n _)) cf_l2_1
                                          have rk3933_0 : MP hp B hc3931 (T) := (cr_l2_0).fr (mfc3932).1 (Ni.c ⟨ne11, ne12⟩ (Ni.n _)) (Ni.c ⟨ne17, ne18⟩ (Ni.n _))
                                          have rk3933_1 : MWA B hc3931 := (cr_l2_1).fr (mfc3932).1 (Ni.c ⟨ne22, ne23⟩ (Ni.n _))
                                          have rk3933_2 : MSq hp B hc3931 (fun x y => 0 ≤ x ∧ x < dY hp F + dY hp G ∧ 0 ≤ y ∧ y < dY hp F + dY hp G) (C3) := (cr_l2_2).fr (mfc3932).1 (Ni.c ⟨(ne32).s, (ne34).s⟩ (Ni.n _))
                                          have rk3933_3 : MG hp B hc3931 (10) (pvt (pR hp) A c.toNat) := (cr_l2_3).fr hp2 mfc3932 (Nr.c (by omega) Nr.n)
                                          have fr3933 : MF B [B + 1, B + 3, B + 7] [0, 1, 2, 3, 4, 5, 6, 7, 8, 9, 10] h hc3931 := (fr_l2).tr ((mfc3932).mo sub_n (sbI_c (List.Mem.tail _ (List.Mem.head _)) sbI_n))
                                          refine Go.nf (h' := hc3931) (st' := []) rfl rfl (Nat.le_refl _) (Nat.le_refl _) ?_
                                          refine g_aload_n 8 dX10_byY_427 rfl ?_
                                          refine g_iload 1 dX10_byY_428 rfl ?_
                                          refine g_iload 0 dX10_byY_430 rfl ?_
                                          refine g_iconst dX10_byY_432 ?_
                                          refine g_callV (nc2 := 0) (ns2 := 0) (ci := 10) (As := [.int (gI (i2)), .int (gI (k2)), .int (gI (2))]) (st := []) rfl dX10_byY_433 okX10_fromSquare lX10_202 itX10_fromSquare seX10_fromSquare rfl fk3933_0 (by decide) (by decide) rfl (Nat.le_of_ble_eq_true rfl) (sM_fromSquare N _ B p hp hp2 hf le fc pn rn hn qn (i2) (k2) (2) (by omega) (fun x y => 0 ≤ x ∧ x < dY hp F + dY hp G ∧ 0 ≤ y ∧ y < dY hp F + dY hp G) (C3) (by omega) fk3933_0 (fr3933).2.1 rk3933_2) (by omega) (by omega) (fun v3934 hc3934 q3934 => ?_)
                                          obtain ⟨rfl, mfc3935, rn3935_0⟩ := q3934
                                          have fk3936_0 : hc3934.2 (B) = some (mO B ((p : Int)) (hf) (le) (fc) (pn) (rn) (hn) (qn)) := Fr.at0 (mfc3935).1 (Ni.c ⟨ne4, ne5⟩ (Ni.n _)) fk3933_0
                                          have fk3936_1 : hc3934.2 (B + 4) = some (aI 1500 (gm)) := Fr.at0 (mfc3935).1 (Ni.c ⟨ne26, ne27⟩ (Ni.n _)) fk3933_1
                                          have fk3936_2 : hc3934.2 (B + 7) = some (aJ 6400 (g7)) := Fr.at0 (mfc3935).1 (Ni.c ⟨(ne31).s, (ne33).s⟩ (Ni.n _)) fk3933_2
                                          have rk3936_0 : MP hp B hc3934 (T) := (rk3933_0).fr (mfc3935).1 (Ni.c ⟨ne11, ne12⟩ (Ni.n _)) (Ni.c ⟨ne17, ne18⟩ (Ni.n _))
                                          have rk3936_1 : MWA B hc3934 := (rk3933_1).fr (mfc3935).1 (Ni.c ⟨ne22, ne23⟩ (Ni.n _))
                                          have rk3936_2 : MSq hp B hc3934 (fun x y => 0 ≤ x ∧ x < dY hp F + dY hp G ∧ 0 ≤ y ∧ y < dY hp F + dY hp G) (C3) := (rk3933_2).fr (mfc3935).1 (Ni.c ⟨(ne32).s, (ne34).s⟩ (Ni.n _))
                                          have rk3936_3 : MG hp B hc3934 (10) (pvt (pR hp) A c.toNat) := (rk3933_3).fr hp2 mfc3935 (Nr.c (by omega) Nr.n)
                                          have rk3936_4 : MG hp B hc3934 (1) ((C3) (c) (c)) := (rn3932_0).fr hp2 mfc3935 (Nr.c (by omega) Nr.n)
                                          have fr3936 : MF B [B + 1, B + 3, B + 7] [0, 1, 2, 3, 4, 5, 6, 7, 8, 9, 10] h hc3934 := (fr3933).tr ((mfc3935).mo sub_n (sbI_c (List.Mem.tail _ (List.Mem.tail _ (List.Mem.head _))) sbI_n))
                                          refine Go.nf (h' := hc3934) (st' := []) rfl rfl (Nat.le_refl _) (Nat.le_refl _) ?_
                                          refine g_aload_n 8 dX10_byY_436 rfl ?_
                                          refine g_iload 1 dX10_byY_437 rfl ?_
                                          refine g_iload 4 dX10_byY_439 rfl ?_
                                          refine g_iconst dX10_byY_441 ?_
                                          refine g_callV (nc2 := 0) (ns2 := 0) (ci := 10) (As := [.int (gI (i2)), .int (gI (c)), .int (gI (3))]) (st := []) rfl dX10_byY_442 okX10_fromSquare lX10_202 itX10_fromSquare seX10_fromSquare rfl fk3936_0 (by decide) (by decide) rfl (Nat.le_of_ble_eq_true rfl) (sM_fromSquare N _ B p hp hp2 hf le fc pn rn hn qn (i2) (c) (3) (by omega) (fun x y => 0 ≤ x ∧ x < dY hp F + dY hp G ∧ 0 ≤ y ∧ y < dY hp F + dY hp G) (C3) (by omega) fk3936_0 (fr3936).2.1 rk3936_2) (by omega) (by omega) (fun v3937 hc3937 q3937 => ?_)
                                          obtain ⟨rfl, mfc3938, rn3938_0⟩ := q3937
                                          have fk3939_0 : hc3937.2 (B) = some (mO B ((p : Int)) (hf) (le) (fc) (pn) (rn) (hn) (qn)) := Fr.at0 (mfc3938).1 (Ni.c ⟨ne4, ne5⟩ (Ni.n _)) fk3936_0
                                          have fk3939_1 : hc3937.2 (B + 4) = some (aI 1500 (gm)) := Fr.at0 (mfc3938).1 (Ni.c ⟨ne26, ne27⟩ (Ni.n _)) fk3936_1
                                          have fk3939_2 : hc3937.2 (B + 7) = some (aJ 6400 (g7)) := Fr.at0 (mfc3938).1 (Ni.c ⟨(ne31).s, (ne33).s⟩ (Ni.n _)) fk3936_2
                                          have rk3939_0 : MP hp B hc3937 (T) := (rk3936_0).fr (mfc3938).1 (Ni.c ⟨ne11, ne12⟩ (Ni.n _)) (Ni.c ⟨ne17, ne18⟩ (Ni.n _))
                                          have rk3939_1 : MWA B hc3937 := (rk3936_1).fr (mfc3938).1 (Ni.c ⟨ne22, ne23⟩ (Ni.n _))
                                          have rk3939_2 : MSq hp B hc3937 (fun x y => 0 ≤ x ∧ x < dY hp F + dY hp G ∧ 0 ≤ y ∧ y < dY hp F + dY hp G) (C3) := (rk3936_2).fr (mfc3938).1 (Ni.c ⟨(ne32).s, (ne34).s⟩ (Ni.n _))
                                          have rk3939_3 : MG hp B hc3937 (10) (pvt (pR hp) A c.toNat) := (rk3936_3).fr hp2 mfc3938 (Nr.c (by omega) Nr.n)
                                          have rk3939_4 : MG hp B hc3937 (1) ((C3) (c) (c)) := (rk3936_4).fr hp2 mfc3938 (Nr.c (by omega) Nr.n)
                                          have rk3939_5 : MG hp B hc3937 (2) ((C3) (i2) (k2)) := (rn3935_0).fr hp2 mfc3938 (Nr.c (by omega) Nr.n)
                                          have fr3939 : MF B [B + 1, B + 3, B + 7] [0, 1, 2, 3, 4, 5, 6, 7, 8, 9, 10] h hc3937 := (fr3936).tr ((mfc3938).mo sub_n (sbI_c (List.Mem.tail _ (List.Mem.tail _ (List.Mem.tail _ (List.Mem.head _)))) sbI_n))
                                          refine Go.nf (h' := hc3937) (st' := []) rfl rfl (Nat.le_refl _) (Nat.le_refl _) ?_
                                          refine g_aload_n 8 dX10_byY_445 rfl ?_
                                          refine g_iload 4 dX10_byY_446 rfl ?_
                                          refine g_iload 0 dX10_byY_448 rfl ?_
                                          refine g_iconst dX10_byY_450 ?_
                                          refine g_callV (nc2 := 0) (ns2 := 0) (ci := 10) (As := [.int (gI (c)), .int (gI (k2)), .int (gI (4))]) (st := []) rfl dX10_byY_451 okX10_fromSquare lX10_202 itX10_fromSquare seX10_fromSquare rfl fk3939_0 (by decide) (by decide) rfl (Nat.le_of_ble_eq_true rfl) (sM_fromSquare N _ B p hp hp2 hf le fc pn rn hn qn (c) (k2) (4) (by omega) (fun x y => 0 ≤ x ∧ x < dY hp F + dY hp G ∧ 0 ≤ y ∧ y < dY hp F + dY hp G) (C3) (by omega) fk3939_0 (fr3939).2.1 rk3939_2) (by omega) (by omega) (fun v3940 hc3940 q3940 => ?_)
                                          obtain ⟨rfl, mfc3941, rn3941_0⟩ := q3940
                                          have fk3942_0 : hc3940.2 (B) = some (mO B ((p : Int)) (hf) (le) (fc) (pn) (rn) (hn) (qn)) := Fr.at0 (mfc3941).1 (Ni.c ⟨ne4, ne5⟩ (Ni.n _)) fk3939_0
                                          have fk3942_1 : hc3940.2 (B + 4) = some (aI 1500 (gm)) := Fr.at0 (mfc3941).1 (Ni.c ⟨ne26, ne27⟩ (Ni.n _)) fk3939_1
                                          have fk3942_2 : hc3940.2 (B + 7) = some (aJ 6400 (g7)) := Fr.at0 (mfc3941).1 (Ni.c ⟨(ne31).s, (ne33).s⟩ (Ni.n _)) fk3939_2
                                          have rk3942_0 : MP hp B hc3940 (T) := (rk3939_0).fr (mfc3941).1 (Ni.c ⟨ne11, ne12⟩ (Ni.n _)) (Ni.c ⟨ne17, ne18⟩ (Ni.n _))
                                          have rk3942_1 : MWA B hc3940 := (rk3939_1).fr (mfc3941).1 (Ni.c ⟨ne22, ne23⟩ (Ni.n _))
                                          have rk3942_2 : MSq hp B hc3940 (fun x y => 0 ≤ x ∧ x < dY hp F + dY hp G ∧ 0 ≤ y ∧ y < dY hp F + dY hp G) (C3) := (rk3939_2).fr (mfc3941).1 (Ni.c ⟨(ne32).s, (ne34).s⟩ (Ni.n _))
                                          have rk3942_3 : MG hp B hc3940 (10) (pvt (pR hp) A c.toNat) := (rk3939_3).fr hp2 mfc3941 (Nr.c (by omega) Nr.n)
                                          have rk3942_4 : MG hp B hc3940 (1) ((C3) (c) (c)) := (rk3939_4).fr hp2 mfc3941 (Nr.c (by omega) Nr.n)
                                          have rk3942_5 : MG hp B hc3940 (2) ((C3) (i2) (k2)) := (rk3939_5).fr hp2 mfc3941 (Nr.c (by omega) Nr.n)
                                          have rk3942_6 : MG hp B hc3940 (3) ((C3) (i2) (c)) := (rn3938_0).fr hp2 mfc3941 (Nr.c (by omega) Nr.n)
                                          have fr3942 : MF B [B + 1, B + 3, B + 7] [0, 1, 2, 3, 4, 5, 6, 7, 8, 9, 10] h hc3940 := (fr3939).tr ((mfc3941).mo sub_n (sbI_c (List.Mem.tail _ (List.Mem.tail _ (List.Mem.tail _ (List.Mem.tail _ (List.Mem.head _))))) sbI_n))
                                          refine Go.nf (h' := hc3940) (st' := []) rfl rfl (Nat.le_refl _) (Nat.le_refl _) ?_
                                          have hd9 : ∀ x y : Int, 0 ≤ x → x < dY hp F + dY hp G → 0 ≤ y → y < dY hp F + dY hp G → dgi hp (C3 x y) < 80 := fun x y x0 x1 y0 y1 => ((rk3942_2).at (i := x) (k := y) ⟨x0, x1, y0, y1⟩).2.2
                                          have hd3943 := hd9 c c (by omega) (by omega) (by omega) (by omega)
                                          have hd3944 := hd9 i2 k2 (by omega) (by omega) (by omega) (by omega)
                                          have hd3945 := hd9 i2 c (by omega) (by omega) (by omega) (by omega)
                                          have hd3946 := hd9 c k2 (by omega) (by omega) (by omega) (by omega)
                                          refine g_aload_n 8 dX10_byY_454 rfl ?_
                                          refine g_iconst dX10_byY_455 ?_
                                          refine g_iconst dX10_byY_456 ?_
                                          refine g_iconst dX10_byY_457 ?_
                                          refine g_callV (nc2 := 0) (ns2 := 0) (ci := 10) (As := [.int (gI (1)), .int (gI (2)), .int (gI (5))]) (st := []) rfl dX10_byY_458 okX10_product lX10_189 itX10_product seX10_product rfl fk3942_0 (by decide) (by decide) rfl (Nat.le_of_ble_eq_true rfl) (sM_product N _ B p hp hp2 hf le fc pn rn hn qn (1) (2) (5) (by omega) (by omega) (by omega) ((C3) (c) (c)) ((C3) (i2) (k2)) fk3942_0 (fr3942).2.1 rk3942_4 rk3942_5 (by omega)) (by omega) (by omega) (fun v3947 hc3947 q3947 => ?_)
                                          obtain ⟨rfl, mfc3948, rn3948_0⟩ := q3947
                                          have fk3949_0 : hc3947.2 (B) = some (mO B ((p : Int)) (hf) (le) (fc) (pn) (rn) (hn) (qn)) := Fr.at0 (mfc3948).1 (Ni.c ⟨ne4, ne5⟩ (Ni.n _)) fk3942_0
                                          have fk3949_1 : hc3947.2 (B + 4) = some (aI 1500 (gm)) := Fr.at0 (mfc3948).1 (Ni.c ⟨ne26, ne27⟩ (Ni.n _)) fk3942_1
                                          have fk3949_2 : hc3947.2 (B + 7) = some (aJ 6400 (g7)) := Fr.at0 (mfc3948).1 (Ni.c ⟨(ne31).s, (ne33).s⟩ (Ni.n _)) fk3942_2
                                          have rk3949_0 : MP hp B hc3947 (T) := (rk3942_0).fr (mfc3948).1 (Ni.c ⟨ne11, ne12⟩ (Ni.n _)) (Ni.c ⟨ne17, ne18⟩ (Ni.n _))
                                          have rk3949_1 : MWA B hc3947 := (rk3942_1).fr (mfc3948).1 (Ni.c ⟨ne22, ne23⟩ (Ni.n _))
                                          have rk3949_2 : MSq hp B hc3947 (fun x y => 0 ≤ x ∧ x < dY hp F + dY hp G ∧ 0 ≤ y ∧ y < dY hp F + dY hp G) (C3) := (rk3942_2).fr (mfc3948).1 (Ni.c ⟨(ne32).s, (ne34).s⟩ (Ni.n _))
                                          have rk3949_3 : MG hp B hc3947 (10) (pvt (pR hp) A c.toNat) := (rk3942_3).fr hp2 mfc3948 (Nr.c (by omega) Nr.n)
                                          have rk3949_4 : MG hp B hc3947 (1) ((C3) (c) (c)) := (rk3942_4).fr hp2 mfc3948 (Nr.c (by omega) Nr.n)
                                          have rk3949_5 : MG hp B hc3947 (2) ((C3) (i2) (k2)) := (rk3942_5).fr hp2 mfc3948 (Nr.c (by omega) Nr.n)
                                          have rk3949_6 : MG hp B hc3947 (3) ((C3) (i2) (c)) := (rk3942_6).fr hp2 mfc3948 (Nr.c (by omega) Nr.n)
                                          have rk3949_7 : MG hp B hc3947 (4) ((C3) (c) (k2)) := (rn3941_0).fr hp2 mfc3948 (Nr.c (by omega) Nr.n)
                                          have fr3949 : MF B [B + 1, B + 3, B + 7] [0, 1, 2, 3, 4, 5, 6, 7, 8, 9, 10] h hc3947 := (fr3942).tr ((mfc3948).mo sub_n (sbI_c (List.Mem.tail _ (List.Mem.tail _ (List.Mem.tail _ (List.Mem.tail _ (List.Mem.tail _ (List.Mem.head _)))))) sbI_n))
                                          refine Go.nf (h' := hc3947) (st' := []) rfl rfl (Nat.le_refl _) (Nat.le_refl _) ?_
                                          refine g_aload_n 8 dX10_byY_461 rfl ?_
                                          refine g_iconst dX10_byY_462 ?_
                                          refine g_iconst dX10_byY_463 ?_
                                          refine g_bipush dX10_byY_464 (by decide) ?_
                                          refine g_callV (nc2 := 0) (ns2 := 0) (ci := 10) (As := [.int (gI (3)), .int (gI (4)), .int (gI (6))]) (st := []) rfl dX10_byY_466 okX10_product lX10_189 itX10_product seX10_product rfl fk3949_0 (by decide) (by decide) rfl (Nat.le_of_ble_eq_true rfl) (sM_product N _ B p hp hp2 hf le fc pn rn hn qn (3) (4) (6) (by omega) (by omega) (by omega) ((C3) (i2) (c)) ((C3) (c) (k2)) fk3949_0 (fr3949).2.1 rk3949_6 rk3949_7 (by omega)) (by omega) (by omega) (fun v3950 hc3950 q3950 => ?_)
                                          obtain ⟨rfl, mfc3951, rn3951_0⟩ := q3950
                                          have fk3952_0 : hc3950.2 (B) = some (mO B ((p : Int)) (hf) (le) (fc) (pn) (rn) (hn) (qn)) := Fr.at0 (mfc3951).1 (Ni.c ⟨ne4, ne5⟩ (Ni.n _)) fk3949_0
                                          have fk3952_1 : hc3950.2 (B + 4) = some (aI 1500 (gm)) := Fr.at0 (mfc3951).1 (Ni.c ⟨ne26, ne27⟩ (Ni.n _)) fk3949_1
                                          have fk3952_2 : hc3950.2 (B + 7) = some (aJ 6400 (g7)) := Fr.at0 (mfc3951).1 (Ni.c ⟨(ne31).s, (ne33).s⟩ (Ni.n _)) fk3949_2
                                          have rk3952_0 : MP hp B hc3950 (T) := (rk3949_0).fr (mfc3951).1 (Ni.c ⟨ne11, ne12⟩ (Ni.n _)) (Ni.c ⟨ne17, ne18⟩ (Ni.n _))
                                          have rk3952_1 : MWA B hc3950 := (rk3949_1).fr (mfc3951).1 (Ni.c ⟨ne22, ne23⟩ (Ni.n _))
                                          have rk3952_2 : MSq hp B hc3950 (fun x y => 0 ≤ x ∧ x < dY hp F + dY hp G ∧ 0 ≤ y ∧ y < dY hp F + dY hp G) (C3) := (rk3949_2).fr (mfc3951).1 (Ni.c ⟨(ne32).s, (ne34).s⟩ (Ni.n _))
                                          have rk3952_3 : MG hp B hc3950 (10) (pvt (pR hp) A c.toNat) := (rk3949_3).fr hp2 mfc3951 (Nr.c (by omega) Nr.n)
                                          have rk3952_4 : MG hp B hc3950 (1) ((C3) (c) (c)) := (rk3949_4).fr hp2 mfc3951 (Nr.c (by omega) Nr.n)
                                          have rk3952_5 : MG hp B hc3950 (2) ((C3) (i2) (k2)) := (rk3949_5).fr hp2 mfc3951 (Nr.c (by omega) Nr.n)
                                          have rk3952_6 : MG hp B hc3950 (3) ((C3) (i2) (c)) := (rk3949_6).fr hp2 mfc3951 (Nr.c (by omega) Nr.n)
                                          have rk3952_7 : MG hp B hc3950 (4) ((C3) (c) (k2)) := (rk3949_7).fr hp2 mfc3951 (Nr.c (by omega) Nr.n)
                                          have rk3952_8 : MG hp B hc3950 (5) (pml hp ((C3) (c) (c)) ((C3) (i2) (k2))) := (rn3948_0).fr hp2 mfc3951 (Nr.c (by omega) Nr.n)
                                          have fr3952 : MF B [B + 1, B + 3, B + 7] [0, 1, 2, 3, 4, 5, 6, 7, 8, 9, 10] h hc3950 := (fr3949).tr ((mfc3951).mo sub_n (sbI_c (List.Mem.tail _ (List.Mem.tail _ (List.Mem.tail _ (List.Mem.tail _ (List.Mem.tail _ (List.Mem.tail _ (List.Mem.head _))))))) sbI_n))
                                          refine Go.nf (h' := hc3950) (st' := []) rfl rfl (Nat.le_refl _) (Nat.le_refl _) ?_
                                          refine g_aload_n 8 dX10_byY_469 rfl ?_
                                          refine g_iconst dX10_byY_470 ?_
                                          refine g_bipush dX10_byY_471 (by decide) ?_
                                          refine g_bipush dX10_byY_473 (by decide) ?_
                                          refine g_callV (nc2 := 0) (ns2 := 0) (ci := 10) (As := [.int (gI (5)), .int (gI (6)), .int (gI (7))]) (st := []) rfl dX10_byY_475 okX10_minus lX10_192 itX10_minus seX10_minus rfl fk3952_0 (by decide) (by decide) rfl (Nat.le_of_ble_eq_true rfl) (sM_minus N _ B p hp hp2 hf le fc pn rn hn qn (5) (6) (7) (by omega) (pml hp ((C3) (c) (c)) ((C3) (i2) (k2))) (pml hp ((C3) (i2) (c)) ((C3) (c) (k2))) fk3952_0 (fr3952).2.1 rk3952_8 rn3951_0) (by omega) (by omega) (fun v3953 hc3953 q3953 => ?_)
                                          obtain ⟨rfl, mfc3954, rn3954_0⟩ := q3953
                                          have fk3955_0 : hc3953.2 (B) = some (mO B ((p : Int)) (hf) (le) (fc) (pn) (rn) (hn) (qn)) := Fr.at0 (mfc3954).1 (Ni.c ⟨ne4, ne5⟩ (Ni.n _)) fk3952_0
                                          have fk3955_1 : hc3953.2 (B + 4) = some (aI 1500 (gm)) := Fr.at0 (mfc3954).1 (Ni.c ⟨ne26, ne27⟩ (Ni.n _)) fk3952_1
                                          have fk3955_2 : hc3953.2 (B + 7) = some (aJ 6400 (g7)) := Fr.at0 (mfc3954).1 (Ni.c ⟨(ne31).s, (ne33).s⟩ (Ni.n _)) fk3952_2
                                          have rk3955_0 : MP hp B hc3953 (T) := (rk3952_0).fr (mfc3954).1 (Ni.c ⟨ne11, ne12⟩ (Ni.n _)) (Ni.c ⟨ne17, ne18⟩ (Ni.n _))
                                          have rk3955_1 : MWA B hc3953 := (rk3952_1).fr (mfc3954).1 (Ni.c ⟨ne22, ne23⟩ (Ni.n _))
                                          have rk3955_2 : MSq hp B hc3953 (fun x y => 0 ≤ x ∧ x < dY hp F + dY hp G ∧ 0 ≤ y ∧ y < dY hp F + dY hp G) (C3) := (rk3952_2).fr (mfc3954).1 (Ni.c ⟨(ne32).s, (ne34).s⟩ (Ni.n _))
                                          have rk3955_3 : MG hp B hc3953 (10) (pvt (pR hp) A c.toNat) := (rk3952_3).fr hp2 mfc3954 (Nr.c (by omega) Nr.n)
                                          have rk3955_4 : MG hp B hc3953 (1) ((C3) (c) (c)) := (rk3952_4).fr hp2 mfc3954 (Nr.c (by omega) Nr.n)
                                          have rk3955_5 : MG hp B hc3953 (2) ((C3) (i2) (k2)) := (rk3952_5).fr hp2 mfc3954 (Nr.c (by omega) Nr.n)
                                          have rk3955_6 : MG hp B hc3953 (3) ((C3) (i2) (c)) := (rk3952_6).fr hp2 mfc3954 (Nr.c (by omega) Nr.n)
                                          have rk3955_7 : MG hp B hc3953 (4) ((C3) (c) (k2)) := (rk3952_7).fr hp2 mfc3954 (Nr.c (by omega) Nr.n)
                                          have rk3955_8 : MG hp B hc3953 (5) (pml hp ((C3) (c) (c)) ((C3) (i2) (k2))) := (rk3952_8).fr hp2 mfc3954 (Nr.c (by omega) Nr.n)
                                          have rk3955_9 : MG hp B hc3953 (6) (pml hp ((C3) (i2) (c)) ((C3) (c) (k2))) := (rn3951_0).fr hp2 mfc3954 (Nr.c (by omega) Nr.n)
                                          have fr3955 : MF B [B + 1, B + 3, B + 7] [0, 1, 2, 3, 4, 5, 6, 7, 8, 9, 10] h hc3953 := (fr3952).tr ((mfc3954).mo sub_n (sbI_c (List.Mem.tail _ (List.Mem.tail _ (List.Mem.tail _ (List.Mem.tail _ (List.Mem.tail _ (List.Mem.tail _ (List.Mem.tail _ (List.Mem.head _)))))))) sbI_n))
                                          refine Go.nf (h' := hc3953) (st' := []) rfl rfl (Nat.le_refl _) (Nat.le_refl _) ?_
                                          refine g_aload_n 8 dX10_byY_478 rfl ?_
                                          refine g_bipush dX10_byY_479 (by decide) ?_
                                          refine g_bipush dX10_byY_481 (by decide) ?_
                                          refine g_bipush dX10_byY_483 (by decide) ?_
                                          refine g_bipush dX10_byY_485 (by decide) ?_
                                          refine g_callV (nc2 := 0) (ns2 := 0) (ci := 10) (As := [.int (gI (7)), .int (gI (10)), .int (gI (8)), .int (gI (9))]) (st := []) rfl dX10_byY_487 okX10_divide lX10_176 itX10_divide seX10_divide rfl fk3955_0 (by decide) (by decide) rfl (Nat.le_of_ble_eq_true rfl) (sM_divide N _ B p hp hp2 hf le fc pn rn hn qn (7) (10) (8) (9) (by omega) (by omega) (by omega) (by omega) (by omega) (by omega) (psb hp (pml hp ((C3) (c) (c)) ((C3) (i2) (k2))) (pml hp ((C3) (i2) (c)) ((C3) (c) (k2)))) (pvt (pR hp) A c.toNat) fk3955_0 (fr3955).2.1 rn3954_0 rk3955_3 (by omega)) (by omega) (by omega) (fun v3956 hc3956 q3956 => ?_)
                                          obtain ⟨rfl, mfc3957, rn3957_0, rn3957_1⟩ := q3956
                                          have fk3958_0 : hc3956.2 (B) = some (mO B ((p : Int)) (hf) (le) (fc) (pn) (rn) (hn) (qn)) := Fr.at0 (mfc3957).1 (Ni.c ⟨ne4, ne5⟩ (Ni.n _)) fk3955_0
                                          have fk3958_1 : hc3956.2 (B + 4) = some (aI 1500 (gm)) := Fr.at0 (mfc3957).1 (Ni.c ⟨ne26, ne27⟩ (Ni.n _)) fk3955_1
                                          have fk3958_2 : hc3956.2 (B + 7) = some (aJ 6400 (g7)) := Fr.at0 (mfc3957).1 (Ni.c ⟨(ne31).s, (ne33).s⟩ (Ni.n _)) fk3955_2
                                          have rk3958_0 : MP hp B hc3956 (T) := (rk3955_0).fr (mfc3957).1 (Ni.c ⟨ne11, ne12⟩ (Ni.n _)) (Ni.c ⟨ne17, ne18⟩ (Ni.n _))
                                          have rk3958_1 : MWA B hc3956 := (rk3955_1).fr (mfc3957).1 (Ni.c ⟨ne22, ne23⟩ (Ni.n _))
                                          have rk3958_2 : MSq hp B hc3956 (fun x y => 0 ≤ x ∧ x < dY hp F + dY hp G ∧ 0 ≤ y ∧ y < dY hp F + dY hp G) (C3) := (rk3955_2).fr (mfc3957).1 (Ni.c ⟨(ne32).s, (ne34).s⟩ (Ni.n _))
                                          have rk3958_3 : MG hp B hc3956 (10) (pvt (pR hp) A c.toNat) := (rk3955_3).fr hp2 mfc3957 (Nr.c (by omega) (Nr.c (by omega) Nr.n))
                                          have rk3958_4 : MG hp B hc3956 (1) ((C3) (c) (c)) := (rk3955_4).fr hp2 mfc3957 (Nr.c (by omega) (Nr.c (by omega) Nr.n))
                                          have rk3958_5 : MG hp B hc3956 (2) ((C3) (i2) (k2)) := (rk3955_5).fr hp2 mfc3957 (Nr.c (by omega) (Nr.c (by omega) Nr.n))
                                          have rk3958_6 : MG hp B hc3956 (3) ((C3) (i2) (c)) := (rk3955_6).fr hp2 mfc3957 (Nr.c (by omega) (Nr.c (by omega) Nr.n))
                                          have rk3958_7 : MG hp B hc3956 (4) ((C3) (c) (k2)) := (rk3955_7).fr hp2 mfc3957 (Nr.c (by omega) (Nr.c (by omega) Nr.n))
                                          have rk3958_8 : MG hp B hc3956 (5) (pml hp ((C3) (c) (c)) ((C3) (i2) (k2))) := (rk3955_8).fr hp2 mfc3957 (Nr.c (by omega) (Nr.c (by omega) Nr.n))
                                          have rk3958_9 : MG hp B hc3956 (6) (pml hp ((C3) (i2) (c)) ((C3) (c) (k2))) := (rk3955_9).fr hp2 mfc3957 (Nr.c (by omega) (Nr.c (by omega) Nr.n))
                                          have rk3958_10 : MG hp B hc3956 (7) (psb hp (pml hp ((C3) (c) (c)) ((C3) (i2) (k2))) (pml hp ((C3) (i2) (c)) ((C3) (c) (k2)))) := (rn3954_0).fr hp2 mfc3957 (Nr.c (by omega) (Nr.c (by omega) Nr.n))
                                          have fr3958 : MF B [B + 1, B + 3, B + 7] [0, 1, 2, 3, 4, 5, 6, 7, 8, 9, 10] h hc3956 := (fr3955).tr ((mfc3957).mo sub_n (sbI_c (List.Mem.tail _ (List.Mem.tail _ (List.Mem.tail _ (List.Mem.tail _ (List.Mem.tail _ (List.Mem.tail _ (List.Mem.tail _ (List.Mem.tail _ (List.Mem.tail _ (List.Mem.head _)))))))))) (sbI_c (List.Mem.tail _ (List.Mem.tail _ (List.Mem.tail _ (List.Mem.tail _ (List.Mem.tail _ (List.Mem.tail _ (List.Mem.tail _ (List.Mem.tail _ (List.Mem.head _))))))))) sbI_n)))
                                          refine Go.nf (h' := hc3956) (st' := []) rfl rfl (Nat.le_refl _) (Nat.le_refl _) ?_
                                          have hq8 : qt hp (psb hp (pml hp ((C3) (c) (c)) ((C3) (i2) (k2))) (pml hp ((C3) (i2) (c)) ((C3) (c) (k2)))) (pvt (pR hp) A c.toNat) = mqI hp (swr A c.toNat w.toNat) (c + 1) i2 k2 := by
                                                                      rw [hE c c (by omega) (by omega) (by omega) (by omega), if_neg (by omega), hE i2 k2 (by omega) (by omega) (by omega) (by omega), if_neg (by omega), hE i2 c (by omega) (by omega) (by omega) (by omega), if_neg (by omega), hE c k2 (by omega) (by omega) (by omega) (by omega), if_neg (by omega), ← hpv10]
                                                                      exact bar_qI hp hI2 hc.1 (by omega) (by omega) (by omega) (by omega) (by omega)
                                          have hdz : dgi hp (qt hp (psb hp (pml hp ((C3) (c) (c)) ((C3) (i2) (k2))) (pml hp ((C3) (i2) (c)) ((C3) (c) (k2)))) (pvt (pR hp) A c.toNat)) < 80 := by rw [hq8]; exact (hm3 i2 k2 (by omega) (by omega) (by omega) (by omega)).2
                                          refine g_aload_n 8 dX10_byY_490 rfl ?_
                                          refine g_bipush dX10_byY_491 (by decide) ?_
                                          refine g_iload 1 dX10_byY_493 rfl ?_
                                          refine g_iload 0 dX10_byY_495 rfl ?_
                                          refine g_callV (nc2 := 0) (ns2 := 0) (ci := 10) (As := [.int (gI (8)), .int (gI (i2)), .int (gI (k2))]) (st := []) rfl dX10_byY_497 okX10_toSquare lX10_199 itX10_toSquare seX10_toSquare rfl fk3958_0 (by decide) (by decide) rfl (Nat.le_of_ble_eq_true rfl) (sM_toSquare0 N _ B p hp hp2 hf le fc pn rn hn qn (8) (i2) (k2) (by omega) (fun x y => 0 ≤ x ∧ x < dY hp F + dY hp G ∧ 0 ≤ y ∧ y < dY hp F + dY hp G) (C3) (qt hp (psb hp (pml hp ((C3) (c) (c)) ((C3) (i2) (k2))) (pml hp ((C3) (i2) (c)) ((C3) (c) (k2)))) (pvt (pR hp) A c.toNat)) (g7) fk3958_0 (fr3958).2.1 fk3958_2 rk3958_2 rn3957_1 hdz) (by omega) (by omega) (fun v3959 hc3959 q3959 => ?_)
                                          obtain ⟨rfl, mfc3960, f7_3960, mq3960⟩ := q3959
                                          have fk3961_0 : hc3959.2 (B) = some (mO B ((p : Int)) (hf) (le) (fc) (pn) (rn) (hn) (qn)) := Fr.at0 (mfc3960).1 (Ni.c ⟨ne4, ne5⟩ (Ni.c ⟨ne6, ne7⟩ (Ni.n _))) fk3958_0
                                          have fk3961_1 : hc3959.2 (B + 4) = some (aI 1500 (gm)) := Fr.at0 (mfc3960).1 (Ni.c ⟨ne26, ne27⟩ (Ni.c ⟨ne28, ne29⟩ (Ni.n _))) fk3958_1
                                          have rk3961_0 : MP hp B hc3959 (T) := (rk3958_0).fr (mfc3960).1 (Ni.c ⟨ne11, ne12⟩ (Ni.c ⟨ne13, ne14⟩ (Ni.n _))) (Ni.c ⟨ne17, ne18⟩ (Ni.c ⟨ne19, ne20⟩ (Ni.n _)))
                                          have rk3961_1 : MWA B hc3959 := (rk3958_1).fr (mfc3960).1 (Ni.c ⟨ne22, ne23⟩ (Ni.c ⟨ne24, ne25⟩ (Ni.n _)))
                                          have rk3961_3 : MG hp B hc3959 (10) (pvt (pR hp) A c.toNat) := (rk3958_3).fr hp2 mfc3960 Nr.n
                                          have rk3961_4 : MG hp B hc3959 (1) ((C3) (c) (c)) := (rk3958_4).fr hp2 mfc3960 Nr.n
                                          have rk3961_5 : MG hp B hc3959 (2) ((C3) (i2) (k2)) := (rk3958_5).fr hp2 mfc3960 Nr.n
                                          have rk3961_6 : MG hp B hc3959 (3) ((C3) (i2) (c)) := (rk3958_6).fr hp2 mfc3960 Nr.n
                                          have rk3961_7 : MG hp B hc3959 (4) ((C3) (c) (k2)) := (rk3958_7).fr hp2 mfc3960 Nr.n
                                          have rk3961_8 : MG hp B hc3959 (5) (pml hp ((C3) (c) (c)) ((C3) (i2) (k2))) := (rk3958_8).fr hp2 mfc3960 Nr.n
                                          have rk3961_9 : MG hp B hc3959 (6) (pml hp ((C3) (i2) (c)) ((C3) (c) (k2))) := (rk3958_9).fr hp2 mfc3960 Nr.n
                                          have rk3961_10 : MG hp B hc3959 (7) (psb hp (pml hp ((C3) (c) (c)) ((C3) (i2) (k2))) (pml hp ((C3) (i2) (c)) ((C3) (c) (k2)))) := (rk3958_10).fr hp2 mfc3960 Nr.n
                                          have rk3961_11 : MG hp B hc3959 (9) (rm hp (psb hp (pml hp ((C3) (c) (c)) ((C3) (i2) (k2))) (pml hp ((C3) (i2) (c)) ((C3) (c) (k2)))) (pvt (pR hp) A c.toNat)) := (rn3957_0).fr hp2 mfc3960 Nr.n
                                          have rk3961_12 : MG hp B hc3959 (8) (qt hp (psb hp (pml hp ((C3) (c) (c)) ((C3) (i2) (k2))) (pml hp ((C3) (i2) (c)) ((C3) (c) (k2)))) (pvt (pR hp) A c.toNat)) := (rn3957_1).fr hp2 mfc3960 Nr.n
                                          have fr3961 : MF B [B + 1, B + 3, B + 7] [0, 1, 2, 3, 4, 5, 6, 7, 8, 9, 10] h hc3959 := (fr3958).tr ((mfc3960).mo (sub_c (List.Mem.tail _ (List.Mem.tail _ (List.Mem.head _))) sub_n) sbI_n)
                                          refine Go.nf (h' := hc3959) (st' := []) rfl rfl (Nat.le_refl _) (Nat.le_refl _) ?_
                                          refine g_iinc 0 (ls2 := [(10, .int (gI (k2 + 1))), (9, .int (gI (i2))), (6, .int (gI (1))), (8, .int (gI (w))), (7, .int (gI (c))), (5, .int (gI ((dY hp F) + (dY hp G)))), (4, .int (gI (dY hp G))), (3, .int (gI (dY hp F))), (0, .ref (B)), (1, .int (gI (a))), (2, .int (gI (b)))]) dX10_byY_500 rfl (by decide) rfl ?_
                                          refine g_goto (tgt := 411) dX10_byY_503 rfl ?_
                                          exact ih_l2 _ (by omega) (k2 + 1) (cup C3 i2 k2 (qt hp (psb hp (pml hp ((C3) (c) (c)) ((C3) (i2) (k2))) (pml hp ((C3) (i2) (c)) ((C3) (c) (k2)))) (pvt (pR hp) A c.toNat))) hc3959 rfl fr3961 fk3961_1 f7_3960 rk3961_0 rk3961_1 ((mq3960).mono (D2 := fun x y => 0 ≤ x ∧ x < dY hp F + dY hp G ∧ 0 ≤ y ∧ y < dY hp F + dY hp G) (C2 := cup C3 i2 k2 (qt hp (psb hp (pml hp ((C3) (c) (c)) ((C3) (i2) (k2))) (pml hp ((C3) (i2) (c)) ((C3) (c) (k2)))) (pvt (pR hp) A c.toNat))) (fun x y d => Or.inl d) (fun x y d => rfl)) rk3961_3 (by omega) (fun x y x0 x1 y0 y1 => by
                                                                      unfold cup
                                                                      by_cases z : x = i2 ∧ y = k2
                                                                      · rw [if_pos z, if_pos (by omega), hq8, z.1, z.2]
                                                                      · rw [if_neg z, hE x y x0 x1 y0 y1]
                                                                        by_cases q : c < x ∧ c < y ∧ (x < i2 ∨ (x = i2 ∧ y < k2))
                                                                        · rw [if_pos q, if_pos (by omega)]
                                                                        · rw [if_neg q, if_neg (by omega)])
                                      exact l2 _ (c + 1) (C3a) hl1 rfl fr_l1 cf_l1_0 cf_l1_1 cr_l1_0 cr_l1_1 cr_l1_2 cr_l1_3 (by omega) (fun x y x0 x1 y0 y1 => by
                                                                      rw [hEa x y x0 x1 y0 y1]
                                                                      by_cases q : c < x ∧ c < y ∧ (x < i2 )
                                                                      · rw [if_pos q, if_pos (by omega)]
                                                                      · rw [if_neg q, if_neg (by omega)])
                                  exact l1 _ (c + 1) (swC C w c k) hls rfl fr_ls cf_ls_0 cf_ls_1 cr_ls_0 cr_ls_1 cr_ls_2 cr_ls_3 (by omega) (fun x y x0 x1 y0 y1 => by rw [if_neg (by omega)]; exact hC2 x y x0 x1 y0 y1)
                              · skip
                                refine g_aload_n 7 dX10_byY_326 rfl ?_
                                refine g_iload 1 dX10_byY_327 rfl ?_
                                refine g_iload 0 dX10_byY_329 rfl ?_
                                refine g_iconst dX10_byY_331 ?_
                                refine g_callV (nc2 := 0) (ns2 := 0) (ci := 10) (As := [.int (gI (w)), .int (gI (k)), .int (gI (2))]) (st := []) rfl dX10_byY_332 okX10_fromSquare lX10_202 itX10_fromSquare seX10_fromSquare rfl cg_ls_0 (by decide) (by decide) rfl (Nat.le_of_ble_eq_true rfl) (sM_fromSquare N _ B p hp hp2 hf le fc pn rn hn qn (w) (k) (2) (by omega) (fun x y => 0 ≤ x ∧ x < dY hp F + dY hp G ∧ 0 ≤ y ∧ y < dY hp F + dY hp G) (swC C w c k) (by omega) cg_ls_0 (fr_ls).2.1 cr_ls_2) (by omega) (by omega) (fun v4162 hc4162 q4162 => ?_)
                                obtain ⟨rfl, mfc4163, rn4163_0⟩ := q4162
                                have fk4164_0 : hc4162.2 (B) = some (mO B ((p : Int)) (hf) (le) (fc) (pn) (rn) (hn) (qn)) := Fr.at0 (mfc4163).1 (Ni.c ⟨ne4, ne5⟩ (Ni.n _)) cg_ls_0
                                have fk4164_1 : hc4162.2 (B + 4) = some (aI 1500 (gm)) := Fr.at0 (mfc4163).1 (Ni.c ⟨ne26, ne27⟩ (Ni.n _)) cf_ls_0
                                have fk4164_2 : hc4162.2 (B + 7) = some (aJ 6400 (g7)) := Fr.at0 (mfc4163).1 (Ni.c ⟨(ne31).s, (ne33).s⟩ (Ni.n _)) cf_ls_1
                                have rk4164_0 : MP hp B hc4162 (T) := (cr_ls_0).fr (mfc4163).1 (Ni.c ⟨ne11, ne12⟩ (Ni.n _)) (Ni.c ⟨ne17, ne18⟩ (Ni.n _))
                                have rk4164_1 : MWA B hc4162 := (cr_ls_1).fr (mfc4163).1 (Ni.c ⟨ne22, ne23⟩ (Ni.n _))
                                have rk4164_2 : MSq hp B hc4162 (fun x y => 0 ≤ x ∧ x < dY hp F + dY hp G ∧ 0 ≤ y ∧ y < dY hp F + dY hp G) (swC C w c k) := (cr_ls_2).fr (mfc4163).1 (Ni.c ⟨(ne32).s, (ne34).s⟩ (Ni.n _))
                                have rk4164_3 : MG hp B hc4162 (10) (pvt (pR hp) A c.toNat) := (cr_ls_3).fr hp2 mfc4163 (Nr.c (by omega) Nr.n)
                                have fr4164 : MF B [B + 1, B + 3, B + 7] [0, 1, 2, 3, 4, 5, 6, 7, 8, 9, 10] h hc4162 := (fr_ls).tr ((mfc4163).mo sub_n (sbI_c (List.Mem.tail _ (List.Mem.tail _ (List.Mem.head _))) sbI_n))
                                refine Go.nf (h' := hc4162) (st' := []) rfl rfl (Nat.le_refl _) (Nat.le_refl _) ?_
                                refine g_aload_n 7 dX10_byY_335 rfl ?_
                                refine g_iload 2 dX10_byY_336 rfl ?_
                                refine g_iload 0 dX10_byY_338 rfl ?_
                                refine g_iconst dX10_byY_340 ?_
                                refine g_callV (nc2 := 0) (ns2 := 0) (ci := 10) (As := [.int (gI (c)), .int (gI (k)), .int (gI (3))]) (st := []) rfl dX10_byY_341 okX10_fromSquare lX10_202 itX10_fromSquare seX10_fromSquare rfl fk4164_0 (by decide) (by decide) rfl (Nat.le_of_ble_eq_true rfl) (sM_fromSquare N _ B p hp hp2 hf le fc pn rn hn qn (c) (k) (3) (by omega) (fun x y => 0 ≤ x ∧ x < dY hp F + dY hp G ∧ 0 ≤ y ∧ y < dY hp F + dY hp G) (swC C w c k) (by omega) fk4164_0 (fr4164).2.1 rk4164_2) (by omega) (by omega) (fun v4165 hc4165 q4165 => ?_)
                                obtain ⟨rfl, mfc4166, rn4166_0⟩ := q4165
                                have fk4167_0 : hc4165.2 (B) = some (mO B ((p : Int)) (hf) (le) (fc) (pn) (rn) (hn) (qn)) := Fr.at0 (mfc4166).1 (Ni.c ⟨ne4, ne5⟩ (Ni.n _)) fk4164_0
                                have fk4167_1 : hc4165.2 (B + 4) = some (aI 1500 (gm)) := Fr.at0 (mfc4166).1 (Ni.c ⟨ne26, ne27⟩ (Ni.n _)) fk4164_1
                                have fk4167_2 : hc4165.2 (B + 7) = some (aJ 6400 (g7)) := Fr.at0 (mfc4166).1 (Ni.c ⟨(ne31).s, (ne33).s⟩ (Ni.n _)) fk4164_2
                                have rk4167_0 : MP hp B hc4165 (T) := (rk4164_0).fr (mfc4166).1 (Ni.c ⟨ne11, ne12⟩ (Ni.n _)) (Ni.c ⟨ne17, ne18⟩ (Ni.n _))
                                have rk4167_1 : MWA B hc4165 := (rk4164_1).fr (mfc4166).1 (Ni.c ⟨ne22, ne23⟩ (Ni.n _))
                                have rk4167_2 : MSq hp B hc4165 (fun x y => 0 ≤ x ∧ x < dY hp F + dY hp G ∧ 0 ≤ y ∧ y < dY hp F + dY hp G) (swC C w c k) := (rk4164_2).fr (mfc4166).1 (Ni.c ⟨(ne32).s, (ne34).s⟩ (Ni.n _))
                                have rk4167_3 : MG hp B hc4165 (10) (pvt (pR hp) A c.toNat) := (rk4164_3).fr hp2 mfc4166 (Nr.c (by omega) Nr.n)
                                have rk4167_4 : MG hp B hc4165 (2) ((swC C w c k) (w) (k)) := (rn4163_0).fr hp2 mfc4166 (Nr.c (by omega) Nr.n)
                                have fr4167 : MF B [B + 1, B + 3, B + 7] [0, 1, 2, 3, 4, 5, 6, 7, 8, 9, 10] h hc4165 := (fr4164).tr ((mfc4166).mo sub_n (sbI_c (List.Mem.tail _ (List.Mem.tail _ (List.Mem.tail _ (List.Mem.head _)))) sbI_n))
                                refine Go.nf (h' := hc4165) (st' := []) rfl rfl (Nat.le_refl _) (Nat.le_refl _) ?_
                                refine g_aload_n 7 dX10_byY_344 rfl ?_
                                refine g_iconst dX10_byY_345 ?_
                                refine g_iload 1 dX10_byY_346 rfl ?_
                                refine g_iload 0 dX10_byY_348 rfl ?_
                                refine g_callV (nc2 := 0) (ns2 := 0) (ci := 10) (As := [.int (gI (3)), .int (gI (w)), .int (gI (k))]) (st := []) rfl dX10_byY_350 okX10_toSquare lX10_199 itX10_toSquare seX10_toSquare rfl fk4167_0 (by decide) (by decide) rfl (Nat.le_of_ble_eq_true rfl) (sM_toSquare0 N _ B p hp hp2 hf le fc pn rn hn qn (3) (w) (k) (by omega) (fun x y => 0 ≤ x ∧ x < dY hp F + dY hp G ∧ 0 ≤ y ∧ y < dY hp F + dY hp G) (swC C w c k) ((swC C w c k) (c) (k)) (g7) fk4167_0 (fr4167).2.1 fk4167_2 rk4167_2 rn4166_0 (hdq _ _ (by omega) (by omega) (by omega) (by omega))) (by omega) (by omega) (fun v4168 hc4168 q4168 => ?_)
                                obtain ⟨rfl, mfc4169, f7_4169, mq4169⟩ := q4168
                                have fk4170_0 : hc4168.2 (B) = some (mO B ((p : Int)) (hf) (le) (fc) (pn) (rn) (hn) (qn)) := Fr.at0 (mfc4169).1 (Ni.c ⟨ne4, ne5⟩ (Ni.c ⟨ne6, ne7⟩ (Ni.n _))) fk4167_0
                                have fk4170_1 : hc4168.2 (B + 4) = some (aI 1500 (gm)) := Fr.at0 (mfc4169).1 (Ni.c ⟨ne26, ne27⟩ (Ni.c ⟨ne28, ne29⟩ (Ni.n _))) fk4167_1
                                have rk4170_0 : MP hp B hc4168 (T) := (rk4167_0).fr (mfc4169).1 (Ni.c ⟨ne11, ne12⟩ (Ni.c ⟨ne13, ne14⟩ (Ni.n _))) (Ni.c ⟨ne17, ne18⟩ (Ni.c ⟨ne19, ne20⟩ (Ni.n _)))
                                have rk4170_1 : MWA B hc4168 := (rk4167_1).fr (mfc4169).1 (Ni.c ⟨ne22, ne23⟩ (Ni.c ⟨ne24, ne25⟩ (Ni.n _)))
                                have rk4170_3 : MG hp B hc4168 (10) (pvt (pR hp) A c.toNat) := (rk4167_3).fr hp2 mfc4169 Nr.n
                                have rk4170_4 : MG hp B hc4168 (2) ((swC C w c k) (w) (k)) := (rk4167_4).fr hp2 mfc4169 Nr.n
                                have rk4170_5 : MG hp B hc4168 (3) ((swC C w c k) (c) (k)) := (rn4166_0).fr hp2 mfc4169 Nr.n
                                have fr4170 : MF B [B + 1, B + 3, B + 7] [0, 1, 2, 3, 4, 5, 6, 7, 8, 9, 10] h hc4168 := (fr4167).tr ((mfc4169).mo (sub_c (List.Mem.tail _ (List.Mem.tail _ (List.Mem.head _))) sub_n) sbI_n)
                                refine Go.nf (h' := hc4168) (st' := []) rfl rfl (Nat.le_refl _) (Nat.le_refl _) ?_
                                refine g_aload_n 7 dX10_byY_353 rfl ?_
                                refine g_iconst dX10_byY_354 ?_
                                refine g_iload 2 dX10_byY_355 rfl ?_
                                refine g_iload 0 dX10_byY_357 rfl ?_
                                refine g_callV (nc2 := 0) (ns2 := 0) (ci := 10) (As := [.int (gI (2)), .int (gI (c)), .int (gI (k))]) (st := []) rfl dX10_byY_359 okX10_toSquare lX10_199 itX10_toSquare seX10_toSquare rfl fk4170_0 (by decide) (by decide) rfl (Nat.le_of_ble_eq_true rfl) (sM_toSquare0 N _ B p hp hp2 hf le fc pn rn hn qn (2) (c) (k) (by omega) (fun a b => (fun x y => 0 ≤ x ∧ x < dY hp F + dY hp G ∧ 0 ≤ y ∧ y < dY hp F + dY hp G) a b ∨ (a = w ∧ b = k)) (cup (swC C w c k) (w) (k) ((swC C w c k) (c) (k))) ((swC C w c k) (w) (k)) (g7) fk4170_0 (fr4170).2.1 f7_4169 mq4169 rk4170_4 (hdq _ _ (by omega) (by omega) (by omega) (by omega))) (by omega) (by omega) (fun v4171 hc4171 q4171 => ?_)
                                obtain ⟨rfl, mfc4172, f7_4172, mq4172⟩ := q4171
                                have fk4173_0 : hc4171.2 (B) = some (mO B ((p : Int)) (hf) (le) (fc) (pn) (rn) (hn) (qn)) := Fr.at0 (mfc4172).1 (Ni.c ⟨ne4, ne5⟩ (Ni.c ⟨ne6, ne7⟩ (Ni.n _))) fk4170_0
                                have fk4173_1 : hc4171.2 (B + 4) = some (aI 1500 (gm)) := Fr.at0 (mfc4172).1 (Ni.c ⟨ne26, ne27⟩ (Ni.c ⟨ne28, ne29⟩ (Ni.n _))) fk4170_1
                                have rk4173_0 : MP hp B hc4171 (T) := (rk4170_0).fr (mfc4172).1 (Ni.c ⟨ne11, ne12⟩ (Ni.c ⟨ne13, ne14⟩ (Ni.n _))) (Ni.c ⟨ne17, ne18⟩ (Ni.c ⟨ne19, ne20⟩ (Ni.n _)))
                                have rk4173_1 : MWA B hc4171 := (rk4170_1).fr (mfc4172).1 (Ni.c ⟨ne22, ne23⟩ (Ni.c ⟨ne24, ne25⟩ (Ni.n _)))
                                have rk4173_2 : MG hp B hc4171 (10) (pvt (pR hp) A c.toNat) := (rk4170_3).fr hp2 mfc4172 Nr.n
                                have rk4173_3 : MG hp B hc4171 (2) ((swC C w c k) (w) (k)) := (rk4170_4).fr hp2 mfc4172 Nr.n
                                have rk4173_4 : MG hp B hc4171 (3) ((swC C w c k) (c) (k)) := (rk4170_5).fr hp2 mfc4172 Nr.n
                                have fr4173 : MF B [B + 1, B + 3, B + 7] [0, 1, 2, 3, 4, 5, 6, 7, 8, 9, 10] h hc4171 := (fr4170).tr ((mfc4172).mo (sub_c (List.Mem.tail _ (List.Mem.tail _ (List.Mem.head _))) sub_n) sbI_n)
                                refine Go.nf (h' := hc4171) (st' := []) rfl rfl (Nat.le_refl _) (Nat.le_refl _) ?_
                                refine g_iinc 0 (ls2 := [(9, .int (gI (k + 1))), (8, .int (gI (w))), (7, .int (gI (c))), (6, .int (gI (tu))), (5, .int (gI ((dY hp F) + (dY hp G)))), (4, .int (gI (dY hp G))), (3, .int (gI (dY hp F))), (0, .ref (B)), (1, .int (gI (a))), (2, .int (gI (b)))]) dX10_byY_362 rfl (by decide) rfl ?_
                                refine g_goto (tgt := 312) dX10_byY_365 rfl ?_
                                exact ih_ls _ (by omega) (k + 1) hc4171 rfl fr4173 fk4173_1 f7_4172 rk4173_0 rk4173_1 ((mq4172).mono (D2 := fun x y => 0 ≤ x ∧ x < dY hp F + dY hp G ∧ 0 ≤ y ∧ y < dY hp F + dY hp G) (C2 := swC C w c (k + 1)) (fun x y d => Or.inl (Or.inl d)) (fun x y d => by
                                                                      have e2 : swC C w c k w k = C w k := by unfold swC; rw [if_neg (by omega)]
                                                                      have e3 : swC C w c k c k = C c k := by unfold swC; rw [if_neg (by omega)]
                                                                      rw [e2, e3]; exact swC_s C (show w ≠ c by omega) x y)) rk4173_2 (by omega) (Or.inr (by omega))
                          exact ls _ (0) hlw rfl fr_lw cf_lw_0 cf_lw_1 cr_lw_0 cr_lw_1 ((cr_lw_2).mono (D2 := fun x y => 0 ≤ x ∧ x < dY hp F + dY hp G ∧ 0 ≤ y ∧ y < dY hp F + dY hp G) (C2 := swC C w c 0) (fun x y d => d) (fun x y d => by unfold swC; rw [if_neg (by omega)])) cr_lw_3 (by omega) (Or.inl rfl)
                        · skip
                          have hR0 : resY hp F G = cz hp (zi hp 0) := by
                                                                      rw [← hR, cz_z0, show (dY hp F + dY hp G - 1 - c).toNat = (dY hp F + dY hp G - 1 - c).toNat - 1 + 1 by omega]
                                                                      exact barR_none hp hc.1 (fun s s0 s1 => hZ s s0 (by omega)) (fun s s0 s1 => (hmp s c s0 s1 (by omega) (by omega)).1)
                          refine g_aload_n 6 dX10_byY_297 rfl ?_
                          refine g_iconst dX10_byY_298 ?_
                          refine g_iconst dX10_byY_299 ?_
                          refine g_callV (nc2 := 0) (ns2 := 0) (ci := 10) (As := [.int (gI (2)), .int (gI (0))]) (st := []) rfl dX10_byY_300 okX10_be lX10_170 itX10_be seX10_be rfl cg_lw_0 (by decide) (by decide) rfl (Nat.le_of_ble_eq_true rfl) (sM_be N _ B p hp hp2 hf le fc pn rn hn qn (2) (0) (by omega) (by omega) (by omega) cg_lw_0 (fr_lw).2.1) (by omega) (by omega) (fun v4274 hc4274 q4274 => ?_)
                          obtain ⟨rfl, mfc4275, rn4275_0⟩ := q4274
                          have fk4276_0 : hc4274.2 (B) = some (mO B ((p : Int)) (hf) (le) (fc) (pn) (rn) (hn) (qn)) := Fr.at0 (mfc4275).1 (Ni.c ⟨ne4, ne5⟩ (Ni.n _)) cg_lw_0
                          have fk4276_1 : hc4274.2 (B + 4) = some (aI 1500 (gm)) := Fr.at0 (mfc4275).1 (Ni.c ⟨ne26, ne27⟩ (Ni.n _)) cf_lw_0
                          have fk4276_2 : hc4274.2 (B + 7) = some (aJ 6400 (g7)) := Fr.at0 (mfc4275).1 (Ni.c ⟨(ne31).s, (ne33).s⟩ (Ni.n _)) cf_lw_1
                          have rk4276_0 : MP hp B hc4274 (T) := (cr_lw_0).fr (mfc4275).1 (Ni.c ⟨ne11, ne12⟩ (Ni.n _)) (Ni.c ⟨ne17, ne18⟩ (Ni.n _))
                          have rk4276_1 : MWA B hc4274 := (cr_lw_1).fr (mfc4275).1 (Ni.c ⟨ne22, ne23⟩ (Ni.n _))
                          have rk4276_2 : MSq hp B hc4274 (fun x y => 0 ≤ x ∧ x < dY hp F + dY hp G ∧ 0 ≤ y ∧ y < dY hp F + dY hp G) (C) := (cr_lw_2).fr (mfc4275).1 (Ni.c ⟨(ne32).s, (ne34).s⟩ (Ni.n _))
                          have rk4276_3 : MG hp B hc4274 (10) (pvt (pR hp) A c.toNat) := (cr_lw_3).fr hp2 mfc4275 (Nr.c (by omega) Nr.n)
                          have rk4276_4 : MG hp B hc4274 (1) (f1) := (cr_lw_4).fr hp2 mfc4275 (Nr.c (by omega) Nr.n)
                          have fr4276 : MF B [B + 1, B + 3, B + 7] [0, 1, 2, 3, 4, 5, 6, 7, 8, 9, 10] h hc4274 := (fr_lw).tr ((mfc4275).mo sub_n (sbI_c (List.Mem.tail _ (List.Mem.tail _ (List.Mem.head _))) sbI_n))
                          refine Go.nf (h' := hc4274) (st' := []) rfl rfl (Nat.le_refl _) (Nat.le_refl _) ?_
                          refine g_aload_n 6 dX10_byY_303 rfl ?_
                          refine g_iconst dX10_byY_304 ?_
                          refine g_callV (nc2 := 0) (ns2 := 0) (ci := 10) (As := [.int (gI (2))]) (st := []) rfl dX10_byY_305 okX10_keepRegister lX10_182 itX10_keepRegister seX10_keepRegister rfl fk4276_0 (by decide) (by decide) rfl (Nat.le_of_ble_eq_true rfl) (sM_keepR N _ B p hp hp2 hf le fc pn rn hn qn T (2) (cz hp (zi hp (0))) (gm) fk4276_0 rk4276_0 rk4276_1 fk4276_1 rn4275_0) (by omega) (by omega) (fun v4277 hc4277 q4277 => ?_)
                          obtain ⟨mfc4278, f4_4278, mwa4278, w4278, T2_4278, hO4278, rfl, mp4278⟩ := q4277
                          have fk4279_0 : hc4277.2 (B) = some (mO B ((p : Int)) (hf) (le) (fc) (pn) (rn) (hn) (qn)) := Fr.at0 (mfc4278).1 (Ni.c ⟨ne4, ne5⟩ (Ni.c ⟨ne0, ne1⟩ (Ni.c ⟨ne2, ne3⟩ (Ni.n _)))) fk4276_0
                          have fk4279_2 : hc4277.2 (B + 7) = some (aJ 6400 (g7)) := Fr.at0 (mfc4278).1 (Ni.c ⟨(ne31).s, (ne33).s⟩ (Ni.c ⟨(ne13).s, (ne19).s⟩ (Ni.c ⟨(ne24).s, (ne28).s⟩ (Ni.n _)))) fk4276_2
                          have rk4279_2 : MSq hp B hc4277 (fun x y => 0 ≤ x ∧ x < dY hp F + dY hp G ∧ 0 ≤ y ∧ y < dY hp F + dY hp G) (C) := (rk4276_2).fr (mfc4278).1 (Ni.c ⟨(ne32).s, (ne34).s⟩ (Ni.c ⟨(ne14).s, (ne20).s⟩ (Ni.c ⟨(ne25).s, (ne29).s⟩ (Ni.n _))))
                          have rk4279_3 : MG hp B hc4277 (10) (pvt (pR hp) A c.toNat) := (rk4276_3).fr hp2 mfc4278 Nr.n
                          have rk4279_4 : MG hp B hc4277 (1) (f1) := (rk4276_4).fr hp2 mfc4278 Nr.n
                          have rk4279_5 : MG hp B hc4277 (2) (cz hp (zi hp (0))) := (rn4275_0).fr hp2 mfc4278 Nr.n
                          have fr4279 : MF B [B + 1, B + 3, B + 7] [0, 1, 2, 3, 4, 5, 6, 7, 8, 9, 10] h hc4277 := (fr4276).tr ((mfc4278).mo (sub_c (List.Mem.head _) (sub_c (List.Mem.tail _ (List.Mem.head _)) sub_n)) sbI_n)
                          refine Go.nf (h' := hc4277) (st' := [.int (gI (w4278))]) rfl rfl (Nat.le_refl _) (Nat.le_refl _) ?_
                          exact g_iret dX10_byY_308 rfl ⟨((fr4279).1.mo (sub_c (List.Mem.tail _ (List.Mem.tail _ (List.Mem.head _))) (sub_c (List.Mem.head _) (sub_c (List.Mem.tail _ (List.Mem.head _)) (sub_c (List.Mem.tail _ (List.Mem.tail _ (List.Mem.tail _ (List.Mem.head _)))) sub_n))))), ⟨(fr4279).2.1, mwa4278, ⟨_, f4_4278⟩, ⟨_, fk4279_2⟩, (rk4279_2).o⟩, w4278, T2_4278, (by unfold pa12; rw [if_neg (by omega), hR0]; exact hO4278), rfl, mp4278⟩
                      · skip
                        refine g_iinc 0 (ls2 := [(8, .int (gI (w + 1))), (7, .int (gI (c))), (6, .int (gI (tu))), (5, .int (gI ((dY hp F) + (dY hp G)))), (4, .int (gI (dY hp G))), (3, .int (gI (dY hp F))), (0, .ref (B)), (1, .int (gI (a))), (2, .int (gI (b)))]) dX10_byY_268 rfl (by decide) rfl ?_
                        refine g_iload 0 dX10_byY_271 rfl ?_
                        refine g_iload 3 dX10_byY_273 rfl ?_
                        refine g_icmp_ge (tgt := 252) dX10_byY_275 rfl (by first | (unfold gW; omega) | (unfold gW; split <;> omega)) (by first | (unfold gW; omega) | (unfold gW; split <;> omega)) (fun c4280 => ?_) (fun c4280 => ?_)
                        · skip
                          exact ih_lw _ (by omega) (w + 1) (f1) hlw rfl fr_lw cf_lw_0 cf_lw_1 cr_lw_0 cr_lw_1 cr_lw_2 cr_lw_3 cr_lw_4 (by omega) (fun s s0 s1 => by
                                                                      rcases Int.lt_or_le s w with z | z
                                                                      · exact hZ s s0 z
                                                                      · rw [show s = w by omega, ← hw1 (by omega)]; omega) (fun z => by omega)
                        · skip
                          refine g_aload_n 6 dX10_byY_278 rfl ?_
                          refine g_iload 0 dX10_byY_279 rfl ?_
                          refine g_iload 1 dX10_byY_281 rfl ?_
                          refine g_iconst dX10_byY_283 ?_
                          refine g_callV (nc2 := 0) (ns2 := 0) (ci := 10) (As := [.int (gI (w + 1)), .int (gI (c)), .int (gI (1))]) (st := []) rfl dX10_byY_284 okX10_fromSquare lX10_202 itX10_fromSquare seX10_fromSquare rfl cg_lw_0 (by decide) (by decide) rfl (Nat.le_of_ble_eq_true rfl) (sM_fromSquare N _ B p hp hp2 hf le fc pn rn hn qn (w + 1) (c) (1) (by omega) (fun x y => 0 ≤ x ∧ x < dY hp F + dY hp G ∧ 0 ≤ y ∧ y < dY hp F + dY hp G) (C) (by omega) cg_lw_0 (fr_lw).2.1 cr_lw_2) (by omega) (by omega) (fun v4281 hc4281 q4281 => ?_)
                          obtain ⟨rfl, mfc4282, rn4282_0⟩ := q4281
                          have fk4283_0 : hc4281.2 (B) = some (mO B ((p : Int)) (hf) (le) (fc) (pn) (rn) (hn) (qn)) := Fr.at0 (mfc4282).1 (Ni.c ⟨ne4, ne5⟩ (Ni.n _)) cg_lw_0
                          have fk4283_1 : hc4281.2 (B + 4) = some (aI 1500 (gm)) := Fr.at0 (mfc4282).1 (Ni.c ⟨ne26, ne27⟩ (Ni.n _)) cf_lw_0
                          have fk4283_2 : hc4281.2 (B + 7) = some (aJ 6400 (g7)) := Fr.at0 (mfc4282).1 (Ni.c ⟨(ne31).s, (ne33).s⟩ (Ni.n _)) cf_lw_1
                          have rk4283_0 : MP hp B hc4281 (T) := (cr_lw_0).fr (mfc4282).1 (Ni.c ⟨ne11, ne12⟩ (Ni.n _)) (Ni.c ⟨ne17, ne18⟩ (Ni.n _))
                          have rk4283_1 : MWA B hc4281 := (cr_lw_1).fr (mfc4282).1 (Ni.c ⟨ne22, ne23⟩ (Ni.n _))
                          have rk4283_2 : MSq hp B hc4281 (fun x y => 0 ≤ x ∧ x < dY hp F + dY hp G ∧ 0 ≤ y ∧ y < dY hp F + dY hp G) (C) := (cr_lw_2).fr (mfc4282).1 (Ni.c ⟨(ne32).s, (ne34).s⟩ (Ni.n _))
                          have rk4283_3 : MG hp B hc4281 (10) (pvt (pR hp) A c.toNat) := (cr_lw_3).fr hp2 mfc4282 (Nr.c (by omega) Nr.n)
                          have fr4283 : MF B [B + 1, B + 3, B + 7] [0, 1, 2, 3, 4, 5, 6, 7, 8, 9, 10] h hc4281 := (fr_lw).tr ((mfc4282).mo sub_n (sbI_c (List.Mem.tail _ (List.Mem.head _)) sbI_n))
                          refine Go.nf (h' := hc4281) (st' := []) rfl rfl (Nat.le_refl _) (Nat.le_refl _) ?_
                          refine g_goto (tgt := 252) dX10_byY_287 rfl ?_
                          exact ih_lw _ (by omega) (w + 1) ((C) (w + 1) (c)) hc4281 rfl fr4283 fk4283_1 fk4283_2 rk4283_0 rk4283_1 rk4283_2 rk4283_3 rn4282_0 (by omega) (fun s s0 s1 => by
                                                                      rcases Int.lt_or_le s w with z | z
                                                                      · exact hZ s s0 z
                                                                      · rw [show s = w by omega, ← hw1 (by omega)]; omega) (fun z => hC _ _ (by omega) (by omega) (by omega) (by omega))
                  exact lw _ (c) ((C) (c) (c)) hc236 rfl fr238 fk238_1 fk238_2 rk238_0 rk238_1 rk238_2 rk238_3 rn237_0 (by omega) (fun s s0 s1 => by omega) (fun _ => hf1)
              exact lc _ (0) (0) (sylY hp F G (dY hp F).toNat (dY hp G).toNat) (eyI hp F G) hc116 rfl fr118 fk118_1 fk118_2 rk118_0 rk118_1 rk118_2 (by rw [← hp10]; exact rn117_0) (by omega) (Or.inl rfl) hbar0 (by
                                                                      unfold resY
                                                                      rw [show (dY hp F + dY hp G - 1 - 0).toNat = (dY hp F + dY hp G).toNat - 1 by omega]
                                                                      rfl) (fun i q i0 i1 q0 q1 => eyI_m hp (by omega) (by omega) i0 q0)
            · skip
              refine g_iconst dX10_byY_63 ?_
              refine g_istore (ls2 := [(7, .int (gI (0))), (6, .int (gI (i))), (5, .int (gI ((dY hp F) + (dY hp G)))), (4, .int (gI (dY hp G))), (3, .int (gI (dY hp F))), (0, .ref (B)), (1, .int (gI (a))), (2, .int (gI (b)))]) dX10_byY_64 (by decide) rfl ?_
              have mqm4484 : MSq hp B hli (fun x y => 0 ≤ x ∧ 0 ≤ y ∧ y < dY hp F + dY hp G ∧ (x < i ∨ (x = i ∧ y < 0))) (eyI hp F G) := (cr_li_2).mono (fun x y d => by omega) (fun _ _ _ => rfl)
              have lk : ∀ (kk : Nat) (k : Int) (hlk : GH), kk = (12 - k).toNat → MF B [B + 1, B + 3, B + 7] [0, 1, 2, 3, 4, 5, 6, 7, 8, 9, 10] h hlk → hlk.2 (B + 4) = some (aI 1500 (gm)) → hlk.2 (B + 7) = some (aJ 6400 (g7)) → MP hp B hlk (T) → MWA B hlk → MSq hp B hlk (fun x y => 0 ≤ x ∧ 0 ≤ y ∧ y < dY hp F + dY hp G ∧ (x < i ∨ (x = i ∧ y < k))) (eyI hp F G) → (0 ≤ k ∧ k ≤ dY hp F + dY hp G) → Go N mX10_byY (fun v h1 => Fr [B + 1, B + 3, B + 5, B + 7] h h1 ∧ MS B h1 ∧ ∃ w T2, Ou T (pa12 hp F G) w T2 ∧ v = some (.int (gI w)) ∧ MP hp B h1 T2) 0 0 hlk 66 [(7, .int (gI (k))), (6, .int (gI (i))), (5, .int (gI ((dY hp F) + (dY hp G)))), (4, .int (gI (dY hp G))), (3, .int (gI (dY hp F))), (0, .ref (B)), (1, .int (gI (a))), (2, .int (gI (b)))] [] := by
                refine Go.ind (fun kk ih_lk => ?_)
                intro k hlk hkk_lk fr_lk cf_lk_0 cf_lk_1 cr_lk_0 cr_lk_1 cr_lk_2 hk
                have cg_lk_0 : hlk.2 (B) = some (mO B ((p : Int)) (hf) (le) (fc) (pn) (rn) (hn) (qn)) := Fr.at0 (fr_lk).1 (Ni.c ⟨ne4, ne5⟩ (Ni.c ⟨ne0, ne1⟩ (Ni.c ⟨ne2, ne3⟩ (Ni.c ⟨ne6, ne7⟩ (Ni.n _))))) hm
                refine g_iload 0 dX10_byY_66 rfl ?_
                refine g_iload 2 dX10_byY_68 rfl ?_
                refine g_icmp_ge (tgt := 211) dX10_byY_70 rfl (by first | (unfold gW; omega) | (unfold gW; split <;> omega)) (by first | (unfold gW; omega) | (unfold gW; split <;> omega)) (fun c4585 => ?_) (fun c4585 => ?_)
                · skip
                  have mqm4586 : MSq hp B hlk (fun x y => 0 ≤ x ∧ x < i + 1 ∧ 0 ≤ y ∧ y < dY hp F + dY hp G) (eyI hp F G) := (cr_lk_2).mono (fun x y d => by omega) (fun _ _ _ => rfl)
                  refine g_iinc 1 (ls2 := [(6, .int (gI (i + 1))), (7, .int (gI (k))), (5, .int (gI ((dY hp F) + (dY hp G)))), (4, .int (gI (dY hp G))), (3, .int (gI (dY hp F))), (0, .ref (B)), (1, .int (gI (a))), (2, .int (gI (b)))]) dX10_byY_211 rfl (by decide) rfl ?_
                  refine g_goto (tgt := 56) dX10_byY_214 rfl ?_
                  refine Go.sub [0, 2, 3, 4, 5, 6, 7] rfl ?_
                  exact ih_li _ (by omega) (i + 1) hlk rfl fr_lk cf_lk_0 cf_lk_1 cr_lk_0 cr_lk_1 mqm4586 (by omega)
                · skip
                  refine g_iload 1 dX10_byY_73 rfl ?_
                  refine g_iload 3 dX10_byY_75 rfl ?_
                  refine g_icmp_ge (tgt := 84) dX10_byY_77 rfl (by first | (unfold gW; omega) | (unfold gW; split <;> omega)) (by first | (unfold gW; omega) | (unfold gW; split <;> omega)) (fun c4587 => ?_) (fun c4587 => ?_)
                  · skip
                    refine g_iconst dX10_byY_84 ?_
                    refine g_istore (ls2 := [(8, .int (gI (0))), (7, .int (gI (k))), (6, .int (gI (i))), (5, .int (gI ((dY hp F) + (dY hp G)))), (4, .int (gI (dY hp G))), (3, .int (gI (dY hp F))), (0, .ref (B)), (1, .int (gI (a))), (2, .int (gI (b)))]) dX10_byY_85 (by decide) rfl ?_
                    refine g_iload 0 dX10_byY_87 rfl ?_
                    refine g_if_eq (tgt := 96) dX10_byY_89 rfl (by first | (unfold gW; omega) | (unfold gW; split <;> omega)) (fun c4588 => ?_) (fun c4588 => absurd c4588 (by omega))
                    refine g_iload 4 dX10_byY_96 rfl ?_
                    refine g_iload 1 dX10_byY_98 rfl ?_
                    refine g_iload 0 dX10_byY_100 rfl ?_
                    refine g_if_eq (tgt := 110) dX10_byY_102 rfl (by first | (unfold gW; omega) | (unfold gW; split <;> omega)) (fun c4589 => ?_) (fun c4589 => absurd c4589 (by omega))
                    refine g_iload 2 dX10_byY_110 rfl ?_
                    refine g_iload 4 dX10_byY_112 rfl ?_
                    refine g_isub dX10_byY_114 ?_
                    refine g_isub dX10_byY_115 ?_
                    refine g_isub dX10_byY_116 ?_
                    refine g_istore (ls2 := [(9, .int (gI ((dY hp G) - ((k) - ((i) - (dY hp G)))))), (8, .int (gI (0))), (7, .int (gI (k))), (6, .int (gI (i))), (5, .int (gI ((dY hp F) + (dY hp G)))), (4, .int (gI (dY hp G))), (3, .int (gI (dY hp F))), (0, .ref (B)), (1, .int (gI (a))), (2, .int (gI (b)))]) dX10_byY_117 (by decide) rfl ?_
                    refine g_aload_n 7 dX10_byY_119 rfl ?_
                    refine g_iconst dX10_byY_120 ?_
                    refine g_iconst dX10_byY_121 ?_
                    refine g_callV (nc2 := 0) (ns2 := 0) (ci := 10) (As := [.int (gI (0)), .int (gI (0))]) (st := []) rfl dX10_byY_122 okX10_be lX10_170 itX10_be seX10_be rfl cg_lk_0 (by decide) (by decide) rfl (Nat.le_of_ble_eq_true rfl) (sM_be N _ B p hp hp2 hf le fc pn rn hn qn (0) (0) (by omega) (by omega) (by omega) cg_lk_0 (fr_lk).2.1) (by omega) (by omega) (fun v4590 hc4590 q4590 => ?_)
                    obtain ⟨rfl, mfc4591, rn4591_0⟩ := q4590
                    have fk4592_0 : hc4590.2 (B) = some (mO B ((p : Int)) (hf) (le) (fc) (pn) (rn) (hn) (qn)) := Fr.at0 (mfc4591).1 (Ni.c ⟨ne4, ne5⟩ (Ni.n _)) cg_lk_0
                    have fk4592_1 : hc4590.2 (B + 4) = some (aI 1500 (gm)) := Fr.at0 (mfc4591).1 (Ni.c ⟨ne26, ne27⟩ (Ni.n _)) cf_lk_0
                    have fk4592_2 : hc4590.2 (B + 7) = some (aJ 6400 (g7)) := Fr.at0 (mfc4591).1 (Ni.c ⟨(ne31).s, (ne33).s⟩ (Ni.n _)) cf_lk_1
                    have rk4592_0 : MP hp B hc4590 (T) := (cr_lk_0).fr (mfc4591).1 (Ni.c ⟨ne11, ne12⟩ (Ni.n _)) (Ni.c ⟨ne17, ne18⟩ (Ni.n _))
                    have rk4592_1 : MWA B hc4590 := (cr_lk_1).fr (mfc4591).1 (Ni.c ⟨ne22, ne23⟩ (Ni.n _))
                    have rk4592_2 : MSq hp B hc4590 (fun x y => 0 ≤ x ∧ 0 ≤ y ∧ y < dY hp F + dY hp G ∧ (x < i ∨ (x = i ∧ y < k))) (eyI hp F G) := (cr_lk_2).fr (mfc4591).1 (Ni.c ⟨(ne32).s, (ne34).s⟩ (Ni.n _))
                    have fr4592 : MF B [B + 1, B + 3, B + 7] [0, 1, 2, 3, 4, 5, 6, 7, 8, 9, 10] h hc4590 := (fr_lk).tr ((mfc4591).mo sub_n (sbI_c (List.Mem.head _) sbI_n))
                    refine Go.nf (h' := hc4590) (st' := []) rfl rfl (Nat.le_refl _) (Nat.le_refl _) ?_
                    refine g_iload 0 dX10_byY_125 rfl ?_
                    refine g_if_lt (tgt := 196) dX10_byY_127 rfl (by first | (unfold gW; omega) | (unfold gW; split <;> omega)) (fun c4593 => ?_) (fun c4593 => ?_)
                    · skip
                      have hey : cz hp (zi hp (0)) = eyI hp F G i k := by
                                                                      unfold eyI
                                                                      rw [if_neg (by omega), if_neg (by omega)]; exact cz_z0 hp
                      have hdz : dgi hp (cz hp (zi hp (0))) < 80 := by rw [cz_z0, dgi_0]; omega
                      refine g_aload_n 7 dX10_byY_196 rfl ?_
                      refine g_iconst dX10_byY_197 ?_
                      refine g_iload 3 dX10_byY_198 rfl ?_
                      refine g_iload 2 dX10_byY_200 rfl ?_
                      refine g_callV (nc2 := 0) (ns2 := 0) (ci := 10) (As := [.int (gI (0)), .int (gI (i)), .int (gI (k))]) (st := []) rfl dX10_byY_202 okX10_toSquare lX10_199 itX10_toSquare seX10_toSquare rfl fk4592_0 (by decide) (by decide) rfl (Nat.le_of_ble_eq_true rfl) (sM_toSquare0 N _ B p hp hp2 hf le fc pn rn hn qn (0) (i) (k) (by omega) (fun x y => 0 ≤ x ∧ 0 ≤ y ∧ y < dY hp F + dY hp G ∧ (x < i ∨ (x = i ∧ y < k))) (eyI hp F G) (cz hp (zi hp (0))) (g7) fk4592_0 (fr4592).2.1 fk4592_2 rk4592_2 rn4591_0 hdz) (by omega) (by omega) (fun v4594 hc4594 q4594 => ?_)
                      obtain ⟨rfl, mfc4595, f7_4595, mq4595⟩ := q4594
                      have fk4596_0 : hc4594.2 (B) = some (mO B ((p : Int)) (hf) (le) (fc) (pn) (rn) (hn) (qn)) := Fr.at0 (mfc4595).1 (Ni.c ⟨ne4, ne5⟩ (Ni.c ⟨ne6, ne7⟩ (Ni.n _))) fk4592_0
                      have fk4596_1 : hc4594.2 (B + 4) = some (aI 1500 (gm)) := Fr.at0 (mfc4595).1 (Ni.c ⟨ne26, ne27⟩ (Ni.c ⟨ne28, ne29⟩ (Ni.n _))) fk4592_1
                      have rk4596_0 : MP hp B hc4594 (T) := (rk4592_0).fr (mfc4595).1 (Ni.c ⟨ne11, ne12⟩ (Ni.c ⟨ne13, ne14⟩ (Ni.n _))) (Ni.c ⟨ne17, ne18⟩ (Ni.c ⟨ne19, ne20⟩ (Ni.n _)))
                      have rk4596_1 : MWA B hc4594 := (rk4592_1).fr (mfc4595).1 (Ni.c ⟨ne22, ne23⟩ (Ni.c ⟨ne24, ne25⟩ (Ni.n _)))
                      have rk4596_3 : MG hp B hc4594 (0) (cz hp (zi hp (0))) := (rn4591_0).fr hp2 mfc4595 Nr.n
                      have fr4596 : MF B [B + 1, B + 3, B + 7] [0, 1, 2, 3, 4, 5, 6, 7, 8, 9, 10] h hc4594 := (fr4592).tr ((mfc4595).mo (sub_c (List.Mem.tail _ (List.Mem.tail _ (List.Mem.head _))) sub_n) sbI_n)
                      refine Go.nf (h' := hc4594) (st' := []) rfl rfl (Nat.le_refl _) (Nat.le_refl _) ?_
                      refine g_iinc 2 (ls2 := [(7, .int (gI (k + 1))), (9, .int (gI ((dY hp G) - ((k) - ((i) - (dY hp G)))))), (8, .int (gI (0))), (6, .int (gI (i))), (5, .int (gI ((dY hp F) + (dY hp G)))), (4, .int (gI (dY hp G))), (3, .int (gI (dY hp F))), (0, .ref (B)), (1, .int (gI (a))), (2, .int (gI (b)))]) dX10_byY_205 rfl (by decide) rfl ?_
                      refine g_goto (tgt := 66) dX10_byY_208 rfl ?_
                      refine Go.sub [0, 3, 4, 5, 6, 7, 8, 9] rfl ?_
                      exact ih_lk _ (by omega) (k + 1) hc4594 rfl fr4596 fk4596_1 f7_4595 rk4596_0 rk4596_1 ((mq4595).mono (D2 := fun x y => 0 ≤ x ∧ 0 ≤ y ∧ y < dY hp F + dY hp G ∧ (x < i ∨ (x = i ∧ y < k + 1))) (C2 := eyI hp F G) (fun x y d => by
                                                                      rcases d with ⟨d1, d2, d3, d4⟩
                                                                      by_cases z : x = i ∧ y = k
                                                                      · exact Or.inr z
                                                                      · exact Or.inl ⟨d1, d2, d3, by omega⟩) (fun x y d => by
                                                                      unfold cup
                                                                      split
                                                                      · rename_i z; rw [z.1, z.2]; exact hey.symm
                                                                      · rfl)) (by omega)
                    · skip
                      refine g_iload 0 dX10_byY_130 rfl ?_
                      refine g_iload 1 dX10_byY_132 rfl ?_
                      refine g_if_eq (tgt := 141) dX10_byY_134 rfl (by first | (unfold gW; omega) | (unfold gW; split <;> omega)) (fun c4597 => ?_) (fun c4597 => absurd c4597 (by omega))
                      refine g_iload 5 dX10_byY_141 rfl ?_
                      refine g_icmp_gt (tgt := 196) dX10_byY_143 rfl (by first | (unfold gW; omega) | (unfold gW; split <;> omega)) (by first | (unfold gW; omega) | (unfold gW; split <;> omega)) (fun c4598 => ?_) (fun c4598 => ?_)
                      · skip
                        have hey : cz hp (zi hp (0)) = eyI hp F G i k := by
                                                                      unfold eyI
                                                                      rw [if_neg (by omega), if_neg (by omega)]; exact cz_z0 hp
                        have hdz : dgi hp (cz hp (zi hp (0))) < 80 := by rw [cz_z0, dgi_0]; omega
                        refine g_aload_n 7 dX10_byY_196 rfl ?_
                        refine g_iconst dX10_byY_197 ?_
                        refine g_iload 3 dX10_byY_198 rfl ?_
                        refine g_iload 2 dX10_byY_200 rfl ?_
                        refine g_callV (nc2 := 0) (ns2 := 0) (ci := 10) (As := [.int (gI (0)), .int (gI (i)), .int (gI (k))]) (st := []) rfl dX10_byY_202 okX10_toSquare lX10_199 itX10_toSquare seX10_toSquare rfl fk4592_0 (by decide) (by decide) rfl (Nat.le_of_ble_eq_true rfl) (sM_toSquare0 N _ B p hp hp2 hf le fc pn rn hn qn (0) (i) (k) (by omega) (fun x y => 0 ≤ x ∧ 0 ≤ y ∧ y < dY hp F + dY hp G ∧ (x < i ∨ (x = i ∧ y < k))) (eyI hp F G) (cz hp (zi hp (0))) (g7) fk4592_0 (fr4592).2.1 fk4592_2 rk4592_2 rn4591_0 hdz) (by omega) (by omega) (fun v4599 hc4599 q4599 => ?_)
                        obtain ⟨rfl, mfc4600, f7_4600, mq4600⟩ := q4599
                        have fk4601_0 : hc4599.2 (B) = some (mO B ((p : Int)) (hf) (le) (fc) (pn) (rn) (hn) (qn)) := Fr.at0 (mfc4600).1 (Ni.c ⟨ne4, ne5⟩ (Ni.c ⟨ne6, ne7⟩ (Ni.n _))) fk4592_0
                        have fk4601_1 : hc4599.2 (B + 4) = some (aI 1500 (gm)) := Fr.at0 (mfc4600).1 (Ni.c ⟨ne26, ne27⟩ (Ni.c ⟨ne28, ne29⟩ (Ni.n _))) fk4592_1
                        have rk4601_0 : MP hp B hc4599 (T) := (rk4592_0).fr (mfc4600).1 (Ni.c ⟨ne11, ne12⟩ (Ni.c ⟨ne13, ne14⟩ (Ni.n _))) (Ni.c ⟨ne17, ne18⟩ (Ni.c ⟨ne19, ne20⟩ (Ni.n _)))
                        have rk4601_1 : MWA B hc4599 := (rk4592_1).fr (mfc4600).1 (Ni.c ⟨ne22, ne23⟩ (Ni.c ⟨ne24, ne25⟩ (Ni.n _)))
                        have rk4601_3 : MG hp B hc4599 (0) (cz hp (zi hp (0))) := (rn4591_0).fr hp2 mfc4600 Nr.n
                        have fr4601 : MF B [B + 1, B + 3, B + 7] [0, 1, 2, 3, 4, 5, 6, 7, 8, 9, 10] h hc4599 := (fr4592).tr ((mfc4600).mo (sub_c (List.Mem.tail _ (List.Mem.tail _ (List.Mem.head _))) sub_n) sbI_n)
                        refine Go.nf (h' := hc4599) (st' := []) rfl rfl (Nat.le_refl _) (Nat.le_refl _) ?_
                        refine g_iinc 2 (ls2 := [(7, .int (gI (k + 1))), (9, .int (gI ((dY hp G) - ((k) - ((i) - (dY hp G)))))), (8, .int (gI (0))), (6, .int (gI (i))), (5, .int (gI ((dY hp F) + (dY hp G)))), (4, .int (gI (dY hp G))), (3, .int (gI (dY hp F))), (0, .ref (B)), (1, .int (gI (a))), (2, .int (gI (b)))]) dX10_byY_205 rfl (by decide) rfl ?_
                        refine g_goto (tgt := 66) dX10_byY_208 rfl ?_
                        refine Go.sub [0, 3, 4, 5, 6, 7, 8, 9] rfl ?_
                        exact ih_lk _ (by omega) (k + 1) hc4599 rfl fr4601 fk4601_1 f7_4600 rk4601_0 rk4601_1 ((mq4600).mono (D2 := fun x y => 0 ≤ x ∧ 0 ≤ y ∧ y < dY hp F + dY hp G ∧ (x < i ∨ (x = i ∧ y < k + 1))) (C2 := eyI hp F G) (fun x y d => by
                                                                      rcases d with ⟨d1, d2, d3, d4⟩
                                                                      by_cases z : x = i ∧ y = k
                                                                      · exact Or.inr z
                                                                      · exact Or.inl ⟨d1, d2, d3, by omega⟩) (fun x y d => by
                                                                      unfold cup
                                                                      split
                                                                      · rename_i z; rw [z.1, z.2]; exact hey.symm
                                                                      · rfl)) (by omega)
                      · skip
                        obtain ⟨_, gn, w2, hN⟩ := (rk4592_0).at b0 b1 hb
                        have hj6 : ((dY hp G) - ((k) - ((i) - (dY hp G)))).toNat ≤ 6 := by omega
                        have hrow := row_po hp hGB ((dY hp G) - ((k) - ((i) - (dY hp G)))).toNat
                        have hdg6 : dgi hp (G ((dY hp G) - ((k) - ((i) - (dY hp G)))).toNat) ≤ 6 := by
                                                                      have e9 := (sylY_bd hp hGB hGB (by omega) (by omega) 0 1 1 0 0 (by omega) (by omega))
                                                                      have : dl (fR hp) (G ((dY hp G) - ((k) - ((i) - (dY hp G)))).toNat) 7 := fun q hq => by
                                                                        letI := fR hp
                                                                        by_cases z : G ((dY hp G) - ((k) - ((i) - (dY hp G)))).toNat q = 0
                                                                        · exact z
                                                                        · have := hGB.dg.1.1 _ q z
                                                                          omega
                                                                      have := dgi_le hp this
                                                                      omega
                        have hz9 := rn4591_0
                        obtain ⟨R, d, hu, hv, hR, hD⟩ := (fr4592).2.1
                        have hat4602 := (rn4591_0).at hu hv hR hD
                        refine g_iconst dX10_byY_146 ?_
                        refine g_istore (ls2 := [(10, .int (gI (0))), (9, .int (gI ((dY hp G) - ((k) - ((i) - (dY hp G)))))), (8, .int (gI (0))), (7, .int (gI (k))), (6, .int (gI (i))), (5, .int (gI ((dY hp F) + (dY hp G)))), (4, .int (gI (dY hp G))), (3, .int (gI (dY hp F))), (0, .ref (B)), (1, .int (gI (a))), (2, .int (gI (b)))]) dX10_byY_147 (by decide) rfl ?_
                        have lx : ∀ (kk : Nat) (x : Int) (hlx : GH), kk = (7 - x).toNat → Fr [B + 5] hc4590 hlx → hlx.2 (B + 5) = some (aI 8000 (ar (gup R 0 (gF (R 0) (cf (G ((dY hp G) - ((k) - ((i) - (dY hp G)))).toNat)) x)))) → hlx.2 (B + 6) = some (aI 40 (d)) → (0 ≤ x ∧ x ≤ 7) → Go N mX10_byY (fun v h1 => Fr [B + 1, B + 3, B + 5, B + 7] h h1 ∧ MS B h1 ∧ ∃ w T2, Ou T (pa12 hp F G) w T2 ∧ v = some (.int (gI w)) ∧ MP hp B h1 T2) 0 0 hlx 149 [(10, .int (gI (x))), (9, .int (gI ((dY hp G) - ((k) - ((i) - (dY hp G)))))), (8, .int (gI (0))), (7, .int (gI (k))), (6, .int (gI (i))), (5, .int (gI ((dY hp F) + (dY hp G)))), (4, .int (gI (dY hp G))), (3, .int (gI (dY hp F))), (0, .ref (B)), (1, .int (gI (a))), (2, .int (gI (b)))] [] := by
                          refine Go.ind (fun kk ih_lx => ?_)
                          intro x hlx hkk_lx fr_lx cf_lx_0 cf_lx_1 hx
                          have cg_lx_0 : hlx.2 (B) = some (mO B ((p : Int)) (hf) (le) (fc) (pn) (rn) (hn) (qn)) := Fr.at0 fr_lx (Ni.c ⟨ne4, ne5⟩ (Ni.n _)) fk4592_0
                          have cg_lx_1 : hlx.2 (B + 4) = some (aI 1500 (gm)) := Fr.at0 fr_lx (Ni.c ⟨ne26, ne27⟩ (Ni.n _)) fk4592_1
                          have cg_lx_2 : hlx.2 (B + 7) = some (aJ 6400 (g7)) := Fr.at0 fr_lx (Ni.c ⟨(ne31).s, (ne33).s⟩ (Ni.n _)) fk4592_2
                          have cg_lx_3 : hlx.2 (B + 2) = some (aI 28700 (gn)) := Fr.at0 fr_lx (Ni.c ⟨ne17, ne18⟩ (Ni.n _)) w2
                          refine g_iload 0 dX10_byY_149 rfl ?_
                          refine g_bipush dX10_byY_151 (by decide) ?_
                          refine g_icmp_gt (tgt := 191) dX10_byY_153 rfl (by first | (unfold gW; omega) | (unfold gW; split <;> omega)) (by first | (unfold gW; omega) | (unfold gW; split <;> omega)) (fun c4753 => ?_) (fun c4753 => ?_)
                          · skip
                            have hx9 : x = 7 := by omega
                            refine g_aload_n 8 dX10_byY_191 rfl ?_
                            refine g_iconst dX10_byY_192 ?_
                            refine g_callV (nc2 := 0) (ns2 := 0) (ci := 10) (As := [.int (gI (0))]) (st := []) rfl dX10_byY_193 okX10_measure lX10_164 itX10_measure seX10_measure rfl cg_lx_0 (by decide) (by decide) rfl (Nat.le_of_ble_eq_true rfl) (sM_measure N _ B p hp hp2 hf le fc pn rn hn qn (0) (by omega) cg_lx_0 ((gup R 0 (gF (R 0) (cf (G ((dY hp G) - ((k) - ((i) - (dY hp G)))).toNat)) x))) (d) (G ((dY hp G) - ((k) - ((i) - (dY hp G)))).toNat) cf_lx_0 cf_lx_1 (fun j j0 j1 => by
                                                                      rw [gup_s]; unfold gF
                                                                      split
                                                                      · exact cf_in _ hp _
                                                                      · rw [(hz9.at hu hv hR hD).2 j j0 j1]; exact cf_in _ hp _) (by
                                                                      rw [gup_s]
                                                                      refine (ph_cf hp hrow.1 (d := 199) (by omega)).symm.trans (ph_cg hp (fun j j0 j1 => ?_))
                                                                      unfold gF
                                                                      by_cases z : 0 ≤ j ∧ j < x
                                                                      · rw [if_pos z]
                                                                      · rw [if_neg z, (hz9.at hu hv hR hD).2 j j0 (by omega), cf_hi hp hrow.1 (by omega), cf_hi hp (cz_po hp _) (by
                                                                          have : dgi hp (cz hp (zi hp 0)) = -1 := by rw [cz_z0]; exact dgi_0 hp
                                                                          omega)])) (by omega) (by omega) (fun v4754 hc4754 q4754 => ?_)
                            obtain ⟨rfl, mfc4755, rn4755⟩ := q4754
                            have mfd4755 : MF B [] [0] hc4590 hc4754 := (MF.one (r := 0) fr_lx hu hv hR hD cf_lx_0 cf_lx_1 (fun s hs => gup_n _ _ hs) (fun _ _ => rfl)).tr mfc4755
                            have fk4756_0 : hc4754.2 (B) = some (mO B ((p : Int)) (hf) (le) (fc) (pn) (rn) (hn) (qn)) := Fr.at0 mfc4755.1 (Ni.c ⟨ne4, ne5⟩ (Ni.n _)) cg_lx_0
                            have fk4756_1 : hc4754.2 (B + 4) = some (aI 1500 (gm)) := Fr.at0 mfc4755.1 (Ni.c ⟨ne26, ne27⟩ (Ni.n _)) cg_lx_1
                            have fk4756_2 : hc4754.2 (B + 7) = some (aJ 6400 (g7)) := Fr.at0 mfc4755.1 (Ni.c ⟨(ne31).s, (ne33).s⟩ (Ni.n _)) cg_lx_2
                            have fk4756_3 : hc4754.2 (B + 2) = some (aI 28700 (gn)) := Fr.at0 mfc4755.1 (Ni.c ⟨ne17, ne18⟩ (Ni.n _)) cg_lx_3
                            have fr4756 : Fr [B + 5] hc4590 hc4754 := (fr_lx).tr ((mfc4755.1).mo (sub_c (List.Mem.head _) sub_n))
                            refine Go.nf (h' := hc4754) (st' := []) rfl rfl (Nat.le_refl _) (Nat.le_refl _) ?_
                            have fk4807_0 : hc4754.2 (B) = some (mO B ((p : Int)) (hf) (le) (fc) (pn) (rn) (hn) (qn)) := Fr.at0 (mfd4755).1 (Ni.c ⟨ne4, ne5⟩ (Ni.n _)) fk4592_0
                            have fk4807_1 : hc4754.2 (B + 4) = some (aI 1500 (gm)) := Fr.at0 (mfd4755).1 (Ni.c ⟨ne26, ne27⟩ (Ni.n _)) fk4592_1
                            have fk4807_2 : hc4754.2 (B + 7) = some (aJ 6400 (g7)) := Fr.at0 (mfd4755).1 (Ni.c ⟨(ne31).s, (ne33).s⟩ (Ni.n _)) fk4592_2
                            have fk4807_3 : hc4754.2 (B + 2) = some (aI 28700 (gn)) := Fr.at0 (mfd4755).1 (Ni.c ⟨ne17, ne18⟩ (Ni.n _)) w2
                            have rk4807_0 : MP hp B hc4754 (T) := (rk4592_0).fr (mfd4755).1 (Ni.c ⟨ne11, ne12⟩ (Ni.n _)) (Ni.c ⟨ne17, ne18⟩ (Ni.n _))
                            have rk4807_1 : MWA B hc4754 := (rk4592_1).fr (mfd4755).1 (Ni.c ⟨ne22, ne23⟩ (Ni.n _))
                            have rk4807_2 : MSq hp B hc4754 (fun x y => 0 ≤ x ∧ 0 ≤ y ∧ y < dY hp F + dY hp G ∧ (x < i ∨ (x = i ∧ y < k))) (eyI hp F G) := (rk4592_2).fr (mfd4755).1 (Ni.c ⟨(ne32).s, (ne34).s⟩ (Ni.n _))
                            have fr4807 : MF B [B + 1, B + 3, B + 7] [0, 1, 2, 3, 4, 5, 6, 7, 8, 9, 10] h hc4754 := (fr4592).tr ((mfd4755).mo sub_n (sbI_c (List.Mem.head _) sbI_n))
                            have hey : G ((dY hp G) - ((k) - ((i) - (dY hp G)))).toNat = eyI hp F G i k := by
                                                                      unfold eyI
                                                                      rw [if_neg (by omega), if_pos (by omega)]
                            have hdz : dgi hp (G ((dY hp G) - ((k) - ((i) - (dY hp G)))).toNat) < 80 := by omega
                            refine g_aload_n 8 dX10_byY_196 rfl ?_
                            refine g_iconst dX10_byY_197 ?_
                            refine g_iload 4 dX10_byY_198 rfl ?_
                            refine g_iload 3 dX10_byY_200 rfl ?_
                            refine g_callV (nc2 := 0) (ns2 := 0) (ci := 10) (As := [.int (gI (0)), .int (gI (i)), .int (gI (k))]) (st := []) rfl dX10_byY_202 okX10_toSquare lX10_199 itX10_toSquare seX10_toSquare rfl fk4807_0 (by decide) (by decide) rfl (Nat.le_of_ble_eq_true rfl) (sM_toSquare0 N _ B p hp hp2 hf le fc pn rn hn qn (0) (i) (k) (by omega) (fun x y => 0 ≤ x ∧ 0 ≤ y ∧ y < dY hp F + dY hp G ∧ (x < i ∨ (x = i ∧ y < k))) (eyI hp F G) (G ((dY hp G) - ((k) - ((i) - (dY hp G)))).toNat) (g7) fk4807_0 (fr4807).2.1 fk4807_2 rk4807_2 rn4755 hdz) (by omega) (by omega) (fun v4808 hc4808 q4808 => ?_)
                            obtain ⟨rfl, mfc4809, f7_4809, mq4809⟩ := q4808
                            have fk4810_0 : hc4808.2 (B) = some (mO B ((p : Int)) (hf) (le) (fc) (pn) (rn) (hn) (qn)) := Fr.at0 (mfc4809).1 (Ni.c ⟨ne4, ne5⟩ (Ni.c ⟨ne6, ne7⟩ (Ni.n _))) fk4807_0
                            have fk4810_1 : hc4808.2 (B + 4) = some (aI 1500 (gm)) := Fr.at0 (mfc4809).1 (Ni.c ⟨ne26, ne27⟩ (Ni.c ⟨ne28, ne29⟩ (Ni.n _))) fk4807_1
                            have fk4810_3 : hc4808.2 (B + 2) = some (aI 28700 (gn)) := Fr.at0 (mfc4809).1 (Ni.c ⟨ne17, ne18⟩ (Ni.c ⟨ne19, ne20⟩ (Ni.n _))) fk4807_3
                            have rk4810_0 : MP hp B hc4808 (T) := (rk4807_0).fr (mfc4809).1 (Ni.c ⟨ne11, ne12⟩ (Ni.c ⟨ne13, ne14⟩ (Ni.n _))) (Ni.c ⟨ne17, ne18⟩ (Ni.c ⟨ne19, ne20⟩ (Ni.n _)))
                            have rk4810_1 : MWA B hc4808 := (rk4807_1).fr (mfc4809).1 (Ni.c ⟨ne22, ne23⟩ (Ni.c ⟨ne24, ne25⟩ (Ni.n _)))
                            have rk4810_3 : MG hp B hc4808 (0) (G ((dY hp G) - ((k) - ((i) - (dY hp G)))).toNat) := (rn4755).fr hp2 mfc4809 Nr.n
                            have fr4810 : MF B [B + 1, B + 3, B + 7] [0, 1, 2, 3, 4, 5, 6, 7, 8, 9, 10] h hc4808 := (fr4807).tr ((mfc4809).mo (sub_c (List.Mem.tail _ (List.Mem.tail _ (List.Mem.head _))) sub_n) sbI_n)
                            refine Go.nf (h' := hc4808) (st' := []) rfl rfl (Nat.le_refl _) (Nat.le_refl _) ?_
                            refine g_iinc 3 (ls2 := [(7, .int (gI (k + 1))), (10, .int (gI (x))), (9, .int (gI ((dY hp G) - ((k) - ((i) - (dY hp G)))))), (8, .int (gI (0))), (6, .int (gI (i))), (5, .int (gI ((dY hp F) + (dY hp G)))), (4, .int (gI (dY hp G))), (3, .int (gI (dY hp F))), (0, .ref (B)), (1, .int (gI (a))), (2, .int (gI (b)))]) dX10_byY_205 rfl (by decide) rfl ?_
                            refine g_goto (tgt := 66) dX10_byY_208 rfl ?_
                            refine Go.sub [0, 4, 5, 6, 7, 8, 9, 10] rfl ?_
                            exact ih_lk _ (by omega) (k + 1) hc4808 rfl fr4810 fk4810_1 f7_4809 rk4810_0 rk4810_1 ((mq4809).mono (D2 := fun x y => 0 ≤ x ∧ 0 ≤ y ∧ y < dY hp F + dY hp G ∧ (x < i ∨ (x = i ∧ y < k + 1))) (C2 := eyI hp F G) (fun x y d => by
                                                                      rcases d with ⟨d1, d2, d3, d4⟩
                                                                      by_cases z : x = i ∧ y = k
                                                                      · exact Or.inr z
                                                                      · exact Or.inl ⟨d1, d2, d3, by omega⟩) (fun x y d => by
                                                                      unfold cup
                                                                      split
                                                                      · rename_i z; rw [z.1, z.2]; exact hey.symm
                                                                      · rfl)) (by omega)
                          · skip
                            refine g_aload_n 8 dX10_byY_156 rfl ?_
                            refine g_getf 5 dX10_byY_157 kX10 (by decide) fX10_23 cg_lx_0 rfl ?_
                            refine g_iload 0 dX10_byY_160 rfl ?_
                            refine g_aload_n 8 dX10_byY_162 rfl ?_
                            refine g_getf 2 dX10_byY_163 kX10 (by decide) fX10_13 cg_lx_0 rfl ?_
                            refine g_iload 2 dX10_byY_166 rfl ?_
                            refine g_if_eq (tgt := 175) dX10_byY_168 rfl (by first | (unfold gW; omega) | (unfold gW; split <;> omega)) (fun c4811 => ?_) (fun c4811 => absurd c4811 (by omega))
                            refine g_iload_n 10 dX10_byY_175 rfl ?_
                            refine g_iload 0 dX10_byY_176 rfl ?_
                            refine g_iload 1 dX10_byY_178 rfl ?_
                            refine g_callS (nc2 := 0) (ns2 := 0) (As := [.int (gI (b)), .int (gI (x)), .int (gI ((dY hp G) - ((k) - ((i) - (dY hp G)))))]) (st := [.ref (B + 2), .int (gI (x)), .ref (B + 5)]) rfl dX10_byY_180 okX10_cellOf lX10_99 stX10_cellOf (by decide) (by decide) rfl (Nat.le_of_ble_eq_true rfl) (sM_cellOf N _ (b) (x) ((dY hp G) - ((k) - ((i) - (dY hp G))))) (by omega) (by omega) (fun v4812 hc4812 q4812 => ?_)
                            obtain ⟨hq4813, rfl⟩ := q4812
                            refine Go.nf (h' := hlx) (st' := [.int (gI (287 * (b) + 7 * (x) + ((dY hp G) - ((k) - ((i) - (dY hp G)))))), .ref (B + 2), .int (gI (x)), .ref (B + 5)]) hq4813 rfl (Nat.le_refl _) (Nat.le_refl _) ?_
                            refine g_iaload dX10_byY_183 cg_lx_3 (by omega) (by omega) (by omega) ?_
                            have hv_ : (gn) (287 * (b) + 7 * (x) + ((dY hp G) - ((k) - ((i) - (dY hp G))))) = cf (G ((dY hp G) - ((k) - ((i) - (dY hp G)))).toNat) x := by
                                                                      have e9 := hN ((dY hp G) - ((k) - ((i) - (dY hp G)))) x (by omega) (by omega) hx.1 (by omega)
                                                                      unfold cy at e9
                                                                      rw [if_pos (by omega)] at e9
                                                                      rw [← e9]; congr 1; omega
                            rw [hv_]
                            refine g_iastore dX10_byY_184 cf_lx_0 (by omega) (by omega) (by omega) ?_
                            obtain ⟨hh4814, eh4814⟩ : ∃ z : GH, z = hset hlx (B + 5) (aI 8000 (gup (ar (gup R 0 (gF (R 0) (cf (G ((dY hp G) - ((k) - ((i) - (dY hp G)))).toNat)) x))) (x) (cf (G ((dY hp G) - ((k) - ((i) - (dY hp G)))).toNat) x))) := ⟨_, rfl⟩
                            refine Go.hp eh4814.symm ?_
                            have fh4814_0 : hh4814.2 (B) = some (mO B ((p : Int)) (hf) (le) (fc) (pn) (rn) (hn) (qn)) := hs_n eh4814 ne4 cg_lx_0
                            have fh4814_1 : hh4814.2 (B + 4) = some (aI 1500 (gm)) := hs_n eh4814 ne26 cg_lx_1
                            have fh4814_2 : hh4814.2 (B + 7) = some (aJ 6400 (g7)) := hs_n eh4814 (ne31).s cg_lx_2
                            have fh4814_3 : hh4814.2 (B + 2) = some (aI 28700 (gn)) := hs_n eh4814 ne17 cg_lx_3
                            have fh4814_4 : hh4814.2 (B + 5) = some (aI 8000 (gup (ar (gup R 0 (gF (R 0) (cf (G ((dY hp G) - ((k) - ((i) - (dY hp G)))).toNat)) x))) (x) (cf (G ((dY hp G) - ((k) - ((i) - (dY hp G)))).toNat) x))) := hs_s eh4814
                            have fh4814_5 : hh4814.2 (B + 6) = some (aI 40 (d)) := hs_n eh4814 (ne30).s cf_lx_1
                            have fr4814 : Fr [B + 5] hc4590 hh4814 := Fr.w0 fr_lx (List.Mem.head _) eh4814
                            refine g_iinc 0 (ls2 := [(10, .int (gI (x + 1))), (9, .int (gI ((dY hp G) - ((k) - ((i) - (dY hp G)))))), (8, .int (gI (0))), (7, .int (gI (k))), (6, .int (gI (i))), (5, .int (gI ((dY hp F) + (dY hp G)))), (4, .int (gI (dY hp G))), (3, .int (gI (dY hp F))), (0, .ref (B)), (1, .int (gI (a))), (2, .int (gI (b)))]) dX10_byY_185 rfl (by decide) rfl ?_
                            refine g_goto (tgt := 149) dX10_byY_188 rfl ?_
                            exact ih_lx _ (by omega) (x + 1) hh4814 rfl fr4814 (by
                                                                      have e9 := fh4814_4
                                                                      rw [← gF_s (R 0) (cf (G ((dY hp G) - ((k) - ((i) - (dY hp G)))).toNat)) hx.1, ← ar_wg R _ hx.1 (by omega), show 200 * (0 : Int) + x = x by omega]
                                                                      exact e9) fh4814_5 (by omega)
                        exact lx _ (0) hc4590 rfl (Fr.rf [B + 5] hc4590) (by rw [gF_0, gup_id]; exact hR) hD (by omega)
                  · skip
                    refine g_iconst dX10_byY_80 ?_
                    refine g_goto (tgt := 85) dX10_byY_81 rfl ?_
                    refine g_istore (ls2 := [(8, .int (gI (1))), (7, .int (gI (k))), (6, .int (gI (i))), (5, .int (gI ((dY hp F) + (dY hp G)))), (4, .int (gI (dY hp G))), (3, .int (gI (dY hp F))), (0, .ref (B)), (1, .int (gI (a))), (2, .int (gI (b)))]) dX10_byY_85 (by decide) rfl ?_
                    refine g_iload 0 dX10_byY_87 rfl ?_
                    refine g_if_eq (tgt := 96) dX10_byY_89 rfl (by first | (unfold gW; omega) | (unfold gW; split <;> omega)) (fun c4915 => absurd c4915 (by omega)) (fun c4915 => ?_)
                    refine g_iload_n 5 dX10_byY_92 rfl ?_
                    refine g_goto (tgt := 98) dX10_byY_93 rfl ?_
                    refine g_iload 1 dX10_byY_98 rfl ?_
                    refine g_iload 0 dX10_byY_100 rfl ?_
                    refine g_if_eq (tgt := 110) dX10_byY_102 rfl (by first | (unfold gW; omega) | (unfold gW; split <;> omega)) (fun c4916 => absurd c4916 (by omega)) (fun c4916 => ?_)
                    refine g_iload 2 dX10_byY_105 rfl ?_
                    refine g_goto (tgt := 115) dX10_byY_107 rfl ?_
                    refine g_isub dX10_byY_115 ?_
                    refine g_isub dX10_byY_116 ?_
                    refine g_istore (ls2 := [(9, .int (gI ((dY hp F) - ((k) - (i))))), (8, .int (gI (1))), (7, .int (gI (k))), (6, .int (gI (i))), (5, .int (gI ((dY hp F) + (dY hp G)))), (4, .int (gI (dY hp G))), (3, .int (gI (dY hp F))), (0, .ref (B)), (1, .int (gI (a))), (2, .int (gI (b)))]) dX10_byY_117 (by decide) rfl ?_
                    refine g_aload_n 7 dX10_byY_119 rfl ?_
                    refine g_iconst dX10_byY_120 ?_
                    refine g_iconst dX10_byY_121 ?_
                    refine g_callV (nc2 := 0) (ns2 := 0) (ci := 10) (As := [.int (gI (0)), .int (gI (0))]) (st := []) rfl dX10_byY_122 okX10_be lX10_170 itX10_be seX10_be rfl cg_lk_0 (by decide) (by decide) rfl (Nat.le_of_ble_eq_true rfl) (sM_be N _ B p hp hp2 hf le fc pn rn hn qn (0) (0) (by omega) (by omega) (by omega) cg_lk_0 (fr_lk).2.1) (by omega) (by omega) (fun v4917 hc4917 q4917 => ?_)
                    obtain ⟨rfl, mfc4918, rn4918_0⟩ := q4917
                    have fk4919_0 : hc4917.2 (B) = some (mO B ((p : Int)) (hf) (le) (fc) (pn) (rn) (hn) (qn)) := Fr.at0 (mfc4918).1 (Ni.c ⟨ne4, ne5⟩ (Ni.n _)) cg_lk_0
                    have fk4919_1 : hc4917.2 (B + 4) = some (aI 1500 (gm)) := Fr.at0 (mfc4918).1 (Ni.c ⟨ne26, ne27⟩ (Ni.n _)) cf_lk_0
                    have fk4919_2 : hc4917.2 (B + 7) = some (aJ 6400 (g7)) := Fr.at0 (mfc4918).1 (Ni.c ⟨(ne31).s, (ne33).s⟩ (Ni.n _)) cf_lk_1
                    have rk4919_0 : MP hp B hc4917 (T) := (cr_lk_0).fr (mfc4918).1 (Ni.c ⟨ne11, ne12⟩ (Ni.n _)) (Ni.c ⟨ne17, ne18⟩ (Ni.n _))
                    have rk4919_1 : MWA B hc4917 := (cr_lk_1).fr (mfc4918).1 (Ni.c ⟨ne22, ne23⟩ (Ni.n _))
                    have rk4919_2 : MSq hp B hc4917 (fun x y => 0 ≤ x ∧ 0 ≤ y ∧ y < dY hp F + dY hp G ∧ (x < i ∨ (x = i ∧ y < k))) (eyI hp F G) := (cr_lk_2).fr (mfc4918).1 (Ni.c ⟨(ne32).s, (ne34).s⟩ (Ni.n _))
                    have fr4919 : MF B [B + 1, B + 3, B + 7] [0, 1, 2, 3, 4, 5, 6, 7, 8, 9, 10] h hc4917 := (fr_lk).tr ((mfc4918).mo sub_n (sbI_c (List.Mem.head _) sbI_n))
                    refine Go.nf (h' := hc4917) (st' := []) rfl rfl (Nat.le_refl _) (Nat.le_refl _) ?_
                    refine g_iload 0 dX10_byY_125 rfl ?_
                    refine g_if_lt (tgt := 196) dX10_byY_127 rfl (by first | (unfold gW; omega) | (unfold gW; split <;> omega)) (fun c4920 => ?_) (fun c4920 => ?_)
                    · skip
                      have hey : cz hp (zi hp (0)) = eyI hp F G i k := by
                                                                      unfold eyI
                                                                      rw [if_pos (by omega), if_neg (by omega)]; exact cz_z0 hp
                      have hdz : dgi hp (cz hp (zi hp (0))) < 80 := by rw [cz_z0, dgi_0]; omega
                      refine g_aload_n 7 dX10_byY_196 rfl ?_
                      refine g_iconst dX10_byY_197 ?_
                      refine g_iload 3 dX10_byY_198 rfl ?_
                      refine g_iload 2 dX10_byY_200 rfl ?_
                      refine g_callV (nc2 := 0) (ns2 := 0) (ci := 10) (As := [.int (gI (0)), .int (gI (i)), .int (gI (k))]) (st := []) rfl dX10_byY_202 okX10_toSquare lX10_199 itX10_toSquare seX10_toSquare rfl fk4919_0 (by decide) (by decide) rfl (Nat.le_of_ble_eq_true rfl) (sM_toSquare0 N _ B p hp hp2 hf le fc pn rn hn qn (0) (i) (k) (by omega) (fun x y => 0 ≤ x ∧ 0 ≤ y ∧ y < dY hp F + dY hp G ∧ (x < i ∨ (x = i ∧ y < k))) (eyI hp F G) (cz hp (zi hp (0))) (g7) fk4919_0 (fr4919).2.1 fk4919_2 rk4919_2 rn4918_0 hdz) (by omega) (by omega) (fun v4921 hc4921 q4921 => ?_)
                      obtain ⟨rfl, mfc4922, f7_4922, mq4922⟩ := q4921
                      have fk4923_0 : hc4921.2 (B) = some (mO B ((p : Int)) (hf) (le) (fc) (pn) (rn) (hn) (qn)) := Fr.at0 (mfc4922).1 (Ni.c ⟨ne4, ne5⟩ (Ni.c ⟨ne6, ne7⟩ (Ni.n _))) fk4919_0
                      have fk4923_1 : hc4921.2 (B + 4) = some (aI 1500 (gm)) := Fr.at0 (mfc4922).1 (Ni.c ⟨ne26, ne27⟩ (Ni.c ⟨ne28, ne29⟩ (Ni.n _))) fk4919_1
                      have rk4923_0 : MP hp B hc4921 (T) := (rk4919_0).fr (mfc4922).1 (Ni.c ⟨ne11, ne12⟩ (Ni.c ⟨ne13, ne14⟩ (Ni.n _))) (Ni.c ⟨ne17, ne18⟩ (Ni.c ⟨ne19, ne20⟩ (Ni.n _)))
                      have rk4923_1 : MWA B hc4921 := (rk4919_1).fr (mfc4922).1 (Ni.c ⟨ne22, ne23⟩ (Ni.c ⟨ne24, ne25⟩ (Ni.n _)))
                      have rk4923_3 : MG hp B hc4921 (0) (cz hp (zi hp (0))) := (rn4918_0).fr hp2 mfc4922 Nr.n
                      have fr4923 : MF B [B + 1, B + 3, B + 7] [0, 1, 2, 3, 4, 5, 6, 7, 8, 9, 10] h hc4921 := (fr4919).tr ((mfc4922).mo (sub_c (List.Mem.tail _ (List.Mem.tail _ (List.Mem.head _))) sub_n) sbI_n)
                      refine Go.nf (h' := hc4921) (st' := []) rfl rfl (Nat.le_refl _) (Nat.le_refl _) ?_
                      refine g_iinc 2 (ls2 := [(7, .int (gI (k + 1))), (9, .int (gI ((dY hp F) - ((k) - (i))))), (8, .int (gI (1))), (6, .int (gI (i))), (5, .int (gI ((dY hp F) + (dY hp G)))), (4, .int (gI (dY hp G))), (3, .int (gI (dY hp F))), (0, .ref (B)), (1, .int (gI (a))), (2, .int (gI (b)))]) dX10_byY_205 rfl (by decide) rfl ?_
                      refine g_goto (tgt := 66) dX10_byY_208 rfl ?_
                      refine Go.sub [0, 3, 4, 5, 6, 7, 8, 9] rfl ?_
                      exact ih_lk _ (by omega) (k + 1) hc4921 rfl fr4923 fk4923_1 f7_4922 rk4923_0 rk4923_1 ((mq4922).mono (D2 := fun x y => 0 ≤ x ∧ 0 ≤ y ∧ y < dY hp F + dY hp G ∧ (x < i ∨ (x = i ∧ y < k + 1))) (C2 := eyI hp F G) (fun x y d => by
                                                                      rcases d with ⟨d1, d2, d3, d4⟩
                                                                      by_cases z : x = i ∧ y = k
                                                                      · exact Or.inr z
                                                                      · exact Or.inl ⟨d1, d2, d3, by omega⟩) (fun x y d => by
                                                                      unfold cup
                                                                      split
                                                                      · rename_i z; rw [z.1, z.2]; exact hey.symm
                                                                      · rfl)) (by omega)
                    · skip
                      refine g_iload 0 dX10_byY_130 rfl ?_
                      refine g_iload 1 dX10_byY_132 rfl ?_
                      refine g_if_eq (tgt := 141) dX10_byY_134 rfl (by first | (unfold gW; omega) | (unfold gW; split <;> omega)) (fun c4924 => absurd c4924 (by omega)) (fun c4924 => ?_)
                      refine g_iload_n 6 dX10_byY_137 rfl ?_
                      refine g_goto (tgt := 143) dX10_byY_138 rfl ?_
                      refine g_icmp_gt (tgt := 196) dX10_byY_143 rfl (by first | (unfold gW; omega) | (unfold gW; split <;> omega)) (by first | (unfold gW; omega) | (unfold gW; split <;> omega)) (fun c4925 => ?_) (fun c4925 => ?_)
                      · skip
                        have hey : cz hp (zi hp (0)) = eyI hp F G i k := by
                                                                      unfold eyI
                                                                      rw [if_pos (by omega), if_neg (by omega)]; exact cz_z0 hp
                        have hdz : dgi hp (cz hp (zi hp (0))) < 80 := by rw [cz_z0, dgi_0]; omega
                        refine g_aload_n 7 dX10_byY_196 rfl ?_
                        refine g_iconst dX10_byY_197 ?_
                        refine g_iload 3 dX10_byY_198 rfl ?_
                        refine g_iload 2 dX10_byY_200 rfl ?_
                        refine g_callV (nc2 := 0) (ns2 := 0) (ci := 10) (As := [.int (gI (0)), .int (gI (i)), .int (gI (k))]) (st := []) rfl dX10_byY_202 okX10_toSquare lX10_199 itX10_toSquare seX10_toSquare rfl fk4919_0 (by decide) (by decide) rfl (Nat.le_of_ble_eq_true rfl) (sM_toSquare0 N _ B p hp hp2 hf le fc pn rn hn qn (0) (i) (k) (by omega) (fun x y => 0 ≤ x ∧ 0 ≤ y ∧ y < dY hp F + dY hp G ∧ (x < i ∨ (x = i ∧ y < k))) (eyI hp F G) (cz hp (zi hp (0))) (g7) fk4919_0 (fr4919).2.1 fk4919_2 rk4919_2 rn4918_0 hdz) (by omega) (by omega) (fun v4926 hc4926 q4926 => ?_)
                        obtain ⟨rfl, mfc4927, f7_4927, mq4927⟩ := q4926
                        have fk4928_0 : hc4926.2 (B) = some (mO B ((p : Int)) (hf) (le) (fc) (pn) (rn) (hn) (qn)) := Fr.at0 (mfc4927).1 (Ni.c ⟨ne4, ne5⟩ (Ni.c ⟨ne6, ne7⟩ (Ni.n _))) fk4919_0
                        have fk4928_1 : hc4926.2 (B + 4) = some (aI 1500 (gm)) := Fr.at0 (mfc4927).1 (Ni.c ⟨ne26, ne27⟩ (Ni.c ⟨ne28, ne29⟩ (Ni.n _))) fk4919_1
                        have rk4928_0 : MP hp B hc4926 (T) := (rk4919_0).fr (mfc4927).1 (Ni.c ⟨ne11, ne12⟩ (Ni.c ⟨ne13, ne14⟩ (Ni.n _))) (Ni.c ⟨ne17, ne18⟩ (Ni.c ⟨ne19, ne20⟩ (Ni.n _)))
                        have rk4928_1 : MWA B hc4926 := (rk4919_1).fr (mfc4927).1 (Ni.c ⟨ne22, ne23⟩ (Ni.c ⟨ne24, ne25⟩ (Ni.n _)))
                        have rk4928_3 : MG hp B hc4926 (0) (cz hp (zi hp (0))) := (rn4918_0).fr hp2 mfc4927 Nr.n
                        have fr4928 : MF B [B + 1, B + 3, B + 7] [0, 1, 2, 3, 4, 5, 6, 7, 8, 9, 10] h hc4926 := (fr4919).tr ((mfc4927).mo (sub_c (List.Mem.tail _ (List.Mem.tail _ (List.Mem.head _))) sub_n) sbI_n)
                        refine Go.nf (h' := hc4926) (st' := []) rfl rfl (Nat.le_refl _) (Nat.le_refl _) ?_
                        refine g_iinc 2 (ls2 := [(7, .int (gI (k + 1))), (9, .int (gI ((dY hp F) - ((k) - (i))))), (8, .int (gI (1))), (6, .int (gI (i))), (5, .int (gI ((dY hp F) + (dY hp G)))), (4, .int (gI (dY hp G))), (3, .int (gI (dY hp F))), (0, .ref (B)), (1, .int (gI (a))), (2, .int (gI (b)))]) dX10_byY_205 rfl (by decide) rfl ?_
                        refine g_goto (tgt := 66) dX10_byY_208 rfl ?_
                        refine Go.sub [0, 3, 4, 5, 6, 7, 8, 9] rfl ?_
                        exact ih_lk _ (by omega) (k + 1) hc4926 rfl fr4928 fk4928_1 f7_4927 rk4928_0 rk4928_1 ((mq4927).mono (D2 := fun x y => 0 ≤ x ∧ 0 ≤ y ∧ y < dY hp F + dY hp G ∧ (x < i ∨ (x = i ∧ y < k + 1))) (C2 := eyI hp F G) (fun x y d => by
                                                                      rcases d with ⟨d1, d2, d3, d4⟩
                                                                      by_cases z : x = i ∧ y = k
                                                                      · exact Or.inr z
                                                                      · exact Or.inl ⟨d1, d2, d3, by omega⟩) (fun x y d => by
                                                                      unfold cup
                                                                      split
                                                                      · rename_i z; rw [z.1, z.2]; exact hey.symm
                                                                      · rfl)) (by omega)
                      · skip
                        obtain ⟨_, gn, w2, hN⟩ := (rk4919_0).at a0 a1 ha
                        have hj6 : ((dY hp F) - ((k) - (i))).toNat ≤ 6 := by omega
                        have hrow := row_po hp hFB ((dY hp F) - ((k) - (i))).toNat
                        have hdg6 : dgi hp (F ((dY hp F) - ((k) - (i))).toNat) ≤ 6 := by
                                                                      have e9 := (sylY_bd hp hFB hFB (by omega) (by omega) 0 1 1 0 0 (by omega) (by omega))
                                                                      have : dl (fR hp) (F ((dY hp F) - ((k) - (i))).toNat) 7 := fun q hq => by
                                                                        letI := fR hp
                                                                        by_cases z : F ((dY hp F) - ((k) - (i))).toNat q = 0
                                                                        · exact z
                                                                        · have := hFB.dg.1.1 _ q z
                                                                          omega
                                                                      have := dgi_le hp this
                                                                      omega
                        have hz9 := rn4918_0
                        obtain ⟨R, d, hu, hv, hR, hD⟩ := (fr4919).2.1
                        have hat4929 := (rn4918_0).at hu hv hR hD
                        refine g_iconst dX10_byY_146 ?_
                        refine g_istore (ls2 := [(10, .int (gI (0))), (9, .int (gI ((dY hp F) - ((k) - (i))))), (8, .int (gI (1))), (7, .int (gI (k))), (6, .int (gI (i))), (5, .int (gI ((dY hp F) + (dY hp G)))), (4, .int (gI (dY hp G))), (3, .int (gI (dY hp F))), (0, .ref (B)), (1, .int (gI (a))), (2, .int (gI (b)))]) dX10_byY_147 (by decide) rfl ?_
                        have lx : ∀ (kk : Nat) (x : Int) (hlx : GH), kk = (7 - x).toNat → Fr [B + 5] hc4917 hlx → hlx.2 (B + 5) = some (aI 8000 (ar (gup R 0 (gF (R 0) (cf (F ((dY hp F) - ((k) - (i))).toNat)) x)))) → hlx.2 (B + 6) = some (aI 40 (d)) → (0 ≤ x ∧ x ≤ 7) → Go N mX10_byY (fun v h1 => Fr [B + 1, B + 3, B + 5, B + 7] h h1 ∧ MS B h1 ∧ ∃ w T2, Ou T (pa12 hp F G) w T2 ∧ v = some (.int (gI w)) ∧ MP hp B h1 T2) 0 0 hlx 149 [(10, .int (gI (x))), (9, .int (gI ((dY hp F) - ((k) - (i))))), (8, .int (gI (1))), (7, .int (gI (k))), (6, .int (gI (i))), (5, .int (gI ((dY hp F) + (dY hp G)))), (4, .int (gI (dY hp G))), (3, .int (gI (dY hp F))), (0, .ref (B)), (1, .int (gI (a))), (2, .int (gI (b)))] [] := by
                          refine Go.ind (fun kk ih_lx => ?_)
                          intro x hlx hkk_lx fr_lx cf_lx_0 cf_lx_1 hx
                          have cg_lx_0 : hlx.2 (B) = some (mO B ((p : Int)) (hf) (le) (fc) (pn) (rn) (hn) (qn)) := Fr.at0 fr_lx (Ni.c ⟨ne4, ne5⟩ (Ni.n _)) fk4919_0
                          have cg_lx_1 : hlx.2 (B + 4) = some (aI 1500 (gm)) := Fr.at0 fr_lx (Ni.c ⟨ne26, ne27⟩ (Ni.n _)) fk4919_1
                          have cg_lx_2 : hlx.2 (B + 7) = some (aJ 6400 (g7)) := Fr.at0 fr_lx (Ni.c ⟨(ne31).s, (ne33).s⟩ (Ni.n _)) fk4919_2
                          have cg_lx_3 : hlx.2 (B + 2) = some (aI 28700 (gn)) := Fr.at0 fr_lx (Ni.c ⟨ne17, ne18⟩ (Ni.n _)) w2
                          refine g_iload 0 dX10_byY_149 rfl ?_
                          refine g_bipush dX10_byY_151 (by decide) ?_
                          refine g_icmp_gt (tgt := 191) dX10_byY_153 rfl (by first | (unfold gW; omega) | (unfold gW; split <;> omega)) (by first | (unfold gW; omega) | (unfold gW; split <;> omega)) (fun c5080 => ?_) (fun c5080 => ?_)
                          · skip
                            have hx9 : x = 7 := by omega
                            refine g_aload_n 8 dX10_byY_191 rfl ?_
                            refine g_iconst dX10_byY_192 ?_
                            refine g_callV (nc2 := 0) (ns2 := 0) (ci := 10) (As := [.int (gI (0))]) (st := []) rfl dX10_byY_193 okX10_measure lX10_164 itX10_measure seX10_measure rfl cg_lx_0 (by decide) (by decide) rfl (Nat.le_of_ble_eq_true rfl) (sM_measure N _ B p hp hp2 hf le fc pn rn hn qn (0) (by omega) cg_lx_0 ((gup R 0 (gF (R 0) (cf (F ((dY hp F) - ((k) - (i))).toNat)) x))) (d) (F ((dY hp F) - ((k) - (i))).toNat) cf_lx_0 cf_lx_1 (fun j j0 j1 => by
                                                                      rw [gup_s]; unfold gF
                                                                      split
                                                                      · exact cf_in _ hp _
                                                                      · rw [(hz9.at hu hv hR hD).2 j j0 j1]; exact cf_in _ hp _) (by
                                                                      rw [gup_s]
                                                                      refine (ph_cf hp hrow.1 (d := 199) (by omega)).symm.trans (ph_cg hp (fun j j0 j1 => ?_))
                                                                      unfold gF
                                                                      by_cases z : 0 ≤ j ∧ j < x
                                                                      · rw [if_pos z]
                                                                      · rw [if_neg z, (hz9.at hu hv hR hD).2 j j0 (by omega), cf_hi hp hrow.1 (by omega), cf_hi hp (cz_po hp _) (by
                                                                          have : dgi hp (cz hp (zi hp 0)) = -1 := by rw [cz_z0]; exact dgi_0 hp
                                                                          omega)])) (by omega) (by omega) (fun v5081 hc5081 q5081 => ?_)
                            obtain ⟨rfl, mfc5082, rn5082⟩ := q5081
                            have mfd5082 : MF B [] [0] hc4917 hc5081 := (MF.one (r := 0) fr_lx hu hv hR hD cf_lx_0 cf_lx_1 (fun s hs => gup_n _ _ hs) (fun _ _ => rfl)).tr mfc5082
                            have fk5083_0 : hc5081.2 (B) = some (mO B ((p : Int)) (hf) (le) (fc) (pn) (rn) (hn) (qn)) := Fr.at0 mfc5082.1 (Ni.c ⟨ne4, ne5⟩ (Ni.n _)) cg_lx_0
                            have fk5083_1 : hc5081.2 (B + 4) = some (aI 1500 (gm)) := Fr.at0 mfc5082.1 (Ni.c ⟨ne26, ne27⟩ (Ni.n _)) cg_lx_1
                            have fk5083_2 : hc5081.2 (B + 7) = some (aJ 6400 (g7)) := Fr.at0 mfc5082.1 (Ni.c ⟨(ne31).s, (ne33).s⟩ (Ni.n _)) cg_lx_2
                            have fk5083_3 : hc5081.2 (B + 2) = some (aI 28700 (gn)) := Fr.at0 mfc5082.1 (Ni.c ⟨ne17, ne18⟩ (Ni.n _)) cg_lx_3
                            have fr5083 : Fr [B + 5] hc4917 hc5081 := (fr_lx).tr ((mfc5082.1).mo (sub_c (List.Mem.head _) sub_n))
                            refine Go.nf (h' := hc5081) (st' := []) rfl rfl (Nat.le_refl _) (Nat.le_refl _) ?_
                            have fk5134_0 : hc5081.2 (B) = some (mO B ((p : Int)) (hf) (le) (fc) (pn) (rn) (hn) (qn)) := Fr.at0 (mfd5082).1 (Ni.c ⟨ne4, ne5⟩ (Ni.n _)) fk4919_0
                            have fk5134_1 : hc5081.2 (B + 4) = some (aI 1500 (gm)) := Fr.at0 (mfd5082).1 (Ni.c ⟨ne26, ne27⟩ (Ni.n _)) fk4919_1
                            have fk5134_2 : hc5081.2 (B + 7) = some (aJ 6400 (g7)) := Fr.at0 (mfd5082).1 (Ni.c ⟨(ne31).s, (ne33).s⟩ (Ni.n _)) fk4919_2
                            have fk5134_3 : hc5081.2 (B + 2) = some (aI 28700 (gn)) := Fr.at0 (mfd5082).1 (Ni.c ⟨ne17, ne18⟩ (Ni.n _)) w2
                            have rk5134_0 : MP hp B hc5081 (T) := (rk4919_0).fr (mfd5082).1 (Ni.c ⟨ne11, ne12⟩ (Ni.n _)) (Ni.c ⟨ne17, ne18⟩ (Ni.n _))
                            have rk5134_1 : MWA B hc5081 := (rk4919_1).fr (mfd5082).1 (Ni.c ⟨ne22, ne23⟩ (Ni.n _))
                            have rk5134_2 : MSq hp B hc5081 (fun x y => 0 ≤ x ∧ 0 ≤ y ∧ y < dY hp F + dY hp G ∧ (x < i ∨ (x = i ∧ y < k))) (eyI hp F G) := (rk4919_2).fr (mfd5082).1 (Ni.c ⟨(ne32).s, (ne34).s⟩ (Ni.n _))
                            have fr5134 : MF B [B + 1, B + 3, B + 7] [0, 1, 2, 3, 4, 5, 6, 7, 8, 9, 10] h hc5081 := (fr4919).tr ((mfd5082).mo sub_n (sbI_c (List.Mem.head _) sbI_n))
                            have hey : F ((dY hp F) - ((k) - (i))).toNat = eyI hp F G i k := by
                                                                      unfold eyI
                                                                      rw [if_pos (by omega), if_pos (by omega)]
                            have hdz : dgi hp (F ((dY hp F) - ((k) - (i))).toNat) < 80 := by omega
                            refine g_aload_n 8 dX10_byY_196 rfl ?_
                            refine g_iconst dX10_byY_197 ?_
                            refine g_iload 4 dX10_byY_198 rfl ?_
                            refine g_iload 3 dX10_byY_200 rfl ?_
                            refine g_callV (nc2 := 0) (ns2 := 0) (ci := 10) (As := [.int (gI (0)), .int (gI (i)), .int (gI (k))]) (st := []) rfl dX10_byY_202 okX10_toSquare lX10_199 itX10_toSquare seX10_toSquare rfl fk5134_0 (by decide) (by decide) rfl (Nat.le_of_ble_eq_true rfl) (sM_toSquare0 N _ B p hp hp2 hf le fc pn rn hn qn (0) (i) (k) (by omega) (fun x y => 0 ≤ x ∧ 0 ≤ y ∧ y < dY hp F + dY hp G ∧ (x < i ∨ (x = i ∧ y < k))) (eyI hp F G) (F ((dY hp F) - ((k) - (i))).toNat) (g7) fk5134_0 (fr5134).2.1 fk5134_2 rk5134_2 rn5082 hdz) (by omega) (by omega) (fun v5135 hc5135 q5135 => ?_)
                            obtain ⟨rfl, mfc5136, f7_5136, mq5136⟩ := q5135
                            have fk5137_0 : hc5135.2 (B) = some (mO B ((p : Int)) (hf) (le) (fc) (pn) (rn) (hn) (qn)) := Fr.at0 (mfc5136).1 (Ni.c ⟨ne4, ne5⟩ (Ni.c ⟨ne6, ne7⟩ (Ni.n _))) fk5134_0
                            have fk5137_1 : hc5135.2 (B + 4) = some (aI 1500 (gm)) := Fr.at0 (mfc5136).1 (Ni.c ⟨ne26, ne27⟩ (Ni.c ⟨ne28, ne29⟩ (Ni.n _))) fk5134_1
                            have fk5137_3 : hc5135.2 (B + 2) = some (aI 28700 (gn)) := Fr.at0 (mfc5136).1 (Ni.c ⟨ne17, ne18⟩ (Ni.c ⟨ne19, ne20⟩ (Ni.n _))) fk5134_3
                            have rk5137_0 : MP hp B hc5135 (T) := (rk5134_0).fr (mfc5136).1 (Ni.c ⟨ne11, ne12⟩ (Ni.c ⟨ne13, ne14⟩ (Ni.n _))) (Ni.c ⟨ne17, ne18⟩ (Ni.c ⟨ne19, ne20⟩ (Ni.n _)))
                            have rk5137_1 : MWA B hc5135 := (rk5134_1).fr (mfc5136).1 (Ni.c ⟨ne22, ne23⟩ (Ni.c ⟨ne24, ne25⟩ (Ni.n _)))
                            have rk5137_3 : MG hp B hc5135 (0) (F ((dY hp F) - ((k) - (i))).toNat) := (rn5082).fr hp2 mfc5136 Nr.n
                            have fr5137 : MF B [B + 1, B + 3, B + 7] [0, 1, 2, 3, 4, 5, 6, 7, 8, 9, 10] h hc5135 := (fr5134).tr ((mfc5136).mo (sub_c (List.Mem.tail _ (List.Mem.tail _ (List.Mem.head _))) sub_n) sbI_n)
                            refine Go.nf (h' := hc5135) (st' := []) rfl rfl (Nat.le_refl _) (Nat.le_refl _) ?_
                            refine g_iinc 3 (ls2 := [(7, .int (gI (k + 1))), (10, .int (gI (x))), (9, .int (gI ((dY hp F) - ((k) - (i))))), (8, .int (gI (1))), (6, .int (gI (i))), (5, .int (gI ((dY hp F) + (dY hp G)))), (4, .int (gI (dY hp G))), (3, .int (gI (dY hp F))), (0, .ref (B)), (1, .int (gI (a))), (2, .int (gI (b)))]) dX10_byY_205 rfl (by decide) rfl ?_
                            refine g_goto (tgt := 66) dX10_byY_208 rfl ?_
                            refine Go.sub [0, 4, 5, 6, 7, 8, 9, 10] rfl ?_
                            exact ih_lk _ (by omega) (k + 1) hc5135 rfl fr5137 fk5137_1 f7_5136 rk5137_0 rk5137_1 ((mq5136).mono (D2 := fun x y => 0 ≤ x ∧ 0 ≤ y ∧ y < dY hp F + dY hp G ∧ (x < i ∨ (x = i ∧ y < k + 1))) (C2 := eyI hp F G) (fun x y d => by
                                                                      rcases d with ⟨d1, d2, d3, d4⟩
                                                                      by_cases z : x = i ∧ y = k
                                                                      · exact Or.inr z
                                                                      · exact Or.inl ⟨d1, d2, d3, by omega⟩) (fun x y d => by
                                                                      unfold cup
                                                                      split
                                                                      · rename_i z; rw [z.1, z.2]; exact hey.symm
                                                                      · rfl)) (by omega)
                          · skip
                            refine g_aload_n 8 dX10_byY_156 rfl ?_
                            refine g_getf 5 dX10_byY_157 kX10 (by decide) fX10_23 cg_lx_0 rfl ?_
                            refine g_iload 0 dX10_byY_160 rfl ?_
                            refine g_aload_n 8 dX10_byY_162 rfl ?_
                            refine g_getf 2 dX10_byY_163 kX10 (by decide) fX10_13 cg_lx_0 rfl ?_
                            refine g_iload 2 dX10_byY_166 rfl ?_
                            refine g_if_eq (tgt := 175) dX10_byY_168 rfl (by first | (unfold gW; omega) | (unfold gW; split <;> omega)) (fun c5138 => absurd c5138 (by omega)) (fun c5138 => ?_)
                            refine g_iload_n 9 dX10_byY_171 rfl ?_
                            refine g_goto (tgt := 176) dX10_byY_172 rfl ?_
                            refine g_iload 0 dX10_byY_176 rfl ?_
                            refine g_iload 1 dX10_byY_178 rfl ?_
                            refine g_callS (nc2 := 0) (ns2 := 0) (As := [.int (gI (a)), .int (gI (x)), .int (gI ((dY hp F) - ((k) - (i))))]) (st := [.ref (B + 2), .int (gI (x)), .ref (B + 5)]) rfl dX10_byY_180 okX10_cellOf lX10_99 stX10_cellOf (by decide) (by decide) rfl (Nat.le_of_ble_eq_true rfl) (sM_cellOf N _ (a) (x) ((dY hp F) - ((k) - (i)))) (by omega) (by omega) (fun v5139 hc5139 q5139 => ?_)
                            obtain ⟨hq5140, rfl⟩ := q5139
                            refine Go.nf (h' := hlx) (st' := [.int (gI (287 * (a) + 7 * (x) + ((dY hp F) - ((k) - (i))))), .ref (B + 2), .int (gI (x)), .ref (B + 5)]) hq5140 rfl (Nat.le_refl _) (Nat.le_refl _) ?_
                            refine g_iaload dX10_byY_183 cg_lx_3 (by omega) (by omega) (by omega) ?_
                            have hv_ : (gn) (287 * (a) + 7 * (x) + ((dY hp F) - ((k) - (i)))) = cf (F ((dY hp F) - ((k) - (i))).toNat) x := by
                                                                      have e9 := hN ((dY hp F) - ((k) - (i))) x (by omega) (by omega) hx.1 (by omega)
                                                                      unfold cy at e9
                                                                      rw [if_pos (by omega)] at e9
                                                                      rw [← e9]; congr 1; omega
                            rw [hv_]
                            refine g_iastore dX10_byY_184 cf_lx_0 (by omega) (by omega) (by omega) ?_
                            obtain ⟨hh5141, eh5141⟩ : ∃ z : GH, z = hset hlx (B + 5) (aI 8000 (gup (ar (gup R 0 (gF (R 0) (cf (F ((dY hp F) - ((k) - (i))).toNat)) x))) (x) (cf (F ((dY hp F) - ((k) - (i))).toNat) x))) := ⟨_, rfl⟩
                            refine Go.hp eh5141.symm ?_
                            have fh5141_0 : hh5141.2 (B) = some (mO B ((p : Int)) (hf) (le) (fc) (pn) (rn) (hn) (qn)) := hs_n eh5141 ne4 cg_lx_0
                            have fh5141_1 : hh5141.2 (B + 4) = some (aI 1500 (gm)) := hs_n eh5141 ne26 cg_lx_1
                            have fh5141_2 : hh5141.2 (B + 7) = some (aJ 6400 (g7)) := hs_n eh5141 (ne31).s cg_lx_2
                            have fh5141_3 : hh5141.2 (B + 2) = some (aI 28700 (gn)) := hs_n eh5141 ne17 cg_lx_3
                            have fh5141_4 : hh5141.2 (B + 5) = some (aI 8000 (gup (ar (gup R 0 (gF (R 0) (cf (F ((dY hp F) - ((k) - (i))).toNat)) x))) (x) (cf (F ((dY hp F) - ((k) - (i))).toNat) x))) := hs_s eh5141
                            have fh5141_5 : hh5141.2 (B + 6) = some (aI 40 (d)) := hs_n eh5141 (ne30).s cf_lx_1
                            have fr5141 : Fr [B + 5] hc4917 hh5141 := Fr.w0 fr_lx (List.Mem.head _) eh5141
                            refine g_iinc 0 (ls2 := [(10, .int (gI (x + 1))), (9, .int (gI ((dY hp F) - ((k) - (i))))), (8, .int (gI (1))), (7, .int (gI (k))), (6, .int (gI (i))), (5, .int (gI ((dY hp F) + (dY hp G)))), (4, .int (gI (dY hp G))), (3, .int (gI (dY hp F))), (0, .ref (B)), (1, .int (gI (a))), (2, .int (gI (b)))]) dX10_byY_185 rfl (by decide) rfl ?_
                            refine g_goto (tgt := 149) dX10_byY_188 rfl ?_
                            exact ih_lx _ (by omega) (x + 1) hh5141 rfl fr5141 (by
                                                                      have e9 := fh5141_4
                                                                      rw [← gF_s (R 0) (cf (F ((dY hp F) - ((k) - (i))).toNat)) hx.1, ← ar_wg R _ hx.1 (by omega), show 200 * (0 : Int) + x = x by omega]
                                                                      exact e9) fh5141_5 (by omega)
                        exact lx _ (0) hc4917 rfl (Fr.rf [B + 5] hc4917) (by rw [gF_0, gup_id]; exact hR) hD (by omega)
              exact lk _ (0) hli rfl fr_li cf_li_0 cf_li_1 cr_li_0 cr_li_1 mqm4484 (by omega)
          exact li _ (0) h rfl (MF.rf [B + 1, B + 3, B + 7] [0, 1, 2, 3, 4, 5, 6, 7, 8, 9, 10] ma) h4 h7 hT hw mqm13 (by omega)
        · skip
          refine g_bipush dX10_byY_44 (by decide) ?_
          exact g_iret dX10_byY_46 rfl ⟨(((MF.rf [B + 1, B + 3, B + 7] [0, 1, 2, 3, 4, 5, 6, 7, 8, 9, 10] ma)).1.mo (sub_c (List.Mem.tail _ (List.Mem.tail _ (List.Mem.head _))) (sub_c (List.Mem.head _) (sub_c (List.Mem.tail _ (List.Mem.head _)) (sub_c (List.Mem.tail _ (List.Mem.tail _ (List.Mem.tail _ (List.Mem.head _)))) sub_n))))), ⟨((MF.rf [B + 1, B + 3, B + 7] [0, 1, 2, 3, 4, 5, 6, 7, 8, 9, 10] ma)).2.1, hw, ⟨_, h4⟩, ⟨_, h7⟩, ⟨_, h8⟩⟩, (-2), T, (by unfold pa12; rw [if_pos (by omega)]; exact ⟨rfl, rfl⟩), rfl, hT⟩
set_option maxHeartbeats 4000000 in
set_option maxRecDepth 100000 in
theorem sM_apply12 (N : GN) (h : GH) (B p : Nat) (hp : prm p) (hp2 : p ≤ 65536) (hf le fc pn rn hn qn : Int) (T : PT p) (a b : Int) (gW_a : gW a) (gW_b : gW b) (hm : h.2 B = some (mO B p hf le fc pn rn hn qn)) (hT : MP hp B h T) (ms : MS B h)  : Sp N yX10_apply mX10_apply 0 0 [.ref (B), .int (gI (12)), .int (gI (a)), .int (gI (b))] h (fun v h1 => Fr [B + 1, B + 3, B + 5, B + 7] h h1 ∧ MS B h1 ∧ ∃ w T2, Ou T (ap2 T a b (rac hp 12)) w T2 ∧ v = some (.int (gI w)) ∧ MP hp B h1 T2) := by
  refine Sp.of (by decide) rfl rfl (Nat.le_of_ble_eq_true rfl) ?_
  show Go N mX10_apply _ 0 0 h 0 [(0, .ref (B)), (1, .int (gI (12))), (2, .int (gI (a))), (3, .int (gI (b)))] []
  have hp1 := hp.1
  have neA : NE B (B + 5) := by unfold NE; omega
  have neB : NE B (B + 6) := by unfold NE; omega
  have neC : NE (B + 5) (B + 6) := by unfold NE; omega
  have ne0 : NE (B) (B + 1) := by unfold NE; omega
  have ne1 : NE (B) (B + 2) := by unfold NE; omega
  have ne2 : NE (B) (B + 3) := by unfold NE; omega
  have ne3 : NE (B) (B + 4) := by unfold NE; omega
  have ne4 : NE (B) (B + 5) := by unfold NE; omega
  have ne5 : NE (B) (B + 6) := by unfold NE; omega
  have ne6 : NE (B) (B + 7) := by unfold NE; omega
  have ne7 : NE (B) (B + 8) := by unfold NE; omega
  have ne8 : NE (B + 1) (B + 2) := by unfold NE; omega
  have ne9 : NE (B + 1) (B + 3) := by unfold NE; omega
  have ne10 : NE (B + 1) (B + 4) := by unfold NE; omega
  have ne11 : NE (B + 1) (B + 5) := by unfold NE; omega
  have ne12 : NE (B + 1) (B + 6) := by unfold NE; omega
  have ne13 : NE (B + 1) (B + 7) := by unfold NE; omega
  have ne14 : NE (B + 1) (B + 8) := by unfold NE; omega
  have ne15 : NE (B + 2) (B + 3) := by unfold NE; omega
  have ne16 : NE (B + 2) (B + 4) := by unfold NE; omega
  have ne17 : NE (B + 2) (B + 5) := by unfold NE; omega
  have ne18 : NE (B + 2) (B + 6) := by unfold NE; omega
  have ne19 : NE (B + 2) (B + 7) := by unfold NE; omega
  have ne20 : NE (B + 2) (B + 8) := by unfold NE; omega
  have ne21 : NE (B + 3) (B + 4) := by unfold NE; omega
  have ne22 : NE (B + 3) (B + 5) := by unfold NE; omega
  have ne23 : NE (B + 3) (B + 6) := by unfold NE; omega
  have ne24 : NE (B + 3) (B + 7) := by unfold NE; omega
  have ne25 : NE (B + 3) (B + 8) := by unfold NE; omega
  have ne26 : NE (B + 4) (B + 5) := by unfold NE; omega
  have ne27 : NE (B + 4) (B + 6) := by unfold NE; omega
  have ne28 : NE (B + 4) (B + 7) := by unfold NE; omega
  have ne29 : NE (B + 4) (B + 8) := by unfold NE; omega
  have ne30 : NE (B + 5) (B + 6) := by unfold NE; omega
  have ne31 : NE (B + 5) (B + 7) := by unfold NE; omega
  have ne32 : NE (B + 5) (B + 8) := by unfold NE; omega
  have ne33 : NE (B + 6) (B + 7) := by unfold NE; omega
  have ne34 : NE (B + 6) (B + 8) := by unfold NE; omega
  have ne35 : NE (B + 7) (B + 8) := by unfold NE; omega
  obtain ⟨ma, hw, ⟨gm, h4⟩, ⟨g7, h7⟩, ⟨g8, h8⟩⟩ := ms
  refine g_iload_n 1 dX10_apply_0 rfl ?_
  refine g_if_lt (tgt := 10) dX10_apply_1 rfl (by first | exact gW_a | exact gW_b | (unfold gW; omega) | (unfold gW; split <;> omega)) (fun c1 => absurd c1 (by omega)) (fun c1 => ?_)
  refine g_iload_n 1 dX10_apply_4 rfl ?_
  refine g_bipush dX10_apply_5 (by decide) ?_
  refine g_icmp_le (tgt := 13) dX10_apply_7 rfl (by first | exact gW_a | exact gW_b | (unfold gW; omega) | (unfold gW; split <;> omega)) (by first | exact gW_a | exact gW_b | (unfold gW; omega) | (unfold gW; split <;> omega)) (fun c2 => ?_) (fun c2 => absurd c2 (by omega))
  refine g_iload_n 1 dX10_apply_13 rfl ?_
  refine g_iconst dX10_apply_14 ?_
  refine g_icmp_eq (tgt := 30) dX10_apply_15 rfl (by first | exact gW_a | exact gW_b | (unfold gW; omega) | (unfold gW; split <;> omega)) (by first | exact gW_a | exact gW_b | (unfold gW; omega) | (unfold gW; split <;> omega)) (fun c3 => absurd c3 (by omega)) (fun c3 => ?_)
  refine g_iload_n 1 dX10_apply_18 rfl ?_
  refine g_bipush dX10_apply_19 (by decide) ?_
  refine g_icmp_eq (tgt := 30) dX10_apply_21 rfl (by first | exact gW_a | exact gW_b | (unfold gW; omega) | (unfold gW; split <;> omega)) (by first | exact gW_a | exact gW_b | (unfold gW; omega) | (unfold gW; split <;> omega)) (fun c4 => absurd c4 (by omega)) (fun c4 => ?_)
  refine g_iload_n 1 dX10_apply_24 rfl ?_
  refine g_bipush dX10_apply_25 (by decide) ?_
  refine g_icmp_ne (tgt := 34) dX10_apply_27 rfl (by first | exact gW_a | exact gW_b | (unfold gW; omega) | (unfold gW; split <;> omega)) (by first | exact gW_a | exact gW_b | (unfold gW; omega) | (unfold gW; split <;> omega)) (fun c5 => ?_) (fun c5 => absurd c5 (by omega))
  refine g_iconst dX10_apply_34 ?_
  refine g_istore (ls2 := [(4, .int (gI (0))), (0, .ref (B)), (1, .int (gI (12))), (2, .int (gI (a))), (3, .int (gI (b)))]) dX10_apply_35 (by decide) rfl ?_
  refine g_aload_n 1 dX10_apply_37 rfl ?_
  refine g_iload_n 3 dX10_apply_38 rfl ?_
  refine g_callV (nc2 := 0) (ns2 := 0) (ci := 10) (As := [.int (gI (a))]) (st := []) rfl dX10_apply_39 okX10_isPlace lX10_118 itX10_isPlace seX10_isPlace rfl hm (by decide) (by decide) rfl (Nat.le_of_ble_eq_true rfl) (sM_isPlace N _ B p hp hp2 hf le fc pn rn hn qn T (a) gW_a hm hT) (by omega) (by omega) (fun v6 hc6 q6 => ?_)
  obtain ⟨hq7, hr7⟩ := q6
  rcases hr7 with ⟨rfl, a0, a1, F, ha⟩ | ⟨rfl, na⟩
  · skip
    refine Go.nf (h' := h) (st' := [.int (gI (1))]) hq7 rfl (Nat.le_refl _) (Nat.le_refl _) ?_
    refine g_if_eq (tgt := 58) dX10_apply_42 rfl (by first | exact gW_a | exact gW_b | (unfold gW; omega) | (unfold gW; split <;> omega)) (fun c8 => absurd c8 (by omega)) (fun c8 => ?_)
    refine g_iload 0 dX10_apply_45 rfl ?_
    refine g_if_ne (tgt := 60) dX10_apply_47 rfl (by first | exact gW_a | exact gW_b | (unfold gW; omega) | (unfold gW; split <;> omega)) (fun c9 => absurd c9 (by omega)) (fun c9 => ?_)
    refine g_aload_n 1 dX10_apply_50 rfl ?_
    refine g_iload_n 4 dX10_apply_51 rfl ?_
    refine g_callV (nc2 := 0) (ns2 := 0) (ci := 10) (As := [.int (gI (b))]) (st := []) rfl dX10_apply_52 okX10_isPlace lX10_118 itX10_isPlace seX10_isPlace rfl hm (by decide) (by decide) rfl (Nat.le_of_ble_eq_true rfl) (sM_isPlace N _ B p hp hp2 hf le fc pn rn hn qn T (b) gW_b hm hT) (by omega) (by omega) (fun v10 hc10 q10 => ?_)
    obtain ⟨hq11, hr11⟩ := q10
    rcases hr11 with ⟨rfl, b0, b1, G, hb⟩ | ⟨rfl, nb⟩
    · skip
      refine Go.nf (h' := h) (st' := [.int (gI (1))]) hq11 rfl (Nat.le_refl _) (Nat.le_refl _) ?_
      refine g_if_ne (tgt := 60) dX10_apply_55 rfl (by first | exact gW_a | exact gW_b | (unfold gW; omega) | (unfold gW; split <;> omega)) (fun c12 => ?_) (fun c12 => absurd c12 (by omega))
      refine g_iload_n 2 dX10_apply_60 rfl ?_
      refine g_bipush dX10_apply_61 (by decide) ?_
      refine g_icmp_lt (tgt := 91) dX10_apply_63 rfl (by first | exact gW_a | exact gW_b | (unfold gW; omega) | (unfold gW; split <;> omega)) (by first | exact gW_a | exact gW_b | (unfold gW; omega) | (unfold gW; split <;> omega)) (fun c13 => absurd c13 (by omega)) (fun c13 => ?_)
      refine g_iload_n 2 dX10_apply_66 rfl ?_
      refine g_bipush dX10_apply_67 (by decide) ?_
      refine g_icmp_eq (tgt := 91) dX10_apply_69 rfl (by first | exact gW_a | exact gW_b | (unfold gW; omega) | (unfold gW; split <;> omega)) (by first | exact gW_a | exact gW_b | (unfold gW; omega) | (unfold gW; split <;> omega)) (fun c14 => ?_) (fun c14 => absurd c14 (by omega))
      refine g_iload_n 2 dX10_apply_91 rfl ?_
      refine g_iconst dX10_apply_92 ?_
      refine g_icmp_le (tgt := 101) dX10_apply_93 rfl (by first | exact gW_a | exact gW_b | (unfold gW; omega) | (unfold gW; split <;> omega)) (by first | exact gW_a | exact gW_b | (unfold gW; omega) | (unfold gW; split <;> omega)) (fun c15 => absurd c15 (by omega)) (fun c15 => ?_)
      refine g_iload_n 2 dX10_apply_96 rfl ?_
      refine g_iconst dX10_apply_97 ?_
      refine g_icmp_ne (tgt := 225) dX10_apply_98 rfl (by first | exact gW_a | exact gW_b | (unfold gW; omega) | (unfold gW; split <;> omega)) (by first | exact gW_a | exact gW_b | (unfold gW; omega) | (unfold gW; split <;> omega)) (fun c16 => ?_) (fun c16 => absurd c16 (by omega))
      refine g_iload_n 2 dX10_apply_225 rfl ?_
      refine g_iconst dX10_apply_226 ?_
      refine g_icmp_ne (tgt := 237) dX10_apply_227 rfl (by first | exact gW_a | exact gW_b | (unfold gW; omega) | (unfold gW; split <;> omega)) (by first | exact gW_a | exact gW_b | (unfold gW; omega) | (unfold gW; split <;> omega)) (fun c17 => ?_) (fun c17 => absurd c17 (by omega))
      refine g_iload_n 2 dX10_apply_237 rfl ?_
      refine g_iconst dX10_apply_238 ?_
      refine g_icmp_eq (tgt := 247) dX10_apply_239 rfl (by first | exact gW_a | exact gW_b | (unfold gW; omega) | (unfold gW; split <;> omega)) (by first | exact gW_a | exact gW_b | (unfold gW; omega) | (unfold gW; split <;> omega)) (fun c18 => absurd c18 (by omega)) (fun c18 => ?_)
      refine g_iload_n 2 dX10_apply_242 rfl ?_
      refine g_iconst dX10_apply_243 ?_
      refine g_icmp_ne (tgt := 264) dX10_apply_244 rfl (by first | exact gW_a | exact gW_b | (unfold gW; omega) | (unfold gW; split <;> omega)) (by first | exact gW_a | exact gW_b | (unfold gW; omega) | (unfold gW; split <;> omega)) (fun c19 => ?_) (fun c19 => absurd c19 (by omega))
      refine g_iload_n 2 dX10_apply_264 rfl ?_
      refine g_bipush dX10_apply_265 (by decide) ?_
      refine g_icmp_gt (tgt := 287) dX10_apply_267 rfl (by first | exact gW_a | exact gW_b | (unfold gW; omega) | (unfold gW; split <;> omega)) (by first | exact gW_a | exact gW_b | (unfold gW; omega) | (unfold gW; split <;> omega)) (fun c20 => ?_) (fun c20 => absurd c20 (by omega))
      refine g_iload_n 2 dX10_apply_287 rfl ?_
      refine g_bipush dX10_apply_288 (by decide) ?_
      refine g_icmp_ne (tgt := 300) dX10_apply_290 rfl (by first | exact gW_a | exact gW_b | (unfold gW; omega) | (unfold gW; split <;> omega)) (by first | exact gW_a | exact gW_b | (unfold gW; omega) | (unfold gW; split <;> omega)) (fun c21 => absurd c21 (by omega)) (fun c21 => ?_)
      refine g_aload_n 1 dX10_apply_293 rfl ?_
      refine g_iload_n 3 dX10_apply_294 rfl ?_
      refine g_iload_n 4 dX10_apply_295 rfl ?_
      refine g_callV (nc2 := 0) (ns2 := 0) (ci := 10) (As := [.int (gI (a)), .int (gI (b))]) (st := []) rfl dX10_apply_296 okX10_byY lX10_141 itX10_byY seX10_byY rfl hm (by decide) (by decide) rfl (Nat.le_of_ble_eq_true rfl) (sM_byY N _ B p hp hp2 hf le fc pn rn hn qn T F G a b a0 a1 ha b0 b1 hb hm hT ⟨((MF.rf [B + 1, B + 3] [] ma)).2.1, hw, ⟨_, h4⟩, ⟨_, h7⟩, ⟨_, h8⟩⟩) (by omega) (by omega) (fun v22 hc22 q22 => ?_)
      obtain ⟨frc23, ms23, w23, T2_23, hO23, rfl, mp23⟩ := q22
      have frz23 := (((MF.rf [B + 1, B + 3] [] ma)).1.mo (sub_c (List.Mem.tail _ (List.Mem.tail _ (List.Mem.head _))) (sub_c (List.Mem.head _) (sub_c (List.Mem.tail _ (List.Mem.head _)) sub_n)))).tr frc23
      refine Go.nf (h' := hc22) (st' := [.int (gI (w23))]) rfl rfl (Nat.le_refl _) (Nat.le_refl _) ?_
      exact g_iret dX10_apply_299 rfl ⟨frz23, ms23, w23, T2_23, (by rw [ap2_s (gT_s a0 a1 ha) (gT_s b0 b1 hb)]; exact hO23), rfl, mp23⟩
    · skip
      refine Go.nf (h' := h) (st' := [.int (gI (0))]) hq11 rfl (Nat.le_refl _) (Nat.le_refl _) ?_
      refine g_if_ne (tgt := 60) dX10_apply_55 rfl (by first | exact gW_a | exact gW_b | (unfold gW; omega) | (unfold gW; split <;> omega)) (fun c24 => absurd c24 (by omega)) (fun c24 => ?_)
      refine g_iconst dX10_apply_58 ?_
      exact g_iret dX10_apply_59 rfl ⟨(((MF.rf [B + 1, B + 3] [] ma)).1.mo (sub_c (List.Mem.tail _ (List.Mem.tail _ (List.Mem.head _))) (sub_c (List.Mem.head _) (sub_c (List.Mem.tail _ (List.Mem.head _)) sub_n)))), ⟨((MF.rf [B + 1, B + 3] [] ma)).2.1, hw, ⟨_, h4⟩, ⟨_, h7⟩, ⟨_, h8⟩⟩, (-1), T, (by rw [ap2_nb (gT_n nb)]; exact ⟨rfl, rfl⟩), rfl, hT⟩
  · skip
    refine Go.nf (h' := h) (st' := [.int (gI (0))]) hq7 rfl (Nat.le_refl _) (Nat.le_refl _) ?_
    refine g_if_eq (tgt := 58) dX10_apply_42 rfl (by first | exact gW_a | exact gW_b | (unfold gW; omega) | (unfold gW; split <;> omega)) (fun c25 => ?_) (fun c25 => absurd c25 (by omega))
    refine g_iconst dX10_apply_58 ?_
    exact g_iret dX10_apply_59 rfl ⟨(((MF.rf [B + 1, B + 3] [] ma)).1.mo (sub_c (List.Mem.tail _ (List.Mem.tail _ (List.Mem.head _))) (sub_c (List.Mem.head _) (sub_c (List.Mem.tail _ (List.Mem.head _)) sub_n)))), ⟨((MF.rf [B + 1, B + 3] [] ma)).2.1, hw, ⟨_, h4⟩, ⟨_, h7⟩, ⟨_, h8⟩⟩, (-1), T, (by rw [ap2_na (gT_n na)]; exact ⟨rfl, rfl⟩), rfl, hT⟩
