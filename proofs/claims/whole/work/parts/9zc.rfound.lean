section
variable {p : Nat}
def ent (h : prm p) (D G : Int → Int) (i : Int) (f : Px p) : Prop := po (fR h) f ∧ dgi h f ≤ 40 ∧ D i = dgi h f ∧ ∀ k : Int, 0 ≤ k → k ≤ 40 → G (41 * i + k) = cf f k
theorem eq_cf (h : prm p) {f g : Px p} (hf : po (fR h) f) (hg : po (fR h) g) (df : dgi h f ≤ 40) (dg : dgi h g ≤ 40) (e : ∀ k : Int, 0 ≤ k → k ≤ 40 → cf f k = cf g k) : f = g := funext fun k => by
  rw [← cf_zi h f k, ← cf_zi h g k]
  rcases Int.lt_or_le (40 : Int) k with z | z
  · rw [cf_hi h hf (by omega), cf_hi h hg (by omega)]
  · rw [e k (by omega) z]
/-- the rows from at on have moved by one -/
def HT (h : prm p) (D G : Int → Int) (n at_ : Int) (Q : Int → Px p) : Prop := (∀ i : Int, 0 ≤ i → i < at_ → ent h D G i (Q i)) ∧ ∀ i : Int, at_ < i → i ≤ n → ent h D G i (Q (i - 1))
def cpT (G : Int → Int) (a c : Int) : Int → Int := fun m => if 41 * a ≤ m ∧ m < 41 * a + c then G (m - 41) else G m
theorem cpT_0 (G : Int → Int) (a : Int) : cpT G a 0 = G := funext fun m => by unfold cpT; rw [if_neg (by omega)]
theorem cpT_at (G : Int → Int) {a c : Int} (hc : c < 41) : cpT G a c (41 * a - 41 + c) = G (41 * a - 41 + c) := by unfold cpT; rw [if_neg (by omega)]
theorem cpT_s (G : Int → Int) (a : Int) {c : Int} (hc : 0 ≤ c) : gup (cpT G a c) (41 * a + c) (G (41 * a - 41 + c)) = cpT G a (c + 1) := funext fun m => by
  unfold gup cpT
  by_cases z : m = 41 * a + c
  · rw [if_pos z, if_pos (by omega), z]; congr 1; omega
  · rw [if_neg z]
    by_cases y : 41 * a ≤ m ∧ m < 41 * a + c
    · rw [if_pos y, if_pos (by omega)]
    · rw [if_neg y, if_neg (by omega)]
theorem HT.s {h : prm p} {D G : Int → Int} {n a : Int} {Q : Int → Px p} (w : HT h D G n a Q) (ha : 1 ≤ a ∧ a ≤ n) : HT h (gup D a (D (a - 1))) (cpT G a 41) n (a - 1) Q := by
  refine ⟨fun i i0 i1 => ?_, fun i i0 i1 => ?_⟩
  · obtain ⟨x1, x2, x3, x4⟩ := w.1 i i0 (by omega)
    refine ⟨x1, x2, by unfold gup; rw [if_neg (by omega)]; exact x3, fun k k0 k1 => ?_⟩
    unfold cpT
    rw [if_neg (by omega)]; exact x4 k k0 k1
  · by_cases z : i = a
    · obtain ⟨x1, x2, x3, x4⟩ := w.1 (a - 1) (by omega) (by omega)
      rw [z]
      refine ⟨x1, x2, by unfold gup; rw [if_pos rfl]; exact x3, fun k k0 k1 => ?_⟩
      unfold cpT
      rw [if_pos (by omega), ← x4 k k0 k1]; congr 1; omega
    · obtain ⟨x1, x2, x3, x4⟩ := w.2 i (by omega) i1
      refine ⟨x1, x2, by unfold gup; rw [if_neg z]; exact x3, fun k k0 k1 => ?_⟩
      unfold cpT
      rw [if_neg (by omega)]; exact x4 k k0 k1
def insI (Q : Int → Px p) (a : Int) (g : Px p) : Int → Px p := fun i => if i < a then Q i else if i = a then g else Q (i - 1)
theorem HT.put {h : prm p} {D G : Int → Int} {n a : Int} {Q : Int → Px p} {g : Px p} (w : HT h D G n a Q) (hg : po (fR h) g) (hd : dgi h g ≤ 40) : TB h (gup D a (dgi h g)) (wT G a g 41) (n + 1) (insI Q a g) := fun i i0 i1 => by
  unfold insI
  by_cases z : i < a
  · rw [if_pos z]
    obtain ⟨x1, x2, x3, x4⟩ := w.1 i i0 z
    refine ⟨x1, x2, by unfold gup; rw [if_neg (by omega)]; exact x3, fun k k0 k1 => ?_⟩
    unfold wT
    rw [if_neg (by omega)]; exact x4 k k0 k1
  · rw [if_neg z]
    by_cases y : i = a
    · rw [if_pos y]
      refine ⟨hg, hd, by unfold gup; rw [if_pos y], fun k k0 k1 => ?_⟩
      unfold wT
      rw [y, if_pos (by omega)]; congr 1; omega
    · rw [if_neg y]
      obtain ⟨x1, x2, x3, x4⟩ := w.2 i (by omega) (by omega)
      refine ⟨x1, x2, by unfold gup; rw [if_neg (by omega)]; exact x3, fun k k0 k1 => ?_⟩
      unfold wT
      rw [if_neg (by omega)]; exact x4 k k0 k1
/-- sorted -/
def srt (h : prm p) (n : Int) (Q : Int → Px p) : Prop := ∀ i : Int, 0 ≤ i → i + 1 < n → ltP h (Q i) (Q (i + 1))
/-- the list with one more -/
def fnd (h : prm p) (n : Int) (Q : Int → Px p) (g : Px p) (n1 : Int) (Q1 : Int → Px p) : Prop := n ≤ n1 ∧ srt h n1 Q1 ∧ ∀ x : Px p, (∃ i : Int, 0 ≤ i ∧ i < n1 ∧ Q1 i = x) ↔ ((∃ i : Int, 0 ≤ i ∧ i < n ∧ Q i = x) ∨ x = g)
theorem fnd_in (h : prm p) {n : Int} {Q : Int → Px p} {g : Px p} (hs : srt h n Q) (hg : ∃ i : Int, 0 ≤ i ∧ i < n ∧ Q i = g) : fnd h n Q g n Q := ⟨Int.le_refl _, hs, fun x => ⟨fun z => Or.inl z, fun z => by
  rcases z with z | z
  · exact z
  · rw [z]; exact hg⟩⟩
theorem fnd_new (h : prm p) {n a : Int} {Q : Int → Px p} {g : Px p} (hs : srt h n Q) (ha : 0 ≤ a ∧ a ≤ n) (h1 : ∀ i : Int, a ≤ i → i < n → ltP h g (Q i)) (h2 : a = 0 ∨ ltP h (Q (a - 1)) g) : fnd h n Q g (n + 1) (insI Q a g) := by
  refine ⟨by omega, fun i i0 i1 => ?_, fun x => ⟨fun ⟨i, i0, i1, e⟩ => ?_, fun z => ?_⟩⟩
  · unfold insI
    by_cases z : i + 1 < a
    · rw [if_pos (by omega), if_pos z]; exact hs i i0 (by omega)
    · by_cases y : i + 1 = a
      · rw [if_pos (by omega), if_neg z, if_pos y]
        rcases h2 with q | q
        · omega
        · rw [show i = a - 1 by omega]; exact q
      · rw [if_neg (by omega), if_neg z, if_neg y]
        by_cases w : i = a
        · rw [if_pos w, show i + 1 - 1 = i by omega]; exact h1 i (by omega) (by omega)
        · rw [if_neg w, show i + 1 - 1 = i by omega]
          have := hs (i - 1) (by omega) (by omega)
          rw [show i - 1 + 1 = i by omega] at this
          exact this
  · unfold insI at e
    by_cases z : i < a
    · rw [if_pos z] at e; exact Or.inl ⟨i, i0, by omega, e⟩
    · rw [if_neg z] at e
      by_cases y : i = a
      · rw [if_pos y] at e; exact Or.inr e.symm
      · rw [if_neg y] at e; exact Or.inl ⟨i - 1, by omega, by omega, e⟩
  · unfold insI
    rcases z with ⟨i, i0, i1, e⟩ | z
    · by_cases y : i < a
      · exact ⟨i, i0, by omega, by rw [if_pos y]; exact e⟩
      · exact ⟨i + 1, by omega, by omega, by rw [if_neg (by omega), if_neg (by omega), show i + 1 - 1 = i by omega]; exact e⟩
    · exact ⟨a, by omega, by omega, by rw [if_neg (by omega), if_pos rfl]; exact z.symm⟩
end
set_option maxHeartbeats 4000000 in
set_option maxRecDepth 100000 in
theorem sM_isAhead (N : GN) (h : GH) (B p : Nat) (hp : prm p) (hp2 : p ≤ 65536) (h0 : GH) (hf le fc pn rn hn qn : Int) (g9 g10 g11 g12 g13 g14 g15 g16 g17 g18 g19 g20 : Int → Int) (r f : Int) (hr : 0 ≤ r ∧ r < 40) (hf41 : 0 ≤ f ∧ f < 41) (g : Px p) (Q : Int → Px p) (hgd : dgi hp g ≤ 40) (hT : ent hp g9 g11 f (Q f)) (hRD : RD B h0 h p hf le fc pn rn hn qn g9 g10 g11 g12 g13 g14 g15 g16 g17 g18 g19 g20) (hG : MG hp B h r g) : Sp N yX10_isAhead mX10_isAhead 0 0 [.ref (B), .int (gI (r)), .int (gI (f))] h (fun v h1 => RD B h0 h1 p hf le fc pn rn hn qn g9 g10 g11 g12 g13 g14 g15 g16 g17 g18 g19 g20 ∧ NR B [] h h1 ∧ ((v = some (.int (gI 1)) ∧ ltP hp g (Q f)) ∨ (v = some (.int (gI 0)) ∧ ¬ ltP hp g (Q f)))) := by
  refine Sp.of (by decide) rfl rfl (Nat.le_of_ble_eq_true rfl) ?_
  show Go N mX10_isAhead _ 0 0 h 0 [(0, .ref (B)), (1, .int (gI (r))), (2, .int (gI (f)))] []
  have hp1 := hp.1
  have neA : NE B (B + 5) := by unfold NE; omega
  have neB : NE B (B + 6) := by unfold NE; omega
  have neC : NE (B + 5) (B + 6) := by unfold NE; omega
  have hlt := hG.lt
  have hl2 := dgi_ge hp hT.1
  have hq1 := hT.2.2.1
  have hq9 := hT.2.1
  refine g_aload_n 0 dX10_isAhead_0 rfl ?_
  refine g_getf 6 dX10_isAhead_1 kX10 (by decide) fX10_26 (RD.o hRD) rfl ?_
  refine g_iload_n 1 dX10_isAhead_4 rfl ?_
  obtain ⟨dz1, ez1, fz1⟩ := MG.get hG
  refine g_iaload dX10_isAhead_5 ez1 (by omega) (by omega) (by omega) ?_
  rw [fz1]
  refine g_aload_n 0 dX10_isAhead_6 rfl ?_
  refine g_getf 12 dX10_isAhead_7 kX10 (by decide) fX10_36 (RD.o hRD) rfl ?_
  refine g_iload_n 2 dX10_isAhead_10 rfl ?_
  refine g_iaload dX10_isAhead_11 (RD.t9 hRD) (by omega) (by omega) (by omega) ?_
  refine g_icmp_eq (tgt := 36) dX10_isAhead_12 rfl (by first | assumption | (unfold gW; omega) | (unfold gW; split <;> omega)) (by first | assumption | (unfold gW; omega) | (unfold gW; split <;> omega)) (fun c2 => ?_) (fun c2 => ?_)
  · skip
    refine g_bipush dX10_isAhead_36 (by decide) ?_
    refine g_istore_n (ls2 := [(3, .int (gI (40))), (0, .ref (B)), (1, .int (gI (r))), (2, .int (gI (f)))]) dX10_isAhead_38 rfl (by decide) rfl ?_
    have lo : ∀ (kk : Nat) (i : Int) (hlo : GH), kk = (i + 1).toNat → True → RD B h0 hlo p hf le fc pn rn hn qn g9 g10 g11 g12 g13 g14 g15 g16 g17 g18 g19 g20 → NR B [] h hlo → MG hp B hlo (r) (g) → (-1 ≤ i ∧ i ≤ 40) → (∀ m : Int, i < m → cf g m = cf (Q f) m) → Go N mX10_isAhead (fun v h1 => RD B h0 h1 p hf le fc pn rn hn qn g9 g10 g11 g12 g13 g14 g15 g16 g17 g18 g19 g20 ∧ NR B [] h h1 ∧ ((v = some (.int (gI 1)) ∧ ltP hp g (Q f)) ∨ (v = some (.int (gI 0)) ∧ ¬ ltP hp g (Q f)))) 0 0 hlo 39 [(3, .int (gI (i))), (0, .ref (B)), (1, .int (gI (r))), (2, .int (gI (f)))] [] := by
      refine Go.ind (fun kk ih_lo => ?_)
      intro i hlo hkk_lo fr_lo cr_lo_0 cr_lo_1 cr_lo_2 hi_ hE
      refine g_iload_n 0 dX10_isAhead_39 rfl ?_
      refine g_if_lt (tgt := 96) dX10_isAhead_40 rfl (by first | assumption | (unfold gW; omega) | (unfold gW; split <;> omega)) (fun c103 => ?_) (fun c103 => ?_)
      · skip
        refine g_iconst dX10_isAhead_96 ?_
        exact g_zret dX10_isAhead_97 rfl (by omega) ⟨cr_lo_0, cr_lo_1, Or.inr ⟨rfl, fun q => by
                                                                      rcases q with q | ⟨_, k, k0, k1, k2⟩
                                                                      · omega
                                                                      · have := hE k (by omega); omega⟩⟩
      · skip
        have hc1 := cf_in g hp i
        have hc2 := cf_in (Q f) hp i
        have hq2 := hT.2.2.2 i (by omega) (by omega)
        refine g_aload_n 1 dX10_isAhead_43 rfl ?_
        refine g_getf 5 dX10_isAhead_44 kX10 (by decide) fX10_23 (RD.o cr_lo_0) rfl ?_
        refine g_sipush dX10_isAhead_47 (by decide) ?_
        refine g_iload_n 2 dX10_isAhead_50 rfl ?_
        refine g_imul dX10_isAhead_51 ?_
        refine g_iload_n 0 dX10_isAhead_52 rfl ?_
        refine g_iadd dX10_isAhead_53 ?_
        obtain ⟨R104, er104, fr104⟩ := MG.num cr_lo_2
        refine g_iaload dX10_isAhead_54 er104 (by omega) (by omega) (by omega) ?_
        rw [ar_r R104 (show 0 ≤ i by omega) (show i < 200 by omega), fr104 (i) (by omega) (by omega)]
        refine g_istore (ls2 := [(4, .int (gI (cf (g) (i)))), (3, .int (gI (i))), (0, .ref (B)), (1, .int (gI (r))), (2, .int (gI (f)))]) dX10_isAhead_55 (by decide) rfl ?_
        refine g_aload_n 2 dX10_isAhead_57 rfl ?_
        refine g_getf 14 dX10_isAhead_58 kX10 (by decide) fX10_42 (RD.o cr_lo_0) rfl ?_
        refine g_bipush dX10_isAhead_61 (by decide) ?_
        refine g_iload_n 4 dX10_isAhead_63 rfl ?_
        refine g_imul dX10_isAhead_64 ?_
        refine g_iload_n 1 dX10_isAhead_65 rfl ?_
        refine g_iadd dX10_isAhead_66 ?_
        refine g_iaload dX10_isAhead_67 (RD.t11 cr_lo_0) (by omega) (by omega) (by omega) ?_
        refine g_istore (ls2 := [(5, .int (gI ((g11) (((41) * (f)) + (i))))), (4, .int (gI (cf (g) (i)))), (3, .int (gI (i))), (0, .ref (B)), (1, .int (gI (r))), (2, .int (gI (f)))]) dX10_isAhead_68 (by decide) rfl ?_
        refine g_iload 1 dX10_isAhead_70 rfl ?_
        refine g_iload 0 dX10_isAhead_72 rfl ?_
        refine g_icmp_eq (tgt := 90) dX10_isAhead_74 rfl (by first | assumption | (unfold gW; omega) | (unfold gW; split <;> omega)) (by first | assumption | (unfold gW; omega) | (unfold gW; split <;> omega)) (fun c105 => ?_) (fun c105 => ?_)
        · skip
          refine g_iinc 2 (ls2 := [(3, .int (gI (i + (-1)))), (5, .int (gI ((g11) (((41) * (f)) + (i))))), (4, .int (gI (cf (g) (i)))), (0, .ref (B)), (1, .int (gI (r))), (2, .int (gI (f)))]) dX10_isAhead_90 rfl (by decide) rfl ?_
          refine g_goto (tgt := 39) dX10_isAhead_93 rfl ?_
          refine Go.sub [0, 3, 4, 5] rfl ?_
          exact ih_lo _ (by omega) (i + (-1)) hlo rfl fr_lo cr_lo_0 cr_lo_1 cr_lo_2 (by omega) (fun m hm => by
                                                                      rcases Int.lt_or_le i m with z | z
                                                                      · exact hE m z
                                                                      · rw [show m = i by omega]; omega)
        · skip
          refine g_iload 1 dX10_isAhead_77 rfl ?_
          refine g_iload 0 dX10_isAhead_79 rfl ?_
          refine g_icmp_ge (tgt := 88) dX10_isAhead_81 rfl (by first | assumption | (unfold gW; omega) | (unfold gW; split <;> omega)) (by first | assumption | (unfold gW; omega) | (unfold gW; split <;> omega)) (fun c106 => ?_) (fun c106 => ?_)
          · skip
            refine g_iconst dX10_isAhead_88 ?_
            exact g_zret dX10_isAhead_89 rfl (by omega) ⟨cr_lo_0, cr_lo_1, Or.inr ⟨rfl, fun q => by
                                                                      rcases q with q | ⟨_, k, k0, k1, k2⟩
                                                                      · omega
                                                                      · rcases Int.lt_trichotomy k i with y | y | y
                                                                        · have := k2 i y; omega
                                                                        · rw [y] at k1; omega
                                                                        · have := hE k y; omega⟩⟩
          · skip
            refine g_iconst dX10_isAhead_84 ?_
            refine g_goto (tgt := 89) dX10_isAhead_85 rfl ?_
            exact g_zret dX10_isAhead_89 rfl (by omega) ⟨cr_lo_0, cr_lo_1, Or.inl ⟨rfl, Or.inr ⟨by omega, i, by omega, by omega, hE⟩⟩⟩
    exact lo _ (40) h rfl trivial hRD (NR.rf B [] h) hG (by omega) (fun m hm => by rw [cf_hi hp hG.po (by omega), cf_hi hp hT.1 (by omega)])
  · skip
    refine g_aload_n 0 dX10_isAhead_15 rfl ?_
    refine g_getf 6 dX10_isAhead_16 kX10 (by decide) fX10_26 (RD.o hRD) rfl ?_
    refine g_iload_n 1 dX10_isAhead_19 rfl ?_
    obtain ⟨dz207, ez207, fz207⟩ := MG.get hG
    refine g_iaload dX10_isAhead_20 ez207 (by omega) (by omega) (by omega) ?_
    rw [fz207]
    refine g_aload_n 0 dX10_isAhead_21 rfl ?_
    refine g_getf 12 dX10_isAhead_22 kX10 (by decide) fX10_36 (RD.o hRD) rfl ?_
    refine g_iload_n 2 dX10_isAhead_25 rfl ?_
    refine g_iaload dX10_isAhead_26 (RD.t9 hRD) (by omega) (by omega) (by omega) ?_
    refine g_icmp_ge (tgt := 34) dX10_isAhead_27 rfl (by first | assumption | (unfold gW; omega) | (unfold gW; split <;> omega)) (by first | assumption | (unfold gW; omega) | (unfold gW; split <;> omega)) (fun c208 => ?_) (fun c208 => ?_)
    · skip
      refine g_iconst dX10_isAhead_34 ?_
      exact g_zret dX10_isAhead_35 rfl (by omega) ⟨hRD, (NR.rf B [] h), Or.inr ⟨rfl, fun q => by
                                                                      rcases q with q | q
                                                                      · omega
                                                                      · have := q.1; omega⟩⟩
    · skip
      refine g_iconst dX10_isAhead_30 ?_
      refine g_goto (tgt := 35) dX10_isAhead_31 rfl ?_
      exact g_zret dX10_isAhead_35 rfl (by omega) ⟨hRD, (NR.rf B [] h), Or.inl ⟨rfl, Or.inl (by omega)⟩⟩
set_option maxHeartbeats 4000000 in
set_option maxRecDepth 100000 in
theorem sM_found (N : GN) (h : GH) (B p : Nat) (hp : prm p) (hp2 : p ≤ 65536) (h0 : GH) (hf le fc pn rn hn qn : Int) (g9 g10 g11 g12 g13 g14 g15 g16 g17 g18 g19 g20 : Int → Int) (r : Int) (hr : 0 ≤ r ∧ r < 40) (hfc : 0 ≤ fc ∧ fc ≤ 40) (g : Px p) (Q : Int → Px p) (hgd : dgi hp g ≤ 40) (hT : TB hp g9 g11 fc Q) (hs : srt hp fc Q) (hRD : RD B h0 h p hf le fc pn rn hn qn g9 g10 g11 g12 g13 g14 g15 g16 g17 g18 g19 g20) (hG : MG hp B h r g) : Sp N yX10_found mX10_found 0 0 [.ref (B), .int (gI (r))] h (fun v h1 => v = none ∧ NR B [] h h1 ∧ ∃ fc1 Q1 d9 d11, RD B h0 h1 p hf le fc1 pn rn hn qn d9 g10 d11 g12 g13 g14 g15 g16 g17 g18 g19 g20 ∧ TB hp d9 d11 fc1 Q1 ∧ fnd hp fc Q g fc1 Q1) := by
  refine Sp.of (by decide) rfl rfl (Nat.le_of_ble_eq_true rfl) ?_
  show Go N mX10_found _ 0 0 h 0 [(0, .ref (B)), (1, .int (gI (r)))] []
  have hp1 := hp.1
  have neA : NE B (B + 5) := by unfold NE; omega
  have neB : NE B (B + 6) := by unfold NE; omega
  have neC : NE (B + 5) (B + 6) := by unfold NE; omega
  have hlt0 := hG.lt
  refine g_iconst dX10_found_0 ?_
  refine g_istore_n (ls2 := [(2, .int (gI (0))), (0, .ref (B)), (1, .int (gI (r)))]) dX10_found_1 rfl (by decide) rfl ?_
  have lf : ∀ (kk : Nat) (f : Int) (hlf : GH), kk = (50 - f).toNat → True → RD B h0 hlf p hf le fc pn rn hn qn g9 g10 g11 g12 g13 g14 g15 g16 g17 g18 g19 g20 → NR B [] h hlf → MG hp B hlf (r) (g) → (0 ≤ f ∧ f ≤ fc) → (∀ j : Int, 0 ≤ j → j < f → Q j ≠ g) → Go N mX10_found (fun v h1 => v = none ∧ NR B [] h h1 ∧ ∃ fc1 Q1 d9 d11, RD B h0 h1 p hf le fc1 pn rn hn qn d9 g10 d11 g12 g13 g14 g15 g16 g17 g18 g19 g20 ∧ TB hp d9 d11 fc1 Q1 ∧ fnd hp fc Q g fc1 Q1) 0 0 hlf 2 [(2, .int (gI (f))), (0, .ref (B)), (1, .int (gI (r)))] [] := by
    refine Go.ind (fun kk ih_lf => ?_)
    intro f hlf hkk_lf fr_lf cr_lf_0 cr_lf_1 cr_lf_2 hf_ hN
    refine g_iload_n 0 dX10_found_2 rfl ?_
    refine g_aload_n 1 dX10_found_3 rfl ?_
    refine g_getf 11 dX10_found_4 kX10 (by decide) fX10_90 (RD.o cr_lf_0) rfl ?_
    refine g_icmp_ge (tgt := 96) dX10_found_7 rfl (by first | assumption | (unfold gW; omega) | (unfold gW; split <;> omega)) (by first | assumption | (unfold gW; omega) | (unfold gW; split <;> omega)) (fun c101 => ?_) (fun c101 => ?_)
    · skip
      refine g_aload_n 1 dX10_found_96 rfl ?_
      refine g_getf 11 dX10_found_97 kX10 (by decide) fX10_90 (RD.o cr_lf_0) rfl ?_
      refine g_istore_n (ls2 := [(2, .int (gI (fc))), (0, .ref (B)), (1, .int (gI (r)))]) dX10_found_100 rfl (by decide) rfl ?_
      have hNall : ∀ j : Int, 0 ≤ j → j < fc → Q j ≠ g := fun j j0 j1 => hN j j0 (by omega)
      have la : ∀ (kk : Nat) (a : Int) (d9 : Int → Int) (d11 : Int → Int) (hla : GH), kk = a.toNat → True → RD B h0 hla p hf le fc pn rn hn qn d9 g10 d11 g12 g13 g14 g15 g16 g17 g18 g19 g20 → NR B [] h hla → MG hp B hla (r) (g) → (0 ≤ a ∧ a ≤ fc) → (HT hp d9 d11 fc a Q) → (∀ i : Int, a ≤ i → i < fc → ltP hp g (Q i)) → Go N mX10_found (fun v h1 => v = none ∧ NR B [] h h1 ∧ ∃ fc1 Q1 d9 d11, RD B h0 h1 p hf le fc1 pn rn hn qn d9 g10 d11 g12 g13 g14 g15 g16 g17 g18 g19 g20 ∧ TB hp d9 d11 fc1 Q1 ∧ fnd hp fc Q g fc1 Q1) 0 0 hla 101 [(2, .int (gI (a))), (0, .ref (B)), (1, .int (gI (r)))] [] := by
        refine Go.ind (fun kk ih_la => ?_)
        intro a d9 d11 hla hkk_la fr_la cr_la_0 cr_la_1 cr_la_2 ha hH hgt
        refine g_iload_n 0 dX10_found_101 rfl ?_
        refine g_if_le (tgt := 175) dX10_found_102 rfl (by first | assumption | (unfold gW; omega) | (unfold gW; split <;> omega)) (fun c202 => ?_) (fun c202 => ?_)
        · skip
          refine g_aload_n 1 dX10_found_175 rfl ?_
          refine g_getf 12 dX10_found_176 kX10 (by decide) fX10_36 (RD.o cr_la_0) rfl ?_
          refine g_iload_n 0 dX10_found_179 rfl ?_
          refine g_aload_n 1 dX10_found_180 rfl ?_
          refine g_getf 6 dX10_found_181 kX10 (by decide) fX10_26 (RD.o cr_la_0) rfl ?_
          refine g_iload_n 2 dX10_found_184 rfl ?_
          obtain ⟨dz203, ez203, fz203⟩ := MG.get cr_la_2
          refine g_iaload dX10_found_185 ez203 (by omega) (by omega) (by omega) ?_
          rw [fz203]
          refine g_iastore dX10_found_186 (RD.t9 cr_la_0) (by omega) (by omega) (by omega) ?_
          obtain ⟨hh204, eh204⟩ : ∃ z : GH, z = hset hla (B + 9) (aI 41 (gup (d9) (a) (dgi hp (g)))) := ⟨_, rfl⟩
          refine Go.hp eh204.symm ?_
          have rd204 : RD B h0 hh204 p hf le fc pn rn hn qn (gup (d9) (a) (dgi hp (g))) g10 d11 g12 g13 g14 g15 g16 g17 g18 g19 g20 := RD.cell cr_la_0 (by rw [eh204]; rfl) (fun x hx => by rw [eh204, hset_n _ _ (by omega)]) (hs_n eh204 (show NE (B) (B + 9) by unfold NE; omega) (RD.o cr_la_0)) (hs_s eh204) (hs_n eh204 (show NE (B + 10) (B + 9) by unfold NE; omega) (RD.t10 cr_la_0)) (hs_n eh204 (show NE (B + 11) (B + 9) by unfold NE; omega) (RD.t11 cr_la_0)) (hs_n eh204 (show NE (B + 12) (B + 9) by unfold NE; omega) (RD.t12 cr_la_0)) (hs_n eh204 (show NE (B + 13) (B + 9) by unfold NE; omega) (RD.t13 cr_la_0)) (hs_n eh204 (show NE (B + 14) (B + 9) by unfold NE; omega) (RD.t14 cr_la_0)) (hs_n eh204 (show NE (B + 15) (B + 9) by unfold NE; omega) (RD.t15 cr_la_0)) (hs_n eh204 (show NE (B + 16) (B + 9) by unfold NE; omega) (RD.t16 cr_la_0)) (hs_n eh204 (show NE (B + 17) (B + 9) by unfold NE; omega) (RD.t17 cr_la_0)) (hs_n eh204 (show NE (B + 18) (B + 9) by unfold NE; omega) (RD.t18 cr_la_0)) (hs_n eh204 (show NE (B + 19) (B + 9) by unfold NE; omega) (RD.t19 cr_la_0)) (hs_n eh204 (show NE (B + 20) (B + 9) by unfold NE; omega) (RD.t20 cr_la_0))
          have e5_204 : hh204.2 (B + 5) = hla.2 (B + 5) := by rw [eh204, hset_n _ _ (by omega)]
          have e6_204 : hh204.2 (B + 6) = hla.2 (B + 6) := by rw [eh204, hset_n _ _ (by omega)]
          have rg204_1 : NR B [] h hh204 := NR.h5 cr_la_1 e5_204 e6_204
          have rg204_2 : MG hp B hh204 (r) (g) := (cr_la_2).of5 e5_204 e6_204
          refine g_iconst dX10_found_187 ?_
          refine g_istore_n (ls2 := [(3, .int (gI (0))), (2, .int (gI (a))), (0, .ref (B)), (1, .int (gI (r)))]) dX10_found_188 rfl (by decide) rfl ?_
          have lw : ∀ (kk : Nat) (c : Int) (hlw : GH), kk = (41 - c).toNat → True → RD B h0 hlw p hf le fc pn rn hn qn (gup (d9) (a) (dgi hp (g))) g10 (wT d11 a g c) g12 g13 g14 g15 g16 g17 g18 g19 g20 → NR B [] h hlw → MG hp B hlw (r) (g) → (0 ≤ c ∧ c ≤ 41) → Go N mX10_found (fun v h1 => v = none ∧ NR B [] h h1 ∧ ∃ fc1 Q1 d9 d11, RD B h0 h1 p hf le fc1 pn rn hn qn d9 g10 d11 g12 g13 g14 g15 g16 g17 g18 g19 g20 ∧ TB hp d9 d11 fc1 Q1 ∧ fnd hp fc Q g fc1 Q1) 0 0 hlw 189 [(3, .int (gI (c))), (2, .int (gI (a))), (0, .ref (B)), (1, .int (gI (r)))] [] := by
            refine Go.ind (fun kk ih_lw => ?_)
            intro c hlw hkk_lw fr_lw cr_lw_0 cr_lw_1 cr_lw_2 hc
            refine g_iload_n 0 dX10_found_189 rfl ?_
            refine g_bipush dX10_found_190 (by decide) ?_
            refine g_icmp_gt (tgt := 224) dX10_found_192 rfl (by first | assumption | (unfold gW; omega) | (unfold gW; split <;> omega)) (by first | assumption | (unfold gW; omega) | (unfold gW; split <;> omega)) (fun c305 => ?_) (fun c305 => ?_)
            · skip
              have rdz : RD B h0 hlw p hf le fc pn rn hn qn (gup (d9) (a) (dgi hp (g))) g10 (wT d11 a g 41) g12 g13 g14 g15 g16 g17 g18 g19 g20 := by
                                                                      have hc9 : c = 41 := by omega
                                                                      have e9 := cr_lw_0
                                                                      rw [hc9] at e9; exact e9
              refine g_aload_n 2 dX10_found_224 rfl ?_
              refine g_dup dX10_found_225 rfl ?_
              refine g_getf 11 dX10_found_226 kX10 (by decide) fX10_90 (RD.o rdz) rfl ?_
              refine g_iconst dX10_found_229 ?_
              refine g_iadd dX10_found_230 ?_
              refine g_putf 11 dX10_found_231 kX10 (by decide) fX10_90 rfl (RD.o rdz) (Nat.le_of_ble_eq_true rfl) rfl rfl ?_
              obtain ⟨hh306, eh306⟩ : ∃ z : GH, z = hset hlw (B) (mO B ((p : Int)) (hf) (le) ((fc) + (1)) (pn) (rn) (hn) (qn)) := ⟨_, rfl⟩
              refine Go.hp eh306.symm ?_
              have rd306 : RD B h0 hh306 p hf le ((fc) + (1)) pn rn hn qn (gup (d9) (a) (dgi hp (g))) g10 (wT d11 a g 41) g12 g13 g14 g15 g16 g17 g18 g19 g20 := RD.cell rdz (by rw [eh306]; rfl) (fun x hx => by rw [eh306, hset_n _ _ (by omega)]) (hs_s eh306) (hs_n eh306 (show NE (B + 9) (B) by unfold NE; omega) (RD.t9 rdz)) (hs_n eh306 (show NE (B + 10) (B) by unfold NE; omega) (RD.t10 rdz)) (hs_n eh306 (show NE (B + 11) (B) by unfold NE; omega) (RD.t11 rdz)) (hs_n eh306 (show NE (B + 12) (B) by unfold NE; omega) (RD.t12 rdz)) (hs_n eh306 (show NE (B + 13) (B) by unfold NE; omega) (RD.t13 rdz)) (hs_n eh306 (show NE (B + 14) (B) by unfold NE; omega) (RD.t14 rdz)) (hs_n eh306 (show NE (B + 15) (B) by unfold NE; omega) (RD.t15 rdz)) (hs_n eh306 (show NE (B + 16) (B) by unfold NE; omega) (RD.t16 rdz)) (hs_n eh306 (show NE (B + 17) (B) by unfold NE; omega) (RD.t17 rdz)) (hs_n eh306 (show NE (B + 18) (B) by unfold NE; omega) (RD.t18 rdz)) (hs_n eh306 (show NE (B + 19) (B) by unfold NE; omega) (RD.t19 rdz)) (hs_n eh306 (show NE (B + 20) (B) by unfold NE; omega) (RD.t20 rdz))
              have e5_306 : hh306.2 (B + 5) = hlw.2 (B + 5) := by rw [eh306, hset_n _ _ (by omega)]
              have e6_306 : hh306.2 (B + 6) = hlw.2 (B + 6) := by rw [eh306, hset_n _ _ (by omega)]
              have rg306_1 : NR B [] h hh306 := NR.h5 cr_lw_1 e5_306 e6_306
              have rg306_2 : MG hp B hh306 (r) (g) := (cr_lw_2).of5 e5_306 e6_306
              exact g_vret dX10_found_234 rfl ⟨rfl, rg306_1, fc + 1, insI Q a g, _, _, rd306, HT.put hH hG.po hgd, fnd_new hp hs (by omega) hgt (Or.inl (by omega))⟩
            · skip
              refine g_aload_n 2 dX10_found_195 rfl ?_
              refine g_getf 14 dX10_found_196 kX10 (by decide) fX10_42 (RD.o cr_lw_0) rfl ?_
              refine g_bipush dX10_found_199 (by decide) ?_
              refine g_iload_n 1 dX10_found_201 rfl ?_
              refine g_imul dX10_found_202 ?_
              refine g_iload_n 0 dX10_found_203 rfl ?_
              refine g_iadd dX10_found_204 ?_
              refine g_aload_n 2 dX10_found_205 rfl ?_
              refine g_getf 5 dX10_found_206 kX10 (by decide) fX10_23 (RD.o cr_lw_0) rfl ?_
              refine g_sipush dX10_found_209 (by decide) ?_
              refine g_iload_n 3 dX10_found_212 rfl ?_
              refine g_imul dX10_found_213 ?_
              refine g_iload_n 0 dX10_found_214 rfl ?_
              refine g_iadd dX10_found_215 ?_
              obtain ⟨R307, er307, fr307⟩ := MG.num cr_lw_2
              refine g_iaload dX10_found_216 er307 (by omega) (by omega) (by omega) ?_
              rw [ar_r R307 (show 0 ≤ c by omega) (show c < 200 by omega), fr307 (c) (by omega) (by omega)]
              refine g_iastore dX10_found_217 (RD.t11 cr_lw_0) (by omega) (by omega) (by omega) ?_
              obtain ⟨hh308, eh308⟩ : ∃ z : GH, z = hset hlw (B + 11) (aI 1681 (gup (wT d11 a g c) (((41) * (a)) + (c)) (cf (g) (c)))) := ⟨_, rfl⟩
              refine Go.hp eh308.symm ?_
              have rd308 : RD B h0 hh308 p hf le fc pn rn hn qn (gup (d9) (a) (dgi hp (g))) g10 (gup (wT d11 a g c) (((41) * (a)) + (c)) (cf (g) (c))) g12 g13 g14 g15 g16 g17 g18 g19 g20 := RD.cell cr_lw_0 (by rw [eh308]; rfl) (fun x hx => by rw [eh308, hset_n _ _ (by omega)]) (hs_n eh308 (show NE (B) (B + 11) by unfold NE; omega) (RD.o cr_lw_0)) (hs_n eh308 (show NE (B + 9) (B + 11) by unfold NE; omega) (RD.t9 cr_lw_0)) (hs_n eh308 (show NE (B + 10) (B + 11) by unfold NE; omega) (RD.t10 cr_lw_0)) (hs_s eh308) (hs_n eh308 (show NE (B + 12) (B + 11) by unfold NE; omega) (RD.t12 cr_lw_0)) (hs_n eh308 (show NE (B + 13) (B + 11) by unfold NE; omega) (RD.t13 cr_lw_0)) (hs_n eh308 (show NE (B + 14) (B + 11) by unfold NE; omega) (RD.t14 cr_lw_0)) (hs_n eh308 (show NE (B + 15) (B + 11) by unfold NE; omega) (RD.t15 cr_lw_0)) (hs_n eh308 (show NE (B + 16) (B + 11) by unfold NE; omega) (RD.t16 cr_lw_0)) (hs_n eh308 (show NE (B + 17) (B + 11) by unfold NE; omega) (RD.t17 cr_lw_0)) (hs_n eh308 (show NE (B + 18) (B + 11) by unfold NE; omega) (RD.t18 cr_lw_0)) (hs_n eh308 (show NE (B + 19) (B + 11) by unfold NE; omega) (RD.t19 cr_lw_0)) (hs_n eh308 (show NE (B + 20) (B + 11) by unfold NE; omega) (RD.t20 cr_lw_0))
              have e5_308 : hh308.2 (B + 5) = hlw.2 (B + 5) := by rw [eh308, hset_n _ _ (by omega)]
              have e6_308 : hh308.2 (B + 6) = hlw.2 (B + 6) := by rw [eh308, hset_n _ _ (by omega)]
              have rg308_1 : NR B [] h hh308 := NR.h5 cr_lw_1 e5_308 e6_308
              have rg308_2 : MG hp B hh308 (r) (g) := (cr_lw_2).of5 e5_308 e6_308
              refine g_iinc 0 (ls2 := [(3, .int (gI (c + 1))), (2, .int (gI (a))), (0, .ref (B)), (1, .int (gI (r)))]) dX10_found_218 rfl (by decide) rfl ?_
              refine g_goto (tgt := 189) dX10_found_221 rfl ?_
              exact ih_lw _ (by omega) (c + 1) hh308 rfl fr_lw (by rw [← wT_s d11 a g hc.1]; exact rd308) rg308_1 rg308_2 (by omega)
          exact lw _ (0) hh204 rfl fr_la (by rw [wT_0]; exact rd204) rg204_1 rg204_2 (by omega)
        · skip
          refine g_aload_n 1 dX10_found_105 rfl ?_
          refine g_iload_n 2 dX10_found_106 rfl ?_
          refine g_iload_n 0 dX10_found_107 rfl ?_
          refine g_iconst dX10_found_108 ?_
          refine g_isub dX10_found_109 ?_
          refine g_callV (nc2 := 0) (ns2 := 0) (ci := 10) (As := [.int (gI (r)), .int (gI ((a) - (1)))]) (st := []) rfl dX10_found_110 okX10_isAhead lX10_235 itX10_isAhead seX10_isAhead rfl (RD.o cr_la_0) (by decide) (by decide) rfl (Nat.le_of_ble_eq_true rfl) (sM_isAhead N _ B p hp hp2 h0 hf le fc pn rn hn qn d9 g10 d11 g12 g13 g14 g15 g16 g17 g18 g19 g20 (r) (a - 1) hr (by omega) g Q hgd (hH.1 (a - 1) (by omega) (by omega)) cr_la_0 cr_la_2) (by omega) (by omega) (fun v409 hc409 q409 => ?_)
          obtain ⟨rd410, nr410, hr410⟩ := q409
          have rk411_1 : NR B [] h hc409 := NR.tr cr_la_1 (NR.mo nr410 sbI_n)
          have rk411_2 : MG hp B hc409 (r) (g) := nr410 p hp (r) _ hp2 Nr.n cr_la_2
          rcases hr410 with ⟨rfl, hlt⟩ | ⟨rfl, hlt⟩
          · skip
            refine Go.nf (h' := hc409) (st' := [.int (gI (1))]) rfl rfl (Nat.le_refl _) (Nat.le_refl _) ?_
            refine g_if_eq (tgt := 175) dX10_found_113 rfl (by first | assumption | (unfold gW; omega) | (unfold gW; split <;> omega)) (fun c412 => absurd c412 (by omega)) (fun c412 => ?_)
            refine g_aload_n 1 dX10_found_116 rfl ?_
            refine g_getf 12 dX10_found_117 kX10 (by decide) fX10_36 (RD.o rd410) rfl ?_
            refine g_iload_n 0 dX10_found_120 rfl ?_
            refine g_aload_n 1 dX10_found_121 rfl ?_
            refine g_getf 12 dX10_found_122 kX10 (by decide) fX10_36 (RD.o rd410) rfl ?_
            refine g_iload_n 0 dX10_found_125 rfl ?_
            refine g_iconst dX10_found_126 ?_
            refine g_isub dX10_found_127 ?_
            refine g_iaload dX10_found_128 (RD.t9 rd410) (by omega) (by omega) (by omega) ?_
            refine g_iastore dX10_found_129 (RD.t9 rd410) (by omega) (by omega) (by omega) ?_
            obtain ⟨hh413, eh413⟩ : ∃ z : GH, z = hset hc409 (B + 9) (aI 41 (gup (d9) (a) ((d9) ((a) - (1))))) := ⟨_, rfl⟩
            refine Go.hp eh413.symm ?_
            have rd413 : RD B h0 hh413 p hf le fc pn rn hn qn (gup (d9) (a) ((d9) ((a) - (1)))) g10 d11 g12 g13 g14 g15 g16 g17 g18 g19 g20 := RD.cell rd410 (by rw [eh413]; rfl) (fun x hx => by rw [eh413, hset_n _ _ (by omega)]) (hs_n eh413 (show NE (B) (B + 9) by unfold NE; omega) (RD.o rd410)) (hs_s eh413) (hs_n eh413 (show NE (B + 10) (B + 9) by unfold NE; omega) (RD.t10 rd410)) (hs_n eh413 (show NE (B + 11) (B + 9) by unfold NE; omega) (RD.t11 rd410)) (hs_n eh413 (show NE (B + 12) (B + 9) by unfold NE; omega) (RD.t12 rd410)) (hs_n eh413 (show NE (B + 13) (B + 9) by unfold NE; omega) (RD.t13 rd410)) (hs_n eh413 (show NE (B + 14) (B + 9) by unfold NE; omega) (RD.t14 rd410)) (hs_n eh413 (show NE (B + 15) (B + 9) by unfold NE; omega) (RD.t15 rd410)) (hs_n eh413 (show NE (B + 16) (B + 9) by unfold NE; omega) (RD.t16 rd410)) (hs_n eh413 (show NE (B + 17) (B + 9) by unfold NE; omega) (RD.t17 rd410)) (hs_n eh413 (show NE (B + 18) (B + 9) by unfold NE; omega) (RD.t18 rd410)) (hs_n eh413 (show NE (B + 19) (B + 9) by unfold NE; omega) (RD.t19 rd410)) (hs_n eh413 (show NE (B + 20) (B + 9) by unfold NE; omega) (RD.t20 rd410))
            have e5_413 : hh413.2 (B + 5) = hc409.2 (B + 5) := by rw [eh413, hset_n _ _ (by omega)]
            have e6_413 : hh413.2 (B + 6) = hc409.2 (B + 6) := by rw [eh413, hset_n _ _ (by omega)]
            have rg413_1 : NR B [] h hh413 := NR.h5 rk411_1 e5_413 e6_413
            have rg413_2 : MG hp B hh413 (r) (g) := (rk411_2).of5 e5_413 e6_413
            refine g_iconst dX10_found_130 ?_
            refine g_istore_n (ls2 := [(3, .int (gI (0))), (2, .int (gI (a))), (0, .ref (B)), (1, .int (gI (r)))]) dX10_found_131 rfl (by decide) rfl ?_
            have lc : ∀ (kk : Nat) (c : Int) (hlc : GH), kk = (41 - c).toNat → True → RD B h0 hlc p hf le fc pn rn hn qn (gup (d9) (a) ((d9) ((a) - (1)))) g10 (cpT d11 a c) g12 g13 g14 g15 g16 g17 g18 g19 g20 → NR B [] h hlc → MG hp B hlc (r) (g) → (0 ≤ c ∧ c ≤ 41) → Go N mX10_found (fun v h1 => v = none ∧ NR B [] h h1 ∧ ∃ fc1 Q1 d9 d11, RD B h0 h1 p hf le fc1 pn rn hn qn d9 g10 d11 g12 g13 g14 g15 g16 g17 g18 g19 g20 ∧ TB hp d9 d11 fc1 Q1 ∧ fnd hp fc Q g fc1 Q1) 0 0 hlc 132 [(3, .int (gI (c))), (2, .int (gI (a))), (0, .ref (B)), (1, .int (gI (r)))] [] := by
              refine Go.ind (fun kk ih_lc => ?_)
              intro c hlc hkk_lc fr_lc cr_lc_0 cr_lc_1 cr_lc_2 hc
              refine g_iload_n 0 dX10_found_132 rfl ?_
              refine g_bipush dX10_found_133 (by decide) ?_
              refine g_icmp_gt (tgt := 169) dX10_found_135 rfl (by first | assumption | (unfold gW; omega) | (unfold gW; split <;> omega)) (by first | assumption | (unfold gW; omega) | (unfold gW; split <;> omega)) (fun c514 => ?_) (fun c514 => ?_)
              · skip
                have rdz : RD B h0 hlc p hf le fc pn rn hn qn (gup (d9) (a) ((d9) ((a) - (1)))) g10 (cpT d11 a 41) g12 g13 g14 g15 g16 g17 g18 g19 g20 := by
                                                                      have hc9 : c = 41 := by omega
                                                                      have e9 := cr_lc_0
                                                                      rw [hc9] at e9; exact e9
                refine g_iinc 1 (ls2 := [(2, .int (gI (a + (-1)))), (3, .int (gI (c))), (0, .ref (B)), (1, .int (gI (r)))]) dX10_found_169 rfl (by decide) rfl ?_
                refine g_goto (tgt := 101) dX10_found_172 rfl ?_
                refine Go.sub [0, 2, 3] rfl ?_
                exact ih_la _ (by omega) (a + (-1)) (gup (d9) (a) ((d9) ((a) - (1)))) (cpT d11 a 41) hlc rfl fr_lc rdz cr_lc_1 cr_lc_2 (by omega) (by rw [show a + (-1) = a - 1 by omega]; exact HT.s hH ⟨by omega, by omega⟩) (fun i i0 i1 => by
                                                                      rcases Int.lt_or_le i a with z | z
                                                                      · rw [show i = a - 1 by omega]; exact hlt
                                                                      · exact hgt i z i1)
              · skip
                refine g_aload_n 2 dX10_found_138 rfl ?_
                refine g_getf 14 dX10_found_139 kX10 (by decide) fX10_42 (RD.o cr_lc_0) rfl ?_
                refine g_bipush dX10_found_142 (by decide) ?_
                refine g_iload_n 1 dX10_found_144 rfl ?_
                refine g_imul dX10_found_145 ?_
                refine g_iload_n 0 dX10_found_146 rfl ?_
                refine g_iadd dX10_found_147 ?_
                refine g_aload_n 2 dX10_found_148 rfl ?_
                refine g_getf 14 dX10_found_149 kX10 (by decide) fX10_42 (RD.o cr_lc_0) rfl ?_
                refine g_bipush dX10_found_152 (by decide) ?_
                refine g_iload_n 1 dX10_found_154 rfl ?_
                refine g_imul dX10_found_155 ?_
                refine g_bipush dX10_found_156 (by decide) ?_
                refine g_isub dX10_found_158 ?_
                refine g_iload_n 0 dX10_found_159 rfl ?_
                refine g_iadd dX10_found_160 ?_
                refine g_iaload dX10_found_161 (RD.t11 cr_lc_0) (by omega) (by omega) (by omega) ?_
                have hq_ : (cpT d11 a c) ((((41) * (a)) - (41)) + (c)) = d11 (41 * a - 41 + c) := cpT_at d11 (by omega)
                rw [hq_]
                refine g_iastore dX10_found_162 (RD.t11 cr_lc_0) (by omega) (by omega) (by omega) ?_
                obtain ⟨hh515, eh515⟩ : ∃ z : GH, z = hset hlc (B + 11) (aI 1681 (gup (cpT d11 a c) (((41) * (a)) + (c)) (d11 (41 * a - 41 + c)))) := ⟨_, rfl⟩
                refine Go.hp eh515.symm ?_
                have rd515 : RD B h0 hh515 p hf le fc pn rn hn qn (gup (d9) (a) ((d9) ((a) - (1)))) g10 (gup (cpT d11 a c) (((41) * (a)) + (c)) (d11 (41 * a - 41 + c))) g12 g13 g14 g15 g16 g17 g18 g19 g20 := RD.cell cr_lc_0 (by rw [eh515]; rfl) (fun x hx => by rw [eh515, hset_n _ _ (by omega)]) (hs_n eh515 (show NE (B) (B + 11) by unfold NE; omega) (RD.o cr_lc_0)) (hs_n eh515 (show NE (B + 9) (B + 11) by unfold NE; omega) (RD.t9 cr_lc_0)) (hs_n eh515 (show NE (B + 10) (B + 11) by unfold NE; omega) (RD.t10 cr_lc_0)) (hs_s eh515) (hs_n eh515 (show NE (B + 12) (B + 11) by unfold NE; omega) (RD.t12 cr_lc_0)) (hs_n eh515 (show NE (B + 13) (B + 11) by unfold NE; omega) (RD.t13 cr_lc_0)) (hs_n eh515 (show NE (B + 14) (B + 11) by unfold NE; omega) (RD.t14 cr_lc_0)) (hs_n eh515 (show NE (B + 15) (B + 11) by unfold NE; omega) (RD.t15 cr_lc_0)) (hs_n eh515 (show NE (B + 16) (B + 11) by unfold NE; omega) (RD.t16 cr_lc_0)) (hs_n eh515 (show NE (B + 17) (B + 11) by unfold NE; omega) (RD.t17 cr_lc_0)) (hs_n eh515 (show NE (B + 18) (B + 11) by unfold NE; omega) (RD.t18 cr_lc_0)) (hs_n eh515 (show NE (B + 19) (B + 11) by unfold NE; omega) (RD.t19 cr_lc_0)) (hs_n eh515 (show NE (B + 20) (B + 11) by unfold NE; omega) (RD.t20 cr_lc_0))
                have e5_515 : hh515.2 (B + 5) = hlc.2 (B + 5) := by rw [eh515, hset_n _ _ (by omega)]
                have e6_515 : hh515.2 (B + 6) = hlc.2 (B + 6) := by rw [eh515, hset_n _ _ (by omega)]
                have rg515_1 : NR B [] h hh515 := NR.h5 cr_lc_1 e5_515 e6_515
                have rg515_2 : MG hp B hh515 (r) (g) := (cr_lc_2).of5 e5_515 e6_515
                refine g_iinc 0 (ls2 := [(3, .int (gI (c + 1))), (2, .int (gI (a))), (0, .ref (B)), (1, .int (gI (r)))]) dX10_found_163 rfl (by decide) rfl ?_
                refine g_goto (tgt := 132) dX10_found_166 rfl ?_
                exact ih_lc _ (by omega) (c + 1) hh515 rfl fr_lc (by rw [← cpT_s d11 a hc.1]; exact rd515) rg515_1 rg515_2 (by omega)
            exact lc _ (0) hh413 rfl fr_la (by rw [cpT_0]; exact rd413) rg413_1 rg413_2 (by omega)
          · skip
            refine Go.nf (h' := hc409) (st' := [.int (gI (0))]) rfl rfl (Nat.le_refl _) (Nat.le_refl _) ?_
            have hlt9 : ltP hp (Q (a - 1)) g := by
                                                                      rcases ltP_tri hp (hT (a - 1) (by omega) (by omega)).1 hG.po (hNall (a - 1) (by omega) (by omega)) with z | z
                                                                      · exact z
                                                                      · exact absurd z hlt
            refine g_if_eq (tgt := 175) dX10_found_113 rfl (by first | assumption | (unfold gW; omega) | (unfold gW; split <;> omega)) (fun c616 => ?_) (fun c616 => absurd c616 (by omega))
            refine g_aload_n 1 dX10_found_175 rfl ?_
            refine g_getf 12 dX10_found_176 kX10 (by decide) fX10_36 (RD.o rd410) rfl ?_
            refine g_iload_n 0 dX10_found_179 rfl ?_
            refine g_aload_n 1 dX10_found_180 rfl ?_
            refine g_getf 6 dX10_found_181 kX10 (by decide) fX10_26 (RD.o rd410) rfl ?_
            refine g_iload_n 2 dX10_found_184 rfl ?_
            obtain ⟨dz617, ez617, fz617⟩ := MG.get rk411_2
            refine g_iaload dX10_found_185 ez617 (by omega) (by omega) (by omega) ?_
            rw [fz617]
            refine g_iastore dX10_found_186 (RD.t9 rd410) (by omega) (by omega) (by omega) ?_
            obtain ⟨hh618, eh618⟩ : ∃ z : GH, z = hset hc409 (B + 9) (aI 41 (gup (d9) (a) (dgi hp (g)))) := ⟨_, rfl⟩
            refine Go.hp eh618.symm ?_
            have rd618 : RD B h0 hh618 p hf le fc pn rn hn qn (gup (d9) (a) (dgi hp (g))) g10 d11 g12 g13 g14 g15 g16 g17 g18 g19 g20 := RD.cell rd410 (by rw [eh618]; rfl) (fun x hx => by rw [eh618, hset_n _ _ (by omega)]) (hs_n eh618 (show NE (B) (B + 9) by unfold NE; omega) (RD.o rd410)) (hs_s eh618) (hs_n eh618 (show NE (B + 10) (B + 9) by unfold NE; omega) (RD.t10 rd410)) (hs_n eh618 (show NE (B + 11) (B + 9) by unfold NE; omega) (RD.t11 rd410)) (hs_n eh618 (show NE (B + 12) (B + 9) by unfold NE; omega) (RD.t12 rd410)) (hs_n eh618 (show NE (B + 13) (B + 9) by unfold NE; omega) (RD.t13 rd410)) (hs_n eh618 (show NE (B + 14) (B + 9) by unfold NE; omega) (RD.t14 rd410)) (hs_n eh618 (show NE (B + 15) (B + 9) by unfold NE; omega) (RD.t15 rd410)) (hs_n eh618 (show NE (B + 16) (B + 9) by unfold NE; omega) (RD.t16 rd410)) (hs_n eh618 (show NE (B + 17) (B + 9) by unfold NE; omega) (RD.t17 rd410)) (hs_n eh618 (show NE (B + 18) (B + 9) by unfold NE; omega) (RD.t18 rd410)) (hs_n eh618 (show NE (B + 19) (B + 9) by unfold NE; omega) (RD.t19 rd410)) (hs_n eh618 (show NE (B + 20) (B + 9) by unfold NE; omega) (RD.t20 rd410))
            have e5_618 : hh618.2 (B + 5) = hc409.2 (B + 5) := by rw [eh618, hset_n _ _ (by omega)]
            have e6_618 : hh618.2 (B + 6) = hc409.2 (B + 6) := by rw [eh618, hset_n _ _ (by omega)]
            have rg618_1 : NR B [] h hh618 := NR.h5 rk411_1 e5_618 e6_618
            have rg618_2 : MG hp B hh618 (r) (g) := (rk411_2).of5 e5_618 e6_618
            refine g_iconst dX10_found_187 ?_
            refine g_istore_n (ls2 := [(3, .int (gI (0))), (2, .int (gI (a))), (0, .ref (B)), (1, .int (gI (r)))]) dX10_found_188 rfl (by decide) rfl ?_
            have lw : ∀ (kk : Nat) (c : Int) (hlw : GH), kk = (41 - c).toNat → True → RD B h0 hlw p hf le fc pn rn hn qn (gup (d9) (a) (dgi hp (g))) g10 (wT d11 a g c) g12 g13 g14 g15 g16 g17 g18 g19 g20 → NR B [] h hlw → MG hp B hlw (r) (g) → (0 ≤ c ∧ c ≤ 41) → Go N mX10_found (fun v h1 => v = none ∧ NR B [] h h1 ∧ ∃ fc1 Q1 d9 d11, RD B h0 h1 p hf le fc1 pn rn hn qn d9 g10 d11 g12 g13 g14 g15 g16 g17 g18 g19 g20 ∧ TB hp d9 d11 fc1 Q1 ∧ fnd hp fc Q g fc1 Q1) 0 0 hlw 189 [(3, .int (gI (c))), (2, .int (gI (a))), (0, .ref (B)), (1, .int (gI (r)))] [] := by
              refine Go.ind (fun kk ih_lw => ?_)
              intro c hlw hkk_lw fr_lw cr_lw_0 cr_lw_1 cr_lw_2 hc
              refine g_iload_n 0 dX10_found_189 rfl ?_
              refine g_bipush dX10_found_190 (by decide) ?_
              refine g_icmp_gt (tgt := 224) dX10_found_192 rfl (by first | assumption | (unfold gW; omega) | (unfold gW; split <;> omega)) (by first | assumption | (unfold gW; omega) | (unfold gW; split <;> omega)) (fun c719 => ?_) (fun c719 => ?_)
              · skip
                have rdz : RD B h0 hlw p hf le fc pn rn hn qn (gup (d9) (a) (dgi hp (g))) g10 (wT d11 a g 41) g12 g13 g14 g15 g16 g17 g18 g19 g20 := by
                                                                      have hc9 : c = 41 := by omega
                                                                      have e9 := cr_lw_0
                                                                      rw [hc9] at e9; exact e9
                refine g_aload_n 2 dX10_found_224 rfl ?_
                refine g_dup dX10_found_225 rfl ?_
                refine g_getf 11 dX10_found_226 kX10 (by decide) fX10_90 (RD.o rdz) rfl ?_
                refine g_iconst dX10_found_229 ?_
                refine g_iadd dX10_found_230 ?_
                refine g_putf 11 dX10_found_231 kX10 (by decide) fX10_90 rfl (RD.o rdz) (Nat.le_of_ble_eq_true rfl) rfl rfl ?_
                obtain ⟨hh720, eh720⟩ : ∃ z : GH, z = hset hlw (B) (mO B ((p : Int)) (hf) (le) ((fc) + (1)) (pn) (rn) (hn) (qn)) := ⟨_, rfl⟩
                refine Go.hp eh720.symm ?_
                have rd720 : RD B h0 hh720 p hf le ((fc) + (1)) pn rn hn qn (gup (d9) (a) (dgi hp (g))) g10 (wT d11 a g 41) g12 g13 g14 g15 g16 g17 g18 g19 g20 := RD.cell rdz (by rw [eh720]; rfl) (fun x hx => by rw [eh720, hset_n _ _ (by omega)]) (hs_s eh720) (hs_n eh720 (show NE (B + 9) (B) by unfold NE; omega) (RD.t9 rdz)) (hs_n eh720 (show NE (B + 10) (B) by unfold NE; omega) (RD.t10 rdz)) (hs_n eh720 (show NE (B + 11) (B) by unfold NE; omega) (RD.t11 rdz)) (hs_n eh720 (show NE (B + 12) (B) by unfold NE; omega) (RD.t12 rdz)) (hs_n eh720 (show NE (B + 13) (B) by unfold NE; omega) (RD.t13 rdz)) (hs_n eh720 (show NE (B + 14) (B) by unfold NE; omega) (RD.t14 rdz)) (hs_n eh720 (show NE (B + 15) (B) by unfold NE; omega) (RD.t15 rdz)) (hs_n eh720 (show NE (B + 16) (B) by unfold NE; omega) (RD.t16 rdz)) (hs_n eh720 (show NE (B + 17) (B) by unfold NE; omega) (RD.t17 rdz)) (hs_n eh720 (show NE (B + 18) (B) by unfold NE; omega) (RD.t18 rdz)) (hs_n eh720 (show NE (B + 19) (B) by unfold NE; omega) (RD.t19 rdz)) (hs_n eh720 (show NE (B + 20) (B) by unfold NE; omega) (RD.t20 rdz))
                have e5_720 : hh720.2 (B + 5) = hlw.2 (B + 5) := by rw [eh720, hset_n _ _ (by omega)]
                have e6_720 : hh720.2 (B + 6) = hlw.2 (B + 6) := by rw [eh720, hset_n _ _ (by omega)]
                have rg720_1 : NR B [] h hh720 := NR.h5 cr_lw_1 e5_720 e6_720
                have rg720_2 : MG hp B hh720 (r) (g) := (cr_lw_2).of5 e5_720 e6_720
                exact g_vret dX10_found_234 rfl ⟨rfl, rg720_1, fc + 1, insI Q a g, _, _, rd720, HT.put hH hG.po hgd, fnd_new hp hs (by omega) hgt (Or.inr hlt9)⟩
              · skip
                refine g_aload_n 2 dX10_found_195 rfl ?_
                refine g_getf 14 dX10_found_196 kX10 (by decide) fX10_42 (RD.o cr_lw_0) rfl ?_
                refine g_bipush dX10_found_199 (by decide) ?_
                refine g_iload_n 1 dX10_found_201 rfl ?_
                refine g_imul dX10_found_202 ?_
                refine g_iload_n 0 dX10_found_203 rfl ?_
                refine g_iadd dX10_found_204 ?_
                refine g_aload_n 2 dX10_found_205 rfl ?_
                refine g_getf 5 dX10_found_206 kX10 (by decide) fX10_23 (RD.o cr_lw_0) rfl ?_
                refine g_sipush dX10_found_209 (by decide) ?_
                refine g_iload_n 3 dX10_found_212 rfl ?_
                refine g_imul dX10_found_213 ?_
                refine g_iload_n 0 dX10_found_214 rfl ?_
                refine g_iadd dX10_found_215 ?_
                obtain ⟨R721, er721, fr721⟩ := MG.num cr_lw_2
                refine g_iaload dX10_found_216 er721 (by omega) (by omega) (by omega) ?_
                rw [ar_r R721 (show 0 ≤ c by omega) (show c < 200 by omega), fr721 (c) (by omega) (by omega)]
                refine g_iastore dX10_found_217 (RD.t11 cr_lw_0) (by omega) (by omega) (by omega) ?_
                obtain ⟨hh722, eh722⟩ : ∃ z : GH, z = hset hlw (B + 11) (aI 1681 (gup (wT d11 a g c) (((41) * (a)) + (c)) (cf (g) (c)))) := ⟨_, rfl⟩
                refine Go.hp eh722.symm ?_
                have rd722 : RD B h0 hh722 p hf le fc pn rn hn qn (gup (d9) (a) (dgi hp (g))) g10 (gup (wT d11 a g c) (((41) * (a)) + (c)) (cf (g) (c))) g12 g13 g14 g15 g16 g17 g18 g19 g20 := RD.cell cr_lw_0 (by rw [eh722]; rfl) (fun x hx => by rw [eh722, hset_n _ _ (by omega)]) (hs_n eh722 (show NE (B) (B + 11) by unfold NE; omega) (RD.o cr_lw_0)) (hs_n eh722 (show NE (B + 9) (B + 11) by unfold NE; omega) (RD.t9 cr_lw_0)) (hs_n eh722 (show NE (B + 10) (B + 11) by unfold NE; omega) (RD.t10 cr_lw_0)) (hs_s eh722) (hs_n eh722 (show NE (B + 12) (B + 11) by unfold NE; omega) (RD.t12 cr_lw_0)) (hs_n eh722 (show NE (B + 13) (B + 11) by unfold NE; omega) (RD.t13 cr_lw_0)) (hs_n eh722 (show NE (B + 14) (B + 11) by unfold NE; omega) (RD.t14 cr_lw_0)) (hs_n eh722 (show NE (B + 15) (B + 11) by unfold NE; omega) (RD.t15 cr_lw_0)) (hs_n eh722 (show NE (B + 16) (B + 11) by unfold NE; omega) (RD.t16 cr_lw_0)) (hs_n eh722 (show NE (B + 17) (B + 11) by unfold NE; omega) (RD.t17 cr_lw_0)) (hs_n eh722 (show NE (B + 18) (B + 11) by unfold NE; omega) (RD.t18 cr_lw_0)) (hs_n eh722 (show NE (B + 19) (B + 11) by unfold NE; omega) (RD.t19 cr_lw_0)) (hs_n eh722 (show NE (B + 20) (B + 11) by unfold NE; omega) (RD.t20 cr_lw_0))
                have e5_722 : hh722.2 (B + 5) = hlw.2 (B + 5) := by rw [eh722, hset_n _ _ (by omega)]
                have e6_722 : hh722.2 (B + 6) = hlw.2 (B + 6) := by rw [eh722, hset_n _ _ (by omega)]
                have rg722_1 : NR B [] h hh722 := NR.h5 cr_lw_1 e5_722 e6_722
                have rg722_2 : MG hp B hh722 (r) (g) := (cr_lw_2).of5 e5_722 e6_722
                refine g_iinc 0 (ls2 := [(3, .int (gI (c + 1))), (2, .int (gI (a))), (0, .ref (B)), (1, .int (gI (r)))]) dX10_found_218 rfl (by decide) rfl ?_
                refine g_goto (tgt := 189) dX10_found_221 rfl ?_
                exact ih_lw _ (by omega) (c + 1) hh722 rfl fr_lw (by rw [← wT_s d11 a g hc.1]; exact rd722) rg722_1 rg722_2 (by omega)
            exact lw _ (0) hh618 rfl fr_la (by rw [wT_0]; exact rd618) rg618_1 rg618_2 (by omega)
      exact la _ (fc) (g9) (g11) hlf rfl fr_lf cr_lf_0 cr_lf_1 cr_lf_2 (by omega) (⟨fun i i0 i1 => hT i i0 i1, fun i i0 i1 => by omega⟩) (fun i i0 i1 => by omega)
    · skip
      obtain ⟨t1, t2, t3, t4⟩ := hT f (by omega) (by omega)
      have t5 := dgi_ge hp t1
      refine g_aload_n 1 dX10_found_10 rfl ?_
      refine g_getf 12 dX10_found_11 kX10 (by decide) fX10_36 (RD.o cr_lf_0) rfl ?_
      refine g_iload_n 0 dX10_found_14 rfl ?_
      refine g_iaload dX10_found_15 (RD.t9 cr_lf_0) (by omega) (by omega) (by omega) ?_
      refine g_aload_n 1 dX10_found_16 rfl ?_
      refine g_getf 6 dX10_found_17 kX10 (by decide) fX10_26 (RD.o cr_lf_0) rfl ?_
      refine g_iload_n 2 dX10_found_20 rfl ?_
      obtain ⟨dz923, ez923, fz923⟩ := MG.get cr_lf_2
      refine g_iaload dX10_found_21 ez923 (by omega) (by omega) (by omega) ?_
      rw [fz923]
      refine g_icmp_ne (tgt := 29) dX10_found_22 rfl (by first | assumption | (unfold gW; omega) | (unfold gW; split <;> omega)) (by first | assumption | (unfold gW; omega) | (unfold gW; split <;> omega)) (fun c924 => ?_) (fun c924 => ?_)
      · skip
        refine g_iconst dX10_found_29 ?_
        refine g_istore_n (ls2 := [(3, .int (gI (0))), (2, .int (gI (f))), (0, .ref (B)), (1, .int (gI (r)))]) dX10_found_30 rfl (by decide) rfl ?_
        refine g_iconst dX10_found_31 ?_
        refine g_istore (ls2 := [(4, .int (gI (0))), (3, .int (gI (0))), (2, .int (gI (f))), (0, .ref (B)), (1, .int (gI (r)))]) dX10_found_32 (by decide) rfl ?_
        have li : ∀ (kk : Nat) (i : Int) (sm : Int) (hli : GH), kk = (50 - i).toNat → True → RD B h0 hli p hf le fc pn rn hn qn g9 g10 g11 g12 g13 g14 g15 g16 g17 g18 g19 g20 → NR B [] h hli → MG hp B hli (r) (g) → (0 ≤ i ∧ i ≤ 41) → ((sm = 1 ∧ dgi hp (Q f) = dgi hp g ∧ ∀ k : Int, 0 ≤ k → k < i → cf (Q f) k = cf g k) ∨ (sm = 0 ∧ Q f ≠ g)) → Go N mX10_found (fun v h1 => v = none ∧ NR B [] h h1 ∧ ∃ fc1 Q1 d9 d11, RD B h0 h1 p hf le fc1 pn rn hn qn d9 g10 d11 g12 g13 g14 g15 g16 g17 g18 g19 g20 ∧ TB hp d9 d11 fc1 Q1 ∧ fnd hp fc Q g fc1 Q1) 0 0 hli 34 [(4, .int (gI (i))), (3, .int (gI (sm))), (2, .int (gI (f))), (0, .ref (B)), (1, .int (gI (r)))] [] := by
          refine Go.ind (fun kk ih_li => ?_)
          intro i sm hli hkk_li fr_li cr_li_0 cr_li_1 cr_li_2 hi_ hsm
          refine g_iload 0 dX10_found_34 rfl ?_
          refine g_bipush dX10_found_36 (by decide) ?_
          refine g_icmp_gt (tgt := 85) dX10_found_38 rfl (by first | assumption | (unfold gW; omega) | (unfold gW; split <;> omega)) (by first | assumption | (unfold gW; omega) | (unfold gW; split <;> omega)) (fun c1025 => ?_) (fun c1025 => ?_)
          · skip
            refine g_iload_n 1 dX10_found_85 rfl ?_
            refine g_if_eq (tgt := 90) dX10_found_86 rfl (by first | assumption | (unfold gW; omega) | (unfold gW; split <;> omega)) (fun c1026 => ?_) (fun c1026 => ?_)
            · skip
              refine g_iinc 2 (ls2 := [(2, .int (gI (f + 1))), (4, .int (gI (i))), (3, .int (gI (sm))), (0, .ref (B)), (1, .int (gI (r)))]) dX10_found_90 rfl (by decide) rfl ?_
              refine g_goto (tgt := 2) dX10_found_93 rfl ?_
              refine Go.sub [0, 3, 4] rfl ?_
              exact ih_lf _ (by omega) (f + 1) hli rfl fr_li cr_li_0 cr_li_1 cr_li_2 (by omega) (fun j j0 j1 => by
                                                                      rcases Int.lt_or_le j f with z | z
                                                                      · exact hN j j0 z
                                                                      · rw [show j = f by omega]
                                                                        rcases hsm with z2 | z2
                                                                        · omega
                                                                        · exact z2.2)
            · skip
              have hEq : Q f = g := by
                                                                      rcases hsm with z2 | z2
                                                                      · exact eq_cf hp t1 hG.po t2 hgd (fun k k0 k1 => z2.2.2 k k0 (by omega))
                                                                      · exfalso; omega
              exact g_vret dX10_found_89 rfl ⟨rfl, cr_li_1, fc, Q, g9, g11, cr_li_0, hT, fnd_in hp hs ⟨f, by omega, by omega, hEq⟩⟩
          · skip
            refine g_iload_n 1 dX10_found_41 rfl ?_
            refine g_if_eq (tgt := 85) dX10_found_42 rfl (by first | assumption | (unfold gW; omega) | (unfold gW; split <;> omega)) (fun c1027 => ?_) (fun c1027 => ?_)
            · skip
              refine g_iload_n 1 dX10_found_85 rfl ?_
              refine g_if_eq (tgt := 90) dX10_found_86 rfl (by first | assumption | (unfold gW; omega) | (unfold gW; split <;> omega)) (fun c1028 => ?_) (fun c1028 => ?_)
              · skip
                refine g_iinc 2 (ls2 := [(2, .int (gI (f + 1))), (4, .int (gI (i))), (3, .int (gI (sm))), (0, .ref (B)), (1, .int (gI (r)))]) dX10_found_90 rfl (by decide) rfl ?_
                refine g_goto (tgt := 2) dX10_found_93 rfl ?_
                refine Go.sub [0, 3, 4] rfl ?_
                exact ih_lf _ (by omega) (f + 1) hli rfl fr_li cr_li_0 cr_li_1 cr_li_2 (by omega) (fun j j0 j1 => by
                                                                      rcases Int.lt_or_le j f with z | z
                                                                      · exact hN j j0 z
                                                                      · rw [show j = f by omega]
                                                                        rcases hsm with z2 | z2
                                                                        · omega
                                                                        · exact z2.2)
              · skip
                have hEq : Q f = g := by
                                                                      rcases hsm with z2 | z2
                                                                      · exact eq_cf hp t1 hG.po t2 hgd (fun k k0 k1 => z2.2.2 k k0 (by omega))
                                                                      · exfalso; omega
                exact g_vret dX10_found_89 rfl ⟨rfl, cr_li_1, fc, Q, g9, g11, cr_li_0, hT, fnd_in hp hs ⟨f, by omega, by omega, hEq⟩⟩
            · skip
              have hc1 := cf_in g hp i
              have hc2 := cf_in (Q f) hp i
              have hq2 := t4 i hi_.1 (by omega)
              refine g_aload_n 3 dX10_found_45 rfl ?_
              refine g_getf 14 dX10_found_46 kX10 (by decide) fX10_42 (RD.o cr_li_0) rfl ?_
              refine g_bipush dX10_found_49 (by decide) ?_
              refine g_iload_n 2 dX10_found_51 rfl ?_
              refine g_imul dX10_found_52 ?_
              refine g_iload 0 dX10_found_53 rfl ?_
              refine g_iadd dX10_found_55 ?_
              refine g_iaload dX10_found_56 (RD.t11 cr_li_0) (by omega) (by omega) (by omega) ?_
              refine g_aload_n 3 dX10_found_57 rfl ?_
              refine g_getf 5 dX10_found_58 kX10 (by decide) fX10_23 (RD.o cr_li_0) rfl ?_
              refine g_sipush dX10_found_61 (by decide) ?_
              refine g_iload_n 4 dX10_found_64 rfl ?_
              refine g_imul dX10_found_65 ?_
              refine g_iload 0 dX10_found_66 rfl ?_
              refine g_iadd dX10_found_68 ?_
              obtain ⟨R1029, er1029, fr1029⟩ := MG.num cr_li_2
              refine g_iaload dX10_found_69 er1029 (by omega) (by omega) (by omega) ?_
              rw [ar_r R1029 (show 0 ≤ i by omega) (show i < 200 by omega), fr1029 (i) (by omega) (by omega)]
              refine g_icmp_ne (tgt := 77) dX10_found_70 rfl (by first | assumption | (unfold gW; omega) | (unfold gW; split <;> omega)) (by first | assumption | (unfold gW; omega) | (unfold gW; split <;> omega)) (fun c1030 => ?_) (fun c1030 => ?_)
              · skip
                refine g_iconst dX10_found_77 ?_
                refine g_istore_n (ls2 := [(3, .int (gI (0))), (4, .int (gI (i))), (2, .int (gI (f))), (0, .ref (B)), (1, .int (gI (r)))]) dX10_found_78 rfl (by decide) rfl ?_
                refine g_iinc 1 (ls2 := [(4, .int (gI (i + 1))), (3, .int (gI (0))), (2, .int (gI (f))), (0, .ref (B)), (1, .int (gI (r)))]) dX10_found_79 rfl (by decide) rfl ?_
                refine g_goto (tgt := 34) dX10_found_82 rfl ?_
                exact ih_li _ (by omega) (i + 1) (0) hli rfl fr_li cr_li_0 cr_li_1 cr_li_2 (by omega) (Or.inr ⟨rfl, fun e9 => by rw [e9] at hq2; omega⟩)
              · skip
                refine g_iconst dX10_found_73 ?_
                refine g_goto (tgt := 78) dX10_found_74 rfl ?_
                refine g_istore_n (ls2 := [(3, .int (gI (1))), (4, .int (gI (i))), (2, .int (gI (f))), (0, .ref (B)), (1, .int (gI (r)))]) dX10_found_78 rfl (by decide) rfl ?_
                refine g_iinc 1 (ls2 := [(4, .int (gI (i + 1))), (3, .int (gI (1))), (2, .int (gI (f))), (0, .ref (B)), (1, .int (gI (r)))]) dX10_found_79 rfl (by decide) rfl ?_
                refine g_goto (tgt := 34) dX10_found_82 rfl ?_
                exact ih_li _ (by omega) (i + 1) (1) hli rfl fr_li cr_li_0 cr_li_1 cr_li_2 (by omega) (Or.inl ⟨rfl, by omega, fun k k0 k1 => by
                                                                      rcases hsm with z2 | z2
                                                                      · rcases Int.lt_or_le k i with z | z
                                                                        · exact z2.2.2 k k0 z
                                                                        · rw [show k = i by omega]; omega
                                                                      · omega⟩)
        exact li _ (0) (0) hlf rfl fr_lf cr_lf_0 cr_lf_1 cr_lf_2 (by omega) (Or.inr ⟨rfl, fun e9 => by rw [e9] at t3; omega⟩)
      · skip
        refine g_iconst dX10_found_25 ?_
        refine g_goto (tgt := 30) dX10_found_26 rfl ?_
        refine g_istore_n (ls2 := [(3, .int (gI (1))), (2, .int (gI (f))), (0, .ref (B)), (1, .int (gI (r)))]) dX10_found_30 rfl (by decide) rfl ?_
        refine g_iconst dX10_found_31 ?_
        refine g_istore (ls2 := [(4, .int (gI (0))), (3, .int (gI (1))), (2, .int (gI (f))), (0, .ref (B)), (1, .int (gI (r)))]) dX10_found_32 (by decide) rfl ?_
        have li : ∀ (kk : Nat) (i : Int) (sm : Int) (hli : GH), kk = (50 - i).toNat → True → RD B h0 hli p hf le fc pn rn hn qn g9 g10 g11 g12 g13 g14 g15 g16 g17 g18 g19 g20 → NR B [] h hli → MG hp B hli (r) (g) → (0 ≤ i ∧ i ≤ 41) → ((sm = 1 ∧ dgi hp (Q f) = dgi hp g ∧ ∀ k : Int, 0 ≤ k → k < i → cf (Q f) k = cf g k) ∨ (sm = 0 ∧ Q f ≠ g)) → Go N mX10_found (fun v h1 => v = none ∧ NR B [] h h1 ∧ ∃ fc1 Q1 d9 d11, RD B h0 h1 p hf le fc1 pn rn hn qn d9 g10 d11 g12 g13 g14 g15 g16 g17 g18 g19 g20 ∧ TB hp d9 d11 fc1 Q1 ∧ fnd hp fc Q g fc1 Q1) 0 0 hli 34 [(4, .int (gI (i))), (3, .int (gI (sm))), (2, .int (gI (f))), (0, .ref (B)), (1, .int (gI (r)))] [] := by
          refine Go.ind (fun kk ih_li => ?_)
          intro i sm hli hkk_li fr_li cr_li_0 cr_li_1 cr_li_2 hi_ hsm
          refine g_iload 0 dX10_found_34 rfl ?_
          refine g_bipush dX10_found_36 (by decide) ?_
          refine g_icmp_gt (tgt := 85) dX10_found_38 rfl (by first | assumption | (unfold gW; omega) | (unfold gW; split <;> omega)) (by first | assumption | (unfold gW; omega) | (unfold gW; split <;> omega)) (fun c1231 => ?_) (fun c1231 => ?_)
          · skip
            refine g_iload_n 1 dX10_found_85 rfl ?_
            refine g_if_eq (tgt := 90) dX10_found_86 rfl (by first | assumption | (unfold gW; omega) | (unfold gW; split <;> omega)) (fun c1232 => ?_) (fun c1232 => ?_)
            · skip
              refine g_iinc 2 (ls2 := [(2, .int (gI (f + 1))), (4, .int (gI (i))), (3, .int (gI (sm))), (0, .ref (B)), (1, .int (gI (r)))]) dX10_found_90 rfl (by decide) rfl ?_
              refine g_goto (tgt := 2) dX10_found_93 rfl ?_
              refine Go.sub [0, 3, 4] rfl ?_
              exact ih_lf _ (by omega) (f + 1) hli rfl fr_li cr_li_0 cr_li_1 cr_li_2 (by omega) (fun j j0 j1 => by
                                                                      rcases Int.lt_or_le j f with z | z
                                                                      · exact hN j j0 z
                                                                      · rw [show j = f by omega]
                                                                        rcases hsm with z2 | z2
                                                                        · omega
                                                                        · exact z2.2)
            · skip
              have hEq : Q f = g := by
                                                                      rcases hsm with z2 | z2
                                                                      · exact eq_cf hp t1 hG.po t2 hgd (fun k k0 k1 => z2.2.2 k k0 (by omega))
                                                                      · exfalso; omega
              exact g_vret dX10_found_89 rfl ⟨rfl, cr_li_1, fc, Q, g9, g11, cr_li_0, hT, fnd_in hp hs ⟨f, by omega, by omega, hEq⟩⟩
          · skip
            refine g_iload_n 1 dX10_found_41 rfl ?_
            refine g_if_eq (tgt := 85) dX10_found_42 rfl (by first | assumption | (unfold gW; omega) | (unfold gW; split <;> omega)) (fun c1233 => ?_) (fun c1233 => ?_)
            · skip
              refine g_iload_n 1 dX10_found_85 rfl ?_
              refine g_if_eq (tgt := 90) dX10_found_86 rfl (by first | assumption | (unfold gW; omega) | (unfold gW; split <;> omega)) (fun c1234 => ?_) (fun c1234 => ?_)
              · skip
                refine g_iinc 2 (ls2 := [(2, .int (gI (f + 1))), (4, .int (gI (i))), (3, .int (gI (sm))), (0, .ref (B)), (1, .int (gI (r)))]) dX10_found_90 rfl (by decide) rfl ?_
                refine g_goto (tgt := 2) dX10_found_93 rfl ?_
                refine Go.sub [0, 3, 4] rfl ?_
                exact ih_lf _ (by omega) (f + 1) hli rfl fr_li cr_li_0 cr_li_1 cr_li_2 (by omega) (fun j j0 j1 => by
                                                                      rcases Int.lt_or_le j f with z | z
                                                                      · exact hN j j0 z
                                                                      · rw [show j = f by omega]
                                                                        rcases hsm with z2 | z2
                                                                        · omega
                                                                        · exact z2.2)
              · skip
                have hEq : Q f = g := by
                                                                      rcases hsm with z2 | z2
                                                                      · exact eq_cf hp t1 hG.po t2 hgd (fun k k0 k1 => z2.2.2 k k0 (by omega))
                                                                      · exfalso; omega
                exact g_vret dX10_found_89 rfl ⟨rfl, cr_li_1, fc, Q, g9, g11, cr_li_0, hT, fnd_in hp hs ⟨f, by omega, by omega, hEq⟩⟩
            · skip
              have hc1 := cf_in g hp i
              have hc2 := cf_in (Q f) hp i
              have hq2 := t4 i hi_.1 (by omega)
              refine g_aload_n 3 dX10_found_45 rfl ?_
              refine g_getf 14 dX10_found_46 kX10 (by decide) fX10_42 (RD.o cr_li_0) rfl ?_
              refine g_bipush dX10_found_49 (by decide) ?_
              refine g_iload_n 2 dX10_found_51 rfl ?_
              refine g_imul dX10_found_52 ?_
              refine g_iload 0 dX10_found_53 rfl ?_
              refine g_iadd dX10_found_55 ?_
              refine g_iaload dX10_found_56 (RD.t11 cr_li_0) (by omega) (by omega) (by omega) ?_
              refine g_aload_n 3 dX10_found_57 rfl ?_
              refine g_getf 5 dX10_found_58 kX10 (by decide) fX10_23 (RD.o cr_li_0) rfl ?_
              refine g_sipush dX10_found_61 (by decide) ?_
              refine g_iload_n 4 dX10_found_64 rfl ?_
              refine g_imul dX10_found_65 ?_
              refine g_iload 0 dX10_found_66 rfl ?_
              refine g_iadd dX10_found_68 ?_
              obtain ⟨R1235, er1235, fr1235⟩ := MG.num cr_li_2
              refine g_iaload dX10_found_69 er1235 (by omega) (by omega) (by omega) ?_
              rw [ar_r R1235 (show 0 ≤ i by omega) (show i < 200 by omega), fr1235 (i) (by omega) (by omega)]
              refine g_icmp_ne (tgt := 77) dX10_found_70 rfl (by first | assumption | (unfold gW; omega) | (unfold gW; split <;> omega)) (by first | assumption | (unfold gW; omega) | (unfold gW; split <;> omega)) (fun c1236 => ?_) (fun c1236 => ?_)
              · skip
                refine g_iconst dX10_found_77 ?_
                refine g_istore_n (ls2 := [(3, .int (gI (0))), (4, .int (gI (i))), (2, .int (gI (f))), (0, .ref (B)), (1, .int (gI (r)))]) dX10_found_78 rfl (by decide) rfl ?_
                refine g_iinc 1 (ls2 := [(4, .int (gI (i + 1))), (3, .int (gI (0))), (2, .int (gI (f))), (0, .ref (B)), (1, .int (gI (r)))]) dX10_found_79 rfl (by decide) rfl ?_
                refine g_goto (tgt := 34) dX10_found_82 rfl ?_
                exact ih_li _ (by omega) (i + 1) (0) hli rfl fr_li cr_li_0 cr_li_1 cr_li_2 (by omega) (Or.inr ⟨rfl, fun e9 => by rw [e9] at hq2; omega⟩)
              · skip
                refine g_iconst dX10_found_73 ?_
                refine g_goto (tgt := 78) dX10_found_74 rfl ?_
                refine g_istore_n (ls2 := [(3, .int (gI (1))), (4, .int (gI (i))), (2, .int (gI (f))), (0, .ref (B)), (1, .int (gI (r)))]) dX10_found_78 rfl (by decide) rfl ?_
                refine g_iinc 1 (ls2 := [(4, .int (gI (i + 1))), (3, .int (gI (1))), (2, .int (gI (f))), (0, .ref (B)), (1, .int (gI (r)))]) dX10_found_79 rfl (by decide) rfl ?_
                refine g_goto (tgt := 34) dX10_found_82 rfl ?_
                exact ih_li _ (by omega) (i + 1) (1) hli rfl fr_li cr_li_0 cr_li_1 cr_li_2 (by omega) (Or.inl ⟨rfl, by omega, fun k k0 k1 => by
                                                                      rcases hsm with z2 | z2
                                                                      · rcases Int.lt_or_le k i with z | z
                                                                        · exact z2.2.2 k k0 z
                                                                        · rw [show k = i by omega]; omega
                                                                      · omega⟩)
        exact li _ (0) (1) hlf rfl fr_lf cr_lf_0 cr_lf_1 cr_lf_2 (by omega) (Or.inl ⟨rfl, by omega, fun k k0 k1 => by omega⟩)
  exact lf _ (0) h rfl trivial hRD (NR.rf B [] h) hG (by omega) (fun j j0 j1 => by omega)
