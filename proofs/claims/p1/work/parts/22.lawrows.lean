/-- the law's script, by its ints -/
def gs (N : GN) (i : Int) : Int := (N.2.2.2.2.2.2 i.toNat).toInt
theorem g_slen {N : GN} {M : GM} {Q : Option Value → GH → Prop} {nc ns : Nat} {h : GH} {pc : Nat} {ls : List (Nat × Value)} {st : List Value} {b L : Nat} (hd : decode (gm_cc M) pc = .ok (.arraylength, 1)) (hn : gm_nm M = "law") (hb : N.2.2.2.2.1 = b) (hL : N.2.2.2.2.2.1 = L) (k : Go N M Q nc ns h (pc + 1) ls (.int (gI L) :: st)) : Go N M Q nc ns h pc ls (.ref b :: st) := by
  intro p e R s m args below meth c H locs cells slots mc ms la C hR hl hS a1 a2 a3 a4
  obtain ⟨hX, hbl, hbb⟩ := C.2.2.2.2.2.2.2.2.2.2.2 hn
  subst hb; subst hL
  refine va_slen C.1 C.2.1 hX hbl (fun z : N.2.2.2.1 ≤ N.2.2.2.2.1 => by omega) hS hd ?_
  have k2 := k p e R s m args below meth c H locs cells slots mc ms la C hR hl hS a1 a2 a3 a4
  rw [show gI (N.2.2.2.2.2.1 : Int) = Int32.ofNat N.2.2.2.2.2.1 from Int32.ofInt_eq_ofNat] at k2
  exact k2
theorem g_sld {N : GN} {M : GM} {Q : Option Value → GH → Prop} {nc ns : Nat} {h : GH} {pc : Nat} {ls : List (Nat × Value)} {st : List Value} {b L : Nat} {i : Int} (hd : decode (gm_cc M) pc = .ok (.iaload, 1)) (hn : gm_nm M = "law") (hb : N.2.2.2.2.1 = b) (hL : N.2.2.2.2.2.1 = L) (h0 : 0 ≤ i) (h1 : i < L) (h2 : L < 2147483648) (k : Go N M Q nc ns h (pc + 1) ls (.int (gI (gs N i)) :: st)) : Go N M Q nc ns h pc ls (.int (gI i) :: .ref b :: st) := by
  intro p e R s m args below meth c H locs cells slots mc ms la C hR hl hS a1 a2 a3 a4
  obtain ⟨hX, hbl, hbb⟩ := C.2.2.2.2.2.2.2.2.2.2.2 hn
  subst hb; subst hL
  refine va_sld C.1 C.2.1 hX hbl (fun z : N.2.2.2.1 ≤ N.2.2.2.2.1 => by omega) hS (gI_in h0 h1 h2) hd ?_
  have k2 := k p e R s m args below meth c H locs cells slots mc ms la C hR hl hS a1 a2 a3 a4
  unfold gs at k2
  rw [gI_rt] at k2
  rw [gI_cl (by unfold gW; omega)]
  exact k2
theorem gAnd31 (a : Int) : 0 ≤ gAnd a 31 ∧ gAnd a 31 ≤ 31 := by
  obtain ⟨j, h1, h2⟩ := pk_andE (gI a) (m := gI 31) 5 (by decide)
  unfold gAnd
  rw [h2, nI_toInt (by omega)]
  omega
