set_option maxHeartbeats 4000000 in
set_option maxRecDepth 100000 in
theorem sM_factorOfN (N : GN) (h : GH) (B p : Nat) (hp : prm p) (hp2 : p ≤ 65536) (hf le fc pn rn hn qn : Int)  (i w : Int) (gW_i : gW i) (gW_w : gW w) (hm : h.2 B = some (mO B p hf le fc pn rn hn qn)) (hX : MFx hp B h (none) hf le fc pn rn) : Sp N yX10_factorOf mX10_factorOf 0 0 [.ref (B), .int (gI (i)), .int (gI (w))] h (fun v h1 => h1 = h ∧ v = some (.int (gI (aFo hp (none) i w)))) := by
  refine Sp.of (by decide) rfl rfl (Nat.le_of_ble_eq_true rfl) ?_
  show Go N mX10_factorOf _ 0 0 h 0 [(0, .ref (B)), (1, .int (gI (i))), (2, .int (gI (w)))] []
  have hp1 := hp.1
  have neA : NE B (B + 5) := by unfold NE; omega
  have neB : NE B (B + 6) := by unfold NE; omega
  have neC : NE (B + 5) (B + 6) := by unfold NE; omega
  have ne0 : NE (B) (B + 1) := by unfold NE; omega
  have ne1 : NE (B) (B + 2) := by unfold NE; omega
  have ne2 : NE (B) (B + 3) := by unfold NE; omega
  have ne3 : NE (B) (B + 4) := by unfold NE; omega
  have ne4 : NE (B) (B + 5) := by unfold NE; omega
  have ne5 : NE (B) (B + 6) := by unfold NE; omega
  have ne6 : NE (B) (B + 7) := by unfold NE; omega
  have ne7 : NE (B) (B + 8) := by unfold NE; omega
  have ne8 : NE (B) (B + 9) := by unfold NE; omega
  have ne9 : NE (B) (B + 10) := by unfold NE; omega
  have ne10 : NE (B) (B + 11) := by unfold NE; omega
  have ne11 : NE (B) (B + 12) := by unfold NE; omega
  have ne12 : NE (B) (B + 13) := by unfold NE; omega
  have ne13 : NE (B) (B + 14) := by unfold NE; omega
  have ne14 : NE (B) (B + 15) := by unfold NE; omega
  have ne15 : NE (B) (B + 16) := by unfold NE; omega
  have ne16 : NE (B) (B + 17) := by unfold NE; omega
  have ne17 : NE (B) (B + 18) := by unfold NE; omega
  have ne18 : NE (B) (B + 19) := by unfold NE; omega
  have ne19 : NE (B) (B + 20) := by unfold NE; omega
  have ne20 : NE (B) (B + 21) := by unfold NE; omega
  have ne21 : NE (B) (B + 22) := by unfold NE; omega
  have ne22 : NE (B + 1) (B + 2) := by unfold NE; omega
  have ne23 : NE (B + 1) (B + 3) := by unfold NE; omega
  have ne24 : NE (B + 1) (B + 4) := by unfold NE; omega
  have ne25 : NE (B + 1) (B + 5) := by unfold NE; omega
  have ne26 : NE (B + 1) (B + 6) := by unfold NE; omega
  have ne27 : NE (B + 1) (B + 7) := by unfold NE; omega
  have ne28 : NE (B + 1) (B + 8) := by unfold NE; omega
  have ne29 : NE (B + 1) (B + 9) := by unfold NE; omega
  have ne30 : NE (B + 1) (B + 10) := by unfold NE; omega
  have ne31 : NE (B + 1) (B + 11) := by unfold NE; omega
  have ne32 : NE (B + 1) (B + 12) := by unfold NE; omega
  have ne33 : NE (B + 1) (B + 13) := by unfold NE; omega
  have ne34 : NE (B + 1) (B + 14) := by unfold NE; omega
  have ne35 : NE (B + 1) (B + 15) := by unfold NE; omega
  have ne36 : NE (B + 1) (B + 16) := by unfold NE; omega
  have ne37 : NE (B + 1) (B + 17) := by unfold NE; omega
  have ne38 : NE (B + 1) (B + 18) := by unfold NE; omega
  have ne39 : NE (B + 1) (B + 19) := by unfold NE; omega
  have ne40 : NE (B + 1) (B + 20) := by unfold NE; omega
  have ne41 : NE (B + 1) (B + 21) := by unfold NE; omega
  have ne42 : NE (B + 1) (B + 22) := by unfold NE; omega
  have ne43 : NE (B + 2) (B + 3) := by unfold NE; omega
  have ne44 : NE (B + 2) (B + 4) := by unfold NE; omega
  have ne45 : NE (B + 2) (B + 5) := by unfold NE; omega
  have ne46 : NE (B + 2) (B + 6) := by unfold NE; omega
  have ne47 : NE (B + 2) (B + 7) := by unfold NE; omega
  have ne48 : NE (B + 2) (B + 8) := by unfold NE; omega
  have ne49 : NE (B + 2) (B + 9) := by unfold NE; omega
  have ne50 : NE (B + 2) (B + 10) := by unfold NE; omega
  have ne51 : NE (B + 2) (B + 11) := by unfold NE; omega
  have ne52 : NE (B + 2) (B + 12) := by unfold NE; omega
  have ne53 : NE (B + 2) (B + 13) := by unfold NE; omega
  have ne54 : NE (B + 2) (B + 14) := by unfold NE; omega
  have ne55 : NE (B + 2) (B + 15) := by unfold NE; omega
  have ne56 : NE (B + 2) (B + 16) := by unfold NE; omega
  have ne57 : NE (B + 2) (B + 17) := by unfold NE; omega
  have ne58 : NE (B + 2) (B + 18) := by unfold NE; omega
  have ne59 : NE (B + 2) (B + 19) := by unfold NE; omega
  have ne60 : NE (B + 2) (B + 20) := by unfold NE; omega
  have ne61 : NE (B + 2) (B + 21) := by unfold NE; omega
  have ne62 : NE (B + 2) (B + 22) := by unfold NE; omega
  have ne63 : NE (B + 3) (B + 4) := by unfold NE; omega
  have ne64 : NE (B + 3) (B + 5) := by unfold NE; omega
  have ne65 : NE (B + 3) (B + 6) := by unfold NE; omega
  have ne66 : NE (B + 3) (B + 7) := by unfold NE; omega
  have ne67 : NE (B + 3) (B + 8) := by unfold NE; omega
  have ne68 : NE (B + 3) (B + 9) := by unfold NE; omega
  have ne69 : NE (B + 3) (B + 10) := by unfold NE; omega
  have ne70 : NE (B + 3) (B + 11) := by unfold NE; omega
  have ne71 : NE (B + 3) (B + 12) := by unfold NE; omega
  have ne72 : NE (B + 3) (B + 13) := by unfold NE; omega
  have ne73 : NE (B + 3) (B + 14) := by unfold NE; omega
  have ne74 : NE (B + 3) (B + 15) := by unfold NE; omega
  have ne75 : NE (B + 3) (B + 16) := by unfold NE; omega
  have ne76 : NE (B + 3) (B + 17) := by unfold NE; omega
  have ne77 : NE (B + 3) (B + 18) := by unfold NE; omega
  have ne78 : NE (B + 3) (B + 19) := by unfold NE; omega
  have ne79 : NE (B + 3) (B + 20) := by unfold NE; omega
  have ne80 : NE (B + 3) (B + 21) := by unfold NE; omega
  have ne81 : NE (B + 3) (B + 22) := by unfold NE; omega
  have ne82 : NE (B + 4) (B + 5) := by unfold NE; omega
  have ne83 : NE (B + 4) (B + 6) := by unfold NE; omega
  have ne84 : NE (B + 4) (B + 7) := by unfold NE; omega
  have ne85 : NE (B + 4) (B + 8) := by unfold NE; omega
  have ne86 : NE (B + 4) (B + 9) := by unfold NE; omega
  have ne87 : NE (B + 4) (B + 10) := by unfold NE; omega
  have ne88 : NE (B + 4) (B + 11) := by unfold NE; omega
  have ne89 : NE (B + 4) (B + 12) := by unfold NE; omega
  have ne90 : NE (B + 4) (B + 13) := by unfold NE; omega
  have ne91 : NE (B + 4) (B + 14) := by unfold NE; omega
  have ne92 : NE (B + 4) (B + 15) := by unfold NE; omega
  have ne93 : NE (B + 4) (B + 16) := by unfold NE; omega
  have ne94 : NE (B + 4) (B + 17) := by unfold NE; omega
  have ne95 : NE (B + 4) (B + 18) := by unfold NE; omega
  have ne96 : NE (B + 4) (B + 19) := by unfold NE; omega
  have ne97 : NE (B + 4) (B + 20) := by unfold NE; omega
  have ne98 : NE (B + 4) (B + 21) := by unfold NE; omega
  have ne99 : NE (B + 4) (B + 22) := by unfold NE; omega
  have ne100 : NE (B + 5) (B + 6) := by unfold NE; omega
  have ne101 : NE (B + 5) (B + 7) := by unfold NE; omega
  have ne102 : NE (B + 5) (B + 8) := by unfold NE; omega
  have ne103 : NE (B + 5) (B + 9) := by unfold NE; omega
  have ne104 : NE (B + 5) (B + 10) := by unfold NE; omega
  have ne105 : NE (B + 5) (B + 11) := by unfold NE; omega
  have ne106 : NE (B + 5) (B + 12) := by unfold NE; omega
  have ne107 : NE (B + 5) (B + 13) := by unfold NE; omega
  have ne108 : NE (B + 5) (B + 14) := by unfold NE; omega
  have ne109 : NE (B + 5) (B + 15) := by unfold NE; omega
  have ne110 : NE (B + 5) (B + 16) := by unfold NE; omega
  have ne111 : NE (B + 5) (B + 17) := by unfold NE; omega
  have ne112 : NE (B + 5) (B + 18) := by unfold NE; omega
  have ne113 : NE (B + 5) (B + 19) := by unfold NE; omega
  have ne114 : NE (B + 5) (B + 20) := by unfold NE; omega
  have ne115 : NE (B + 5) (B + 21) := by unfold NE; omega
  have ne116 : NE (B + 5) (B + 22) := by unfold NE; omega
  have ne117 : NE (B + 6) (B + 7) := by unfold NE; omega
  have ne118 : NE (B + 6) (B + 8) := by unfold NE; omega
  have ne119 : NE (B + 6) (B + 9) := by unfold NE; omega
  have ne120 : NE (B + 6) (B + 10) := by unfold NE; omega
  have ne121 : NE (B + 6) (B + 11) := by unfold NE; omega
  have ne122 : NE (B + 6) (B + 12) := by unfold NE; omega
  have ne123 : NE (B + 6) (B + 13) := by unfold NE; omega
  have ne124 : NE (B + 6) (B + 14) := by unfold NE; omega
  have ne125 : NE (B + 6) (B + 15) := by unfold NE; omega
  have ne126 : NE (B + 6) (B + 16) := by unfold NE; omega
  have ne127 : NE (B + 6) (B + 17) := by unfold NE; omega
  have ne128 : NE (B + 6) (B + 18) := by unfold NE; omega
  have ne129 : NE (B + 6) (B + 19) := by unfold NE; omega
  have ne130 : NE (B + 6) (B + 20) := by unfold NE; omega
  have ne131 : NE (B + 6) (B + 21) := by unfold NE; omega
  have ne132 : NE (B + 6) (B + 22) := by unfold NE; omega
  have ne133 : NE (B + 7) (B + 8) := by unfold NE; omega
  have ne134 : NE (B + 7) (B + 9) := by unfold NE; omega
  have ne135 : NE (B + 7) (B + 10) := by unfold NE; omega
  have ne136 : NE (B + 7) (B + 11) := by unfold NE; omega
  have ne137 : NE (B + 7) (B + 12) := by unfold NE; omega
  have ne138 : NE (B + 7) (B + 13) := by unfold NE; omega
  have ne139 : NE (B + 7) (B + 14) := by unfold NE; omega
  have ne140 : NE (B + 7) (B + 15) := by unfold NE; omega
  have ne141 : NE (B + 7) (B + 16) := by unfold NE; omega
  have ne142 : NE (B + 7) (B + 17) := by unfold NE; omega
  have ne143 : NE (B + 7) (B + 18) := by unfold NE; omega
  have ne144 : NE (B + 7) (B + 19) := by unfold NE; omega
  have ne145 : NE (B + 7) (B + 20) := by unfold NE; omega
  have ne146 : NE (B + 7) (B + 21) := by unfold NE; omega
  have ne147 : NE (B + 7) (B + 22) := by unfold NE; omega
  have ne148 : NE (B + 8) (B + 9) := by unfold NE; omega
  have ne149 : NE (B + 8) (B + 10) := by unfold NE; omega
  have ne150 : NE (B + 8) (B + 11) := by unfold NE; omega
  have ne151 : NE (B + 8) (B + 12) := by unfold NE; omega
  have ne152 : NE (B + 8) (B + 13) := by unfold NE; omega
  have ne153 : NE (B + 8) (B + 14) := by unfold NE; omega
  have ne154 : NE (B + 8) (B + 15) := by unfold NE; omega
  have ne155 : NE (B + 8) (B + 16) := by unfold NE; omega
  have ne156 : NE (B + 8) (B + 17) := by unfold NE; omega
  have ne157 : NE (B + 8) (B + 18) := by unfold NE; omega
  have ne158 : NE (B + 8) (B + 19) := by unfold NE; omega
  have ne159 : NE (B + 8) (B + 20) := by unfold NE; omega
  have ne160 : NE (B + 8) (B + 21) := by unfold NE; omega
  have ne161 : NE (B + 8) (B + 22) := by unfold NE; omega
  have ne162 : NE (B + 9) (B + 10) := by unfold NE; omega
  have ne163 : NE (B + 9) (B + 11) := by unfold NE; omega
  have ne164 : NE (B + 9) (B + 12) := by unfold NE; omega
  have ne165 : NE (B + 9) (B + 13) := by unfold NE; omega
  have ne166 : NE (B + 9) (B + 14) := by unfold NE; omega
  have ne167 : NE (B + 9) (B + 15) := by unfold NE; omega
  have ne168 : NE (B + 9) (B + 16) := by unfold NE; omega
  have ne169 : NE (B + 9) (B + 17) := by unfold NE; omega
  have ne170 : NE (B + 9) (B + 18) := by unfold NE; omega
  have ne171 : NE (B + 9) (B + 19) := by unfold NE; omega
  have ne172 : NE (B + 9) (B + 20) := by unfold NE; omega
  have ne173 : NE (B + 9) (B + 21) := by unfold NE; omega
  have ne174 : NE (B + 9) (B + 22) := by unfold NE; omega
  have ne175 : NE (B + 10) (B + 11) := by unfold NE; omega
  have ne176 : NE (B + 10) (B + 12) := by unfold NE; omega
  have ne177 : NE (B + 10) (B + 13) := by unfold NE; omega
  have ne178 : NE (B + 10) (B + 14) := by unfold NE; omega
  have ne179 : NE (B + 10) (B + 15) := by unfold NE; omega
  have ne180 : NE (B + 10) (B + 16) := by unfold NE; omega
  have ne181 : NE (B + 10) (B + 17) := by unfold NE; omega
  have ne182 : NE (B + 10) (B + 18) := by unfold NE; omega
  have ne183 : NE (B + 10) (B + 19) := by unfold NE; omega
  have ne184 : NE (B + 10) (B + 20) := by unfold NE; omega
  have ne185 : NE (B + 10) (B + 21) := by unfold NE; omega
  have ne186 : NE (B + 10) (B + 22) := by unfold NE; omega
  have ne187 : NE (B + 11) (B + 12) := by unfold NE; omega
  have ne188 : NE (B + 11) (B + 13) := by unfold NE; omega
  have ne189 : NE (B + 11) (B + 14) := by unfold NE; omega
  have ne190 : NE (B + 11) (B + 15) := by unfold NE; omega
  have ne191 : NE (B + 11) (B + 16) := by unfold NE; omega
  have ne192 : NE (B + 11) (B + 17) := by unfold NE; omega
  have ne193 : NE (B + 11) (B + 18) := by unfold NE; omega
  have ne194 : NE (B + 11) (B + 19) := by unfold NE; omega
  have ne195 : NE (B + 11) (B + 20) := by unfold NE; omega
  have ne196 : NE (B + 11) (B + 21) := by unfold NE; omega
  have ne197 : NE (B + 11) (B + 22) := by unfold NE; omega
  have ne198 : NE (B + 12) (B + 13) := by unfold NE; omega
  have ne199 : NE (B + 12) (B + 14) := by unfold NE; omega
  have ne200 : NE (B + 12) (B + 15) := by unfold NE; omega
  have ne201 : NE (B + 12) (B + 16) := by unfold NE; omega
  have ne202 : NE (B + 12) (B + 17) := by unfold NE; omega
  have ne203 : NE (B + 12) (B + 18) := by unfold NE; omega
  have ne204 : NE (B + 12) (B + 19) := by unfold NE; omega
  have ne205 : NE (B + 12) (B + 20) := by unfold NE; omega
  have ne206 : NE (B + 12) (B + 21) := by unfold NE; omega
  have ne207 : NE (B + 12) (B + 22) := by unfold NE; omega
  have ne208 : NE (B + 13) (B + 14) := by unfold NE; omega
  have ne209 : NE (B + 13) (B + 15) := by unfold NE; omega
  have ne210 : NE (B + 13) (B + 16) := by unfold NE; omega
  have ne211 : NE (B + 13) (B + 17) := by unfold NE; omega
  have ne212 : NE (B + 13) (B + 18) := by unfold NE; omega
  have ne213 : NE (B + 13) (B + 19) := by unfold NE; omega
  have ne214 : NE (B + 13) (B + 20) := by unfold NE; omega
  have ne215 : NE (B + 13) (B + 21) := by unfold NE; omega
  have ne216 : NE (B + 13) (B + 22) := by unfold NE; omega
  have ne217 : NE (B + 14) (B + 15) := by unfold NE; omega
  have ne218 : NE (B + 14) (B + 16) := by unfold NE; omega
  have ne219 : NE (B + 14) (B + 17) := by unfold NE; omega
  have ne220 : NE (B + 14) (B + 18) := by unfold NE; omega
  have ne221 : NE (B + 14) (B + 19) := by unfold NE; omega
  have ne222 : NE (B + 14) (B + 20) := by unfold NE; omega
  have ne223 : NE (B + 14) (B + 21) := by unfold NE; omega
  have ne224 : NE (B + 14) (B + 22) := by unfold NE; omega
  have ne225 : NE (B + 15) (B + 16) := by unfold NE; omega
  have ne226 : NE (B + 15) (B + 17) := by unfold NE; omega
  have ne227 : NE (B + 15) (B + 18) := by unfold NE; omega
  have ne228 : NE (B + 15) (B + 19) := by unfold NE; omega
  have ne229 : NE (B + 15) (B + 20) := by unfold NE; omega
  have ne230 : NE (B + 15) (B + 21) := by unfold NE; omega
  have ne231 : NE (B + 15) (B + 22) := by unfold NE; omega
  have ne232 : NE (B + 16) (B + 17) := by unfold NE; omega
  have ne233 : NE (B + 16) (B + 18) := by unfold NE; omega
  have ne234 : NE (B + 16) (B + 19) := by unfold NE; omega
  have ne235 : NE (B + 16) (B + 20) := by unfold NE; omega
  have ne236 : NE (B + 16) (B + 21) := by unfold NE; omega
  have ne237 : NE (B + 16) (B + 22) := by unfold NE; omega
  have ne238 : NE (B + 17) (B + 18) := by unfold NE; omega
  have ne239 : NE (B + 17) (B + 19) := by unfold NE; omega
  have ne240 : NE (B + 17) (B + 20) := by unfold NE; omega
  have ne241 : NE (B + 17) (B + 21) := by unfold NE; omega
  have ne242 : NE (B + 17) (B + 22) := by unfold NE; omega
  have ne243 : NE (B + 18) (B + 19) := by unfold NE; omega
  have ne244 : NE (B + 18) (B + 20) := by unfold NE; omega
  have ne245 : NE (B + 18) (B + 21) := by unfold NE; omega
  have ne246 : NE (B + 18) (B + 22) := by unfold NE; omega
  have ne247 : NE (B + 19) (B + 20) := by unfold NE; omega
  have ne248 : NE (B + 19) (B + 21) := by unfold NE; omega
  have ne249 : NE (B + 19) (B + 22) := by unfold NE; omega
  have ne250 : NE (B + 20) (B + 21) := by unfold NE; omega
  have ne251 : NE (B + 20) (B + 22) := by unfold NE; omega
  have ne252 : NE (B + 21) (B + 22) := by unfold NE; omega
  obtain ⟨g9, g10, g11, g12, g13, g14, g15, x9, x10, x11, x12, x13, x14, x15, e0, e1, e2, e3⟩ := hX
  have hfb : hf = 0 ∨ hf = 1 := by omega
  refine g_iload_n 1 dX10_factorOf_0 rfl ?_
  refine g_if_lt (tgt := 21) dX10_factorOf_1 rfl (by first | assumption | (unfold gW; omega)) (fun c1 => ?_) (fun c1 => ?_)
  · skip
    refine g_iconst dX10_factorOf_21 ?_
    exact g_iret dX10_factorOf_22 rfl ⟨Fr.e0 (Fr.rf [] h), by unfold aFo; rfl⟩
  · skip
    refine g_iload_n 1 dX10_factorOf_4 rfl ?_
    refine g_aload_n 0 dX10_factorOf_5 rfl ?_
    refine g_getf 11 dX10_factorOf_6 kX10 (by decide) fX10_90 hm rfl ?_
    refine g_icmp_ge (tgt := 21) dX10_factorOf_9 rfl (by first | assumption | (unfold gW; omega)) (by first | assumption | (unfold gW; omega)) (fun c2 => ?_) (fun c2 => ?_)
    · skip
      refine g_iconst dX10_factorOf_21 ?_
      exact g_iret dX10_factorOf_22 rfl ⟨Fr.e0 (Fr.rf [] h), by unfold aFo; rfl⟩
    · skip
      refine g_iload_n 2 dX10_factorOf_12 rfl ?_
      refine g_if_lt (tgt := 21) dX10_factorOf_13 rfl (by first | assumption | (unfold gW; omega)) (fun c3 => ?_) (fun c3 => ?_)
      · skip
        refine g_iconst dX10_factorOf_21 ?_
        exact g_iret dX10_factorOf_22 rfl ⟨Fr.e0 (Fr.rf [] h), by unfold aFo; rfl⟩
      · skip
        refine g_iload_n 2 dX10_factorOf_16 rfl ?_
        refine g_iconst dX10_factorOf_17 ?_
        refine g_icmp_le (tgt := 23) dX10_factorOf_18 rfl (by first | assumption | (unfold gW; omega)) (by first | assumption | (unfold gW; omega)) (fun c4 => ?_) (fun c4 => ?_)
        · skip
          refine g_iload_n 2 dX10_factorOf_23 rfl ?_
          refine g_if_ne (tgt := 36) dX10_factorOf_24 rfl (by first | assumption | (unfold gW; omega)) (fun c5 => ?_) (fun c5 => ?_)
          · skip
            refine g_aload_n 0 dX10_factorOf_36 rfl ?_
            refine g_getf 12 dX10_factorOf_37 kX10 (by decide) fX10_36 hm rfl ?_
            refine g_iload_n 1 dX10_factorOf_40 rfl ?_
            refine g_iaload dX10_factorOf_41 x9 (by omega) (by omega) (by omega) ?_
            exfalso; omega
          · skip
            refine g_aload_n 0 dX10_factorOf_27 rfl ?_
            refine g_getf 13 dX10_factorOf_28 kX10 (by decide) fX10_39 hm rfl ?_
            refine g_iload_n 1 dX10_factorOf_31 rfl ?_
            refine g_iaload dX10_factorOf_32 x10 (by omega) (by omega) (by omega) ?_
            exfalso; omega
        · skip
          refine g_iconst dX10_factorOf_21 ?_
          exact g_iret dX10_factorOf_22 rfl ⟨Fr.e0 (Fr.rf [] h), by unfold aFo; rfl⟩
set_option maxHeartbeats 4000000 in
set_option maxRecDepth 100000 in
theorem sM_factorOfS (N : GN) (h : GH) (B p : Nat) (hp : prm p) (hp2 : p ≤ 65536) (hf le fc pn rn hn qn : Int) (f : Px p) (i w : Int) (gW_i : gW i) (gW_w : gW w) (hm : h.2 B = some (mO B p hf le fc pn rn hn qn)) (hX : MFx hp B h (some f) hf le fc pn rn) : Sp N yX10_factorOf mX10_factorOf 0 0 [.ref (B), .int (gI (i)), .int (gI (w))] h (fun v h1 => h1 = h ∧ v = some (.int (gI (aFo hp (some f) i w)))) := by
  refine Sp.of (by decide) rfl rfl (Nat.le_of_ble_eq_true rfl) ?_
  show Go N mX10_factorOf _ 0 0 h 0 [(0, .ref (B)), (1, .int (gI (i))), (2, .int (gI (w)))] []
  have hp1 := hp.1
  have neA : NE B (B + 5) := by unfold NE; omega
  have neB : NE B (B + 6) := by unfold NE; omega
  have neC : NE (B + 5) (B + 6) := by unfold NE; omega
  have ne0 : NE (B) (B + 1) := by unfold NE; omega
  have ne1 : NE (B) (B + 2) := by unfold NE; omega
  have ne2 : NE (B) (B + 3) := by unfold NE; omega
  have ne3 : NE (B) (B + 4) := by unfold NE; omega
  have ne4 : NE (B) (B + 5) := by unfold NE; omega
  have ne5 : NE (B) (B + 6) := by unfold NE; omega
  have ne6 : NE (B) (B + 7) := by unfold NE; omega
  have ne7 : NE (B) (B + 8) := by unfold NE; omega
  have ne8 : NE (B) (B + 9) := by unfold NE; omega
  have ne9 : NE (B) (B + 10) := by unfold NE; omega
  have ne10 : NE (B) (B + 11) := by unfold NE; omega
  have ne11 : NE (B) (B + 12) := by unfold NE; omega
  have ne12 : NE (B) (B + 13) := by unfold NE; omega
  have ne13 : NE (B) (B + 14) := by unfold NE; omega
  have ne14 : NE (B) (B + 15) := by unfold NE; omega
  have ne15 : NE (B) (B + 16) := by unfold NE; omega
  have ne16 : NE (B) (B + 17) := by unfold NE; omega
  have ne17 : NE (B) (B + 18) := by unfold NE; omega
  have ne18 : NE (B) (B + 19) := by unfold NE; omega
  have ne19 : NE (B) (B + 20) := by unfold NE; omega
  have ne20 : NE (B) (B + 21) := by unfold NE; omega
  have ne21 : NE (B) (B + 22) := by unfold NE; omega
  have ne22 : NE (B + 1) (B + 2) := by unfold NE; omega
  have ne23 : NE (B + 1) (B + 3) := by unfold NE; omega
  have ne24 : NE (B + 1) (B + 4) := by unfold NE; omega
  have ne25 : NE (B + 1) (B + 5) := by unfold NE; omega
  have ne26 : NE (B + 1) (B + 6) := by unfold NE; omega
  have ne27 : NE (B + 1) (B + 7) := by unfold NE; omega
  have ne28 : NE (B + 1) (B + 8) := by unfold NE; omega
  have ne29 : NE (B + 1) (B + 9) := by unfold NE; omega
  have ne30 : NE (B + 1) (B + 10) := by unfold NE; omega
  have ne31 : NE (B + 1) (B + 11) := by unfold NE; omega
  have ne32 : NE (B + 1) (B + 12) := by unfold NE; omega
  have ne33 : NE (B + 1) (B + 13) := by unfold NE; omega
  have ne34 : NE (B + 1) (B + 14) := by unfold NE; omega
  have ne35 : NE (B + 1) (B + 15) := by unfold NE; omega
  have ne36 : NE (B + 1) (B + 16) := by unfold NE; omega
  have ne37 : NE (B + 1) (B + 17) := by unfold NE; omega
  have ne38 : NE (B + 1) (B + 18) := by unfold NE; omega
  have ne39 : NE (B + 1) (B + 19) := by unfold NE; omega
  have ne40 : NE (B + 1) (B + 20) := by unfold NE; omega
  have ne41 : NE (B + 1) (B + 21) := by unfold NE; omega
  have ne42 : NE (B + 1) (B + 22) := by unfold NE; omega
  have ne43 : NE (B + 2) (B + 3) := by unfold NE; omega
  have ne44 : NE (B + 2) (B + 4) := by unfold NE; omega
  have ne45 : NE (B + 2) (B + 5) := by unfold NE; omega
  have ne46 : NE (B + 2) (B + 6) := by unfold NE; omega
  have ne47 : NE (B + 2) (B + 7) := by unfold NE; omega
  have ne48 : NE (B + 2) (B + 8) := by unfold NE; omega
  have ne49 : NE (B + 2) (B + 9) := by unfold NE; omega
  have ne50 : NE (B + 2) (B + 10) := by unfold NE; omega
  have ne51 : NE (B + 2) (B + 11) := by unfold NE; omega
  have ne52 : NE (B + 2) (B + 12) := by unfold NE; omega
  have ne53 : NE (B + 2) (B + 13) := by unfold NE; omega
  have ne54 : NE (B + 2) (B + 14) := by unfold NE; omega
  have ne55 : NE (B + 2) (B + 15) := by unfold NE; omega
  have ne56 : NE (B + 2) (B + 16) := by unfold NE; omega
  have ne57 : NE (B + 2) (B + 17) := by unfold NE; omega
  have ne58 : NE (B + 2) (B + 18) := by unfold NE; omega
  have ne59 : NE (B + 2) (B + 19) := by unfold NE; omega
  have ne60 : NE (B + 2) (B + 20) := by unfold NE; omega
  have ne61 : NE (B + 2) (B + 21) := by unfold NE; omega
  have ne62 : NE (B + 2) (B + 22) := by unfold NE; omega
  have ne63 : NE (B + 3) (B + 4) := by unfold NE; omega
  have ne64 : NE (B + 3) (B + 5) := by unfold NE; omega
  have ne65 : NE (B + 3) (B + 6) := by unfold NE; omega
  have ne66 : NE (B + 3) (B + 7) := by unfold NE; omega
  have ne67 : NE (B + 3) (B + 8) := by unfold NE; omega
  have ne68 : NE (B + 3) (B + 9) := by unfold NE; omega
  have ne69 : NE (B + 3) (B + 10) := by unfold NE; omega
  have ne70 : NE (B + 3) (B + 11) := by unfold NE; omega
  have ne71 : NE (B + 3) (B + 12) := by unfold NE; omega
  have ne72 : NE (B + 3) (B + 13) := by unfold NE; omega
  have ne73 : NE (B + 3) (B + 14) := by unfold NE; omega
  have ne74 : NE (B + 3) (B + 15) := by unfold NE; omega
  have ne75 : NE (B + 3) (B + 16) := by unfold NE; omega
  have ne76 : NE (B + 3) (B + 17) := by unfold NE; omega
  have ne77 : NE (B + 3) (B + 18) := by unfold NE; omega
  have ne78 : NE (B + 3) (B + 19) := by unfold NE; omega
  have ne79 : NE (B + 3) (B + 20) := by unfold NE; omega
  have ne80 : NE (B + 3) (B + 21) := by unfold NE; omega
  have ne81 : NE (B + 3) (B + 22) := by unfold NE; omega
  have ne82 : NE (B + 4) (B + 5) := by unfold NE; omega
  have ne83 : NE (B + 4) (B + 6) := by unfold NE; omega
  have ne84 : NE (B + 4) (B + 7) := by unfold NE; omega
  have ne85 : NE (B + 4) (B + 8) := by unfold NE; omega
  have ne86 : NE (B + 4) (B + 9) := by unfold NE; omega
  have ne87 : NE (B + 4) (B + 10) := by unfold NE; omega
  have ne88 : NE (B + 4) (B + 11) := by unfold NE; omega
  have ne89 : NE (B + 4) (B + 12) := by unfold NE; omega
  have ne90 : NE (B + 4) (B + 13) := by unfold NE; omega
  have ne91 : NE (B + 4) (B + 14) := by unfold NE; omega
  have ne92 : NE (B + 4) (B + 15) := by unfold NE; omega
  have ne93 : NE (B + 4) (B + 16) := by unfold NE; omega
  have ne94 : NE (B + 4) (B + 17) := by unfold NE; omega
  have ne95 : NE (B + 4) (B + 18) := by unfold NE; omega
  have ne96 : NE (B + 4) (B + 19) := by unfold NE; omega
  have ne97 : NE (B + 4) (B + 20) := by unfold NE; omega
  have ne98 : NE (B + 4) (B + 21) := by unfold NE; omega
  have ne99 : NE (B + 4) (B + 22) := by unfold NE; omega
  have ne100 : NE (B + 5) (B + 6) := by unfold NE; omega
  have ne101 : NE (B + 5) (B + 7) := by unfold NE; omega
  have ne102 : NE (B + 5) (B + 8) := by unfold NE; omega
  have ne103 : NE (B + 5) (B + 9) := by unfold NE; omega
  have ne104 : NE (B + 5) (B + 10) := by unfold NE; omega
  have ne105 : NE (B + 5) (B + 11) := by unfold NE; omega
  have ne106 : NE (B + 5) (B + 12) := by unfold NE; omega
  have ne107 : NE (B + 5) (B + 13) := by unfold NE; omega
  have ne108 : NE (B + 5) (B + 14) := by unfold NE; omega
  have ne109 : NE (B + 5) (B + 15) := by unfold NE; omega
  have ne110 : NE (B + 5) (B + 16) := by unfold NE; omega
  have ne111 : NE (B + 5) (B + 17) := by unfold NE; omega
  have ne112 : NE (B + 5) (B + 18) := by unfold NE; omega
  have ne113 : NE (B + 5) (B + 19) := by unfold NE; omega
  have ne114 : NE (B + 5) (B + 20) := by unfold NE; omega
  have ne115 : NE (B + 5) (B + 21) := by unfold NE; omega
  have ne116 : NE (B + 5) (B + 22) := by unfold NE; omega
  have ne117 : NE (B + 6) (B + 7) := by unfold NE; omega
  have ne118 : NE (B + 6) (B + 8) := by unfold NE; omega
  have ne119 : NE (B + 6) (B + 9) := by unfold NE; omega
  have ne120 : NE (B + 6) (B + 10) := by unfold NE; omega
  have ne121 : NE (B + 6) (B + 11) := by unfold NE; omega
  have ne122 : NE (B + 6) (B + 12) := by unfold NE; omega
  have ne123 : NE (B + 6) (B + 13) := by unfold NE; omega
  have ne124 : NE (B + 6) (B + 14) := by unfold NE; omega
  have ne125 : NE (B + 6) (B + 15) := by unfold NE; omega
  have ne126 : NE (B + 6) (B + 16) := by unfold NE; omega
  have ne127 : NE (B + 6) (B + 17) := by unfold NE; omega
  have ne128 : NE (B + 6) (B + 18) := by unfold NE; omega
  have ne129 : NE (B + 6) (B + 19) := by unfold NE; omega
  have ne130 : NE (B + 6) (B + 20) := by unfold NE; omega
  have ne131 : NE (B + 6) (B + 21) := by unfold NE; omega
  have ne132 : NE (B + 6) (B + 22) := by unfold NE; omega
  have ne133 : NE (B + 7) (B + 8) := by unfold NE; omega
  have ne134 : NE (B + 7) (B + 9) := by unfold NE; omega
  have ne135 : NE (B + 7) (B + 10) := by unfold NE; omega
  have ne136 : NE (B + 7) (B + 11) := by unfold NE; omega
  have ne137 : NE (B + 7) (B + 12) := by unfold NE; omega
  have ne138 : NE (B + 7) (B + 13) := by unfold NE; omega
  have ne139 : NE (B + 7) (B + 14) := by unfold NE; omega
  have ne140 : NE (B + 7) (B + 15) := by unfold NE; omega
  have ne141 : NE (B + 7) (B + 16) := by unfold NE; omega
  have ne142 : NE (B + 7) (B + 17) := by unfold NE; omega
  have ne143 : NE (B + 7) (B + 18) := by unfold NE; omega
  have ne144 : NE (B + 7) (B + 19) := by unfold NE; omega
  have ne145 : NE (B + 7) (B + 20) := by unfold NE; omega
  have ne146 : NE (B + 7) (B + 21) := by unfold NE; omega
  have ne147 : NE (B + 7) (B + 22) := by unfold NE; omega
  have ne148 : NE (B + 8) (B + 9) := by unfold NE; omega
  have ne149 : NE (B + 8) (B + 10) := by unfold NE; omega
  have ne150 : NE (B + 8) (B + 11) := by unfold NE; omega
  have ne151 : NE (B + 8) (B + 12) := by unfold NE; omega
  have ne152 : NE (B + 8) (B + 13) := by unfold NE; omega
  have ne153 : NE (B + 8) (B + 14) := by unfold NE; omega
  have ne154 : NE (B + 8) (B + 15) := by unfold NE; omega
  have ne155 : NE (B + 8) (B + 16) := by unfold NE; omega
  have ne156 : NE (B + 8) (B + 17) := by unfold NE; omega
  have ne157 : NE (B + 8) (B + 18) := by unfold NE; omega
  have ne158 : NE (B + 8) (B + 19) := by unfold NE; omega
  have ne159 : NE (B + 8) (B + 20) := by unfold NE; omega
  have ne160 : NE (B + 8) (B + 21) := by unfold NE; omega
  have ne161 : NE (B + 8) (B + 22) := by unfold NE; omega
  have ne162 : NE (B + 9) (B + 10) := by unfold NE; omega
  have ne163 : NE (B + 9) (B + 11) := by unfold NE; omega
  have ne164 : NE (B + 9) (B + 12) := by unfold NE; omega
  have ne165 : NE (B + 9) (B + 13) := by unfold NE; omega
  have ne166 : NE (B + 9) (B + 14) := by unfold NE; omega
  have ne167 : NE (B + 9) (B + 15) := by unfold NE; omega
  have ne168 : NE (B + 9) (B + 16) := by unfold NE; omega
  have ne169 : NE (B + 9) (B + 17) := by unfold NE; omega
  have ne170 : NE (B + 9) (B + 18) := by unfold NE; omega
  have ne171 : NE (B + 9) (B + 19) := by unfold NE; omega
  have ne172 : NE (B + 9) (B + 20) := by unfold NE; omega
  have ne173 : NE (B + 9) (B + 21) := by unfold NE; omega
  have ne174 : NE (B + 9) (B + 22) := by unfold NE; omega
  have ne175 : NE (B + 10) (B + 11) := by unfold NE; omega
  have ne176 : NE (B + 10) (B + 12) := by unfold NE; omega
  have ne177 : NE (B + 10) (B + 13) := by unfold NE; omega
  have ne178 : NE (B + 10) (B + 14) := by unfold NE; omega
  have ne179 : NE (B + 10) (B + 15) := by unfold NE; omega
  have ne180 : NE (B + 10) (B + 16) := by unfold NE; omega
  have ne181 : NE (B + 10) (B + 17) := by unfold NE; omega
  have ne182 : NE (B + 10) (B + 18) := by unfold NE; omega
  have ne183 : NE (B + 10) (B + 19) := by unfold NE; omega
  have ne184 : NE (B + 10) (B + 20) := by unfold NE; omega
  have ne185 : NE (B + 10) (B + 21) := by unfold NE; omega
  have ne186 : NE (B + 10) (B + 22) := by unfold NE; omega
  have ne187 : NE (B + 11) (B + 12) := by unfold NE; omega
  have ne188 : NE (B + 11) (B + 13) := by unfold NE; omega
  have ne189 : NE (B + 11) (B + 14) := by unfold NE; omega
  have ne190 : NE (B + 11) (B + 15) := by unfold NE; omega
  have ne191 : NE (B + 11) (B + 16) := by unfold NE; omega
  have ne192 : NE (B + 11) (B + 17) := by unfold NE; omega
  have ne193 : NE (B + 11) (B + 18) := by unfold NE; omega
  have ne194 : NE (B + 11) (B + 19) := by unfold NE; omega
  have ne195 : NE (B + 11) (B + 20) := by unfold NE; omega
  have ne196 : NE (B + 11) (B + 21) := by unfold NE; omega
  have ne197 : NE (B + 11) (B + 22) := by unfold NE; omega
  have ne198 : NE (B + 12) (B + 13) := by unfold NE; omega
  have ne199 : NE (B + 12) (B + 14) := by unfold NE; omega
  have ne200 : NE (B + 12) (B + 15) := by unfold NE; omega
  have ne201 : NE (B + 12) (B + 16) := by unfold NE; omega
  have ne202 : NE (B + 12) (B + 17) := by unfold NE; omega
  have ne203 : NE (B + 12) (B + 18) := by unfold NE; omega
  have ne204 : NE (B + 12) (B + 19) := by unfold NE; omega
  have ne205 : NE (B + 12) (B + 20) := by unfold NE; omega
  have ne206 : NE (B + 12) (B + 21) := by unfold NE; omega
  have ne207 : NE (B + 12) (B + 22) := by unfold NE; omega
  have ne208 : NE (B + 13) (B + 14) := by unfold NE; omega
  have ne209 : NE (B + 13) (B + 15) := by unfold NE; omega
  have ne210 : NE (B + 13) (B + 16) := by unfold NE; omega
  have ne211 : NE (B + 13) (B + 17) := by unfold NE; omega
  have ne212 : NE (B + 13) (B + 18) := by unfold NE; omega
  have ne213 : NE (B + 13) (B + 19) := by unfold NE; omega
  have ne214 : NE (B + 13) (B + 20) := by unfold NE; omega
  have ne215 : NE (B + 13) (B + 21) := by unfold NE; omega
  have ne216 : NE (B + 13) (B + 22) := by unfold NE; omega
  have ne217 : NE (B + 14) (B + 15) := by unfold NE; omega
  have ne218 : NE (B + 14) (B + 16) := by unfold NE; omega
  have ne219 : NE (B + 14) (B + 17) := by unfold NE; omega
  have ne220 : NE (B + 14) (B + 18) := by unfold NE; omega
  have ne221 : NE (B + 14) (B + 19) := by unfold NE; omega
  have ne222 : NE (B + 14) (B + 20) := by unfold NE; omega
  have ne223 : NE (B + 14) (B + 21) := by unfold NE; omega
  have ne224 : NE (B + 14) (B + 22) := by unfold NE; omega
  have ne225 : NE (B + 15) (B + 16) := by unfold NE; omega
  have ne226 : NE (B + 15) (B + 17) := by unfold NE; omega
  have ne227 : NE (B + 15) (B + 18) := by unfold NE; omega
  have ne228 : NE (B + 15) (B + 19) := by unfold NE; omega
  have ne229 : NE (B + 15) (B + 20) := by unfold NE; omega
  have ne230 : NE (B + 15) (B + 21) := by unfold NE; omega
  have ne231 : NE (B + 15) (B + 22) := by unfold NE; omega
  have ne232 : NE (B + 16) (B + 17) := by unfold NE; omega
  have ne233 : NE (B + 16) (B + 18) := by unfold NE; omega
  have ne234 : NE (B + 16) (B + 19) := by unfold NE; omega
  have ne235 : NE (B + 16) (B + 20) := by unfold NE; omega
  have ne236 : NE (B + 16) (B + 21) := by unfold NE; omega
  have ne237 : NE (B + 16) (B + 22) := by unfold NE; omega
  have ne238 : NE (B + 17) (B + 18) := by unfold NE; omega
  have ne239 : NE (B + 17) (B + 19) := by unfold NE; omega
  have ne240 : NE (B + 17) (B + 20) := by unfold NE; omega
  have ne241 : NE (B + 17) (B + 21) := by unfold NE; omega
  have ne242 : NE (B + 17) (B + 22) := by unfold NE; omega
  have ne243 : NE (B + 18) (B + 19) := by unfold NE; omega
  have ne244 : NE (B + 18) (B + 20) := by unfold NE; omega
  have ne245 : NE (B + 18) (B + 21) := by unfold NE; omega
  have ne246 : NE (B + 18) (B + 22) := by unfold NE; omega
  have ne247 : NE (B + 19) (B + 20) := by unfold NE; omega
  have ne248 : NE (B + 19) (B + 21) := by unfold NE; omega
  have ne249 : NE (B + 19) (B + 22) := by unfold NE; omega
  have ne250 : NE (B + 20) (B + 21) := by unfold NE; omega
  have ne251 : NE (B + 20) (B + 22) := by unfold NE; omega
  have ne252 : NE (B + 21) (B + 22) := by unfold NE; omega
  obtain ⟨g9, g10, g11, g12, g13, g14, g15, x9, x10, x11, x12, x13, x14, x15, e0, e1, e2, e3, e4, hbd, hF, hK, hR⟩ := hX
  have hfb : hf = 0 ∨ hf = 1 := by omega
  refine g_iload_n 1 dX10_factorOf_0 rfl ?_
  refine g_if_lt (tgt := 21) dX10_factorOf_1 rfl (by first | assumption | (unfold gW; omega)) (fun c1 => ?_) (fun c1 => ?_)
  · skip
    refine g_iconst dX10_factorOf_21 ?_
    exact g_iret dX10_factorOf_22 rfl ⟨Fr.e0 (Fr.rf [] h), by unfold aFo; dsimp only; rw [if_neg (by omega)]⟩
  · skip
    refine g_iload_n 1 dX10_factorOf_4 rfl ?_
    refine g_aload_n 0 dX10_factorOf_5 rfl ?_
    refine g_getf 11 dX10_factorOf_6 kX10 (by decide) fX10_90 hm rfl ?_
    refine g_icmp_ge (tgt := 21) dX10_factorOf_9 rfl (by first | assumption | (unfold gW; omega)) (by first | assumption | (unfold gW; omega)) (fun c2 => ?_) (fun c2 => ?_)
    · skip
      refine g_iconst dX10_factorOf_21 ?_
      exact g_iret dX10_factorOf_22 rfl ⟨Fr.e0 (Fr.rf [] h), by unfold aFo; dsimp only; rw [if_neg (by omega)]⟩
    · skip
      refine g_iload_n 2 dX10_factorOf_12 rfl ?_
      refine g_if_lt (tgt := 21) dX10_factorOf_13 rfl (by first | assumption | (unfold gW; omega)) (fun c3 => ?_) (fun c3 => ?_)
      · skip
        refine g_iconst dX10_factorOf_21 ?_
        exact g_iret dX10_factorOf_22 rfl ⟨Fr.e0 (Fr.rf [] h), by unfold aFo; dsimp only; rw [if_neg (by omega)]⟩
      · skip
        refine g_iload_n 2 dX10_factorOf_16 rfl ?_
        refine g_iconst dX10_factorOf_17 ?_
        refine g_icmp_le (tgt := 23) dX10_factorOf_18 rfl (by first | assumption | (unfold gW; omega)) (by first | assumption | (unfold gW; omega)) (fun c4 => ?_) (fun c4 => ?_)
        · skip
          refine g_iload_n 2 dX10_factorOf_23 rfl ?_
          refine g_if_ne (tgt := 36) dX10_factorOf_24 rfl (by first | assumption | (unfold gW; omega)) (fun c5 => ?_) (fun c5 => ?_)
          · skip
            refine g_aload_n 0 dX10_factorOf_36 rfl ?_
            refine g_getf 12 dX10_factorOf_37 kX10 (by decide) fX10_36 hm rfl ?_
            refine g_iload_n 1 dX10_factorOf_40 rfl ?_
            refine g_iaload dX10_factorOf_41 x9 (by omega) (by omega) (by omega) ?_
            have hv_ : (g9) (i) = dgi hp (fP hp f i) := by exact (hF i (by omega) (by omega)).2.2.1
            rw [hv_]
            exact g_iret dX10_factorOf_42 rfl ⟨Fr.e0 (Fr.rf [] h), by unfold aFo; dsimp only; rw [if_pos (by omega), if_neg (by omega)]⟩
          · skip
            refine g_aload_n 0 dX10_factorOf_27 rfl ?_
            refine g_getf 13 dX10_factorOf_28 kX10 (by decide) fX10_39 hm rfl ?_
            refine g_iload_n 1 dX10_factorOf_31 rfl ?_
            refine g_iaload dX10_factorOf_32 x10 (by omega) (by omega) (by omega) ?_
            have hv_ : (g10) (i) = fE hp f i := by exact (hF i (by omega) (by omega)).2.2.2.1
            rw [hv_]
            refine g_goto (tgt := 42) dX10_factorOf_33 rfl ?_
            exact g_iret dX10_factorOf_42 rfl ⟨Fr.e0 (Fr.rf [] h), by unfold aFo; dsimp only; rw [if_pos (by omega), if_pos (by omega)]⟩
        · skip
          refine g_iconst dX10_factorOf_21 ?_
          exact g_iret dX10_factorOf_22 rfl ⟨Fr.e0 (Fr.rf [] h), by unfold aFo; dsimp only; rw [if_neg (by omega)]⟩
theorem sM_factorOf (N : GN) (h : GH) (B p : Nat) (hp : prm p) (hp2 : p ≤ 65536) (hf le fc pn rn hn qn : Int) (fo : Option (Px p)) (i w : Int) (gW_i : gW i) (gW_w : gW w) (hm : h.2 B = some (mO B p hf le fc pn rn hn qn)) (hX : MFx hp B h fo hf le fc pn rn) : Sp N yX10_factorOf mX10_factorOf 0 0 [.ref (B), .int (gI (i)), .int (gI (w))] h (fun v h1 => h1 = h ∧ v = some (.int (gI (aFo hp (fo) i w)))) := by
  cases fo with
  | none => exact sM_factorOfN N h B p hp hp2 hf le fc pn rn hn qn i w gW_i gW_w hm hX
  | some f => exact sM_factorOfS N h B p hp hp2 hf le fc pn rn hn qn f i w gW_i gW_w hm hX
set_option maxHeartbeats 4000000 in
set_option maxRecDepth 100000 in
theorem sM_factorAtN (N : GN) (h : GH) (B p : Nat) (hp : prm p) (hp2 : p ≤ 65536) (hf le fc pn rn hn qn : Int)  (i k : Int) (gW_i : gW i) (gW_k : gW k) (hm : h.2 B = some (mO B p hf le fc pn rn hn qn)) (hX : MFx hp B h (none) hf le fc pn rn) : Sp N yX10_factorAt mX10_factorAt 0 0 [.ref (B), .int (gI (i)), .int (gI (k))] h (fun v h1 => h1 = h ∧ v = some (.int (gI (aFa hp (none) i k)))) := by
  refine Sp.of (by decide) rfl rfl (Nat.le_of_ble_eq_true rfl) ?_
  show Go N mX10_factorAt _ 0 0 h 0 [(0, .ref (B)), (1, .int (gI (i))), (2, .int (gI (k)))] []
  have hp1 := hp.1
  have neA : NE B (B + 5) := by unfold NE; omega
  have neB : NE B (B + 6) := by unfold NE; omega
  have neC : NE (B + 5) (B + 6) := by unfold NE; omega
  have ne0 : NE (B) (B + 1) := by unfold NE; omega
  have ne1 : NE (B) (B + 2) := by unfold NE; omega
  have ne2 : NE (B) (B + 3) := by unfold NE; omega
  have ne3 : NE (B) (B + 4) := by unfold NE; omega
  have ne4 : NE (B) (B + 5) := by unfold NE; omega
  have ne5 : NE (B) (B + 6) := by unfold NE; omega
  have ne6 : NE (B) (B + 7) := by unfold NE; omega
  have ne7 : NE (B) (B + 8) := by unfold NE; omega
  have ne8 : NE (B) (B + 9) := by unfold NE; omega
  have ne9 : NE (B) (B + 10) := by unfold NE; omega
  have ne10 : NE (B) (B + 11) := by unfold NE; omega
  have ne11 : NE (B) (B + 12) := by unfold NE; omega
  have ne12 : NE (B) (B + 13) := by unfold NE; omega
  have ne13 : NE (B) (B + 14) := by unfold NE; omega
  have ne14 : NE (B) (B + 15) := by unfold NE; omega
  have ne15 : NE (B) (B + 16) := by unfold NE; omega
  have ne16 : NE (B) (B + 17) := by unfold NE; omega
  have ne17 : NE (B) (B + 18) := by unfold NE; omega
  have ne18 : NE (B) (B + 19) := by unfold NE; omega
  have ne19 : NE (B) (B + 20) := by unfold NE; omega
  have ne20 : NE (B) (B + 21) := by unfold NE; omega
  have ne21 : NE (B) (B + 22) := by unfold NE; omega
  have ne22 : NE (B + 1) (B + 2) := by unfold NE; omega
  have ne23 : NE (B + 1) (B + 3) := by unfold NE; omega
  have ne24 : NE (B + 1) (B + 4) := by unfold NE; omega
  have ne25 : NE (B + 1) (B + 5) := by unfold NE; omega
  have ne26 : NE (B + 1) (B + 6) := by unfold NE; omega
  have ne27 : NE (B + 1) (B + 7) := by unfold NE; omega
  have ne28 : NE (B + 1) (B + 8) := by unfold NE; omega
  have ne29 : NE (B + 1) (B + 9) := by unfold NE; omega
  have ne30 : NE (B + 1) (B + 10) := by unfold NE; omega
  have ne31 : NE (B + 1) (B + 11) := by unfold NE; omega
  have ne32 : NE (B + 1) (B + 12) := by unfold NE; omega
  have ne33 : NE (B + 1) (B + 13) := by unfold NE; omega
  have ne34 : NE (B + 1) (B + 14) := by unfold NE; omega
  have ne35 : NE (B + 1) (B + 15) := by unfold NE; omega
  have ne36 : NE (B + 1) (B + 16) := by unfold NE; omega
  have ne37 : NE (B + 1) (B + 17) := by unfold NE; omega
  have ne38 : NE (B + 1) (B + 18) := by unfold NE; omega
  have ne39 : NE (B + 1) (B + 19) := by unfold NE; omega
  have ne40 : NE (B + 1) (B + 20) := by unfold NE; omega
  have ne41 : NE (B + 1) (B + 21) := by unfold NE; omega
  have ne42 : NE (B + 1) (B + 22) := by unfold NE; omega
  have ne43 : NE (B + 2) (B + 3) := by unfold NE; omega
  have ne44 : NE (B + 2) (B + 4) := by unfold NE; omega
  have ne45 : NE (B + 2) (B + 5) := by unfold NE; omega
  have ne46 : NE (B + 2) (B + 6) := by unfold NE; omega
  have ne47 : NE (B + 2) (B + 7) := by unfold NE; omega
  have ne48 : NE (B + 2) (B + 8) := by unfold NE; omega
  have ne49 : NE (B + 2) (B + 9) := by unfold NE; omega
  have ne50 : NE (B + 2) (B + 10) := by unfold NE; omega
  have ne51 : NE (B + 2) (B + 11) := by unfold NE; omega
  have ne52 : NE (B + 2) (B + 12) := by unfold NE; omega
  have ne53 : NE (B + 2) (B + 13) := by unfold NE; omega
  have ne54 : NE (B + 2) (B + 14) := by unfold NE; omega
  have ne55 : NE (B + 2) (B + 15) := by unfold NE; omega
  have ne56 : NE (B + 2) (B + 16) := by unfold NE; omega
  have ne57 : NE (B + 2) (B + 17) := by unfold NE; omega
  have ne58 : NE (B + 2) (B + 18) := by unfold NE; omega
  have ne59 : NE (B + 2) (B + 19) := by unfold NE; omega
  have ne60 : NE (B + 2) (B + 20) := by unfold NE; omega
  have ne61 : NE (B + 2) (B + 21) := by unfold NE; omega
  have ne62 : NE (B + 2) (B + 22) := by unfold NE; omega
  have ne63 : NE (B + 3) (B + 4) := by unfold NE; omega
  have ne64 : NE (B + 3) (B + 5) := by unfold NE; omega
  have ne65 : NE (B + 3) (B + 6) := by unfold NE; omega
  have ne66 : NE (B + 3) (B + 7) := by unfold NE; omega
  have ne67 : NE (B + 3) (B + 8) := by unfold NE; omega
  have ne68 : NE (B + 3) (B + 9) := by unfold NE; omega
  have ne69 : NE (B + 3) (B + 10) := by unfold NE; omega
  have ne70 : NE (B + 3) (B + 11) := by unfold NE; omega
  have ne71 : NE (B + 3) (B + 12) := by unfold NE; omega
  have ne72 : NE (B + 3) (B + 13) := by unfold NE; omega
  have ne73 : NE (B + 3) (B + 14) := by unfold NE; omega
  have ne74 : NE (B + 3) (B + 15) := by unfold NE; omega
  have ne75 : NE (B + 3) (B + 16) := by unfold NE; omega
  have ne76 : NE (B + 3) (B + 17) := by unfold NE; omega
  have ne77 : NE (B + 3) (B + 18) := by unfold NE; omega
  have ne78 : NE (B + 3) (B + 19) := by unfold NE; omega
  have ne79 : NE (B + 3) (B + 20) := by unfold NE; omega
  have ne80 : NE (B + 3) (B + 21) := by unfold NE; omega
  have ne81 : NE (B + 3) (B + 22) := by unfold NE; omega
  have ne82 : NE (B + 4) (B + 5) := by unfold NE; omega
  have ne83 : NE (B + 4) (B + 6) := by unfold NE; omega
  have ne84 : NE (B + 4) (B + 7) := by unfold NE; omega
  have ne85 : NE (B + 4) (B + 8) := by unfold NE; omega
  have ne86 : NE (B + 4) (B + 9) := by unfold NE; omega
  have ne87 : NE (B + 4) (B + 10) := by unfold NE; omega
  have ne88 : NE (B + 4) (B + 11) := by unfold NE; omega
  have ne89 : NE (B + 4) (B + 12) := by unfold NE; omega
  have ne90 : NE (B + 4) (B + 13) := by unfold NE; omega
  have ne91 : NE (B + 4) (B + 14) := by unfold NE; omega
  have ne92 : NE (B + 4) (B + 15) := by unfold NE; omega
  have ne93 : NE (B + 4) (B + 16) := by unfold NE; omega
  have ne94 : NE (B + 4) (B + 17) := by unfold NE; omega
  have ne95 : NE (B + 4) (B + 18) := by unfold NE; omega
  have ne96 : NE (B + 4) (B + 19) := by unfold NE; omega
  have ne97 : NE (B + 4) (B + 20) := by unfold NE; omega
  have ne98 : NE (B + 4) (B + 21) := by unfold NE; omega
  have ne99 : NE (B + 4) (B + 22) := by unfold NE; omega
  have ne100 : NE (B + 5) (B + 6) := by unfold NE; omega
  have ne101 : NE (B + 5) (B + 7) := by unfold NE; omega
  have ne102 : NE (B + 5) (B + 8) := by unfold NE; omega
  have ne103 : NE (B + 5) (B + 9) := by unfold NE; omega
  have ne104 : NE (B + 5) (B + 10) := by unfold NE; omega
  have ne105 : NE (B + 5) (B + 11) := by unfold NE; omega
  have ne106 : NE (B + 5) (B + 12) := by unfold NE; omega
  have ne107 : NE (B + 5) (B + 13) := by unfold NE; omega
  have ne108 : NE (B + 5) (B + 14) := by unfold NE; omega
  have ne109 : NE (B + 5) (B + 15) := by unfold NE; omega
  have ne110 : NE (B + 5) (B + 16) := by unfold NE; omega
  have ne111 : NE (B + 5) (B + 17) := by unfold NE; omega
  have ne112 : NE (B + 5) (B + 18) := by unfold NE; omega
  have ne113 : NE (B + 5) (B + 19) := by unfold NE; omega
  have ne114 : NE (B + 5) (B + 20) := by unfold NE; omega
  have ne115 : NE (B + 5) (B + 21) := by unfold NE; omega
  have ne116 : NE (B + 5) (B + 22) := by unfold NE; omega
  have ne117 : NE (B + 6) (B + 7) := by unfold NE; omega
  have ne118 : NE (B + 6) (B + 8) := by unfold NE; omega
  have ne119 : NE (B + 6) (B + 9) := by unfold NE; omega
  have ne120 : NE (B + 6) (B + 10) := by unfold NE; omega
  have ne121 : NE (B + 6) (B + 11) := by unfold NE; omega
  have ne122 : NE (B + 6) (B + 12) := by unfold NE; omega
  have ne123 : NE (B + 6) (B + 13) := by unfold NE; omega
  have ne124 : NE (B + 6) (B + 14) := by unfold NE; omega
  have ne125 : NE (B + 6) (B + 15) := by unfold NE; omega
  have ne126 : NE (B + 6) (B + 16) := by unfold NE; omega
  have ne127 : NE (B + 6) (B + 17) := by unfold NE; omega
  have ne128 : NE (B + 6) (B + 18) := by unfold NE; omega
  have ne129 : NE (B + 6) (B + 19) := by unfold NE; omega
  have ne130 : NE (B + 6) (B + 20) := by unfold NE; omega
  have ne131 : NE (B + 6) (B + 21) := by unfold NE; omega
  have ne132 : NE (B + 6) (B + 22) := by unfold NE; omega
  have ne133 : NE (B + 7) (B + 8) := by unfold NE; omega
  have ne134 : NE (B + 7) (B + 9) := by unfold NE; omega
  have ne135 : NE (B + 7) (B + 10) := by unfold NE; omega
  have ne136 : NE (B + 7) (B + 11) := by unfold NE; omega
  have ne137 : NE (B + 7) (B + 12) := by unfold NE; omega
  have ne138 : NE (B + 7) (B + 13) := by unfold NE; omega
  have ne139 : NE (B + 7) (B + 14) := by unfold NE; omega
  have ne140 : NE (B + 7) (B + 15) := by unfold NE; omega
  have ne141 : NE (B + 7) (B + 16) := by unfold NE; omega
  have ne142 : NE (B + 7) (B + 17) := by unfold NE; omega
  have ne143 : NE (B + 7) (B + 18) := by unfold NE; omega
  have ne144 : NE (B + 7) (B + 19) := by unfold NE; omega
  have ne145 : NE (B + 7) (B + 20) := by unfold NE; omega
  have ne146 : NE (B + 7) (B + 21) := by unfold NE; omega
  have ne147 : NE (B + 7) (B + 22) := by unfold NE; omega
  have ne148 : NE (B + 8) (B + 9) := by unfold NE; omega
  have ne149 : NE (B + 8) (B + 10) := by unfold NE; omega
  have ne150 : NE (B + 8) (B + 11) := by unfold NE; omega
  have ne151 : NE (B + 8) (B + 12) := by unfold NE; omega
  have ne152 : NE (B + 8) (B + 13) := by unfold NE; omega
  have ne153 : NE (B + 8) (B + 14) := by unfold NE; omega
  have ne154 : NE (B + 8) (B + 15) := by unfold NE; omega
  have ne155 : NE (B + 8) (B + 16) := by unfold NE; omega
  have ne156 : NE (B + 8) (B + 17) := by unfold NE; omega
  have ne157 : NE (B + 8) (B + 18) := by unfold NE; omega
  have ne158 : NE (B + 8) (B + 19) := by unfold NE; omega
  have ne159 : NE (B + 8) (B + 20) := by unfold NE; omega
  have ne160 : NE (B + 8) (B + 21) := by unfold NE; omega
  have ne161 : NE (B + 8) (B + 22) := by unfold NE; omega
  have ne162 : NE (B + 9) (B + 10) := by unfold NE; omega
  have ne163 : NE (B + 9) (B + 11) := by unfold NE; omega
  have ne164 : NE (B + 9) (B + 12) := by unfold NE; omega
  have ne165 : NE (B + 9) (B + 13) := by unfold NE; omega
  have ne166 : NE (B + 9) (B + 14) := by unfold NE; omega
  have ne167 : NE (B + 9) (B + 15) := by unfold NE; omega
  have ne168 : NE (B + 9) (B + 16) := by unfold NE; omega
  have ne169 : NE (B + 9) (B + 17) := by unfold NE; omega
  have ne170 : NE (B + 9) (B + 18) := by unfold NE; omega
  have ne171 : NE (B + 9) (B + 19) := by unfold NE; omega
  have ne172 : NE (B + 9) (B + 20) := by unfold NE; omega
  have ne173 : NE (B + 9) (B + 21) := by unfold NE; omega
  have ne174 : NE (B + 9) (B + 22) := by unfold NE; omega
  have ne175 : NE (B + 10) (B + 11) := by unfold NE; omega
  have ne176 : NE (B + 10) (B + 12) := by unfold NE; omega
  have ne177 : NE (B + 10) (B + 13) := by unfold NE; omega
  have ne178 : NE (B + 10) (B + 14) := by unfold NE; omega
  have ne179 : NE (B + 10) (B + 15) := by unfold NE; omega
  have ne180 : NE (B + 10) (B + 16) := by unfold NE; omega
  have ne181 : NE (B + 10) (B + 17) := by unfold NE; omega
  have ne182 : NE (B + 10) (B + 18) := by unfold NE; omega
  have ne183 : NE (B + 10) (B + 19) := by unfold NE; omega
  have ne184 : NE (B + 10) (B + 20) := by unfold NE; omega
  have ne185 : NE (B + 10) (B + 21) := by unfold NE; omega
  have ne186 : NE (B + 10) (B + 22) := by unfold NE; omega
  have ne187 : NE (B + 11) (B + 12) := by unfold NE; omega
  have ne188 : NE (B + 11) (B + 13) := by unfold NE; omega
  have ne189 : NE (B + 11) (B + 14) := by unfold NE; omega
  have ne190 : NE (B + 11) (B + 15) := by unfold NE; omega
  have ne191 : NE (B + 11) (B + 16) := by unfold NE; omega
  have ne192 : NE (B + 11) (B + 17) := by unfold NE; omega
  have ne193 : NE (B + 11) (B + 18) := by unfold NE; omega
  have ne194 : NE (B + 11) (B + 19) := by unfold NE; omega
  have ne195 : NE (B + 11) (B + 20) := by unfold NE; omega
  have ne196 : NE (B + 11) (B + 21) := by unfold NE; omega
  have ne197 : NE (B + 11) (B + 22) := by unfold NE; omega
  have ne198 : NE (B + 12) (B + 13) := by unfold NE; omega
  have ne199 : NE (B + 12) (B + 14) := by unfold NE; omega
  have ne200 : NE (B + 12) (B + 15) := by unfold NE; omega
  have ne201 : NE (B + 12) (B + 16) := by unfold NE; omega
  have ne202 : NE (B + 12) (B + 17) := by unfold NE; omega
  have ne203 : NE (B + 12) (B + 18) := by unfold NE; omega
  have ne204 : NE (B + 12) (B + 19) := by unfold NE; omega
  have ne205 : NE (B + 12) (B + 20) := by unfold NE; omega
  have ne206 : NE (B + 12) (B + 21) := by unfold NE; omega
  have ne207 : NE (B + 12) (B + 22) := by unfold NE; omega
  have ne208 : NE (B + 13) (B + 14) := by unfold NE; omega
  have ne209 : NE (B + 13) (B + 15) := by unfold NE; omega
  have ne210 : NE (B + 13) (B + 16) := by unfold NE; omega
  have ne211 : NE (B + 13) (B + 17) := by unfold NE; omega
  have ne212 : NE (B + 13) (B + 18) := by unfold NE; omega
  have ne213 : NE (B + 13) (B + 19) := by unfold NE; omega
  have ne214 : NE (B + 13) (B + 20) := by unfold NE; omega
  have ne215 : NE (B + 13) (B + 21) := by unfold NE; omega
  have ne216 : NE (B + 13) (B + 22) := by unfold NE; omega
  have ne217 : NE (B + 14) (B + 15) := by unfold NE; omega
  have ne218 : NE (B + 14) (B + 16) := by unfold NE; omega
  have ne219 : NE (B + 14) (B + 17) := by unfold NE; omega
  have ne220 : NE (B + 14) (B + 18) := by unfold NE; omega
  have ne221 : NE (B + 14) (B + 19) := by unfold NE; omega
  have ne222 : NE (B + 14) (B + 20) := by unfold NE; omega
  have ne223 : NE (B + 14) (B + 21) := by unfold NE; omega
  have ne224 : NE (B + 14) (B + 22) := by unfold NE; omega
  have ne225 : NE (B + 15) (B + 16) := by unfold NE; omega
  have ne226 : NE (B + 15) (B + 17) := by unfold NE; omega
  have ne227 : NE (B + 15) (B + 18) := by unfold NE; omega
  have ne228 : NE (B + 15) (B + 19) := by unfold NE; omega
  have ne229 : NE (B + 15) (B + 20) := by unfold NE; omega
  have ne230 : NE (B + 15) (B + 21) := by unfold NE; omega
  have ne231 : NE (B + 15) (B + 22) := by unfold NE; omega
  have ne232 : NE (B + 16) (B + 17) := by unfold NE; omega
  have ne233 : NE (B + 16) (B + 18) := by unfold NE; omega
  have ne234 : NE (B + 16) (B + 19) := by unfold NE; omega
  have ne235 : NE (B + 16) (B + 20) := by unfold NE; omega
  have ne236 : NE (B + 16) (B + 21) := by unfold NE; omega
  have ne237 : NE (B + 16) (B + 22) := by unfold NE; omega
  have ne238 : NE (B + 17) (B + 18) := by unfold NE; omega
  have ne239 : NE (B + 17) (B + 19) := by unfold NE; omega
  have ne240 : NE (B + 17) (B + 20) := by unfold NE; omega
  have ne241 : NE (B + 17) (B + 21) := by unfold NE; omega
  have ne242 : NE (B + 17) (B + 22) := by unfold NE; omega
  have ne243 : NE (B + 18) (B + 19) := by unfold NE; omega
  have ne244 : NE (B + 18) (B + 20) := by unfold NE; omega
  have ne245 : NE (B + 18) (B + 21) := by unfold NE; omega
  have ne246 : NE (B + 18) (B + 22) := by unfold NE; omega
  have ne247 : NE (B + 19) (B + 20) := by unfold NE; omega
  have ne248 : NE (B + 19) (B + 21) := by unfold NE; omega
  have ne249 : NE (B + 19) (B + 22) := by unfold NE; omega
  have ne250 : NE (B + 20) (B + 21) := by unfold NE; omega
  have ne251 : NE (B + 20) (B + 22) := by unfold NE; omega
  have ne252 : NE (B + 21) (B + 22) := by unfold NE; omega
  obtain ⟨g9, g10, g11, g12, g13, g14, g15, x9, x10, x11, x12, x13, x14, x15, e0, e1, e2, e3⟩ := hX
  have hfb : hf = 0 ∨ hf = 1 := by omega
  refine g_iload_n 1 dX10_factorAt_0 rfl ?_
  refine g_if_lt (tgt := 22) dX10_factorAt_1 rfl (by first | assumption | (unfold gW; omega)) (fun c1 => ?_) (fun c1 => ?_)
  · skip
    refine g_iconst dX10_factorAt_22 ?_
    refine g_goto (tgt := 37) dX10_factorAt_23 rfl ?_
    exact g_iret dX10_factorAt_37 rfl ⟨Fr.e0 (Fr.rf [] h), by unfold aFa; rfl⟩
  · skip
    refine g_iload_n 1 dX10_factorAt_4 rfl ?_
    refine g_aload_n 0 dX10_factorAt_5 rfl ?_
    refine g_getf 11 dX10_factorAt_6 kX10 (by decide) fX10_90 hm rfl ?_
    refine g_icmp_ge (tgt := 22) dX10_factorAt_9 rfl (by first | assumption | (unfold gW; omega)) (by first | assumption | (unfold gW; omega)) (fun c2 => ?_) (fun c2 => ?_)
    · skip
      refine g_iconst dX10_factorAt_22 ?_
      refine g_goto (tgt := 37) dX10_factorAt_23 rfl ?_
      exact g_iret dX10_factorAt_37 rfl ⟨Fr.e0 (Fr.rf [] h), by unfold aFa; rfl⟩
    · skip
      refine g_iload_n 2 dX10_factorAt_12 rfl ?_
      refine g_if_lt (tgt := 22) dX10_factorAt_13 rfl (by first | assumption | (unfold gW; omega)) (fun c3 => ?_) (fun c3 => ?_)
      · skip
        refine g_iconst dX10_factorAt_22 ?_
        refine g_goto (tgt := 37) dX10_factorAt_23 rfl ?_
        exact g_iret dX10_factorAt_37 rfl ⟨Fr.e0 (Fr.rf [] h), by unfold aFa; rfl⟩
      · skip
        refine g_iload_n 2 dX10_factorAt_16 rfl ?_
        refine g_bipush dX10_factorAt_17 (by decide) ?_
        refine g_icmp_le (tgt := 26) dX10_factorAt_19 rfl (by first | assumption | (unfold gW; omega)) (by first | assumption | (unfold gW; omega)) (fun c4 => ?_) (fun c4 => ?_)
        · skip
          exfalso; omega
        · skip
          refine g_iconst dX10_factorAt_22 ?_
          refine g_goto (tgt := 37) dX10_factorAt_23 rfl ?_
          exact g_iret dX10_factorAt_37 rfl ⟨Fr.e0 (Fr.rf [] h), by unfold aFa; rfl⟩
set_option maxHeartbeats 4000000 in
set_option maxRecDepth 100000 in
theorem sM_factorAtS (N : GN) (h : GH) (B p : Nat) (hp : prm p) (hp2 : p ≤ 65536) (hf le fc pn rn hn qn : Int) (f : Px p) (i k : Int) (gW_i : gW i) (gW_k : gW k) (hm : h.2 B = some (mO B p hf le fc pn rn hn qn)) (hX : MFx hp B h (some f) hf le fc pn rn) : Sp N yX10_factorAt mX10_factorAt 0 0 [.ref (B), .int (gI (i)), .int (gI (k))] h (fun v h1 => h1 = h ∧ v = some (.int (gI (aFa hp (some f) i k)))) := by
  refine Sp.of (by decide) rfl rfl (Nat.le_of_ble_eq_true rfl) ?_
  show Go N mX10_factorAt _ 0 0 h 0 [(0, .ref (B)), (1, .int (gI (i))), (2, .int (gI (k)))] []
  have hp1 := hp.1
  have neA : NE B (B + 5) := by unfold NE; omega
  have neB : NE B (B + 6) := by unfold NE; omega
  have neC : NE (B + 5) (B + 6) := by unfold NE; omega
  have ne0 : NE (B) (B + 1) := by unfold NE; omega
  have ne1 : NE (B) (B + 2) := by unfold NE; omega
  have ne2 : NE (B) (B + 3) := by unfold NE; omega
  have ne3 : NE (B) (B + 4) := by unfold NE; omega
  have ne4 : NE (B) (B + 5) := by unfold NE; omega
  have ne5 : NE (B) (B + 6) := by unfold NE; omega
  have ne6 : NE (B) (B + 7) := by unfold NE; omega
  have ne7 : NE (B) (B + 8) := by unfold NE; omega
  have ne8 : NE (B) (B + 9) := by unfold NE; omega
  have ne9 : NE (B) (B + 10) := by unfold NE; omega
  have ne10 : NE (B) (B + 11) := by unfold NE; omega
  have ne11 : NE (B) (B + 12) := by unfold NE; omega
  have ne12 : NE (B) (B + 13) := by unfold NE; omega
  have ne13 : NE (B) (B + 14) := by unfold NE; omega
  have ne14 : NE (B) (B + 15) := by unfold NE; omega
  have ne15 : NE (B) (B + 16) := by unfold NE; omega
  have ne16 : NE (B) (B + 17) := by unfold NE; omega
  have ne17 : NE (B) (B + 18) := by unfold NE; omega
  have ne18 : NE (B) (B + 19) := by unfold NE; omega
  have ne19 : NE (B) (B + 20) := by unfold NE; omega
  have ne20 : NE (B) (B + 21) := by unfold NE; omega
  have ne21 : NE (B) (B + 22) := by unfold NE; omega
  have ne22 : NE (B + 1) (B + 2) := by unfold NE; omega
  have ne23 : NE (B + 1) (B + 3) := by unfold NE; omega
  have ne24 : NE (B + 1) (B + 4) := by unfold NE; omega
  have ne25 : NE (B + 1) (B + 5) := by unfold NE; omega
  have ne26 : NE (B + 1) (B + 6) := by unfold NE; omega
  have ne27 : NE (B + 1) (B + 7) := by unfold NE; omega
  have ne28 : NE (B + 1) (B + 8) := by unfold NE; omega
  have ne29 : NE (B + 1) (B + 9) := by unfold NE; omega
  have ne30 : NE (B + 1) (B + 10) := by unfold NE; omega
  have ne31 : NE (B + 1) (B + 11) := by unfold NE; omega
  have ne32 : NE (B + 1) (B + 12) := by unfold NE; omega
  have ne33 : NE (B + 1) (B + 13) := by unfold NE; omega
  have ne34 : NE (B + 1) (B + 14) := by unfold NE; omega
  have ne35 : NE (B + 1) (B + 15) := by unfold NE; omega
  have ne36 : NE (B + 1) (B + 16) := by unfold NE; omega
  have ne37 : NE (B + 1) (B + 17) := by unfold NE; omega
  have ne38 : NE (B + 1) (B + 18) := by unfold NE; omega
  have ne39 : NE (B + 1) (B + 19) := by unfold NE; omega
  have ne40 : NE (B + 1) (B + 20) := by unfold NE; omega
  have ne41 : NE (B + 1) (B + 21) := by unfold NE; omega
  have ne42 : NE (B + 1) (B + 22) := by unfold NE; omega
  have ne43 : NE (B + 2) (B + 3) := by unfold NE; omega
  have ne44 : NE (B + 2) (B + 4) := by unfold NE; omega
  have ne45 : NE (B + 2) (B + 5) := by unfold NE; omega
  have ne46 : NE (B + 2) (B + 6) := by unfold NE; omega
  have ne47 : NE (B + 2) (B + 7) := by unfold NE; omega
  have ne48 : NE (B + 2) (B + 8) := by unfold NE; omega
  have ne49 : NE (B + 2) (B + 9) := by unfold NE; omega
  have ne50 : NE (B + 2) (B + 10) := by unfold NE; omega
  have ne51 : NE (B + 2) (B + 11) := by unfold NE; omega
  have ne52 : NE (B + 2) (B + 12) := by unfold NE; omega
  have ne53 : NE (B + 2) (B + 13) := by unfold NE; omega
  have ne54 : NE (B + 2) (B + 14) := by unfold NE; omega
  have ne55 : NE (B + 2) (B + 15) := by unfold NE; omega
  have ne56 : NE (B + 2) (B + 16) := by unfold NE; omega
  have ne57 : NE (B + 2) (B + 17) := by unfold NE; omega
  have ne58 : NE (B + 2) (B + 18) := by unfold NE; omega
  have ne59 : NE (B + 2) (B + 19) := by unfold NE; omega
  have ne60 : NE (B + 2) (B + 20) := by unfold NE; omega
  have ne61 : NE (B + 2) (B + 21) := by unfold NE; omega
  have ne62 : NE (B + 2) (B + 22) := by unfold NE; omega
  have ne63 : NE (B + 3) (B + 4) := by unfold NE; omega
  have ne64 : NE (B + 3) (B + 5) := by unfold NE; omega
  have ne65 : NE (B + 3) (B + 6) := by unfold NE; omega
  have ne66 : NE (B + 3) (B + 7) := by unfold NE; omega
  have ne67 : NE (B + 3) (B + 8) := by unfold NE; omega
  have ne68 : NE (B + 3) (B + 9) := by unfold NE; omega
  have ne69 : NE (B + 3) (B + 10) := by unfold NE; omega
  have ne70 : NE (B + 3) (B + 11) := by unfold NE; omega
  have ne71 : NE (B + 3) (B + 12) := by unfold NE; omega
  have ne72 : NE (B + 3) (B + 13) := by unfold NE; omega
  have ne73 : NE (B + 3) (B + 14) := by unfold NE; omega
  have ne74 : NE (B + 3) (B + 15) := by unfold NE; omega
  have ne75 : NE (B + 3) (B + 16) := by unfold NE; omega
  have ne76 : NE (B + 3) (B + 17) := by unfold NE; omega
  have ne77 : NE (B + 3) (B + 18) := by unfold NE; omega
  have ne78 : NE (B + 3) (B + 19) := by unfold NE; omega
  have ne79 : NE (B + 3) (B + 20) := by unfold NE; omega
  have ne80 : NE (B + 3) (B + 21) := by unfold NE; omega
  have ne81 : NE (B + 3) (B + 22) := by unfold NE; omega
  have ne82 : NE (B + 4) (B + 5) := by unfold NE; omega
  have ne83 : NE (B + 4) (B + 6) := by unfold NE; omega
  have ne84 : NE (B + 4) (B + 7) := by unfold NE; omega
  have ne85 : NE (B + 4) (B + 8) := by unfold NE; omega
  have ne86 : NE (B + 4) (B + 9) := by unfold NE; omega
  have ne87 : NE (B + 4) (B + 10) := by unfold NE; omega
  have ne88 : NE (B + 4) (B + 11) := by unfold NE; omega
  have ne89 : NE (B + 4) (B + 12) := by unfold NE; omega
  have ne90 : NE (B + 4) (B + 13) := by unfold NE; omega
  have ne91 : NE (B + 4) (B + 14) := by unfold NE; omega
  have ne92 : NE (B + 4) (B + 15) := by unfold NE; omega
  have ne93 : NE (B + 4) (B + 16) := by unfold NE; omega
  have ne94 : NE (B + 4) (B + 17) := by unfold NE; omega
  have ne95 : NE (B + 4) (B + 18) := by unfold NE; omega
  have ne96 : NE (B + 4) (B + 19) := by unfold NE; omega
  have ne97 : NE (B + 4) (B + 20) := by unfold NE; omega
  have ne98 : NE (B + 4) (B + 21) := by unfold NE; omega
  have ne99 : NE (B + 4) (B + 22) := by unfold NE; omega
  have ne100 : NE (B + 5) (B + 6) := by unfold NE; omega
  have ne101 : NE (B + 5) (B + 7) := by unfold NE; omega
  have ne102 : NE (B + 5) (B + 8) := by unfold NE; omega
  have ne103 : NE (B + 5) (B + 9) := by unfold NE; omega
  have ne104 : NE (B + 5) (B + 10) := by unfold NE; omega
  have ne105 : NE (B + 5) (B + 11) := by unfold NE; omega
  have ne106 : NE (B + 5) (B + 12) := by unfold NE; omega
  have ne107 : NE (B + 5) (B + 13) := by unfold NE; omega
  have ne108 : NE (B + 5) (B + 14) := by unfold NE; omega
  have ne109 : NE (B + 5) (B + 15) := by unfold NE; omega
  have ne110 : NE (B + 5) (B + 16) := by unfold NE; omega
  have ne111 : NE (B + 5) (B + 17) := by unfold NE; omega
  have ne112 : NE (B + 5) (B + 18) := by unfold NE; omega
  have ne113 : NE (B + 5) (B + 19) := by unfold NE; omega
  have ne114 : NE (B + 5) (B + 20) := by unfold NE; omega
  have ne115 : NE (B + 5) (B + 21) := by unfold NE; omega
  have ne116 : NE (B + 5) (B + 22) := by unfold NE; omega
  have ne117 : NE (B + 6) (B + 7) := by unfold NE; omega
  have ne118 : NE (B + 6) (B + 8) := by unfold NE; omega
  have ne119 : NE (B + 6) (B + 9) := by unfold NE; omega
  have ne120 : NE (B + 6) (B + 10) := by unfold NE; omega
  have ne121 : NE (B + 6) (B + 11) := by unfold NE; omega
  have ne122 : NE (B + 6) (B + 12) := by unfold NE; omega
  have ne123 : NE (B + 6) (B + 13) := by unfold NE; omega
  have ne124 : NE (B + 6) (B + 14) := by unfold NE; omega
  have ne125 : NE (B + 6) (B + 15) := by unfold NE; omega
  have ne126 : NE (B + 6) (B + 16) := by unfold NE; omega
  have ne127 : NE (B + 6) (B + 17) := by unfold NE; omega
  have ne128 : NE (B + 6) (B + 18) := by unfold NE; omega
  have ne129 : NE (B + 6) (B + 19) := by unfold NE; omega
  have ne130 : NE (B + 6) (B + 20) := by unfold NE; omega
  have ne131 : NE (B + 6) (B + 21) := by unfold NE; omega
  have ne132 : NE (B + 6) (B + 22) := by unfold NE; omega
  have ne133 : NE (B + 7) (B + 8) := by unfold NE; omega
  have ne134 : NE (B + 7) (B + 9) := by unfold NE; omega
  have ne135 : NE (B + 7) (B + 10) := by unfold NE; omega
  have ne136 : NE (B + 7) (B + 11) := by unfold NE; omega
  have ne137 : NE (B + 7) (B + 12) := by unfold NE; omega
  have ne138 : NE (B + 7) (B + 13) := by unfold NE; omega
  have ne139 : NE (B + 7) (B + 14) := by unfold NE; omega
  have ne140 : NE (B + 7) (B + 15) := by unfold NE; omega
  have ne141 : NE (B + 7) (B + 16) := by unfold NE; omega
  have ne142 : NE (B + 7) (B + 17) := by unfold NE; omega
  have ne143 : NE (B + 7) (B + 18) := by unfold NE; omega
  have ne144 : NE (B + 7) (B + 19) := by unfold NE; omega
  have ne145 : NE (B + 7) (B + 20) := by unfold NE; omega
  have ne146 : NE (B + 7) (B + 21) := by unfold NE; omega
  have ne147 : NE (B + 7) (B + 22) := by unfold NE; omega
  have ne148 : NE (B + 8) (B + 9) := by unfold NE; omega
  have ne149 : NE (B + 8) (B + 10) := by unfold NE; omega
  have ne150 : NE (B + 8) (B + 11) := by unfold NE; omega
  have ne151 : NE (B + 8) (B + 12) := by unfold NE; omega
  have ne152 : NE (B + 8) (B + 13) := by unfold NE; omega
  have ne153 : NE (B + 8) (B + 14) := by unfold NE; omega
  have ne154 : NE (B + 8) (B + 15) := by unfold NE; omega
  have ne155 : NE (B + 8) (B + 16) := by unfold NE; omega
  have ne156 : NE (B + 8) (B + 17) := by unfold NE; omega
  have ne157 : NE (B + 8) (B + 18) := by unfold NE; omega
  have ne158 : NE (B + 8) (B + 19) := by unfold NE; omega
  have ne159 : NE (B + 8) (B + 20) := by unfold NE; omega
  have ne160 : NE (B + 8) (B + 21) := by unfold NE; omega
  have ne161 : NE (B + 8) (B + 22) := by unfold NE; omega
  have ne162 : NE (B + 9) (B + 10) := by unfold NE; omega
  have ne163 : NE (B + 9) (B + 11) := by unfold NE; omega
  have ne164 : NE (B + 9) (B + 12) := by unfold NE; omega
  have ne165 : NE (B + 9) (B + 13) := by unfold NE; omega
  have ne166 : NE (B + 9) (B + 14) := by unfold NE; omega
  have ne167 : NE (B + 9) (B + 15) := by unfold NE; omega
  have ne168 : NE (B + 9) (B + 16) := by unfold NE; omega
  have ne169 : NE (B + 9) (B + 17) := by unfold NE; omega
  have ne170 : NE (B + 9) (B + 18) := by unfold NE; omega
  have ne171 : NE (B + 9) (B + 19) := by unfold NE; omega
  have ne172 : NE (B + 9) (B + 20) := by unfold NE; omega
  have ne173 : NE (B + 9) (B + 21) := by unfold NE; omega
  have ne174 : NE (B + 9) (B + 22) := by unfold NE; omega
  have ne175 : NE (B + 10) (B + 11) := by unfold NE; omega
  have ne176 : NE (B + 10) (B + 12) := by unfold NE; omega
  have ne177 : NE (B + 10) (B + 13) := by unfold NE; omega
  have ne178 : NE (B + 10) (B + 14) := by unfold NE; omega
  have ne179 : NE (B + 10) (B + 15) := by unfold NE; omega
  have ne180 : NE (B + 10) (B + 16) := by unfold NE; omega
  have ne181 : NE (B + 10) (B + 17) := by unfold NE; omega
  have ne182 : NE (B + 10) (B + 18) := by unfold NE; omega
  have ne183 : NE (B + 10) (B + 19) := by unfold NE; omega
  have ne184 : NE (B + 10) (B + 20) := by unfold NE; omega
  have ne185 : NE (B + 10) (B + 21) := by unfold NE; omega
  have ne186 : NE (B + 10) (B + 22) := by unfold NE; omega
  have ne187 : NE (B + 11) (B + 12) := by unfold NE; omega
  have ne188 : NE (B + 11) (B + 13) := by unfold NE; omega
  have ne189 : NE (B + 11) (B + 14) := by unfold NE; omega
  have ne190 : NE (B + 11) (B + 15) := by unfold NE; omega
  have ne191 : NE (B + 11) (B + 16) := by unfold NE; omega
  have ne192 : NE (B + 11) (B + 17) := by unfold NE; omega
  have ne193 : NE (B + 11) (B + 18) := by unfold NE; omega
  have ne194 : NE (B + 11) (B + 19) := by unfold NE; omega
  have ne195 : NE (B + 11) (B + 20) := by unfold NE; omega
  have ne196 : NE (B + 11) (B + 21) := by unfold NE; omega
  have ne197 : NE (B + 11) (B + 22) := by unfold NE; omega
  have ne198 : NE (B + 12) (B + 13) := by unfold NE; omega
  have ne199 : NE (B + 12) (B + 14) := by unfold NE; omega
  have ne200 : NE (B + 12) (B + 15) := by unfold NE; omega
  have ne201 : NE (B + 12) (B + 16) := by unfold NE; omega
  have ne202 : NE (B + 12) (B + 17) := by unfold NE; omega
  have ne203 : NE (B + 12) (B + 18) := by unfold NE; omega
  have ne204 : NE (B + 12) (B + 19) := by unfold NE; omega
  have ne205 : NE (B + 12) (B + 20) := by unfold NE; omega
  have ne206 : NE (B + 12) (B + 21) := by unfold NE; omega
  have ne207 : NE (B + 12) (B + 22) := by unfold NE; omega
  have ne208 : NE (B + 13) (B + 14) := by unfold NE; omega
  have ne209 : NE (B + 13) (B + 15) := by unfold NE; omega
  have ne210 : NE (B + 13) (B + 16) := by unfold NE; omega
  have ne211 : NE (B + 13) (B + 17) := by unfold NE; omega
  have ne212 : NE (B + 13) (B + 18) := by unfold NE; omega
  have ne213 : NE (B + 13) (B + 19) := by unfold NE; omega
  have ne214 : NE (B + 13) (B + 20) := by unfold NE; omega
  have ne215 : NE (B + 13) (B + 21) := by unfold NE; omega
  have ne216 : NE (B + 13) (B + 22) := by unfold NE; omega
  have ne217 : NE (B + 14) (B + 15) := by unfold NE; omega
  have ne218 : NE (B + 14) (B + 16) := by unfold NE; omega
  have ne219 : NE (B + 14) (B + 17) := by unfold NE; omega
  have ne220 : NE (B + 14) (B + 18) := by unfold NE; omega
  have ne221 : NE (B + 14) (B + 19) := by unfold NE; omega
  have ne222 : NE (B + 14) (B + 20) := by unfold NE; omega
  have ne223 : NE (B + 14) (B + 21) := by unfold NE; omega
  have ne224 : NE (B + 14) (B + 22) := by unfold NE; omega
  have ne225 : NE (B + 15) (B + 16) := by unfold NE; omega
  have ne226 : NE (B + 15) (B + 17) := by unfold NE; omega
  have ne227 : NE (B + 15) (B + 18) := by unfold NE; omega
  have ne228 : NE (B + 15) (B + 19) := by unfold NE; omega
  have ne229 : NE (B + 15) (B + 20) := by unfold NE; omega
  have ne230 : NE (B + 15) (B + 21) := by unfold NE; omega
  have ne231 : NE (B + 15) (B + 22) := by unfold NE; omega
  have ne232 : NE (B + 16) (B + 17) := by unfold NE; omega
  have ne233 : NE (B + 16) (B + 18) := by unfold NE; omega
  have ne234 : NE (B + 16) (B + 19) := by unfold NE; omega
  have ne235 : NE (B + 16) (B + 20) := by unfold NE; omega
  have ne236 : NE (B + 16) (B + 21) := by unfold NE; omega
  have ne237 : NE (B + 16) (B + 22) := by unfold NE; omega
  have ne238 : NE (B + 17) (B + 18) := by unfold NE; omega
  have ne239 : NE (B + 17) (B + 19) := by unfold NE; omega
  have ne240 : NE (B + 17) (B + 20) := by unfold NE; omega
  have ne241 : NE (B + 17) (B + 21) := by unfold NE; omega
  have ne242 : NE (B + 17) (B + 22) := by unfold NE; omega
  have ne243 : NE (B + 18) (B + 19) := by unfold NE; omega
  have ne244 : NE (B + 18) (B + 20) := by unfold NE; omega
  have ne245 : NE (B + 18) (B + 21) := by unfold NE; omega
  have ne246 : NE (B + 18) (B + 22) := by unfold NE; omega
  have ne247 : NE (B + 19) (B + 20) := by unfold NE; omega
  have ne248 : NE (B + 19) (B + 21) := by unfold NE; omega
  have ne249 : NE (B + 19) (B + 22) := by unfold NE; omega
  have ne250 : NE (B + 20) (B + 21) := by unfold NE; omega
  have ne251 : NE (B + 20) (B + 22) := by unfold NE; omega
  have ne252 : NE (B + 21) (B + 22) := by unfold NE; omega
  obtain ⟨g9, g10, g11, g12, g13, g14, g15, x9, x10, x11, x12, x13, x14, x15, e0, e1, e2, e3, e4, hbd, hF, hK, hR⟩ := hX
  have hfb : hf = 0 ∨ hf = 1 := by omega
  refine g_iload_n 1 dX10_factorAt_0 rfl ?_
  refine g_if_lt (tgt := 22) dX10_factorAt_1 rfl (by first | assumption | (unfold gW; omega)) (fun c1 => ?_) (fun c1 => ?_)
  · skip
    refine g_iconst dX10_factorAt_22 ?_
    refine g_goto (tgt := 37) dX10_factorAt_23 rfl ?_
    exact g_iret dX10_factorAt_37 rfl ⟨Fr.e0 (Fr.rf [] h), by unfold aFa; dsimp only; rw [if_neg (by omega)]⟩
  · skip
    refine g_iload_n 1 dX10_factorAt_4 rfl ?_
    refine g_aload_n 0 dX10_factorAt_5 rfl ?_
    refine g_getf 11 dX10_factorAt_6 kX10 (by decide) fX10_90 hm rfl ?_
    refine g_icmp_ge (tgt := 22) dX10_factorAt_9 rfl (by first | assumption | (unfold gW; omega)) (by first | assumption | (unfold gW; omega)) (fun c2 => ?_) (fun c2 => ?_)
    · skip
      refine g_iconst dX10_factorAt_22 ?_
      refine g_goto (tgt := 37) dX10_factorAt_23 rfl ?_
      exact g_iret dX10_factorAt_37 rfl ⟨Fr.e0 (Fr.rf [] h), by unfold aFa; dsimp only; rw [if_neg (by omega)]⟩
    · skip
      refine g_iload_n 2 dX10_factorAt_12 rfl ?_
      refine g_if_lt (tgt := 22) dX10_factorAt_13 rfl (by first | assumption | (unfold gW; omega)) (fun c3 => ?_) (fun c3 => ?_)
      · skip
        refine g_iconst dX10_factorAt_22 ?_
        refine g_goto (tgt := 37) dX10_factorAt_23 rfl ?_
        exact g_iret dX10_factorAt_37 rfl ⟨Fr.e0 (Fr.rf [] h), by unfold aFa; dsimp only; rw [if_neg (by omega)]⟩
      · skip
        refine g_iload_n 2 dX10_factorAt_16 rfl ?_
        refine g_bipush dX10_factorAt_17 (by decide) ?_
        refine g_icmp_le (tgt := 26) dX10_factorAt_19 rfl (by first | assumption | (unfold gW; omega)) (by first | assumption | (unfold gW; omega)) (fun c4 => ?_) (fun c4 => ?_)
        · skip
          refine g_aload_n 0 dX10_factorAt_26 rfl ?_
          refine g_getf 14 dX10_factorAt_27 kX10 (by decide) fX10_42 hm rfl ?_
          refine g_bipush dX10_factorAt_30 (by decide) ?_
          refine g_iload_n 1 dX10_factorAt_32 rfl ?_
          refine g_imul dX10_factorAt_33 ?_
          refine g_iload_n 2 dX10_factorAt_34 rfl ?_
          refine g_iadd dX10_factorAt_35 ?_
          refine g_iaload dX10_factorAt_36 x11 (by omega) (by omega) (by omega) ?_
          have hv_ : (g11) (((41) * (i)) + (k)) = cf (fP hp f i) k := by exact (hF i (by omega) (by omega)).2.2.2.2 k (by omega) (by omega)
          rw [hv_]
          exact g_iret dX10_factorAt_37 rfl ⟨Fr.e0 (Fr.rf [] h), by unfold aFa; dsimp only; rw [if_pos (by omega)]⟩
        · skip
          refine g_iconst dX10_factorAt_22 ?_
          refine g_goto (tgt := 37) dX10_factorAt_23 rfl ?_
          exact g_iret dX10_factorAt_37 rfl ⟨Fr.e0 (Fr.rf [] h), by unfold aFa; dsimp only; rw [if_neg (by omega)]⟩
theorem sM_factorAt (N : GN) (h : GH) (B p : Nat) (hp : prm p) (hp2 : p ≤ 65536) (hf le fc pn rn hn qn : Int) (fo : Option (Px p)) (i k : Int) (gW_i : gW i) (gW_k : gW k) (hm : h.2 B = some (mO B p hf le fc pn rn hn qn)) (hX : MFx hp B h fo hf le fc pn rn) : Sp N yX10_factorAt mX10_factorAt 0 0 [.ref (B), .int (gI (i)), .int (gI (k))] h (fun v h1 => h1 = h ∧ v = some (.int (gI (aFa hp (fo) i k)))) := by
  cases fo with
  | none => exact sM_factorAtN N h B p hp hp2 hf le fc pn rn hn qn i k gW_i gW_k hm hX
  | some f => exact sM_factorAtS N h B p hp hp2 hf le fc pn rn hn qn f i k gW_i gW_k hm hX
set_option maxHeartbeats 4000000 in
set_option maxRecDepth 100000 in
theorem sM_partN (N : GN) (h : GH) (B p : Nat) (hp : prm p) (hp2 : p ≤ 65536) (hf le fc pn rn hn qn : Int)  (i w : Int) (gW_i : gW i) (gW_w : gW w) (hm : h.2 B = some (mO B p hf le fc pn rn hn qn)) (hX : MFx hp B h (none) hf le fc pn rn) : Sp N yX10_part_ mX10_part_ 0 0 [.ref (B), .int (gI (i)), .int (gI (w))] h (fun v h1 => h1 = h ∧ v = some (.int (gI (aPa hp (none) i w)))) := by
  refine Sp.of (by decide) rfl rfl (Nat.le_of_ble_eq_true rfl) ?_
  show Go N mX10_part_ _ 0 0 h 0 [(0, .ref (B)), (1, .int (gI (i))), (2, .int (gI (w)))] []
  have hp1 := hp.1
  have neA : NE B (B + 5) := by unfold NE; omega
  have neB : NE B (B + 6) := by unfold NE; omega
  have neC : NE (B + 5) (B + 6) := by unfold NE; omega
  have ne0 : NE (B) (B + 1) := by unfold NE; omega
  have ne1 : NE (B) (B + 2) := by unfold NE; omega
  have ne2 : NE (B) (B + 3) := by unfold NE; omega
  have ne3 : NE (B) (B + 4) := by unfold NE; omega
  have ne4 : NE (B) (B + 5) := by unfold NE; omega
  have ne5 : NE (B) (B + 6) := by unfold NE; omega
  have ne6 : NE (B) (B + 7) := by unfold NE; omega
  have ne7 : NE (B) (B + 8) := by unfold NE; omega
  have ne8 : NE (B) (B + 9) := by unfold NE; omega
  have ne9 : NE (B) (B + 10) := by unfold NE; omega
  have ne10 : NE (B) (B + 11) := by unfold NE; omega
  have ne11 : NE (B) (B + 12) := by unfold NE; omega
  have ne12 : NE (B) (B + 13) := by unfold NE; omega
  have ne13 : NE (B) (B + 14) := by unfold NE; omega
  have ne14 : NE (B) (B + 15) := by unfold NE; omega
  have ne15 : NE (B) (B + 16) := by unfold NE; omega
  have ne16 : NE (B) (B + 17) := by unfold NE; omega
  have ne17 : NE (B) (B + 18) := by unfold NE; omega
  have ne18 : NE (B) (B + 19) := by unfold NE; omega
  have ne19 : NE (B) (B + 20) := by unfold NE; omega
  have ne20 : NE (B) (B + 21) := by unfold NE; omega
  have ne21 : NE (B) (B + 22) := by unfold NE; omega
  have ne22 : NE (B + 1) (B + 2) := by unfold NE; omega
  have ne23 : NE (B + 1) (B + 3) := by unfold NE; omega
  have ne24 : NE (B + 1) (B + 4) := by unfold NE; omega
  have ne25 : NE (B + 1) (B + 5) := by unfold NE; omega
  have ne26 : NE (B + 1) (B + 6) := by unfold NE; omega
  have ne27 : NE (B + 1) (B + 7) := by unfold NE; omega
  have ne28 : NE (B + 1) (B + 8) := by unfold NE; omega
  have ne29 : NE (B + 1) (B + 9) := by unfold NE; omega
  have ne30 : NE (B + 1) (B + 10) := by unfold NE; omega
  have ne31 : NE (B + 1) (B + 11) := by unfold NE; omega
  have ne32 : NE (B + 1) (B + 12) := by unfold NE; omega
  have ne33 : NE (B + 1) (B + 13) := by unfold NE; omega
  have ne34 : NE (B + 1) (B + 14) := by unfold NE; omega
  have ne35 : NE (B + 1) (B + 15) := by unfold NE; omega
  have ne36 : NE (B + 1) (B + 16) := by unfold NE; omega
  have ne37 : NE (B + 1) (B + 17) := by unfold NE; omega
  have ne38 : NE (B + 1) (B + 18) := by unfold NE; omega
  have ne39 : NE (B + 1) (B + 19) := by unfold NE; omega
  have ne40 : NE (B + 1) (B + 20) := by unfold NE; omega
  have ne41 : NE (B + 1) (B + 21) := by unfold NE; omega
  have ne42 : NE (B + 1) (B + 22) := by unfold NE; omega
  have ne43 : NE (B + 2) (B + 3) := by unfold NE; omega
  have ne44 : NE (B + 2) (B + 4) := by unfold NE; omega
  have ne45 : NE (B + 2) (B + 5) := by unfold NE; omega
  have ne46 : NE (B + 2) (B + 6) := by unfold NE; omega
  have ne47 : NE (B + 2) (B + 7) := by unfold NE; omega
  have ne48 : NE (B + 2) (B + 8) := by unfold NE; omega
  have ne49 : NE (B + 2) (B + 9) := by unfold NE; omega
  have ne50 : NE (B + 2) (B + 10) := by unfold NE; omega
  have ne51 : NE (B + 2) (B + 11) := by unfold NE; omega
  have ne52 : NE (B + 2) (B + 12) := by unfold NE; omega
  have ne53 : NE (B + 2) (B + 13) := by unfold NE; omega
  have ne54 : NE (B + 2) (B + 14) := by unfold NE; omega
  have ne55 : NE (B + 2) (B + 15) := by unfold NE; omega
  have ne56 : NE (B + 2) (B + 16) := by unfold NE; omega
  have ne57 : NE (B + 2) (B + 17) := by unfold NE; omega
  have ne58 : NE (B + 2) (B + 18) := by unfold NE; omega
  have ne59 : NE (B + 2) (B + 19) := by unfold NE; omega
  have ne60 : NE (B + 2) (B + 20) := by unfold NE; omega
  have ne61 : NE (B + 2) (B + 21) := by unfold NE; omega
  have ne62 : NE (B + 2) (B + 22) := by unfold NE; omega
  have ne63 : NE (B + 3) (B + 4) := by unfold NE; omega
  have ne64 : NE (B + 3) (B + 5) := by unfold NE; omega
  have ne65 : NE (B + 3) (B + 6) := by unfold NE; omega
  have ne66 : NE (B + 3) (B + 7) := by unfold NE; omega
  have ne67 : NE (B + 3) (B + 8) := by unfold NE; omega
  have ne68 : NE (B + 3) (B + 9) := by unfold NE; omega
  have ne69 : NE (B + 3) (B + 10) := by unfold NE; omega
  have ne70 : NE (B + 3) (B + 11) := by unfold NE; omega
  have ne71 : NE (B + 3) (B + 12) := by unfold NE; omega
  have ne72 : NE (B + 3) (B + 13) := by unfold NE; omega
  have ne73 : NE (B + 3) (B + 14) := by unfold NE; omega
  have ne74 : NE (B + 3) (B + 15) := by unfold NE; omega
  have ne75 : NE (B + 3) (B + 16) := by unfold NE; omega
  have ne76 : NE (B + 3) (B + 17) := by unfold NE; omega
  have ne77 : NE (B + 3) (B + 18) := by unfold NE; omega
  have ne78 : NE (B + 3) (B + 19) := by unfold NE; omega
  have ne79 : NE (B + 3) (B + 20) := by unfold NE; omega
  have ne80 : NE (B + 3) (B + 21) := by unfold NE; omega
  have ne81 : NE (B + 3) (B + 22) := by unfold NE; omega
  have ne82 : NE (B + 4) (B + 5) := by unfold NE; omega
  have ne83 : NE (B + 4) (B + 6) := by unfold NE; omega
  have ne84 : NE (B + 4) (B + 7) := by unfold NE; omega
  have ne85 : NE (B + 4) (B + 8) := by unfold NE; omega
  have ne86 : NE (B + 4) (B + 9) := by unfold NE; omega
  have ne87 : NE (B + 4) (B + 10) := by unfold NE; omega
  have ne88 : NE (B + 4) (B + 11) := by unfold NE; omega
  have ne89 : NE (B + 4) (B + 12) := by unfold NE; omega
  have ne90 : NE (B + 4) (B + 13) := by unfold NE; omega
  have ne91 : NE (B + 4) (B + 14) := by unfold NE; omega
  have ne92 : NE (B + 4) (B + 15) := by unfold NE; omega
  have ne93 : NE (B + 4) (B + 16) := by unfold NE; omega
  have ne94 : NE (B + 4) (B + 17) := by unfold NE; omega
  have ne95 : NE (B + 4) (B + 18) := by unfold NE; omega
  have ne96 : NE (B + 4) (B + 19) := by unfold NE; omega
  have ne97 : NE (B + 4) (B + 20) := by unfold NE; omega
  have ne98 : NE (B + 4) (B + 21) := by unfold NE; omega
  have ne99 : NE (B + 4) (B + 22) := by unfold NE; omega
  have ne100 : NE (B + 5) (B + 6) := by unfold NE; omega
  have ne101 : NE (B + 5) (B + 7) := by unfold NE; omega
  have ne102 : NE (B + 5) (B + 8) := by unfold NE; omega
  have ne103 : NE (B + 5) (B + 9) := by unfold NE; omega
  have ne104 : NE (B + 5) (B + 10) := by unfold NE; omega
  have ne105 : NE (B + 5) (B + 11) := by unfold NE; omega
  have ne106 : NE (B + 5) (B + 12) := by unfold NE; omega
  have ne107 : NE (B + 5) (B + 13) := by unfold NE; omega
  have ne108 : NE (B + 5) (B + 14) := by unfold NE; omega
  have ne109 : NE (B + 5) (B + 15) := by unfold NE; omega
  have ne110 : NE (B + 5) (B + 16) := by unfold NE; omega
  have ne111 : NE (B + 5) (B + 17) := by unfold NE; omega
  have ne112 : NE (B + 5) (B + 18) := by unfold NE; omega
  have ne113 : NE (B + 5) (B + 19) := by unfold NE; omega
  have ne114 : NE (B + 5) (B + 20) := by unfold NE; omega
  have ne115 : NE (B + 5) (B + 21) := by unfold NE; omega
  have ne116 : NE (B + 5) (B + 22) := by unfold NE; omega
  have ne117 : NE (B + 6) (B + 7) := by unfold NE; omega
  have ne118 : NE (B + 6) (B + 8) := by unfold NE; omega
  have ne119 : NE (B + 6) (B + 9) := by unfold NE; omega
  have ne120 : NE (B + 6) (B + 10) := by unfold NE; omega
  have ne121 : NE (B + 6) (B + 11) := by unfold NE; omega
  have ne122 : NE (B + 6) (B + 12) := by unfold NE; omega
  have ne123 : NE (B + 6) (B + 13) := by unfold NE; omega
  have ne124 : NE (B + 6) (B + 14) := by unfold NE; omega
  have ne125 : NE (B + 6) (B + 15) := by unfold NE; omega
  have ne126 : NE (B + 6) (B + 16) := by unfold NE; omega
  have ne127 : NE (B + 6) (B + 17) := by unfold NE; omega
  have ne128 : NE (B + 6) (B + 18) := by unfold NE; omega
  have ne129 : NE (B + 6) (B + 19) := by unfold NE; omega
  have ne130 : NE (B + 6) (B + 20) := by unfold NE; omega
  have ne131 : NE (B + 6) (B + 21) := by unfold NE; omega
  have ne132 : NE (B + 6) (B + 22) := by unfold NE; omega
  have ne133 : NE (B + 7) (B + 8) := by unfold NE; omega
  have ne134 : NE (B + 7) (B + 9) := by unfold NE; omega
  have ne135 : NE (B + 7) (B + 10) := by unfold NE; omega
  have ne136 : NE (B + 7) (B + 11) := by unfold NE; omega
  have ne137 : NE (B + 7) (B + 12) := by unfold NE; omega
  have ne138 : NE (B + 7) (B + 13) := by unfold NE; omega
  have ne139 : NE (B + 7) (B + 14) := by unfold NE; omega
  have ne140 : NE (B + 7) (B + 15) := by unfold NE; omega
  have ne141 : NE (B + 7) (B + 16) := by unfold NE; omega
  have ne142 : NE (B + 7) (B + 17) := by unfold NE; omega
  have ne143 : NE (B + 7) (B + 18) := by unfold NE; omega
  have ne144 : NE (B + 7) (B + 19) := by unfold NE; omega
  have ne145 : NE (B + 7) (B + 20) := by unfold NE; omega
  have ne146 : NE (B + 7) (B + 21) := by unfold NE; omega
  have ne147 : NE (B + 7) (B + 22) := by unfold NE; omega
  have ne148 : NE (B + 8) (B + 9) := by unfold NE; omega
  have ne149 : NE (B + 8) (B + 10) := by unfold NE; omega
  have ne150 : NE (B + 8) (B + 11) := by unfold NE; omega
  have ne151 : NE (B + 8) (B + 12) := by unfold NE; omega
  have ne152 : NE (B + 8) (B + 13) := by unfold NE; omega
  have ne153 : NE (B + 8) (B + 14) := by unfold NE; omega
  have ne154 : NE (B + 8) (B + 15) := by unfold NE; omega
  have ne155 : NE (B + 8) (B + 16) := by unfold NE; omega
  have ne156 : NE (B + 8) (B + 17) := by unfold NE; omega
  have ne157 : NE (B + 8) (B + 18) := by unfold NE; omega
  have ne158 : NE (B + 8) (B + 19) := by unfold NE; omega
  have ne159 : NE (B + 8) (B + 20) := by unfold NE; omega
  have ne160 : NE (B + 8) (B + 21) := by unfold NE; omega
  have ne161 : NE (B + 8) (B + 22) := by unfold NE; omega
  have ne162 : NE (B + 9) (B + 10) := by unfold NE; omega
  have ne163 : NE (B + 9) (B + 11) := by unfold NE; omega
  have ne164 : NE (B + 9) (B + 12) := by unfold NE; omega
  have ne165 : NE (B + 9) (B + 13) := by unfold NE; omega
  have ne166 : NE (B + 9) (B + 14) := by unfold NE; omega
  have ne167 : NE (B + 9) (B + 15) := by unfold NE; omega
  have ne168 : NE (B + 9) (B + 16) := by unfold NE; omega
  have ne169 : NE (B + 9) (B + 17) := by unfold NE; omega
  have ne170 : NE (B + 9) (B + 18) := by unfold NE; omega
  have ne171 : NE (B + 9) (B + 19) := by unfold NE; omega
  have ne172 : NE (B + 9) (B + 20) := by unfold NE; omega
  have ne173 : NE (B + 9) (B + 21) := by unfold NE; omega
  have ne174 : NE (B + 9) (B + 22) := by unfold NE; omega
  have ne175 : NE (B + 10) (B + 11) := by unfold NE; omega
  have ne176 : NE (B + 10) (B + 12) := by unfold NE; omega
  have ne177 : NE (B + 10) (B + 13) := by unfold NE; omega
  have ne178 : NE (B + 10) (B + 14) := by unfold NE; omega
  have ne179 : NE (B + 10) (B + 15) := by unfold NE; omega
  have ne180 : NE (B + 10) (B + 16) := by unfold NE; omega
  have ne181 : NE (B + 10) (B + 17) := by unfold NE; omega
  have ne182 : NE (B + 10) (B + 18) := by unfold NE; omega
  have ne183 : NE (B + 10) (B + 19) := by unfold NE; omega
  have ne184 : NE (B + 10) (B + 20) := by unfold NE; omega
  have ne185 : NE (B + 10) (B + 21) := by unfold NE; omega
  have ne186 : NE (B + 10) (B + 22) := by unfold NE; omega
  have ne187 : NE (B + 11) (B + 12) := by unfold NE; omega
  have ne188 : NE (B + 11) (B + 13) := by unfold NE; omega
  have ne189 : NE (B + 11) (B + 14) := by unfold NE; omega
  have ne190 : NE (B + 11) (B + 15) := by unfold NE; omega
  have ne191 : NE (B + 11) (B + 16) := by unfold NE; omega
  have ne192 : NE (B + 11) (B + 17) := by unfold NE; omega
  have ne193 : NE (B + 11) (B + 18) := by unfold NE; omega
  have ne194 : NE (B + 11) (B + 19) := by unfold NE; omega
  have ne195 : NE (B + 11) (B + 20) := by unfold NE; omega
  have ne196 : NE (B + 11) (B + 21) := by unfold NE; omega
  have ne197 : NE (B + 11) (B + 22) := by unfold NE; omega
  have ne198 : NE (B + 12) (B + 13) := by unfold NE; omega
  have ne199 : NE (B + 12) (B + 14) := by unfold NE; omega
  have ne200 : NE (B + 12) (B + 15) := by unfold NE; omega
  have ne201 : NE (B + 12) (B + 16) := by unfold NE; omega
  have ne202 : NE (B + 12) (B + 17) := by unfold NE; omega
  have ne203 : NE (B + 12) (B + 18) := by unfold NE; omega
  have ne204 : NE (B + 12) (B + 19) := by unfold NE; omega
  have ne205 : NE (B + 12) (B + 20) := by unfold NE; omega
  have ne206 : NE (B + 12) (B + 21) := by unfold NE; omega
  have ne207 : NE (B + 12) (B + 22) := by unfold NE; omega
  have ne208 : NE (B + 13) (B + 14) := by unfold NE; omega
  have ne209 : NE (B + 13) (B + 15) := by unfold NE; omega
  have ne210 : NE (B + 13) (B + 16) := by unfold NE; omega
  have ne211 : NE (B + 13) (B + 17) := by unfold NE; omega
  have ne212 : NE (B + 13) (B + 18) := by unfold NE; omega
  have ne213 : NE (B + 13) (B + 19) := by unfold NE; omega
  have ne214 : NE (B + 13) (B + 20) := by unfold NE; omega
  have ne215 : NE (B + 13) (B + 21) := by unfold NE; omega
  have ne216 : NE (B + 13) (B + 22) := by unfold NE; omega
  have ne217 : NE (B + 14) (B + 15) := by unfold NE; omega
  have ne218 : NE (B + 14) (B + 16) := by unfold NE; omega
  have ne219 : NE (B + 14) (B + 17) := by unfold NE; omega
  have ne220 : NE (B + 14) (B + 18) := by unfold NE; omega
  have ne221 : NE (B + 14) (B + 19) := by unfold NE; omega
  have ne222 : NE (B + 14) (B + 20) := by unfold NE; omega
  have ne223 : NE (B + 14) (B + 21) := by unfold NE; omega
  have ne224 : NE (B + 14) (B + 22) := by unfold NE; omega
  have ne225 : NE (B + 15) (B + 16) := by unfold NE; omega
  have ne226 : NE (B + 15) (B + 17) := by unfold NE; omega
  have ne227 : NE (B + 15) (B + 18) := by unfold NE; omega
  have ne228 : NE (B + 15) (B + 19) := by unfold NE; omega
  have ne229 : NE (B + 15) (B + 20) := by unfold NE; omega
  have ne230 : NE (B + 15) (B + 21) := by unfold NE; omega
  have ne231 : NE (B + 15) (B + 22) := by unfold NE; omega
  have ne232 : NE (B + 16) (B + 17) := by unfold NE; omega
  have ne233 : NE (B + 16) (B + 18) := by unfold NE; omega
  have ne234 : NE (B + 16) (B + 19) := by unfold NE; omega
  have ne235 : NE (B + 16) (B + 20) := by unfold NE; omega
  have ne236 : NE (B + 16) (B + 21) := by unfold NE; omega
  have ne237 : NE (B + 16) (B + 22) := by unfold NE; omega
  have ne238 : NE (B + 17) (B + 18) := by unfold NE; omega
  have ne239 : NE (B + 17) (B + 19) := by unfold NE; omega
  have ne240 : NE (B + 17) (B + 20) := by unfold NE; omega
  have ne241 : NE (B + 17) (B + 21) := by unfold NE; omega
  have ne242 : NE (B + 17) (B + 22) := by unfold NE; omega
  have ne243 : NE (B + 18) (B + 19) := by unfold NE; omega
  have ne244 : NE (B + 18) (B + 20) := by unfold NE; omega
  have ne245 : NE (B + 18) (B + 21) := by unfold NE; omega
  have ne246 : NE (B + 18) (B + 22) := by unfold NE; omega
  have ne247 : NE (B + 19) (B + 20) := by unfold NE; omega
  have ne248 : NE (B + 19) (B + 21) := by unfold NE; omega
  have ne249 : NE (B + 19) (B + 22) := by unfold NE; omega
  have ne250 : NE (B + 20) (B + 21) := by unfold NE; omega
  have ne251 : NE (B + 20) (B + 22) := by unfold NE; omega
  have ne252 : NE (B + 21) (B + 22) := by unfold NE; omega
  obtain ⟨g9, g10, g11, g12, g13, g14, g15, x9, x10, x11, x12, x13, x14, x15, e0, e1, e2, e3⟩ := hX
  have hfb : hf = 0 ∨ hf = 1 := by omega
  refine g_iload_n 1 dX10_part__0 rfl ?_
  refine g_if_lt (tgt := 22) dX10_part__1 rfl (by first | assumption | (unfold gW; omega)) (fun c1 => ?_) (fun c1 => ?_)
  · skip
    refine g_iconst dX10_part__22 ?_
    exact g_iret dX10_part__23 rfl ⟨Fr.e0 (Fr.rf [] h), by unfold aPa; rfl⟩
  · skip
    refine g_iload_n 1 dX10_part__4 rfl ?_
    refine g_aload_n 0 dX10_part__5 rfl ?_
    refine g_getf 15 dX10_part__6 kX10 (by decide) fX10_93 hm rfl ?_
    refine g_icmp_ge (tgt := 22) dX10_part__9 rfl (by first | assumption | (unfold gW; omega)) (by first | assumption | (unfold gW; omega)) (fun c2 => ?_) (fun c2 => ?_)
    · skip
      refine g_iconst dX10_part__22 ?_
      exact g_iret dX10_part__23 rfl ⟨Fr.e0 (Fr.rf [] h), by unfold aPa; rfl⟩
    · skip
      refine g_iload_n 2 dX10_part__12 rfl ?_
      refine g_if_lt (tgt := 22) dX10_part__13 rfl (by first | assumption | (unfold gW; omega)) (fun c3 => ?_) (fun c3 => ?_)
      · skip
        refine g_iconst dX10_part__22 ?_
        exact g_iret dX10_part__23 rfl ⟨Fr.e0 (Fr.rf [] h), by unfold aPa; rfl⟩
      · skip
        refine g_iload_n 2 dX10_part__16 rfl ?_
        refine g_bipush dX10_part__17 (by decide) ?_
        refine g_icmp_le (tgt := 24) dX10_part__19 rfl (by first | assumption | (unfold gW; omega)) (by first | assumption | (unfold gW; omega)) (fun c4 => ?_) (fun c4 => ?_)
        · skip
          refine g_iload_n 2 dX10_part__24 rfl ?_
          refine g_if_ne (tgt := 37) dX10_part__25 rfl (by first | assumption | (unfold gW; omega)) (fun c5 => ?_) (fun c5 => ?_)
          · skip
            refine g_iload_n 2 dX10_part__37 rfl ?_
            refine g_iconst dX10_part__38 ?_
            refine g_icmp_ne (tgt := 51) dX10_part__39 rfl (by first | assumption | (unfold gW; omega)) (by first | assumption | (unfold gW; omega)) (fun c6 => ?_) (fun c6 => ?_)
            · skip
              refine g_aload_n 0 dX10_part__51 rfl ?_
              refine g_getf 18 dX10_part__52 kX10 (by decide) fX10_51 hm rfl ?_
              refine g_bipush dX10_part__55 (by decide) ?_
              refine g_iload_n 1 dX10_part__57 rfl ?_
              refine g_imul dX10_part__58 ?_
              refine g_iload_n 2 dX10_part__59 rfl ?_
              refine g_iadd dX10_part__60 ?_
              refine g_iconst dX10_part__61 ?_
              refine g_isub dX10_part__62 ?_
              refine g_iaload dX10_part__63 x14 (by omega) (by omega) (by omega) ?_
              exfalso; omega
            · skip
              refine g_aload_n 0 dX10_part__42 rfl ?_
              refine g_getf 17 dX10_part__43 kX10 (by decide) fX10_48 hm rfl ?_
              refine g_iload_n 1 dX10_part__46 rfl ?_
              refine g_iaload dX10_part__47 x13 (by omega) (by omega) (by omega) ?_
              exfalso; omega
          · skip
            refine g_aload_n 0 dX10_part__28 rfl ?_
            refine g_getf 16 dX10_part__29 kX10 (by decide) fX10_45 hm rfl ?_
            refine g_iload_n 1 dX10_part__32 rfl ?_
            refine g_iaload dX10_part__33 x12 (by omega) (by omega) (by omega) ?_
            exfalso; omega
        · skip
          refine g_iconst dX10_part__22 ?_
          exact g_iret dX10_part__23 rfl ⟨Fr.e0 (Fr.rf [] h), by unfold aPa; rfl⟩
set_option maxHeartbeats 4000000 in
set_option maxRecDepth 100000 in
theorem sM_partS (N : GN) (h : GH) (B p : Nat) (hp : prm p) (hp2 : p ≤ 65536) (hf le fc pn rn hn qn : Int) (f : Px p) (i w : Int) (gW_i : gW i) (gW_w : gW w) (hm : h.2 B = some (mO B p hf le fc pn rn hn qn)) (hX : MFx hp B h (some f) hf le fc pn rn) : Sp N yX10_part_ mX10_part_ 0 0 [.ref (B), .int (gI (i)), .int (gI (w))] h (fun v h1 => h1 = h ∧ v = some (.int (gI (aPa hp (some f) i w)))) := by
  refine Sp.of (by decide) rfl rfl (Nat.le_of_ble_eq_true rfl) ?_
  show Go N mX10_part_ _ 0 0 h 0 [(0, .ref (B)), (1, .int (gI (i))), (2, .int (gI (w)))] []
  have hp1 := hp.1
  have neA : NE B (B + 5) := by unfold NE; omega
  have neB : NE B (B + 6) := by unfold NE; omega
  have neC : NE (B + 5) (B + 6) := by unfold NE; omega
  have ne0 : NE (B) (B + 1) := by unfold NE; omega
  have ne1 : NE (B) (B + 2) := by unfold NE; omega
  have ne2 : NE (B) (B + 3) := by unfold NE; omega
  have ne3 : NE (B) (B + 4) := by unfold NE; omega
  have ne4 : NE (B) (B + 5) := by unfold NE; omega
  have ne5 : NE (B) (B + 6) := by unfold NE; omega
  have ne6 : NE (B) (B + 7) := by unfold NE; omega
  have ne7 : NE (B) (B + 8) := by unfold NE; omega
  have ne8 : NE (B) (B + 9) := by unfold NE; omega
  have ne9 : NE (B) (B + 10) := by unfold NE; omega
  have ne10 : NE (B) (B + 11) := by unfold NE; omega
  have ne11 : NE (B) (B + 12) := by unfold NE; omega
  have ne12 : NE (B) (B + 13) := by unfold NE; omega
  have ne13 : NE (B) (B + 14) := by unfold NE; omega
  have ne14 : NE (B) (B + 15) := by unfold NE; omega
  have ne15 : NE (B) (B + 16) := by unfold NE; omega
  have ne16 : NE (B) (B + 17) := by unfold NE; omega
  have ne17 : NE (B) (B + 18) := by unfold NE; omega
  have ne18 : NE (B) (B + 19) := by unfold NE; omega
  have ne19 : NE (B) (B + 20) := by unfold NE; omega
  have ne20 : NE (B) (B + 21) := by unfold NE; omega
  have ne21 : NE (B) (B + 22) := by unfold NE; omega
  have ne22 : NE (B + 1) (B + 2) := by unfold NE; omega
  have ne23 : NE (B + 1) (B + 3) := by unfold NE; omega
  have ne24 : NE (B + 1) (B + 4) := by unfold NE; omega
  have ne25 : NE (B + 1) (B + 5) := by unfold NE; omega
  have ne26 : NE (B + 1) (B + 6) := by unfold NE; omega
  have ne27 : NE (B + 1) (B + 7) := by unfold NE; omega
  have ne28 : NE (B + 1) (B + 8) := by unfold NE; omega
  have ne29 : NE (B + 1) (B + 9) := by unfold NE; omega
  have ne30 : NE (B + 1) (B + 10) := by unfold NE; omega
  have ne31 : NE (B + 1) (B + 11) := by unfold NE; omega
  have ne32 : NE (B + 1) (B + 12) := by unfold NE; omega
  have ne33 : NE (B + 1) (B + 13) := by unfold NE; omega
  have ne34 : NE (B + 1) (B + 14) := by unfold NE; omega
  have ne35 : NE (B + 1) (B + 15) := by unfold NE; omega
  have ne36 : NE (B + 1) (B + 16) := by unfold NE; omega
  have ne37 : NE (B + 1) (B + 17) := by unfold NE; omega
  have ne38 : NE (B + 1) (B + 18) := by unfold NE; omega
  have ne39 : NE (B + 1) (B + 19) := by unfold NE; omega
  have ne40 : NE (B + 1) (B + 20) := by unfold NE; omega
  have ne41 : NE (B + 1) (B + 21) := by unfold NE; omega
  have ne42 : NE (B + 1) (B + 22) := by unfold NE; omega
  have ne43 : NE (B + 2) (B + 3) := by unfold NE; omega
  have ne44 : NE (B + 2) (B + 4) := by unfold NE; omega
  have ne45 : NE (B + 2) (B + 5) := by unfold NE; omega
  have ne46 : NE (B + 2) (B + 6) := by unfold NE; omega
  have ne47 : NE (B + 2) (B + 7) := by unfold NE; omega
  have ne48 : NE (B + 2) (B + 8) := by unfold NE; omega
  have ne49 : NE (B + 2) (B + 9) := by unfold NE; omega
  have ne50 : NE (B + 2) (B + 10) := by unfold NE; omega
  have ne51 : NE (B + 2) (B + 11) := by unfold NE; omega
  have ne52 : NE (B + 2) (B + 12) := by unfold NE; omega
  have ne53 : NE (B + 2) (B + 13) := by unfold NE; omega
  have ne54 : NE (B + 2) (B + 14) := by unfold NE; omega
  have ne55 : NE (B + 2) (B + 15) := by unfold NE; omega
  have ne56 : NE (B + 2) (B + 16) := by unfold NE; omega
  have ne57 : NE (B + 2) (B + 17) := by unfold NE; omega
  have ne58 : NE (B + 2) (B + 18) := by unfold NE; omega
  have ne59 : NE (B + 2) (B + 19) := by unfold NE; omega
  have ne60 : NE (B + 2) (B + 20) := by unfold NE; omega
  have ne61 : NE (B + 2) (B + 21) := by unfold NE; omega
  have ne62 : NE (B + 2) (B + 22) := by unfold NE; omega
  have ne63 : NE (B + 3) (B + 4) := by unfold NE; omega
  have ne64 : NE (B + 3) (B + 5) := by unfold NE; omega
  have ne65 : NE (B + 3) (B + 6) := by unfold NE; omega
  have ne66 : NE (B + 3) (B + 7) := by unfold NE; omega
  have ne67 : NE (B + 3) (B + 8) := by unfold NE; omega
  have ne68 : NE (B + 3) (B + 9) := by unfold NE; omega
  have ne69 : NE (B + 3) (B + 10) := by unfold NE; omega
  have ne70 : NE (B + 3) (B + 11) := by unfold NE; omega
  have ne71 : NE (B + 3) (B + 12) := by unfold NE; omega
  have ne72 : NE (B + 3) (B + 13) := by unfold NE; omega
  have ne73 : NE (B + 3) (B + 14) := by unfold NE; omega
  have ne74 : NE (B + 3) (B + 15) := by unfold NE; omega
  have ne75 : NE (B + 3) (B + 16) := by unfold NE; omega
  have ne76 : NE (B + 3) (B + 17) := by unfold NE; omega
  have ne77 : NE (B + 3) (B + 18) := by unfold NE; omega
  have ne78 : NE (B + 3) (B + 19) := by unfold NE; omega
  have ne79 : NE (B + 3) (B + 20) := by unfold NE; omega
  have ne80 : NE (B + 3) (B + 21) := by unfold NE; omega
  have ne81 : NE (B + 3) (B + 22) := by unfold NE; omega
  have ne82 : NE (B + 4) (B + 5) := by unfold NE; omega
  have ne83 : NE (B + 4) (B + 6) := by unfold NE; omega
  have ne84 : NE (B + 4) (B + 7) := by unfold NE; omega
  have ne85 : NE (B + 4) (B + 8) := by unfold NE; omega
  have ne86 : NE (B + 4) (B + 9) := by unfold NE; omega
  have ne87 : NE (B + 4) (B + 10) := by unfold NE; omega
  have ne88 : NE (B + 4) (B + 11) := by unfold NE; omega
  have ne89 : NE (B + 4) (B + 12) := by unfold NE; omega
  have ne90 : NE (B + 4) (B + 13) := by unfold NE; omega
  have ne91 : NE (B + 4) (B + 14) := by unfold NE; omega
  have ne92 : NE (B + 4) (B + 15) := by unfold NE; omega
  have ne93 : NE (B + 4) (B + 16) := by unfold NE; omega
  have ne94 : NE (B + 4) (B + 17) := by unfold NE; omega
  have ne95 : NE (B + 4) (B + 18) := by unfold NE; omega
  have ne96 : NE (B + 4) (B + 19) := by unfold NE; omega
  have ne97 : NE (B + 4) (B + 20) := by unfold NE; omega
  have ne98 : NE (B + 4) (B + 21) := by unfold NE; omega
  have ne99 : NE (B + 4) (B + 22) := by unfold NE; omega
  have ne100 : NE (B + 5) (B + 6) := by unfold NE; omega
  have ne101 : NE (B + 5) (B + 7) := by unfold NE; omega
  have ne102 : NE (B + 5) (B + 8) := by unfold NE; omega
  have ne103 : NE (B + 5) (B + 9) := by unfold NE; omega
  have ne104 : NE (B + 5) (B + 10) := by unfold NE; omega
  have ne105 : NE (B + 5) (B + 11) := by unfold NE; omega
  have ne106 : NE (B + 5) (B + 12) := by unfold NE; omega
  have ne107 : NE (B + 5) (B + 13) := by unfold NE; omega
  have ne108 : NE (B + 5) (B + 14) := by unfold NE; omega
  have ne109 : NE (B + 5) (B + 15) := by unfold NE; omega
  have ne110 : NE (B + 5) (B + 16) := by unfold NE; omega
  have ne111 : NE (B + 5) (B + 17) := by unfold NE; omega
  have ne112 : NE (B + 5) (B + 18) := by unfold NE; omega
  have ne113 : NE (B + 5) (B + 19) := by unfold NE; omega
  have ne114 : NE (B + 5) (B + 20) := by unfold NE; omega
  have ne115 : NE (B + 5) (B + 21) := by unfold NE; omega
  have ne116 : NE (B + 5) (B + 22) := by unfold NE; omega
  have ne117 : NE (B + 6) (B + 7) := by unfold NE; omega
  have ne118 : NE (B + 6) (B + 8) := by unfold NE; omega
  have ne119 : NE (B + 6) (B + 9) := by unfold NE; omega
  have ne120 : NE (B + 6) (B + 10) := by unfold NE; omega
  have ne121 : NE (B + 6) (B + 11) := by unfold NE; omega
  have ne122 : NE (B + 6) (B + 12) := by unfold NE; omega
  have ne123 : NE (B + 6) (B + 13) := by unfold NE; omega
  have ne124 : NE (B + 6) (B + 14) := by unfold NE; omega
  have ne125 : NE (B + 6) (B + 15) := by unfold NE; omega
  have ne126 : NE (B + 6) (B + 16) := by unfold NE; omega
  have ne127 : NE (B + 6) (B + 17) := by unfold NE; omega
  have ne128 : NE (B + 6) (B + 18) := by unfold NE; omega
  have ne129 : NE (B + 6) (B + 19) := by unfold NE; omega
  have ne130 : NE (B + 6) (B + 20) := by unfold NE; omega
  have ne131 : NE (B + 6) (B + 21) := by unfold NE; omega
  have ne132 : NE (B + 6) (B + 22) := by unfold NE; omega
  have ne133 : NE (B + 7) (B + 8) := by unfold NE; omega
  have ne134 : NE (B + 7) (B + 9) := by unfold NE; omega
  have ne135 : NE (B + 7) (B + 10) := by unfold NE; omega
  have ne136 : NE (B + 7) (B + 11) := by unfold NE; omega
  have ne137 : NE (B + 7) (B + 12) := by unfold NE; omega
  have ne138 : NE (B + 7) (B + 13) := by unfold NE; omega
  have ne139 : NE (B + 7) (B + 14) := by unfold NE; omega
  have ne140 : NE (B + 7) (B + 15) := by unfold NE; omega
  have ne141 : NE (B + 7) (B + 16) := by unfold NE; omega
  have ne142 : NE (B + 7) (B + 17) := by unfold NE; omega
  have ne143 : NE (B + 7) (B + 18) := by unfold NE; omega
  have ne144 : NE (B + 7) (B + 19) := by unfold NE; omega
  have ne145 : NE (B + 7) (B + 20) := by unfold NE; omega
  have ne146 : NE (B + 7) (B + 21) := by unfold NE; omega
  have ne147 : NE (B + 7) (B + 22) := by unfold NE; omega
  have ne148 : NE (B + 8) (B + 9) := by unfold NE; omega
  have ne149 : NE (B + 8) (B + 10) := by unfold NE; omega
  have ne150 : NE (B + 8) (B + 11) := by unfold NE; omega
  have ne151 : NE (B + 8) (B + 12) := by unfold NE; omega
  have ne152 : NE (B + 8) (B + 13) := by unfold NE; omega
  have ne153 : NE (B + 8) (B + 14) := by unfold NE; omega
  have ne154 : NE (B + 8) (B + 15) := by unfold NE; omega
  have ne155 : NE (B + 8) (B + 16) := by unfold NE; omega
  have ne156 : NE (B + 8) (B + 17) := by unfold NE; omega
  have ne157 : NE (B + 8) (B + 18) := by unfold NE; omega
  have ne158 : NE (B + 8) (B + 19) := by unfold NE; omega
  have ne159 : NE (B + 8) (B + 20) := by unfold NE; omega
  have ne160 : NE (B + 8) (B + 21) := by unfold NE; omega
  have ne161 : NE (B + 8) (B + 22) := by unfold NE; omega
  have ne162 : NE (B + 9) (B + 10) := by unfold NE; omega
  have ne163 : NE (B + 9) (B + 11) := by unfold NE; omega
  have ne164 : NE (B + 9) (B + 12) := by unfold NE; omega
  have ne165 : NE (B + 9) (B + 13) := by unfold NE; omega
  have ne166 : NE (B + 9) (B + 14) := by unfold NE; omega
  have ne167 : NE (B + 9) (B + 15) := by unfold NE; omega
  have ne168 : NE (B + 9) (B + 16) := by unfold NE; omega
  have ne169 : NE (B + 9) (B + 17) := by unfold NE; omega
  have ne170 : NE (B + 9) (B + 18) := by unfold NE; omega
  have ne171 : NE (B + 9) (B + 19) := by unfold NE; omega
  have ne172 : NE (B + 9) (B + 20) := by unfold NE; omega
  have ne173 : NE (B + 9) (B + 21) := by unfold NE; omega
  have ne174 : NE (B + 9) (B + 22) := by unfold NE; omega
  have ne175 : NE (B + 10) (B + 11) := by unfold NE; omega
  have ne176 : NE (B + 10) (B + 12) := by unfold NE; omega
  have ne177 : NE (B + 10) (B + 13) := by unfold NE; omega
  have ne178 : NE (B + 10) (B + 14) := by unfold NE; omega
  have ne179 : NE (B + 10) (B + 15) := by unfold NE; omega
  have ne180 : NE (B + 10) (B + 16) := by unfold NE; omega
  have ne181 : NE (B + 10) (B + 17) := by unfold NE; omega
  have ne182 : NE (B + 10) (B + 18) := by unfold NE; omega
  have ne183 : NE (B + 10) (B + 19) := by unfold NE; omega
  have ne184 : NE (B + 10) (B + 20) := by unfold NE; omega
  have ne185 : NE (B + 10) (B + 21) := by unfold NE; omega
  have ne186 : NE (B + 10) (B + 22) := by unfold NE; omega
  have ne187 : NE (B + 11) (B + 12) := by unfold NE; omega
  have ne188 : NE (B + 11) (B + 13) := by unfold NE; omega
  have ne189 : NE (B + 11) (B + 14) := by unfold NE; omega
  have ne190 : NE (B + 11) (B + 15) := by unfold NE; omega
  have ne191 : NE (B + 11) (B + 16) := by unfold NE; omega
  have ne192 : NE (B + 11) (B + 17) := by unfold NE; omega
  have ne193 : NE (B + 11) (B + 18) := by unfold NE; omega
  have ne194 : NE (B + 11) (B + 19) := by unfold NE; omega
  have ne195 : NE (B + 11) (B + 20) := by unfold NE; omega
  have ne196 : NE (B + 11) (B + 21) := by unfold NE; omega
  have ne197 : NE (B + 11) (B + 22) := by unfold NE; omega
  have ne198 : NE (B + 12) (B + 13) := by unfold NE; omega
  have ne199 : NE (B + 12) (B + 14) := by unfold NE; omega
  have ne200 : NE (B + 12) (B + 15) := by unfold NE; omega
  have ne201 : NE (B + 12) (B + 16) := by unfold NE; omega
  have ne202 : NE (B + 12) (B + 17) := by unfold NE; omega
  have ne203 : NE (B + 12) (B + 18) := by unfold NE; omega
  have ne204 : NE (B + 12) (B + 19) := by unfold NE; omega
  have ne205 : NE (B + 12) (B + 20) := by unfold NE; omega
  have ne206 : NE (B + 12) (B + 21) := by unfold NE; omega
  have ne207 : NE (B + 12) (B + 22) := by unfold NE; omega
  have ne208 : NE (B + 13) (B + 14) := by unfold NE; omega
  have ne209 : NE (B + 13) (B + 15) := by unfold NE; omega
  have ne210 : NE (B + 13) (B + 16) := by unfold NE; omega
  have ne211 : NE (B + 13) (B + 17) := by unfold NE; omega
  have ne212 : NE (B + 13) (B + 18) := by unfold NE; omega
  have ne213 : NE (B + 13) (B + 19) := by unfold NE; omega
  have ne214 : NE (B + 13) (B + 20) := by unfold NE; omega
  have ne215 : NE (B + 13) (B + 21) := by unfold NE; omega
  have ne216 : NE (B + 13) (B + 22) := by unfold NE; omega
  have ne217 : NE (B + 14) (B + 15) := by unfold NE; omega
  have ne218 : NE (B + 14) (B + 16) := by unfold NE; omega
  have ne219 : NE (B + 14) (B + 17) := by unfold NE; omega
  have ne220 : NE (B + 14) (B + 18) := by unfold NE; omega
  have ne221 : NE (B + 14) (B + 19) := by unfold NE; omega
  have ne222 : NE (B + 14) (B + 20) := by unfold NE; omega
  have ne223 : NE (B + 14) (B + 21) := by unfold NE; omega
  have ne224 : NE (B + 14) (B + 22) := by unfold NE; omega
  have ne225 : NE (B + 15) (B + 16) := by unfold NE; omega
  have ne226 : NE (B + 15) (B + 17) := by unfold NE; omega
  have ne227 : NE (B + 15) (B + 18) := by unfold NE; omega
  have ne228 : NE (B + 15) (B + 19) := by unfold NE; omega
  have ne229 : NE (B + 15) (B + 20) := by unfold NE; omega
  have ne230 : NE (B + 15) (B + 21) := by unfold NE; omega
  have ne231 : NE (B + 15) (B + 22) := by unfold NE; omega
  have ne232 : NE (B + 16) (B + 17) := by unfold NE; omega
  have ne233 : NE (B + 16) (B + 18) := by unfold NE; omega
  have ne234 : NE (B + 16) (B + 19) := by unfold NE; omega
  have ne235 : NE (B + 16) (B + 20) := by unfold NE; omega
  have ne236 : NE (B + 16) (B + 21) := by unfold NE; omega
  have ne237 : NE (B + 16) (B + 22) := by unfold NE; omega
  have ne238 : NE (B + 17) (B + 18) := by unfold NE; omega
  have ne239 : NE (B + 17) (B + 19) := by unfold NE; omega
  have ne240 : NE (B + 17) (B + 20) := by unfold NE; omega
  have ne241 : NE (B + 17) (B + 21) := by unfold NE; omega
  have ne242 : NE (B + 17) (B + 22) := by unfold NE; omega
  have ne243 : NE (B + 18) (B + 19) := by unfold NE; omega
  have ne244 : NE (B + 18) (B + 20) := by unfold NE; omega
  have ne245 : NE (B + 18) (B + 21) := by unfold NE; omega
  have ne246 : NE (B + 18) (B + 22) := by unfold NE; omega
  have ne247 : NE (B + 19) (B + 20) := by unfold NE; omega
  have ne248 : NE (B + 19) (B + 21) := by unfold NE; omega
  have ne249 : NE (B + 19) (B + 22) := by unfold NE; omega
  have ne250 : NE (B + 20) (B + 21) := by unfold NE; omega
  have ne251 : NE (B + 20) (B + 22) := by unfold NE; omega
  have ne252 : NE (B + 21) (B + 22) := by unfold NE; omega
  obtain ⟨g9, g10, g11, g12, g13, g14, g15, x9, x10, x11, x12, x13, x14, x15, e0, e1, e2, e3, e4, hbd, hF, hK, hR⟩ := hX
  have hfb : hf = 0 ∨ hf = 1 := by omega
  refine g_iload_n 1 dX10_part__0 rfl ?_
  refine g_if_lt (tgt := 22) dX10_part__1 rfl (by first | assumption | (unfold gW; omega)) (fun c1 => ?_) (fun c1 => ?_)
  · skip
    refine g_iconst dX10_part__22 ?_
    exact g_iret dX10_part__23 rfl ⟨Fr.e0 (Fr.rf [] h), by unfold aPa; dsimp only; rw [if_neg (by omega)]⟩
  · skip
    refine g_iload_n 1 dX10_part__4 rfl ?_
    refine g_aload_n 0 dX10_part__5 rfl ?_
    refine g_getf 15 dX10_part__6 kX10 (by decide) fX10_93 hm rfl ?_
    refine g_icmp_ge (tgt := 22) dX10_part__9 rfl (by first | assumption | (unfold gW; omega)) (by first | assumption | (unfold gW; omega)) (fun c2 => ?_) (fun c2 => ?_)
    · skip
      refine g_iconst dX10_part__22 ?_
      exact g_iret dX10_part__23 rfl ⟨Fr.e0 (Fr.rf [] h), by unfold aPa; dsimp only; rw [if_neg (by omega)]⟩
    · skip
      refine g_iload_n 2 dX10_part__12 rfl ?_
      refine g_if_lt (tgt := 22) dX10_part__13 rfl (by first | assumption | (unfold gW; omega)) (fun c3 => ?_) (fun c3 => ?_)
      · skip
        refine g_iconst dX10_part__22 ?_
        exact g_iret dX10_part__23 rfl ⟨Fr.e0 (Fr.rf [] h), by unfold aPa; dsimp only; rw [if_neg (by omega)]⟩
      · skip
        refine g_iload_n 2 dX10_part__16 rfl ?_
        refine g_bipush dX10_part__17 (by decide) ?_
        refine g_icmp_le (tgt := 24) dX10_part__19 rfl (by first | assumption | (unfold gW; omega)) (by first | assumption | (unfold gW; omega)) (fun c4 => ?_) (fun c4 => ?_)
        · skip
          refine g_iload_n 2 dX10_part__24 rfl ?_
          refine g_if_ne (tgt := 37) dX10_part__25 rfl (by first | assumption | (unfold gW; omega)) (fun c5 => ?_) (fun c5 => ?_)
          · skip
            refine g_iload_n 2 dX10_part__37 rfl ?_
            refine g_iconst dX10_part__38 ?_
            refine g_icmp_ne (tgt := 51) dX10_part__39 rfl (by first | assumption | (unfold gW; omega)) (by first | assumption | (unfold gW; omega)) (fun c6 => ?_) (fun c6 => ?_)
            · skip
              refine g_aload_n 0 dX10_part__51 rfl ?_
              refine g_getf 18 dX10_part__52 kX10 (by decide) fX10_51 hm rfl ?_
              refine g_bipush dX10_part__55 (by decide) ?_
              refine g_iload_n 1 dX10_part__57 rfl ?_
              refine g_imul dX10_part__58 ?_
              refine g_iload_n 2 dX10_part__59 rfl ?_
              refine g_iadd dX10_part__60 ?_
              refine g_iconst dX10_part__61 ?_
              refine g_isub dX10_part__62 ?_
              refine g_iaload dX10_part__63 x14 (by omega) (by omega) (by omega) ?_
              have hv_ : (g14) ((((41) * (i)) + (w)) - (2)) = cf (kQ hp f i) (w - 2) := by rw [show (41 * i + w) - 2 = 41 * i + (w - 2) by omega]; exact (hK i (by omega) (by omega)).2.2 (w - 2) (by omega) (by omega)
              rw [hv_]
              exact g_iret dX10_part__64 rfl ⟨Fr.e0 (Fr.rf [] h), by unfold aPa; dsimp only; rw [if_pos (by omega), if_neg (by omega), if_neg (by omega)]⟩
            · skip
              refine g_aload_n 0 dX10_part__42 rfl ?_
              refine g_getf 17 dX10_part__43 kX10 (by decide) fX10_48 hm rfl ?_
              refine g_iload_n 1 dX10_part__46 rfl ?_
              refine g_iaload dX10_part__47 x13 (by omega) (by omega) (by omega) ?_
              have hv_ : (g13) (i) = dgi hp (kQ hp f i) := by exact (hK i (by omega) (by omega)).2.1
              rw [hv_]
              refine g_goto (tgt := 64) dX10_part__48 rfl ?_
              exact g_iret dX10_part__64 rfl ⟨Fr.e0 (Fr.rf [] h), by unfold aPa; dsimp only; rw [if_pos (by omega), if_neg (by omega), if_pos (by omega)]⟩
          · skip
            refine g_aload_n 0 dX10_part__28 rfl ?_
            refine g_getf 16 dX10_part__29 kX10 (by decide) fX10_45 hm rfl ?_
            refine g_iload_n 1 dX10_part__32 rfl ?_
            refine g_iaload dX10_part__33 x12 (by omega) (by omega) (by omega) ?_
            have hv_ : (g12) (i) = kK hp f i := by exact (hK i (by omega) (by omega)).1
            rw [hv_]
            refine g_goto (tgt := 64) dX10_part__34 rfl ?_
            exact g_iret dX10_part__64 rfl ⟨Fr.e0 (Fr.rf [] h), by unfold aPa; dsimp only; rw [if_pos (by omega), if_pos (by omega)]⟩
        · skip
          refine g_iconst dX10_part__22 ?_
          exact g_iret dX10_part__23 rfl ⟨Fr.e0 (Fr.rf [] h), by unfold aPa; dsimp only; rw [if_neg (by omega)]⟩
theorem sM_part (N : GN) (h : GH) (B p : Nat) (hp : prm p) (hp2 : p ≤ 65536) (hf le fc pn rn hn qn : Int) (fo : Option (Px p)) (i w : Int) (gW_i : gW i) (gW_w : gW w) (hm : h.2 B = some (mO B p hf le fc pn rn hn qn)) (hX : MFx hp B h fo hf le fc pn rn) : Sp N yX10_part_ mX10_part_ 0 0 [.ref (B), .int (gI (i)), .int (gI (w))] h (fun v h1 => h1 = h ∧ v = some (.int (gI (aPa hp (fo) i w)))) := by
  cases fo with
  | none => exact sM_partN N h B p hp hp2 hf le fc pn rn hn qn i w gW_i gW_w hm hX
  | some f => exact sM_partS N h B p hp hp2 hf le fc pn rn hn qn f i w gW_i gW_w hm hX
set_option maxHeartbeats 4000000 in
set_option maxRecDepth 100000 in
theorem sM_rootN (N : GN) (h : GH) (B p : Nat) (hp : prm p) (hp2 : p ≤ 65536) (hf le fc pn rn hn qn : Int)  (i : Int) (gW_i : gW i) (hm : h.2 B = some (mO B p hf le fc pn rn hn qn)) (hX : MFx hp B h (none) hf le fc pn rn) : Sp N yX10_root mX10_root 0 0 [.ref (B), .int (gI (i))] h (fun v h1 => h1 = h ∧ v = some (.int (gI (aRo hp (none) i)))) := by
  refine Sp.of (by decide) rfl rfl (Nat.le_of_ble_eq_true rfl) ?_
  show Go N mX10_root _ 0 0 h 0 [(0, .ref (B)), (1, .int (gI (i)))] []
  have hp1 := hp.1
  have neA : NE B (B + 5) := by unfold NE; omega
  have neB : NE B (B + 6) := by unfold NE; omega
  have neC : NE (B + 5) (B + 6) := by unfold NE; omega
  have ne0 : NE (B) (B + 1) := by unfold NE; omega
  have ne1 : NE (B) (B + 2) := by unfold NE; omega
  have ne2 : NE (B) (B + 3) := by unfold NE; omega
  have ne3 : NE (B) (B + 4) := by unfold NE; omega
  have ne4 : NE (B) (B + 5) := by unfold NE; omega
  have ne5 : NE (B) (B + 6) := by unfold NE; omega
  have ne6 : NE (B) (B + 7) := by unfold NE; omega
  have ne7 : NE (B) (B + 8) := by unfold NE; omega
  have ne8 : NE (B) (B + 9) := by unfold NE; omega
  have ne9 : NE (B) (B + 10) := by unfold NE; omega
  have ne10 : NE (B) (B + 11) := by unfold NE; omega
  have ne11 : NE (B) (B + 12) := by unfold NE; omega
  have ne12 : NE (B) (B + 13) := by unfold NE; omega
  have ne13 : NE (B) (B + 14) := by unfold NE; omega
  have ne14 : NE (B) (B + 15) := by unfold NE; omega
  have ne15 : NE (B) (B + 16) := by unfold NE; omega
  have ne16 : NE (B) (B + 17) := by unfold NE; omega
  have ne17 : NE (B) (B + 18) := by unfold NE; omega
  have ne18 : NE (B) (B + 19) := by unfold NE; omega
  have ne19 : NE (B) (B + 20) := by unfold NE; omega
  have ne20 : NE (B) (B + 21) := by unfold NE; omega
  have ne21 : NE (B) (B + 22) := by unfold NE; omega
  have ne22 : NE (B + 1) (B + 2) := by unfold NE; omega
  have ne23 : NE (B + 1) (B + 3) := by unfold NE; omega
  have ne24 : NE (B + 1) (B + 4) := by unfold NE; omega
  have ne25 : NE (B + 1) (B + 5) := by unfold NE; omega
  have ne26 : NE (B + 1) (B + 6) := by unfold NE; omega
  have ne27 : NE (B + 1) (B + 7) := by unfold NE; omega
  have ne28 : NE (B + 1) (B + 8) := by unfold NE; omega
  have ne29 : NE (B + 1) (B + 9) := by unfold NE; omega
  have ne30 : NE (B + 1) (B + 10) := by unfold NE; omega
  have ne31 : NE (B + 1) (B + 11) := by unfold NE; omega
  have ne32 : NE (B + 1) (B + 12) := by unfold NE; omega
  have ne33 : NE (B + 1) (B + 13) := by unfold NE; omega
  have ne34 : NE (B + 1) (B + 14) := by unfold NE; omega
  have ne35 : NE (B + 1) (B + 15) := by unfold NE; omega
  have ne36 : NE (B + 1) (B + 16) := by unfold NE; omega
  have ne37 : NE (B + 1) (B + 17) := by unfold NE; omega
  have ne38 : NE (B + 1) (B + 18) := by unfold NE; omega
  have ne39 : NE (B + 1) (B + 19) := by unfold NE; omega
  have ne40 : NE (B + 1) (B + 20) := by unfold NE; omega
  have ne41 : NE (B + 1) (B + 21) := by unfold NE; omega
  have ne42 : NE (B + 1) (B + 22) := by unfold NE; omega
  have ne43 : NE (B + 2) (B + 3) := by unfold NE; omega
  have ne44 : NE (B + 2) (B + 4) := by unfold NE; omega
  have ne45 : NE (B + 2) (B + 5) := by unfold NE; omega
  have ne46 : NE (B + 2) (B + 6) := by unfold NE; omega
  have ne47 : NE (B + 2) (B + 7) := by unfold NE; omega
  have ne48 : NE (B + 2) (B + 8) := by unfold NE; omega
  have ne49 : NE (B + 2) (B + 9) := by unfold NE; omega
  have ne50 : NE (B + 2) (B + 10) := by unfold NE; omega
  have ne51 : NE (B + 2) (B + 11) := by unfold NE; omega
  have ne52 : NE (B + 2) (B + 12) := by unfold NE; omega
  have ne53 : NE (B + 2) (B + 13) := by unfold NE; omega
  have ne54 : NE (B + 2) (B + 14) := by unfold NE; omega
  have ne55 : NE (B + 2) (B + 15) := by unfold NE; omega
  have ne56 : NE (B + 2) (B + 16) := by unfold NE; omega
  have ne57 : NE (B + 2) (B + 17) := by unfold NE; omega
  have ne58 : NE (B + 2) (B + 18) := by unfold NE; omega
  have ne59 : NE (B + 2) (B + 19) := by unfold NE; omega
  have ne60 : NE (B + 2) (B + 20) := by unfold NE; omega
  have ne61 : NE (B + 2) (B + 21) := by unfold NE; omega
  have ne62 : NE (B + 2) (B + 22) := by unfold NE; omega
  have ne63 : NE (B + 3) (B + 4) := by unfold NE; omega
  have ne64 : NE (B + 3) (B + 5) := by unfold NE; omega
  have ne65 : NE (B + 3) (B + 6) := by unfold NE; omega
  have ne66 : NE (B + 3) (B + 7) := by unfold NE; omega
  have ne67 : NE (B + 3) (B + 8) := by unfold NE; omega
  have ne68 : NE (B + 3) (B + 9) := by unfold NE; omega
  have ne69 : NE (B + 3) (B + 10) := by unfold NE; omega
  have ne70 : NE (B + 3) (B + 11) := by unfold NE; omega
  have ne71 : NE (B + 3) (B + 12) := by unfold NE; omega
  have ne72 : NE (B + 3) (B + 13) := by unfold NE; omega
  have ne73 : NE (B + 3) (B + 14) := by unfold NE; omega
  have ne74 : NE (B + 3) (B + 15) := by unfold NE; omega
  have ne75 : NE (B + 3) (B + 16) := by unfold NE; omega
  have ne76 : NE (B + 3) (B + 17) := by unfold NE; omega
  have ne77 : NE (B + 3) (B + 18) := by unfold NE; omega
  have ne78 : NE (B + 3) (B + 19) := by unfold NE; omega
  have ne79 : NE (B + 3) (B + 20) := by unfold NE; omega
  have ne80 : NE (B + 3) (B + 21) := by unfold NE; omega
  have ne81 : NE (B + 3) (B + 22) := by unfold NE; omega
  have ne82 : NE (B + 4) (B + 5) := by unfold NE; omega
  have ne83 : NE (B + 4) (B + 6) := by unfold NE; omega
  have ne84 : NE (B + 4) (B + 7) := by unfold NE; omega
  have ne85 : NE (B + 4) (B + 8) := by unfold NE; omega
  have ne86 : NE (B + 4) (B + 9) := by unfold NE; omega
  have ne87 : NE (B + 4) (B + 10) := by unfold NE; omega
  have ne88 : NE (B + 4) (B + 11) := by unfold NE; omega
  have ne89 : NE (B + 4) (B + 12) := by unfold NE; omega
  have ne90 : NE (B + 4) (B + 13) := by unfold NE; omega
  have ne91 : NE (B + 4) (B + 14) := by unfold NE; omega
  have ne92 : NE (B + 4) (B + 15) := by unfold NE; omega
  have ne93 : NE (B + 4) (B + 16) := by unfold NE; omega
  have ne94 : NE (B + 4) (B + 17) := by unfold NE; omega
  have ne95 : NE (B + 4) (B + 18) := by unfold NE; omega
  have ne96 : NE (B + 4) (B + 19) := by unfold NE; omega
  have ne97 : NE (B + 4) (B + 20) := by unfold NE; omega
  have ne98 : NE (B + 4) (B + 21) := by unfold NE; omega
  have ne99 : NE (B + 4) (B + 22) := by unfold NE; omega
  have ne100 : NE (B + 5) (B + 6) := by unfold NE; omega
  have ne101 : NE (B + 5) (B + 7) := by unfold NE; omega
  have ne102 : NE (B + 5) (B + 8) := by unfold NE; omega
  have ne103 : NE (B + 5) (B + 9) := by unfold NE; omega
  have ne104 : NE (B + 5) (B + 10) := by unfold NE; omega
  have ne105 : NE (B + 5) (B + 11) := by unfold NE; omega
  have ne106 : NE (B + 5) (B + 12) := by unfold NE; omega
  have ne107 : NE (B + 5) (B + 13) := by unfold NE; omega
  have ne108 : NE (B + 5) (B + 14) := by unfold NE; omega
  have ne109 : NE (B + 5) (B + 15) := by unfold NE; omega
  have ne110 : NE (B + 5) (B + 16) := by unfold NE; omega
  have ne111 : NE (B + 5) (B + 17) := by unfold NE; omega
  have ne112 : NE (B + 5) (B + 18) := by unfold NE; omega
  have ne113 : NE (B + 5) (B + 19) := by unfold NE; omega
  have ne114 : NE (B + 5) (B + 20) := by unfold NE; omega
  have ne115 : NE (B + 5) (B + 21) := by unfold NE; omega
  have ne116 : NE (B + 5) (B + 22) := by unfold NE; omega
  have ne117 : NE (B + 6) (B + 7) := by unfold NE; omega
  have ne118 : NE (B + 6) (B + 8) := by unfold NE; omega
  have ne119 : NE (B + 6) (B + 9) := by unfold NE; omega
  have ne120 : NE (B + 6) (B + 10) := by unfold NE; omega
  have ne121 : NE (B + 6) (B + 11) := by unfold NE; omega
  have ne122 : NE (B + 6) (B + 12) := by unfold NE; omega
  have ne123 : NE (B + 6) (B + 13) := by unfold NE; omega
  have ne124 : NE (B + 6) (B + 14) := by unfold NE; omega
  have ne125 : NE (B + 6) (B + 15) := by unfold NE; omega
  have ne126 : NE (B + 6) (B + 16) := by unfold NE; omega
  have ne127 : NE (B + 6) (B + 17) := by unfold NE; omega
  have ne128 : NE (B + 6) (B + 18) := by unfold NE; omega
  have ne129 : NE (B + 6) (B + 19) := by unfold NE; omega
  have ne130 : NE (B + 6) (B + 20) := by unfold NE; omega
  have ne131 : NE (B + 6) (B + 21) := by unfold NE; omega
  have ne132 : NE (B + 6) (B + 22) := by unfold NE; omega
  have ne133 : NE (B + 7) (B + 8) := by unfold NE; omega
  have ne134 : NE (B + 7) (B + 9) := by unfold NE; omega
  have ne135 : NE (B + 7) (B + 10) := by unfold NE; omega
  have ne136 : NE (B + 7) (B + 11) := by unfold NE; omega
  have ne137 : NE (B + 7) (B + 12) := by unfold NE; omega
  have ne138 : NE (B + 7) (B + 13) := by unfold NE; omega
  have ne139 : NE (B + 7) (B + 14) := by unfold NE; omega
  have ne140 : NE (B + 7) (B + 15) := by unfold NE; omega
  have ne141 : NE (B + 7) (B + 16) := by unfold NE; omega
  have ne142 : NE (B + 7) (B + 17) := by unfold NE; omega
  have ne143 : NE (B + 7) (B + 18) := by unfold NE; omega
  have ne144 : NE (B + 7) (B + 19) := by unfold NE; omega
  have ne145 : NE (B + 7) (B + 20) := by unfold NE; omega
  have ne146 : NE (B + 7) (B + 21) := by unfold NE; omega
  have ne147 : NE (B + 7) (B + 22) := by unfold NE; omega
  have ne148 : NE (B + 8) (B + 9) := by unfold NE; omega
  have ne149 : NE (B + 8) (B + 10) := by unfold NE; omega
  have ne150 : NE (B + 8) (B + 11) := by unfold NE; omega
  have ne151 : NE (B + 8) (B + 12) := by unfold NE; omega
  have ne152 : NE (B + 8) (B + 13) := by unfold NE; omega
  have ne153 : NE (B + 8) (B + 14) := by unfold NE; omega
  have ne154 : NE (B + 8) (B + 15) := by unfold NE; omega
  have ne155 : NE (B + 8) (B + 16) := by unfold NE; omega
  have ne156 : NE (B + 8) (B + 17) := by unfold NE; omega
  have ne157 : NE (B + 8) (B + 18) := by unfold NE; omega
  have ne158 : NE (B + 8) (B + 19) := by unfold NE; omega
  have ne159 : NE (B + 8) (B + 20) := by unfold NE; omega
  have ne160 : NE (B + 8) (B + 21) := by unfold NE; omega
  have ne161 : NE (B + 8) (B + 22) := by unfold NE; omega
  have ne162 : NE (B + 9) (B + 10) := by unfold NE; omega
  have ne163 : NE (B + 9) (B + 11) := by unfold NE; omega
  have ne164 : NE (B + 9) (B + 12) := by unfold NE; omega
  have ne165 : NE (B + 9) (B + 13) := by unfold NE; omega
  have ne166 : NE (B + 9) (B + 14) := by unfold NE; omega
  have ne167 : NE (B + 9) (B + 15) := by unfold NE; omega
  have ne168 : NE (B + 9) (B + 16) := by unfold NE; omega
  have ne169 : NE (B + 9) (B + 17) := by unfold NE; omega
  have ne170 : NE (B + 9) (B + 18) := by unfold NE; omega
  have ne171 : NE (B + 9) (B + 19) := by unfold NE; omega
  have ne172 : NE (B + 9) (B + 20) := by unfold NE; omega
  have ne173 : NE (B + 9) (B + 21) := by unfold NE; omega
  have ne174 : NE (B + 9) (B + 22) := by unfold NE; omega
  have ne175 : NE (B + 10) (B + 11) := by unfold NE; omega
  have ne176 : NE (B + 10) (B + 12) := by unfold NE; omega
  have ne177 : NE (B + 10) (B + 13) := by unfold NE; omega
  have ne178 : NE (B + 10) (B + 14) := by unfold NE; omega
  have ne179 : NE (B + 10) (B + 15) := by unfold NE; omega
  have ne180 : NE (B + 10) (B + 16) := by unfold NE; omega
  have ne181 : NE (B + 10) (B + 17) := by unfold NE; omega
  have ne182 : NE (B + 10) (B + 18) := by unfold NE; omega
  have ne183 : NE (B + 10) (B + 19) := by unfold NE; omega
  have ne184 : NE (B + 10) (B + 20) := by unfold NE; omega
  have ne185 : NE (B + 10) (B + 21) := by unfold NE; omega
  have ne186 : NE (B + 10) (B + 22) := by unfold NE; omega
  have ne187 : NE (B + 11) (B + 12) := by unfold NE; omega
  have ne188 : NE (B + 11) (B + 13) := by unfold NE; omega
  have ne189 : NE (B + 11) (B + 14) := by unfold NE; omega
  have ne190 : NE (B + 11) (B + 15) := by unfold NE; omega
  have ne191 : NE (B + 11) (B + 16) := by unfold NE; omega
  have ne192 : NE (B + 11) (B + 17) := by unfold NE; omega
  have ne193 : NE (B + 11) (B + 18) := by unfold NE; omega
  have ne194 : NE (B + 11) (B + 19) := by unfold NE; omega
  have ne195 : NE (B + 11) (B + 20) := by unfold NE; omega
  have ne196 : NE (B + 11) (B + 21) := by unfold NE; omega
  have ne197 : NE (B + 11) (B + 22) := by unfold NE; omega
  have ne198 : NE (B + 12) (B + 13) := by unfold NE; omega
  have ne199 : NE (B + 12) (B + 14) := by unfold NE; omega
  have ne200 : NE (B + 12) (B + 15) := by unfold NE; omega
  have ne201 : NE (B + 12) (B + 16) := by unfold NE; omega
  have ne202 : NE (B + 12) (B + 17) := by unfold NE; omega
  have ne203 : NE (B + 12) (B + 18) := by unfold NE; omega
  have ne204 : NE (B + 12) (B + 19) := by unfold NE; omega
  have ne205 : NE (B + 12) (B + 20) := by unfold NE; omega
  have ne206 : NE (B + 12) (B + 21) := by unfold NE; omega
  have ne207 : NE (B + 12) (B + 22) := by unfold NE; omega
  have ne208 : NE (B + 13) (B + 14) := by unfold NE; omega
  have ne209 : NE (B + 13) (B + 15) := by unfold NE; omega
  have ne210 : NE (B + 13) (B + 16) := by unfold NE; omega
  have ne211 : NE (B + 13) (B + 17) := by unfold NE; omega
  have ne212 : NE (B + 13) (B + 18) := by unfold NE; omega
  have ne213 : NE (B + 13) (B + 19) := by unfold NE; omega
  have ne214 : NE (B + 13) (B + 20) := by unfold NE; omega
  have ne215 : NE (B + 13) (B + 21) := by unfold NE; omega
  have ne216 : NE (B + 13) (B + 22) := by unfold NE; omega
  have ne217 : NE (B + 14) (B + 15) := by unfold NE; omega
  have ne218 : NE (B + 14) (B + 16) := by unfold NE; omega
  have ne219 : NE (B + 14) (B + 17) := by unfold NE; omega
  have ne220 : NE (B + 14) (B + 18) := by unfold NE; omega
  have ne221 : NE (B + 14) (B + 19) := by unfold NE; omega
  have ne222 : NE (B + 14) (B + 20) := by unfold NE; omega
  have ne223 : NE (B + 14) (B + 21) := by unfold NE; omega
  have ne224 : NE (B + 14) (B + 22) := by unfold NE; omega
  have ne225 : NE (B + 15) (B + 16) := by unfold NE; omega
  have ne226 : NE (B + 15) (B + 17) := by unfold NE; omega
  have ne227 : NE (B + 15) (B + 18) := by unfold NE; omega
  have ne228 : NE (B + 15) (B + 19) := by unfold NE; omega
  have ne229 : NE (B + 15) (B + 20) := by unfold NE; omega
  have ne230 : NE (B + 15) (B + 21) := by unfold NE; omega
  have ne231 : NE (B + 15) (B + 22) := by unfold NE; omega
  have ne232 : NE (B + 16) (B + 17) := by unfold NE; omega
  have ne233 : NE (B + 16) (B + 18) := by unfold NE; omega
  have ne234 : NE (B + 16) (B + 19) := by unfold NE; omega
  have ne235 : NE (B + 16) (B + 20) := by unfold NE; omega
  have ne236 : NE (B + 16) (B + 21) := by unfold NE; omega
  have ne237 : NE (B + 16) (B + 22) := by unfold NE; omega
  have ne238 : NE (B + 17) (B + 18) := by unfold NE; omega
  have ne239 : NE (B + 17) (B + 19) := by unfold NE; omega
  have ne240 : NE (B + 17) (B + 20) := by unfold NE; omega
  have ne241 : NE (B + 17) (B + 21) := by unfold NE; omega
  have ne242 : NE (B + 17) (B + 22) := by unfold NE; omega
  have ne243 : NE (B + 18) (B + 19) := by unfold NE; omega
  have ne244 : NE (B + 18) (B + 20) := by unfold NE; omega
  have ne245 : NE (B + 18) (B + 21) := by unfold NE; omega
  have ne246 : NE (B + 18) (B + 22) := by unfold NE; omega
  have ne247 : NE (B + 19) (B + 20) := by unfold NE; omega
  have ne248 : NE (B + 19) (B + 21) := by unfold NE; omega
  have ne249 : NE (B + 19) (B + 22) := by unfold NE; omega
  have ne250 : NE (B + 20) (B + 21) := by unfold NE; omega
  have ne251 : NE (B + 20) (B + 22) := by unfold NE; omega
  have ne252 : NE (B + 21) (B + 22) := by unfold NE; omega
  obtain ⟨g9, g10, g11, g12, g13, g14, g15, x9, x10, x11, x12, x13, x14, x15, e0, e1, e2, e3⟩ := hX
  have hfb : hf = 0 ∨ hf = 1 := by omega
  refine g_iload_n 1 dX10_root_0 rfl ?_
  refine g_if_lt (tgt := 12) dX10_root_1 rfl (by first | assumption | (unfold gW; omega)) (fun c1 => ?_) (fun c1 => ?_)
  · skip
    refine g_iconst dX10_root_12 ?_
    refine g_goto (tgt := 22) dX10_root_13 rfl ?_
    exact g_iret dX10_root_22 rfl ⟨Fr.e0 (Fr.rf [] h), by unfold aRo; rfl⟩
  · skip
    refine g_iload_n 1 dX10_root_4 rfl ?_
    refine g_aload_n 0 dX10_root_5 rfl ?_
    refine g_getf 19 dX10_root_6 kX10 (by decide) fX10_96 hm rfl ?_
    refine g_icmp_lt (tgt := 16) dX10_root_9 rfl (by first | assumption | (unfold gW; omega)) (by first | assumption | (unfold gW; omega)) (fun c2 => ?_) (fun c2 => ?_)
    · skip
      exfalso; omega
    · skip
      refine g_iconst dX10_root_12 ?_
      refine g_goto (tgt := 22) dX10_root_13 rfl ?_
      exact g_iret dX10_root_22 rfl ⟨Fr.e0 (Fr.rf [] h), by unfold aRo; rfl⟩
set_option maxHeartbeats 4000000 in
set_option maxRecDepth 100000 in
theorem sM_rootS (N : GN) (h : GH) (B p : Nat) (hp : prm p) (hp2 : p ≤ 65536) (hf le fc pn rn hn qn : Int) (f : Px p) (i : Int) (gW_i : gW i) (hm : h.2 B = some (mO B p hf le fc pn rn hn qn)) (hX : MFx hp B h (some f) hf le fc pn rn) : Sp N yX10_root mX10_root 0 0 [.ref (B), .int (gI (i))] h (fun v h1 => h1 = h ∧ v = some (.int (gI (aRo hp (some f) i)))) := by
  refine Sp.of (by decide) rfl rfl (Nat.le_of_ble_eq_true rfl) ?_
  show Go N mX10_root _ 0 0 h 0 [(0, .ref (B)), (1, .int (gI (i)))] []
  have hp1 := hp.1
  have neA : NE B (B + 5) := by unfold NE; omega
  have neB : NE B (B + 6) := by unfold NE; omega
  have neC : NE (B + 5) (B + 6) := by unfold NE; omega
  have ne0 : NE (B) (B + 1) := by unfold NE; omega
  have ne1 : NE (B) (B + 2) := by unfold NE; omega
  have ne2 : NE (B) (B + 3) := by unfold NE; omega
  have ne3 : NE (B) (B + 4) := by unfold NE; omega
  have ne4 : NE (B) (B + 5) := by unfold NE; omega
  have ne5 : NE (B) (B + 6) := by unfold NE; omega
  have ne6 : NE (B) (B + 7) := by unfold NE; omega
  have ne7 : NE (B) (B + 8) := by unfold NE; omega
  have ne8 : NE (B) (B + 9) := by unfold NE; omega
  have ne9 : NE (B) (B + 10) := by unfold NE; omega
  have ne10 : NE (B) (B + 11) := by unfold NE; omega
  have ne11 : NE (B) (B + 12) := by unfold NE; omega
  have ne12 : NE (B) (B + 13) := by unfold NE; omega
  have ne13 : NE (B) (B + 14) := by unfold NE; omega
  have ne14 : NE (B) (B + 15) := by unfold NE; omega
  have ne15 : NE (B) (B + 16) := by unfold NE; omega
  have ne16 : NE (B) (B + 17) := by unfold NE; omega
  have ne17 : NE (B) (B + 18) := by unfold NE; omega
  have ne18 : NE (B) (B + 19) := by unfold NE; omega
  have ne19 : NE (B) (B + 20) := by unfold NE; omega
  have ne20 : NE (B) (B + 21) := by unfold NE; omega
  have ne21 : NE (B) (B + 22) := by unfold NE; omega
  have ne22 : NE (B + 1) (B + 2) := by unfold NE; omega
  have ne23 : NE (B + 1) (B + 3) := by unfold NE; omega
  have ne24 : NE (B + 1) (B + 4) := by unfold NE; omega
  have ne25 : NE (B + 1) (B + 5) := by unfold NE; omega
  have ne26 : NE (B + 1) (B + 6) := by unfold NE; omega
  have ne27 : NE (B + 1) (B + 7) := by unfold NE; omega
  have ne28 : NE (B + 1) (B + 8) := by unfold NE; omega
  have ne29 : NE (B + 1) (B + 9) := by unfold NE; omega
  have ne30 : NE (B + 1) (B + 10) := by unfold NE; omega
  have ne31 : NE (B + 1) (B + 11) := by unfold NE; omega
  have ne32 : NE (B + 1) (B + 12) := by unfold NE; omega
  have ne33 : NE (B + 1) (B + 13) := by unfold NE; omega
  have ne34 : NE (B + 1) (B + 14) := by unfold NE; omega
  have ne35 : NE (B + 1) (B + 15) := by unfold NE; omega
  have ne36 : NE (B + 1) (B + 16) := by unfold NE; omega
  have ne37 : NE (B + 1) (B + 17) := by unfold NE; omega
  have ne38 : NE (B + 1) (B + 18) := by unfold NE; omega
  have ne39 : NE (B + 1) (B + 19) := by unfold NE; omega
  have ne40 : NE (B + 1) (B + 20) := by unfold NE; omega
  have ne41 : NE (B + 1) (B + 21) := by unfold NE; omega
  have ne42 : NE (B + 1) (B + 22) := by unfold NE; omega
  have ne43 : NE (B + 2) (B + 3) := by unfold NE; omega
  have ne44 : NE (B + 2) (B + 4) := by unfold NE; omega
  have ne45 : NE (B + 2) (B + 5) := by unfold NE; omega
  have ne46 : NE (B + 2) (B + 6) := by unfold NE; omega
  have ne47 : NE (B + 2) (B + 7) := by unfold NE; omega
  have ne48 : NE (B + 2) (B + 8) := by unfold NE; omega
  have ne49 : NE (B + 2) (B + 9) := by unfold NE; omega
  have ne50 : NE (B + 2) (B + 10) := by unfold NE; omega
  have ne51 : NE (B + 2) (B + 11) := by unfold NE; omega
  have ne52 : NE (B + 2) (B + 12) := by unfold NE; omega
  have ne53 : NE (B + 2) (B + 13) := by unfold NE; omega
  have ne54 : NE (B + 2) (B + 14) := by unfold NE; omega
  have ne55 : NE (B + 2) (B + 15) := by unfold NE; omega
  have ne56 : NE (B + 2) (B + 16) := by unfold NE; omega
  have ne57 : NE (B + 2) (B + 17) := by unfold NE; omega
  have ne58 : NE (B + 2) (B + 18) := by unfold NE; omega
  have ne59 : NE (B + 2) (B + 19) := by unfold NE; omega
  have ne60 : NE (B + 2) (B + 20) := by unfold NE; omega
  have ne61 : NE (B + 2) (B + 21) := by unfold NE; omega
  have ne62 : NE (B + 2) (B + 22) := by unfold NE; omega
  have ne63 : NE (B + 3) (B + 4) := by unfold NE; omega
  have ne64 : NE (B + 3) (B + 5) := by unfold NE; omega
  have ne65 : NE (B + 3) (B + 6) := by unfold NE; omega
  have ne66 : NE (B + 3) (B + 7) := by unfold NE; omega
  have ne67 : NE (B + 3) (B + 8) := by unfold NE; omega
  have ne68 : NE (B + 3) (B + 9) := by unfold NE; omega
  have ne69 : NE (B + 3) (B + 10) := by unfold NE; omega
  have ne70 : NE (B + 3) (B + 11) := by unfold NE; omega
  have ne71 : NE (B + 3) (B + 12) := by unfold NE; omega
  have ne72 : NE (B + 3) (B + 13) := by unfold NE; omega
  have ne73 : NE (B + 3) (B + 14) := by unfold NE; omega
  have ne74 : NE (B + 3) (B + 15) := by unfold NE; omega
  have ne75 : NE (B + 3) (B + 16) := by unfold NE; omega
  have ne76 : NE (B + 3) (B + 17) := by unfold NE; omega
  have ne77 : NE (B + 3) (B + 18) := by unfold NE; omega
  have ne78 : NE (B + 3) (B + 19) := by unfold NE; omega
  have ne79 : NE (B + 3) (B + 20) := by unfold NE; omega
  have ne80 : NE (B + 3) (B + 21) := by unfold NE; omega
  have ne81 : NE (B + 3) (B + 22) := by unfold NE; omega
  have ne82 : NE (B + 4) (B + 5) := by unfold NE; omega
  have ne83 : NE (B + 4) (B + 6) := by unfold NE; omega
  have ne84 : NE (B + 4) (B + 7) := by unfold NE; omega
  have ne85 : NE (B + 4) (B + 8) := by unfold NE; omega
  have ne86 : NE (B + 4) (B + 9) := by unfold NE; omega
  have ne87 : NE (B + 4) (B + 10) := by unfold NE; omega
  have ne88 : NE (B + 4) (B + 11) := by unfold NE; omega
  have ne89 : NE (B + 4) (B + 12) := by unfold NE; omega
  have ne90 : NE (B + 4) (B + 13) := by unfold NE; omega
  have ne91 : NE (B + 4) (B + 14) := by unfold NE; omega
  have ne92 : NE (B + 4) (B + 15) := by unfold NE; omega
  have ne93 : NE (B + 4) (B + 16) := by unfold NE; omega
  have ne94 : NE (B + 4) (B + 17) := by unfold NE; omega
  have ne95 : NE (B + 4) (B + 18) := by unfold NE; omega
  have ne96 : NE (B + 4) (B + 19) := by unfold NE; omega
  have ne97 : NE (B + 4) (B + 20) := by unfold NE; omega
  have ne98 : NE (B + 4) (B + 21) := by unfold NE; omega
  have ne99 : NE (B + 4) (B + 22) := by unfold NE; omega
  have ne100 : NE (B + 5) (B + 6) := by unfold NE; omega
  have ne101 : NE (B + 5) (B + 7) := by unfold NE; omega
  have ne102 : NE (B + 5) (B + 8) := by unfold NE; omega
  have ne103 : NE (B + 5) (B + 9) := by unfold NE; omega
  have ne104 : NE (B + 5) (B + 10) := by unfold NE; omega
  have ne105 : NE (B + 5) (B + 11) := by unfold NE; omega
  have ne106 : NE (B + 5) (B + 12) := by unfold NE; omega
  have ne107 : NE (B + 5) (B + 13) := by unfold NE; omega
  have ne108 : NE (B + 5) (B + 14) := by unfold NE; omega
  have ne109 : NE (B + 5) (B + 15) := by unfold NE; omega
  have ne110 : NE (B + 5) (B + 16) := by unfold NE; omega
  have ne111 : NE (B + 5) (B + 17) := by unfold NE; omega
  have ne112 : NE (B + 5) (B + 18) := by unfold NE; omega
  have ne113 : NE (B + 5) (B + 19) := by unfold NE; omega
  have ne114 : NE (B + 5) (B + 20) := by unfold NE; omega
  have ne115 : NE (B + 5) (B + 21) := by unfold NE; omega
  have ne116 : NE (B + 5) (B + 22) := by unfold NE; omega
  have ne117 : NE (B + 6) (B + 7) := by unfold NE; omega
  have ne118 : NE (B + 6) (B + 8) := by unfold NE; omega
  have ne119 : NE (B + 6) (B + 9) := by unfold NE; omega
  have ne120 : NE (B + 6) (B + 10) := by unfold NE; omega
  have ne121 : NE (B + 6) (B + 11) := by unfold NE; omega
  have ne122 : NE (B + 6) (B + 12) := by unfold NE; omega
  have ne123 : NE (B + 6) (B + 13) := by unfold NE; omega
  have ne124 : NE (B + 6) (B + 14) := by unfold NE; omega
  have ne125 : NE (B + 6) (B + 15) := by unfold NE; omega
  have ne126 : NE (B + 6) (B + 16) := by unfold NE; omega
  have ne127 : NE (B + 6) (B + 17) := by unfold NE; omega
  have ne128 : NE (B + 6) (B + 18) := by unfold NE; omega
  have ne129 : NE (B + 6) (B + 19) := by unfold NE; omega
  have ne130 : NE (B + 6) (B + 20) := by unfold NE; omega
  have ne131 : NE (B + 6) (B + 21) := by unfold NE; omega
  have ne132 : NE (B + 6) (B + 22) := by unfold NE; omega
  have ne133 : NE (B + 7) (B + 8) := by unfold NE; omega
  have ne134 : NE (B + 7) (B + 9) := by unfold NE; omega
  have ne135 : NE (B + 7) (B + 10) := by unfold NE; omega
  have ne136 : NE (B + 7) (B + 11) := by unfold NE; omega
  have ne137 : NE (B + 7) (B + 12) := by unfold NE; omega
  have ne138 : NE (B + 7) (B + 13) := by unfold NE; omega
  have ne139 : NE (B + 7) (B + 14) := by unfold NE; omega
  have ne140 : NE (B + 7) (B + 15) := by unfold NE; omega
  have ne141 : NE (B + 7) (B + 16) := by unfold NE; omega
  have ne142 : NE (B + 7) (B + 17) := by unfold NE; omega
  have ne143 : NE (B + 7) (B + 18) := by unfold NE; omega
  have ne144 : NE (B + 7) (B + 19) := by unfold NE; omega
  have ne145 : NE (B + 7) (B + 20) := by unfold NE; omega
  have ne146 : NE (B + 7) (B + 21) := by unfold NE; omega
  have ne147 : NE (B + 7) (B + 22) := by unfold NE; omega
  have ne148 : NE (B + 8) (B + 9) := by unfold NE; omega
  have ne149 : NE (B + 8) (B + 10) := by unfold NE; omega
  have ne150 : NE (B + 8) (B + 11) := by unfold NE; omega
  have ne151 : NE (B + 8) (B + 12) := by unfold NE; omega
  have ne152 : NE (B + 8) (B + 13) := by unfold NE; omega
  have ne153 : NE (B + 8) (B + 14) := by unfold NE; omega
  have ne154 : NE (B + 8) (B + 15) := by unfold NE; omega
  have ne155 : NE (B + 8) (B + 16) := by unfold NE; omega
  have ne156 : NE (B + 8) (B + 17) := by unfold NE; omega
  have ne157 : NE (B + 8) (B + 18) := by unfold NE; omega
  have ne158 : NE (B + 8) (B + 19) := by unfold NE; omega
  have ne159 : NE (B + 8) (B + 20) := by unfold NE; omega
  have ne160 : NE (B + 8) (B + 21) := by unfold NE; omega
  have ne161 : NE (B + 8) (B + 22) := by unfold NE; omega
  have ne162 : NE (B + 9) (B + 10) := by unfold NE; omega
  have ne163 : NE (B + 9) (B + 11) := by unfold NE; omega
  have ne164 : NE (B + 9) (B + 12) := by unfold NE; omega
  have ne165 : NE (B + 9) (B + 13) := by unfold NE; omega
  have ne166 : NE (B + 9) (B + 14) := by unfold NE; omega
  have ne167 : NE (B + 9) (B + 15) := by unfold NE; omega
  have ne168 : NE (B + 9) (B + 16) := by unfold NE; omega
  have ne169 : NE (B + 9) (B + 17) := by unfold NE; omega
  have ne170 : NE (B + 9) (B + 18) := by unfold NE; omega
  have ne171 : NE (B + 9) (B + 19) := by unfold NE; omega
  have ne172 : NE (B + 9) (B + 20) := by unfold NE; omega
  have ne173 : NE (B + 9) (B + 21) := by unfold NE; omega
  have ne174 : NE (B + 9) (B + 22) := by unfold NE; omega
  have ne175 : NE (B + 10) (B + 11) := by unfold NE; omega
  have ne176 : NE (B + 10) (B + 12) := by unfold NE; omega
  have ne177 : NE (B + 10) (B + 13) := by unfold NE; omega
  have ne178 : NE (B + 10) (B + 14) := by unfold NE; omega
  have ne179 : NE (B + 10) (B + 15) := by unfold NE; omega
  have ne180 : NE (B + 10) (B + 16) := by unfold NE; omega
  have ne181 : NE (B + 10) (B + 17) := by unfold NE; omega
  have ne182 : NE (B + 10) (B + 18) := by unfold NE; omega
  have ne183 : NE (B + 10) (B + 19) := by unfold NE; omega
  have ne184 : NE (B + 10) (B + 20) := by unfold NE; omega
  have ne185 : NE (B + 10) (B + 21) := by unfold NE; omega
  have ne186 : NE (B + 10) (B + 22) := by unfold NE; omega
  have ne187 : NE (B + 11) (B + 12) := by unfold NE; omega
  have ne188 : NE (B + 11) (B + 13) := by unfold NE; omega
  have ne189 : NE (B + 11) (B + 14) := by unfold NE; omega
  have ne190 : NE (B + 11) (B + 15) := by unfold NE; omega
  have ne191 : NE (B + 11) (B + 16) := by unfold NE; omega
  have ne192 : NE (B + 11) (B + 17) := by unfold NE; omega
  have ne193 : NE (B + 11) (B + 18) := by unfold NE; omega
  have ne194 : NE (B + 11) (B + 19) := by unfold NE; omega
  have ne195 : NE (B + 11) (B + 20) := by unfold NE; omega
  have ne196 : NE (B + 11) (B + 21) := by unfold NE; omega
  have ne197 : NE (B + 11) (B + 22) := by unfold NE; omega
  have ne198 : NE (B + 12) (B + 13) := by unfold NE; omega
  have ne199 : NE (B + 12) (B + 14) := by unfold NE; omega
  have ne200 : NE (B + 12) (B + 15) := by unfold NE; omega
  have ne201 : NE (B + 12) (B + 16) := by unfold NE; omega
  have ne202 : NE (B + 12) (B + 17) := by unfold NE; omega
  have ne203 : NE (B + 12) (B + 18) := by unfold NE; omega
  have ne204 : NE (B + 12) (B + 19) := by unfold NE; omega
  have ne205 : NE (B + 12) (B + 20) := by unfold NE; omega
  have ne206 : NE (B + 12) (B + 21) := by unfold NE; omega
  have ne207 : NE (B + 12) (B + 22) := by unfold NE; omega
  have ne208 : NE (B + 13) (B + 14) := by unfold NE; omega
  have ne209 : NE (B + 13) (B + 15) := by unfold NE; omega
  have ne210 : NE (B + 13) (B + 16) := by unfold NE; omega
  have ne211 : NE (B + 13) (B + 17) := by unfold NE; omega
  have ne212 : NE (B + 13) (B + 18) := by unfold NE; omega
  have ne213 : NE (B + 13) (B + 19) := by unfold NE; omega
  have ne214 : NE (B + 13) (B + 20) := by unfold NE; omega
  have ne215 : NE (B + 13) (B + 21) := by unfold NE; omega
  have ne216 : NE (B + 13) (B + 22) := by unfold NE; omega
  have ne217 : NE (B + 14) (B + 15) := by unfold NE; omega
  have ne218 : NE (B + 14) (B + 16) := by unfold NE; omega
  have ne219 : NE (B + 14) (B + 17) := by unfold NE; omega
  have ne220 : NE (B + 14) (B + 18) := by unfold NE; omega
  have ne221 : NE (B + 14) (B + 19) := by unfold NE; omega
  have ne222 : NE (B + 14) (B + 20) := by unfold NE; omega
  have ne223 : NE (B + 14) (B + 21) := by unfold NE; omega
  have ne224 : NE (B + 14) (B + 22) := by unfold NE; omega
  have ne225 : NE (B + 15) (B + 16) := by unfold NE; omega
  have ne226 : NE (B + 15) (B + 17) := by unfold NE; omega
  have ne227 : NE (B + 15) (B + 18) := by unfold NE; omega
  have ne228 : NE (B + 15) (B + 19) := by unfold NE; omega
  have ne229 : NE (B + 15) (B + 20) := by unfold NE; omega
  have ne230 : NE (B + 15) (B + 21) := by unfold NE; omega
  have ne231 : NE (B + 15) (B + 22) := by unfold NE; omega
  have ne232 : NE (B + 16) (B + 17) := by unfold NE; omega
  have ne233 : NE (B + 16) (B + 18) := by unfold NE; omega
  have ne234 : NE (B + 16) (B + 19) := by unfold NE; omega
  have ne235 : NE (B + 16) (B + 20) := by unfold NE; omega
  have ne236 : NE (B + 16) (B + 21) := by unfold NE; omega
  have ne237 : NE (B + 16) (B + 22) := by unfold NE; omega
  have ne238 : NE (B + 17) (B + 18) := by unfold NE; omega
  have ne239 : NE (B + 17) (B + 19) := by unfold NE; omega
  have ne240 : NE (B + 17) (B + 20) := by unfold NE; omega
  have ne241 : NE (B + 17) (B + 21) := by unfold NE; omega
  have ne242 : NE (B + 17) (B + 22) := by unfold NE; omega
  have ne243 : NE (B + 18) (B + 19) := by unfold NE; omega
  have ne244 : NE (B + 18) (B + 20) := by unfold NE; omega
  have ne245 : NE (B + 18) (B + 21) := by unfold NE; omega
  have ne246 : NE (B + 18) (B + 22) := by unfold NE; omega
  have ne247 : NE (B + 19) (B + 20) := by unfold NE; omega
  have ne248 : NE (B + 19) (B + 21) := by unfold NE; omega
  have ne249 : NE (B + 19) (B + 22) := by unfold NE; omega
  have ne250 : NE (B + 20) (B + 21) := by unfold NE; omega
  have ne251 : NE (B + 20) (B + 22) := by unfold NE; omega
  have ne252 : NE (B + 21) (B + 22) := by unfold NE; omega
  obtain ⟨g9, g10, g11, g12, g13, g14, g15, x9, x10, x11, x12, x13, x14, x15, e0, e1, e2, e3, e4, hbd, hF, hK, hR⟩ := hX
  have hfb : hf = 0 ∨ hf = 1 := by omega
  refine g_iload_n 1 dX10_root_0 rfl ?_
  refine g_if_lt (tgt := 12) dX10_root_1 rfl (by first | assumption | (unfold gW; omega)) (fun c1 => ?_) (fun c1 => ?_)
  · skip
    refine g_iconst dX10_root_12 ?_
    refine g_goto (tgt := 22) dX10_root_13 rfl ?_
    exact g_iret dX10_root_22 rfl ⟨Fr.e0 (Fr.rf [] h), by unfold aRo; dsimp only; rw [if_neg (by omega)]⟩
  · skip
    refine g_iload_n 1 dX10_root_4 rfl ?_
    refine g_aload_n 0 dX10_root_5 rfl ?_
    refine g_getf 19 dX10_root_6 kX10 (by decide) fX10_96 hm rfl ?_
    refine g_icmp_lt (tgt := 16) dX10_root_9 rfl (by first | assumption | (unfold gW; omega)) (by first | assumption | (unfold gW; omega)) (fun c2 => ?_) (fun c2 => ?_)
    · skip
      refine g_aload_n 0 dX10_root_16 rfl ?_
      refine g_getf 20 dX10_root_17 kX10 (by decide) fX10_54 hm rfl ?_
      refine g_iload_n 1 dX10_root_20 rfl ?_
      refine g_iaload dX10_root_21 x15 (by omega) (by omega) (by omega) ?_
      have hv_ : (g15) (i) = rR hp f i := by exact hR i (by omega) (by omega)
      rw [hv_]
      exact g_iret dX10_root_22 rfl ⟨Fr.e0 (Fr.rf [] h), by unfold aRo; dsimp only; rw [if_pos (by omega)]⟩
    · skip
      refine g_iconst dX10_root_12 ?_
      refine g_goto (tgt := 22) dX10_root_13 rfl ?_
      exact g_iret dX10_root_22 rfl ⟨Fr.e0 (Fr.rf [] h), by unfold aRo; dsimp only; rw [if_neg (by omega)]⟩
theorem sM_root (N : GN) (h : GH) (B p : Nat) (hp : prm p) (hp2 : p ≤ 65536) (hf le fc pn rn hn qn : Int) (fo : Option (Px p)) (i : Int) (gW_i : gW i) (hm : h.2 B = some (mO B p hf le fc pn rn hn qn)) (hX : MFx hp B h fo hf le fc pn rn) : Sp N yX10_root mX10_root 0 0 [.ref (B), .int (gI (i))] h (fun v h1 => h1 = h ∧ v = some (.int (gI (aRo hp (fo) i)))) := by
  cases fo with
  | none => exact sM_rootN N h B p hp hp2 hf le fc pn rn hn qn i gW_i hm hX
  | some f => exact sM_rootS N h B p hp hp2 hf le fc pn rn hn qn f i gW_i hm hX
set_option maxHeartbeats 4000000 in
set_option maxRecDepth 100000 in
theorem sM_toldN (N : GN) (h : GH) (B p : Nat) (hp : prm p) (hp2 : p ≤ 65536) (hf le fc pn rn hn qn : Int)  (w : Int) (gW_w : gW w) (hm : h.2 B = some (mO B p hf le fc pn rn hn qn)) (hX : MFx hp B h (none) hf le fc pn rn) : Sp N yX10_told mX10_told 0 0 [.ref (B), .int (gI (w))] h (fun v h1 => h1 = h ∧ v = some (.int (gI (aTo hp (none) w)))) := by
  refine Sp.of (by decide) rfl rfl (Nat.le_of_ble_eq_true rfl) ?_
  show Go N mX10_told _ 0 0 h 0 [(0, .ref (B)), (1, .int (gI (w)))] []
  have hp1 := hp.1
  have neA : NE B (B + 5) := by unfold NE; omega
  have neB : NE B (B + 6) := by unfold NE; omega
  have neC : NE (B + 5) (B + 6) := by unfold NE; omega
  have ne0 : NE (B) (B + 1) := by unfold NE; omega
  have ne1 : NE (B) (B + 2) := by unfold NE; omega
  have ne2 : NE (B) (B + 3) := by unfold NE; omega
  have ne3 : NE (B) (B + 4) := by unfold NE; omega
  have ne4 : NE (B) (B + 5) := by unfold NE; omega
  have ne5 : NE (B) (B + 6) := by unfold NE; omega
  have ne6 : NE (B) (B + 7) := by unfold NE; omega
  have ne7 : NE (B) (B + 8) := by unfold NE; omega
  have ne8 : NE (B) (B + 9) := by unfold NE; omega
  have ne9 : NE (B) (B + 10) := by unfold NE; omega
  have ne10 : NE (B) (B + 11) := by unfold NE; omega
  have ne11 : NE (B) (B + 12) := by unfold NE; omega
  have ne12 : NE (B) (B + 13) := by unfold NE; omega
  have ne13 : NE (B) (B + 14) := by unfold NE; omega
  have ne14 : NE (B) (B + 15) := by unfold NE; omega
  have ne15 : NE (B) (B + 16) := by unfold NE; omega
  have ne16 : NE (B) (B + 17) := by unfold NE; omega
  have ne17 : NE (B) (B + 18) := by unfold NE; omega
  have ne18 : NE (B) (B + 19) := by unfold NE; omega
  have ne19 : NE (B) (B + 20) := by unfold NE; omega
  have ne20 : NE (B) (B + 21) := by unfold NE; omega
  have ne21 : NE (B) (B + 22) := by unfold NE; omega
  have ne22 : NE (B + 1) (B + 2) := by unfold NE; omega
  have ne23 : NE (B + 1) (B + 3) := by unfold NE; omega
  have ne24 : NE (B + 1) (B + 4) := by unfold NE; omega
  have ne25 : NE (B + 1) (B + 5) := by unfold NE; omega
  have ne26 : NE (B + 1) (B + 6) := by unfold NE; omega
  have ne27 : NE (B + 1) (B + 7) := by unfold NE; omega
  have ne28 : NE (B + 1) (B + 8) := by unfold NE; omega
  have ne29 : NE (B + 1) (B + 9) := by unfold NE; omega
  have ne30 : NE (B + 1) (B + 10) := by unfold NE; omega
  have ne31 : NE (B + 1) (B + 11) := by unfold NE; omega
  have ne32 : NE (B + 1) (B + 12) := by unfold NE; omega
  have ne33 : NE (B + 1) (B + 13) := by unfold NE; omega
  have ne34 : NE (B + 1) (B + 14) := by unfold NE; omega
  have ne35 : NE (B + 1) (B + 15) := by unfold NE; omega
  have ne36 : NE (B + 1) (B + 16) := by unfold NE; omega
  have ne37 : NE (B + 1) (B + 17) := by unfold NE; omega
  have ne38 : NE (B + 1) (B + 18) := by unfold NE; omega
  have ne39 : NE (B + 1) (B + 19) := by unfold NE; omega
  have ne40 : NE (B + 1) (B + 20) := by unfold NE; omega
  have ne41 : NE (B + 1) (B + 21) := by unfold NE; omega
  have ne42 : NE (B + 1) (B + 22) := by unfold NE; omega
  have ne43 : NE (B + 2) (B + 3) := by unfold NE; omega
  have ne44 : NE (B + 2) (B + 4) := by unfold NE; omega
  have ne45 : NE (B + 2) (B + 5) := by unfold NE; omega
  have ne46 : NE (B + 2) (B + 6) := by unfold NE; omega
  have ne47 : NE (B + 2) (B + 7) := by unfold NE; omega
  have ne48 : NE (B + 2) (B + 8) := by unfold NE; omega
  have ne49 : NE (B + 2) (B + 9) := by unfold NE; omega
  have ne50 : NE (B + 2) (B + 10) := by unfold NE; omega
  have ne51 : NE (B + 2) (B + 11) := by unfold NE; omega
  have ne52 : NE (B + 2) (B + 12) := by unfold NE; omega
  have ne53 : NE (B + 2) (B + 13) := by unfold NE; omega
  have ne54 : NE (B + 2) (B + 14) := by unfold NE; omega
  have ne55 : NE (B + 2) (B + 15) := by unfold NE; omega
  have ne56 : NE (B + 2) (B + 16) := by unfold NE; omega
  have ne57 : NE (B + 2) (B + 17) := by unfold NE; omega
  have ne58 : NE (B + 2) (B + 18) := by unfold NE; omega
  have ne59 : NE (B + 2) (B + 19) := by unfold NE; omega
  have ne60 : NE (B + 2) (B + 20) := by unfold NE; omega
  have ne61 : NE (B + 2) (B + 21) := by unfold NE; omega
  have ne62 : NE (B + 2) (B + 22) := by unfold NE; omega
  have ne63 : NE (B + 3) (B + 4) := by unfold NE; omega
  have ne64 : NE (B + 3) (B + 5) := by unfold NE; omega
  have ne65 : NE (B + 3) (B + 6) := by unfold NE; omega
  have ne66 : NE (B + 3) (B + 7) := by unfold NE; omega
  have ne67 : NE (B + 3) (B + 8) := by unfold NE; omega
  have ne68 : NE (B + 3) (B + 9) := by unfold NE; omega
  have ne69 : NE (B + 3) (B + 10) := by unfold NE; omega
  have ne70 : NE (B + 3) (B + 11) := by unfold NE; omega
  have ne71 : NE (B + 3) (B + 12) := by unfold NE; omega
  have ne72 : NE (B + 3) (B + 13) := by unfold NE; omega
  have ne73 : NE (B + 3) (B + 14) := by unfold NE; omega
  have ne74 : NE (B + 3) (B + 15) := by unfold NE; omega
  have ne75 : NE (B + 3) (B + 16) := by unfold NE; omega
  have ne76 : NE (B + 3) (B + 17) := by unfold NE; omega
  have ne77 : NE (B + 3) (B + 18) := by unfold NE; omega
  have ne78 : NE (B + 3) (B + 19) := by unfold NE; omega
  have ne79 : NE (B + 3) (B + 20) := by unfold NE; omega
  have ne80 : NE (B + 3) (B + 21) := by unfold NE; omega
  have ne81 : NE (B + 3) (B + 22) := by unfold NE; omega
  have ne82 : NE (B + 4) (B + 5) := by unfold NE; omega
  have ne83 : NE (B + 4) (B + 6) := by unfold NE; omega
  have ne84 : NE (B + 4) (B + 7) := by unfold NE; omega
  have ne85 : NE (B + 4) (B + 8) := by unfold NE; omega
  have ne86 : NE (B + 4) (B + 9) := by unfold NE; omega
  have ne87 : NE (B + 4) (B + 10) := by unfold NE; omega
  have ne88 : NE (B + 4) (B + 11) := by unfold NE; omega
  have ne89 : NE (B + 4) (B + 12) := by unfold NE; omega
  have ne90 : NE (B + 4) (B + 13) := by unfold NE; omega
  have ne91 : NE (B + 4) (B + 14) := by unfold NE; omega
  have ne92 : NE (B + 4) (B + 15) := by unfold NE; omega
  have ne93 : NE (B + 4) (B + 16) := by unfold NE; omega
  have ne94 : NE (B + 4) (B + 17) := by unfold NE; omega
  have ne95 : NE (B + 4) (B + 18) := by unfold NE; omega
  have ne96 : NE (B + 4) (B + 19) := by unfold NE; omega
  have ne97 : NE (B + 4) (B + 20) := by unfold NE; omega
  have ne98 : NE (B + 4) (B + 21) := by unfold NE; omega
  have ne99 : NE (B + 4) (B + 22) := by unfold NE; omega
  have ne100 : NE (B + 5) (B + 6) := by unfold NE; omega
  have ne101 : NE (B + 5) (B + 7) := by unfold NE; omega
  have ne102 : NE (B + 5) (B + 8) := by unfold NE; omega
  have ne103 : NE (B + 5) (B + 9) := by unfold NE; omega
  have ne104 : NE (B + 5) (B + 10) := by unfold NE; omega
  have ne105 : NE (B + 5) (B + 11) := by unfold NE; omega
  have ne106 : NE (B + 5) (B + 12) := by unfold NE; omega
  have ne107 : NE (B + 5) (B + 13) := by unfold NE; omega
  have ne108 : NE (B + 5) (B + 14) := by unfold NE; omega
  have ne109 : NE (B + 5) (B + 15) := by unfold NE; omega
  have ne110 : NE (B + 5) (B + 16) := by unfold NE; omega
  have ne111 : NE (B + 5) (B + 17) := by unfold NE; omega
  have ne112 : NE (B + 5) (B + 18) := by unfold NE; omega
  have ne113 : NE (B + 5) (B + 19) := by unfold NE; omega
  have ne114 : NE (B + 5) (B + 20) := by unfold NE; omega
  have ne115 : NE (B + 5) (B + 21) := by unfold NE; omega
  have ne116 : NE (B + 5) (B + 22) := by unfold NE; omega
  have ne117 : NE (B + 6) (B + 7) := by unfold NE; omega
  have ne118 : NE (B + 6) (B + 8) := by unfold NE; omega
  have ne119 : NE (B + 6) (B + 9) := by unfold NE; omega
  have ne120 : NE (B + 6) (B + 10) := by unfold NE; omega
  have ne121 : NE (B + 6) (B + 11) := by unfold NE; omega
  have ne122 : NE (B + 6) (B + 12) := by unfold NE; omega
  have ne123 : NE (B + 6) (B + 13) := by unfold NE; omega
  have ne124 : NE (B + 6) (B + 14) := by unfold NE; omega
  have ne125 : NE (B + 6) (B + 15) := by unfold NE; omega
  have ne126 : NE (B + 6) (B + 16) := by unfold NE; omega
  have ne127 : NE (B + 6) (B + 17) := by unfold NE; omega
  have ne128 : NE (B + 6) (B + 18) := by unfold NE; omega
  have ne129 : NE (B + 6) (B + 19) := by unfold NE; omega
  have ne130 : NE (B + 6) (B + 20) := by unfold NE; omega
  have ne131 : NE (B + 6) (B + 21) := by unfold NE; omega
  have ne132 : NE (B + 6) (B + 22) := by unfold NE; omega
  have ne133 : NE (B + 7) (B + 8) := by unfold NE; omega
  have ne134 : NE (B + 7) (B + 9) := by unfold NE; omega
  have ne135 : NE (B + 7) (B + 10) := by unfold NE; omega
  have ne136 : NE (B + 7) (B + 11) := by unfold NE; omega
  have ne137 : NE (B + 7) (B + 12) := by unfold NE; omega
  have ne138 : NE (B + 7) (B + 13) := by unfold NE; omega
  have ne139 : NE (B + 7) (B + 14) := by unfold NE; omega
  have ne140 : NE (B + 7) (B + 15) := by unfold NE; omega
  have ne141 : NE (B + 7) (B + 16) := by unfold NE; omega
  have ne142 : NE (B + 7) (B + 17) := by unfold NE; omega
  have ne143 : NE (B + 7) (B + 18) := by unfold NE; omega
  have ne144 : NE (B + 7) (B + 19) := by unfold NE; omega
  have ne145 : NE (B + 7) (B + 20) := by unfold NE; omega
  have ne146 : NE (B + 7) (B + 21) := by unfold NE; omega
  have ne147 : NE (B + 7) (B + 22) := by unfold NE; omega
  have ne148 : NE (B + 8) (B + 9) := by unfold NE; omega
  have ne149 : NE (B + 8) (B + 10) := by unfold NE; omega
  have ne150 : NE (B + 8) (B + 11) := by unfold NE; omega
  have ne151 : NE (B + 8) (B + 12) := by unfold NE; omega
  have ne152 : NE (B + 8) (B + 13) := by unfold NE; omega
  have ne153 : NE (B + 8) (B + 14) := by unfold NE; omega
  have ne154 : NE (B + 8) (B + 15) := by unfold NE; omega
  have ne155 : NE (B + 8) (B + 16) := by unfold NE; omega
  have ne156 : NE (B + 8) (B + 17) := by unfold NE; omega
  have ne157 : NE (B + 8) (B + 18) := by unfold NE; omega
  have ne158 : NE (B + 8) (B + 19) := by unfold NE; omega
  have ne159 : NE (B + 8) (B + 20) := by unfold NE; omega
  have ne160 : NE (B + 8) (B + 21) := by unfold NE; omega
  have ne161 : NE (B + 8) (B + 22) := by unfold NE; omega
  have ne162 : NE (B + 9) (B + 10) := by unfold NE; omega
  have ne163 : NE (B + 9) (B + 11) := by unfold NE; omega
  have ne164 : NE (B + 9) (B + 12) := by unfold NE; omega
  have ne165 : NE (B + 9) (B + 13) := by unfold NE; omega
  have ne166 : NE (B + 9) (B + 14) := by unfold NE; omega
  have ne167 : NE (B + 9) (B + 15) := by unfold NE; omega
  have ne168 : NE (B + 9) (B + 16) := by unfold NE; omega
  have ne169 : NE (B + 9) (B + 17) := by unfold NE; omega
  have ne170 : NE (B + 9) (B + 18) := by unfold NE; omega
  have ne171 : NE (B + 9) (B + 19) := by unfold NE; omega
  have ne172 : NE (B + 9) (B + 20) := by unfold NE; omega
  have ne173 : NE (B + 9) (B + 21) := by unfold NE; omega
  have ne174 : NE (B + 9) (B + 22) := by unfold NE; omega
  have ne175 : NE (B + 10) (B + 11) := by unfold NE; omega
  have ne176 : NE (B + 10) (B + 12) := by unfold NE; omega
  have ne177 : NE (B + 10) (B + 13) := by unfold NE; omega
  have ne178 : NE (B + 10) (B + 14) := by unfold NE; omega
  have ne179 : NE (B + 10) (B + 15) := by unfold NE; omega
  have ne180 : NE (B + 10) (B + 16) := by unfold NE; omega
  have ne181 : NE (B + 10) (B + 17) := by unfold NE; omega
  have ne182 : NE (B + 10) (B + 18) := by unfold NE; omega
  have ne183 : NE (B + 10) (B + 19) := by unfold NE; omega
  have ne184 : NE (B + 10) (B + 20) := by unfold NE; omega
  have ne185 : NE (B + 10) (B + 21) := by unfold NE; omega
  have ne186 : NE (B + 10) (B + 22) := by unfold NE; omega
  have ne187 : NE (B + 11) (B + 12) := by unfold NE; omega
  have ne188 : NE (B + 11) (B + 13) := by unfold NE; omega
  have ne189 : NE (B + 11) (B + 14) := by unfold NE; omega
  have ne190 : NE (B + 11) (B + 15) := by unfold NE; omega
  have ne191 : NE (B + 11) (B + 16) := by unfold NE; omega
  have ne192 : NE (B + 11) (B + 17) := by unfold NE; omega
  have ne193 : NE (B + 11) (B + 18) := by unfold NE; omega
  have ne194 : NE (B + 11) (B + 19) := by unfold NE; omega
  have ne195 : NE (B + 11) (B + 20) := by unfold NE; omega
  have ne196 : NE (B + 11) (B + 21) := by unfold NE; omega
  have ne197 : NE (B + 11) (B + 22) := by unfold NE; omega
  have ne198 : NE (B + 12) (B + 13) := by unfold NE; omega
  have ne199 : NE (B + 12) (B + 14) := by unfold NE; omega
  have ne200 : NE (B + 12) (B + 15) := by unfold NE; omega
  have ne201 : NE (B + 12) (B + 16) := by unfold NE; omega
  have ne202 : NE (B + 12) (B + 17) := by unfold NE; omega
  have ne203 : NE (B + 12) (B + 18) := by unfold NE; omega
  have ne204 : NE (B + 12) (B + 19) := by unfold NE; omega
  have ne205 : NE (B + 12) (B + 20) := by unfold NE; omega
  have ne206 : NE (B + 12) (B + 21) := by unfold NE; omega
  have ne207 : NE (B + 12) (B + 22) := by unfold NE; omega
  have ne208 : NE (B + 13) (B + 14) := by unfold NE; omega
  have ne209 : NE (B + 13) (B + 15) := by unfold NE; omega
  have ne210 : NE (B + 13) (B + 16) := by unfold NE; omega
  have ne211 : NE (B + 13) (B + 17) := by unfold NE; omega
  have ne212 : NE (B + 13) (B + 18) := by unfold NE; omega
  have ne213 : NE (B + 13) (B + 19) := by unfold NE; omega
  have ne214 : NE (B + 13) (B + 20) := by unfold NE; omega
  have ne215 : NE (B + 13) (B + 21) := by unfold NE; omega
  have ne216 : NE (B + 13) (B + 22) := by unfold NE; omega
  have ne217 : NE (B + 14) (B + 15) := by unfold NE; omega
  have ne218 : NE (B + 14) (B + 16) := by unfold NE; omega
  have ne219 : NE (B + 14) (B + 17) := by unfold NE; omega
  have ne220 : NE (B + 14) (B + 18) := by unfold NE; omega
  have ne221 : NE (B + 14) (B + 19) := by unfold NE; omega
  have ne222 : NE (B + 14) (B + 20) := by unfold NE; omega
  have ne223 : NE (B + 14) (B + 21) := by unfold NE; omega
  have ne224 : NE (B + 14) (B + 22) := by unfold NE; omega
  have ne225 : NE (B + 15) (B + 16) := by unfold NE; omega
  have ne226 : NE (B + 15) (B + 17) := by unfold NE; omega
  have ne227 : NE (B + 15) (B + 18) := by unfold NE; omega
  have ne228 : NE (B + 15) (B + 19) := by unfold NE; omega
  have ne229 : NE (B + 15) (B + 20) := by unfold NE; omega
  have ne230 : NE (B + 15) (B + 21) := by unfold NE; omega
  have ne231 : NE (B + 15) (B + 22) := by unfold NE; omega
  have ne232 : NE (B + 16) (B + 17) := by unfold NE; omega
  have ne233 : NE (B + 16) (B + 18) := by unfold NE; omega
  have ne234 : NE (B + 16) (B + 19) := by unfold NE; omega
  have ne235 : NE (B + 16) (B + 20) := by unfold NE; omega
  have ne236 : NE (B + 16) (B + 21) := by unfold NE; omega
  have ne237 : NE (B + 16) (B + 22) := by unfold NE; omega
  have ne238 : NE (B + 17) (B + 18) := by unfold NE; omega
  have ne239 : NE (B + 17) (B + 19) := by unfold NE; omega
  have ne240 : NE (B + 17) (B + 20) := by unfold NE; omega
  have ne241 : NE (B + 17) (B + 21) := by unfold NE; omega
  have ne242 : NE (B + 17) (B + 22) := by unfold NE; omega
  have ne243 : NE (B + 18) (B + 19) := by unfold NE; omega
  have ne244 : NE (B + 18) (B + 20) := by unfold NE; omega
  have ne245 : NE (B + 18) (B + 21) := by unfold NE; omega
  have ne246 : NE (B + 18) (B + 22) := by unfold NE; omega
  have ne247 : NE (B + 19) (B + 20) := by unfold NE; omega
  have ne248 : NE (B + 19) (B + 21) := by unfold NE; omega
  have ne249 : NE (B + 19) (B + 22) := by unfold NE; omega
  have ne250 : NE (B + 20) (B + 21) := by unfold NE; omega
  have ne251 : NE (B + 20) (B + 22) := by unfold NE; omega
  have ne252 : NE (B + 21) (B + 22) := by unfold NE; omega
  obtain ⟨g9, g10, g11, g12, g13, g14, g15, x9, x10, x11, x12, x13, x14, x15, e0, e1, e2, e3⟩ := hX
  have hfb : hf = 0 ∨ hf = 1 := by omega
  refine g_aload_n 0 dX10_told_0 rfl ?_
  refine g_getf 9 dX10_told_1 kX10 (by decide) fX10_86 hm rfl ?_
  refine g_if_eq (tgt := 16) dX10_told_4 rfl (by first | assumption | (unfold gW; omega)) (fun c1 => ?_) (fun c1 => ?_)
  · skip
    refine g_iconst dX10_told_16 ?_
    exact g_iret dX10_told_17 rfl ⟨Fr.e0 (Fr.rf [] h), by unfold aTo; rfl⟩
  · skip
    refine g_iload_n 1 dX10_told_7 rfl ?_
    refine g_if_lt (tgt := 16) dX10_told_8 rfl (by first | assumption | (unfold gW; omega)) (fun c2 => ?_) (fun c2 => ?_)
    · skip
      refine g_iconst dX10_told_16 ?_
      exact g_iret dX10_told_17 rfl ⟨Fr.e0 (Fr.rf [] h), by unfold aTo; rfl⟩
    · skip
      refine g_iload_n 1 dX10_told_11 rfl ?_
      refine g_iconst dX10_told_12 ?_
      refine g_icmp_le (tgt := 18) dX10_told_13 rfl (by first | assumption | (unfold gW; omega)) (by first | assumption | (unfold gW; omega)) (fun c3 => ?_) (fun c3 => ?_)
      · skip
        exfalso; omega
      · skip
        refine g_iconst dX10_told_16 ?_
        exact g_iret dX10_told_17 rfl ⟨Fr.e0 (Fr.rf [] h), by unfold aTo; rfl⟩
set_option maxHeartbeats 4000000 in
set_option maxRecDepth 100000 in
theorem sM_toldS (N : GN) (h : GH) (B p : Nat) (hp : prm p) (hp2 : p ≤ 65536) (hf le fc pn rn hn qn : Int) (f : Px p) (w : Int) (gW_w : gW w) (hm : h.2 B = some (mO B p hf le fc pn rn hn qn)) (hX : MFx hp B h (some f) hf le fc pn rn) : Sp N yX10_told mX10_told 0 0 [.ref (B), .int (gI (w))] h (fun v h1 => h1 = h ∧ v = some (.int (gI (aTo hp (some f) w)))) := by
  refine Sp.of (by decide) rfl rfl (Nat.le_of_ble_eq_true rfl) ?_
  show Go N mX10_told _ 0 0 h 0 [(0, .ref (B)), (1, .int (gI (w)))] []
  have hp1 := hp.1
  have neA : NE B (B + 5) := by unfold NE; omega
  have neB : NE B (B + 6) := by unfold NE; omega
  have neC : NE (B + 5) (B + 6) := by unfold NE; omega
  have ne0 : NE (B) (B + 1) := by unfold NE; omega
  have ne1 : NE (B) (B + 2) := by unfold NE; omega
  have ne2 : NE (B) (B + 3) := by unfold NE; omega
  have ne3 : NE (B) (B + 4) := by unfold NE; omega
  have ne4 : NE (B) (B + 5) := by unfold NE; omega
  have ne5 : NE (B) (B + 6) := by unfold NE; omega
  have ne6 : NE (B) (B + 7) := by unfold NE; omega
  have ne7 : NE (B) (B + 8) := by unfold NE; omega
  have ne8 : NE (B) (B + 9) := by unfold NE; omega
  have ne9 : NE (B) (B + 10) := by unfold NE; omega
  have ne10 : NE (B) (B + 11) := by unfold NE; omega
  have ne11 : NE (B) (B + 12) := by unfold NE; omega
  have ne12 : NE (B) (B + 13) := by unfold NE; omega
  have ne13 : NE (B) (B + 14) := by unfold NE; omega
  have ne14 : NE (B) (B + 15) := by unfold NE; omega
  have ne15 : NE (B) (B + 16) := by unfold NE; omega
  have ne16 : NE (B) (B + 17) := by unfold NE; omega
  have ne17 : NE (B) (B + 18) := by unfold NE; omega
  have ne18 : NE (B) (B + 19) := by unfold NE; omega
  have ne19 : NE (B) (B + 20) := by unfold NE; omega
  have ne20 : NE (B) (B + 21) := by unfold NE; omega
  have ne21 : NE (B) (B + 22) := by unfold NE; omega
  have ne22 : NE (B + 1) (B + 2) := by unfold NE; omega
  have ne23 : NE (B + 1) (B + 3) := by unfold NE; omega
  have ne24 : NE (B + 1) (B + 4) := by unfold NE; omega
  have ne25 : NE (B + 1) (B + 5) := by unfold NE; omega
  have ne26 : NE (B + 1) (B + 6) := by unfold NE; omega
  have ne27 : NE (B + 1) (B + 7) := by unfold NE; omega
  have ne28 : NE (B + 1) (B + 8) := by unfold NE; omega
  have ne29 : NE (B + 1) (B + 9) := by unfold NE; omega
  have ne30 : NE (B + 1) (B + 10) := by unfold NE; omega
  have ne31 : NE (B + 1) (B + 11) := by unfold NE; omega
  have ne32 : NE (B + 1) (B + 12) := by unfold NE; omega
  have ne33 : NE (B + 1) (B + 13) := by unfold NE; omega
  have ne34 : NE (B + 1) (B + 14) := by unfold NE; omega
  have ne35 : NE (B + 1) (B + 15) := by unfold NE; omega
  have ne36 : NE (B + 1) (B + 16) := by unfold NE; omega
  have ne37 : NE (B + 1) (B + 17) := by unfold NE; omega
  have ne38 : NE (B + 1) (B + 18) := by unfold NE; omega
  have ne39 : NE (B + 1) (B + 19) := by unfold NE; omega
  have ne40 : NE (B + 1) (B + 20) := by unfold NE; omega
  have ne41 : NE (B + 1) (B + 21) := by unfold NE; omega
  have ne42 : NE (B + 1) (B + 22) := by unfold NE; omega
  have ne43 : NE (B + 2) (B + 3) := by unfold NE; omega
  have ne44 : NE (B + 2) (B + 4) := by unfold NE; omega
  have ne45 : NE (B + 2) (B + 5) := by unfold NE; omega
  have ne46 : NE (B + 2) (B + 6) := by unfold NE; omega
  have ne47 : NE (B + 2) (B + 7) := by unfold NE; omega
  have ne48 : NE (B + 2) (B + 8) := by unfold NE; omega
  have ne49 : NE (B + 2) (B + 9) := by unfold NE; omega
  have ne50 : NE (B + 2) (B + 10) := by unfold NE; omega
  have ne51 : NE (B + 2) (B + 11) := by unfold NE; omega
  have ne52 : NE (B + 2) (B + 12) := by unfold NE; omega
  have ne53 : NE (B + 2) (B + 13) := by unfold NE; omega
  have ne54 : NE (B + 2) (B + 14) := by unfold NE; omega
  have ne55 : NE (B + 2) (B + 15) := by unfold NE; omega
  have ne56 : NE (B + 2) (B + 16) := by unfold NE; omega
  have ne57 : NE (B + 2) (B + 17) := by unfold NE; omega
  have ne58 : NE (B + 2) (B + 18) := by unfold NE; omega
  have ne59 : NE (B + 2) (B + 19) := by unfold NE; omega
  have ne60 : NE (B + 2) (B + 20) := by unfold NE; omega
  have ne61 : NE (B + 2) (B + 21) := by unfold NE; omega
  have ne62 : NE (B + 2) (B + 22) := by unfold NE; omega
  have ne63 : NE (B + 3) (B + 4) := by unfold NE; omega
  have ne64 : NE (B + 3) (B + 5) := by unfold NE; omega
  have ne65 : NE (B + 3) (B + 6) := by unfold NE; omega
  have ne66 : NE (B + 3) (B + 7) := by unfold NE; omega
  have ne67 : NE (B + 3) (B + 8) := by unfold NE; omega
  have ne68 : NE (B + 3) (B + 9) := by unfold NE; omega
  have ne69 : NE (B + 3) (B + 10) := by unfold NE; omega
  have ne70 : NE (B + 3) (B + 11) := by unfold NE; omega
  have ne71 : NE (B + 3) (B + 12) := by unfold NE; omega
  have ne72 : NE (B + 3) (B + 13) := by unfold NE; omega
  have ne73 : NE (B + 3) (B + 14) := by unfold NE; omega
  have ne74 : NE (B + 3) (B + 15) := by unfold NE; omega
  have ne75 : NE (B + 3) (B + 16) := by unfold NE; omega
  have ne76 : NE (B + 3) (B + 17) := by unfold NE; omega
  have ne77 : NE (B + 3) (B + 18) := by unfold NE; omega
  have ne78 : NE (B + 3) (B + 19) := by unfold NE; omega
  have ne79 : NE (B + 3) (B + 20) := by unfold NE; omega
  have ne80 : NE (B + 3) (B + 21) := by unfold NE; omega
  have ne81 : NE (B + 3) (B + 22) := by unfold NE; omega
  have ne82 : NE (B + 4) (B + 5) := by unfold NE; omega
  have ne83 : NE (B + 4) (B + 6) := by unfold NE; omega
  have ne84 : NE (B + 4) (B + 7) := by unfold NE; omega
  have ne85 : NE (B + 4) (B + 8) := by unfold NE; omega
  have ne86 : NE (B + 4) (B + 9) := by unfold NE; omega
  have ne87 : NE (B + 4) (B + 10) := by unfold NE; omega
  have ne88 : NE (B + 4) (B + 11) := by unfold NE; omega
  have ne89 : NE (B + 4) (B + 12) := by unfold NE; omega
  have ne90 : NE (B + 4) (B + 13) := by unfold NE; omega
  have ne91 : NE (B + 4) (B + 14) := by unfold NE; omega
  have ne92 : NE (B + 4) (B + 15) := by unfold NE; omega
  have ne93 : NE (B + 4) (B + 16) := by unfold NE; omega
  have ne94 : NE (B + 4) (B + 17) := by unfold NE; omega
  have ne95 : NE (B + 4) (B + 18) := by unfold NE; omega
  have ne96 : NE (B + 4) (B + 19) := by unfold NE; omega
  have ne97 : NE (B + 4) (B + 20) := by unfold NE; omega
  have ne98 : NE (B + 4) (B + 21) := by unfold NE; omega
  have ne99 : NE (B + 4) (B + 22) := by unfold NE; omega
  have ne100 : NE (B + 5) (B + 6) := by unfold NE; omega
  have ne101 : NE (B + 5) (B + 7) := by unfold NE; omega
  have ne102 : NE (B + 5) (B + 8) := by unfold NE; omega
  have ne103 : NE (B + 5) (B + 9) := by unfold NE; omega
  have ne104 : NE (B + 5) (B + 10) := by unfold NE; omega
  have ne105 : NE (B + 5) (B + 11) := by unfold NE; omega
  have ne106 : NE (B + 5) (B + 12) := by unfold NE; omega
  have ne107 : NE (B + 5) (B + 13) := by unfold NE; omega
  have ne108 : NE (B + 5) (B + 14) := by unfold NE; omega
  have ne109 : NE (B + 5) (B + 15) := by unfold NE; omega
  have ne110 : NE (B + 5) (B + 16) := by unfold NE; omega
  have ne111 : NE (B + 5) (B + 17) := by unfold NE; omega
  have ne112 : NE (B + 5) (B + 18) := by unfold NE; omega
  have ne113 : NE (B + 5) (B + 19) := by unfold NE; omega
  have ne114 : NE (B + 5) (B + 20) := by unfold NE; omega
  have ne115 : NE (B + 5) (B + 21) := by unfold NE; omega
  have ne116 : NE (B + 5) (B + 22) := by unfold NE; omega
  have ne117 : NE (B + 6) (B + 7) := by unfold NE; omega
  have ne118 : NE (B + 6) (B + 8) := by unfold NE; omega
  have ne119 : NE (B + 6) (B + 9) := by unfold NE; omega
  have ne120 : NE (B + 6) (B + 10) := by unfold NE; omega
  have ne121 : NE (B + 6) (B + 11) := by unfold NE; omega
  have ne122 : NE (B + 6) (B + 12) := by unfold NE; omega
  have ne123 : NE (B + 6) (B + 13) := by unfold NE; omega
  have ne124 : NE (B + 6) (B + 14) := by unfold NE; omega
  have ne125 : NE (B + 6) (B + 15) := by unfold NE; omega
  have ne126 : NE (B + 6) (B + 16) := by unfold NE; omega
  have ne127 : NE (B + 6) (B + 17) := by unfold NE; omega
  have ne128 : NE (B + 6) (B + 18) := by unfold NE; omega
  have ne129 : NE (B + 6) (B + 19) := by unfold NE; omega
  have ne130 : NE (B + 6) (B + 20) := by unfold NE; omega
  have ne131 : NE (B + 6) (B + 21) := by unfold NE; omega
  have ne132 : NE (B + 6) (B + 22) := by unfold NE; omega
  have ne133 : NE (B + 7) (B + 8) := by unfold NE; omega
  have ne134 : NE (B + 7) (B + 9) := by unfold NE; omega
  have ne135 : NE (B + 7) (B + 10) := by unfold NE; omega
  have ne136 : NE (B + 7) (B + 11) := by unfold NE; omega
  have ne137 : NE (B + 7) (B + 12) := by unfold NE; omega
  have ne138 : NE (B + 7) (B + 13) := by unfold NE; omega
  have ne139 : NE (B + 7) (B + 14) := by unfold NE; omega
  have ne140 : NE (B + 7) (B + 15) := by unfold NE; omega
  have ne141 : NE (B + 7) (B + 16) := by unfold NE; omega
  have ne142 : NE (B + 7) (B + 17) := by unfold NE; omega
  have ne143 : NE (B + 7) (B + 18) := by unfold NE; omega
  have ne144 : NE (B + 7) (B + 19) := by unfold NE; omega
  have ne145 : NE (B + 7) (B + 20) := by unfold NE; omega
  have ne146 : NE (B + 7) (B + 21) := by unfold NE; omega
  have ne147 : NE (B + 7) (B + 22) := by unfold NE; omega
  have ne148 : NE (B + 8) (B + 9) := by unfold NE; omega
  have ne149 : NE (B + 8) (B + 10) := by unfold NE; omega
  have ne150 : NE (B + 8) (B + 11) := by unfold NE; omega
  have ne151 : NE (B + 8) (B + 12) := by unfold NE; omega
  have ne152 : NE (B + 8) (B + 13) := by unfold NE; omega
  have ne153 : NE (B + 8) (B + 14) := by unfold NE; omega
  have ne154 : NE (B + 8) (B + 15) := by unfold NE; omega
  have ne155 : NE (B + 8) (B + 16) := by unfold NE; omega
  have ne156 : NE (B + 8) (B + 17) := by unfold NE; omega
  have ne157 : NE (B + 8) (B + 18) := by unfold NE; omega
  have ne158 : NE (B + 8) (B + 19) := by unfold NE; omega
  have ne159 : NE (B + 8) (B + 20) := by unfold NE; omega
  have ne160 : NE (B + 8) (B + 21) := by unfold NE; omega
  have ne161 : NE (B + 8) (B + 22) := by unfold NE; omega
  have ne162 : NE (B + 9) (B + 10) := by unfold NE; omega
  have ne163 : NE (B + 9) (B + 11) := by unfold NE; omega
  have ne164 : NE (B + 9) (B + 12) := by unfold NE; omega
  have ne165 : NE (B + 9) (B + 13) := by unfold NE; omega
  have ne166 : NE (B + 9) (B + 14) := by unfold NE; omega
  have ne167 : NE (B + 9) (B + 15) := by unfold NE; omega
  have ne168 : NE (B + 9) (B + 16) := by unfold NE; omega
  have ne169 : NE (B + 9) (B + 17) := by unfold NE; omega
  have ne170 : NE (B + 9) (B + 18) := by unfold NE; omega
  have ne171 : NE (B + 9) (B + 19) := by unfold NE; omega
  have ne172 : NE (B + 9) (B + 20) := by unfold NE; omega
  have ne173 : NE (B + 9) (B + 21) := by unfold NE; omega
  have ne174 : NE (B + 9) (B + 22) := by unfold NE; omega
  have ne175 : NE (B + 10) (B + 11) := by unfold NE; omega
  have ne176 : NE (B + 10) (B + 12) := by unfold NE; omega
  have ne177 : NE (B + 10) (B + 13) := by unfold NE; omega
  have ne178 : NE (B + 10) (B + 14) := by unfold NE; omega
  have ne179 : NE (B + 10) (B + 15) := by unfold NE; omega
  have ne180 : NE (B + 10) (B + 16) := by unfold NE; omega
  have ne181 : NE (B + 10) (B + 17) := by unfold NE; omega
  have ne182 : NE (B + 10) (B + 18) := by unfold NE; omega
  have ne183 : NE (B + 10) (B + 19) := by unfold NE; omega
  have ne184 : NE (B + 10) (B + 20) := by unfold NE; omega
  have ne185 : NE (B + 10) (B + 21) := by unfold NE; omega
  have ne186 : NE (B + 10) (B + 22) := by unfold NE; omega
  have ne187 : NE (B + 11) (B + 12) := by unfold NE; omega
  have ne188 : NE (B + 11) (B + 13) := by unfold NE; omega
  have ne189 : NE (B + 11) (B + 14) := by unfold NE; omega
  have ne190 : NE (B + 11) (B + 15) := by unfold NE; omega
  have ne191 : NE (B + 11) (B + 16) := by unfold NE; omega
  have ne192 : NE (B + 11) (B + 17) := by unfold NE; omega
  have ne193 : NE (B + 11) (B + 18) := by unfold NE; omega
  have ne194 : NE (B + 11) (B + 19) := by unfold NE; omega
  have ne195 : NE (B + 11) (B + 20) := by unfold NE; omega
  have ne196 : NE (B + 11) (B + 21) := by unfold NE; omega
  have ne197 : NE (B + 11) (B + 22) := by unfold NE; omega
  have ne198 : NE (B + 12) (B + 13) := by unfold NE; omega
  have ne199 : NE (B + 12) (B + 14) := by unfold NE; omega
  have ne200 : NE (B + 12) (B + 15) := by unfold NE; omega
  have ne201 : NE (B + 12) (B + 16) := by unfold NE; omega
  have ne202 : NE (B + 12) (B + 17) := by unfold NE; omega
  have ne203 : NE (B + 12) (B + 18) := by unfold NE; omega
  have ne204 : NE (B + 12) (B + 19) := by unfold NE; omega
  have ne205 : NE (B + 12) (B + 20) := by unfold NE; omega
  have ne206 : NE (B + 12) (B + 21) := by unfold NE; omega
  have ne207 : NE (B + 12) (B + 22) := by unfold NE; omega
  have ne208 : NE (B + 13) (B + 14) := by unfold NE; omega
  have ne209 : NE (B + 13) (B + 15) := by unfold NE; omega
  have ne210 : NE (B + 13) (B + 16) := by unfold NE; omega
  have ne211 : NE (B + 13) (B + 17) := by unfold NE; omega
  have ne212 : NE (B + 13) (B + 18) := by unfold NE; omega
  have ne213 : NE (B + 13) (B + 19) := by unfold NE; omega
  have ne214 : NE (B + 13) (B + 20) := by unfold NE; omega
  have ne215 : NE (B + 13) (B + 21) := by unfold NE; omega
  have ne216 : NE (B + 13) (B + 22) := by unfold NE; omega
  have ne217 : NE (B + 14) (B + 15) := by unfold NE; omega
  have ne218 : NE (B + 14) (B + 16) := by unfold NE; omega
  have ne219 : NE (B + 14) (B + 17) := by unfold NE; omega
  have ne220 : NE (B + 14) (B + 18) := by unfold NE; omega
  have ne221 : NE (B + 14) (B + 19) := by unfold NE; omega
  have ne222 : NE (B + 14) (B + 20) := by unfold NE; omega
  have ne223 : NE (B + 14) (B + 21) := by unfold NE; omega
  have ne224 : NE (B + 14) (B + 22) := by unfold NE; omega
  have ne225 : NE (B + 15) (B + 16) := by unfold NE; omega
  have ne226 : NE (B + 15) (B + 17) := by unfold NE; omega
  have ne227 : NE (B + 15) (B + 18) := by unfold NE; omega
  have ne228 : NE (B + 15) (B + 19) := by unfold NE; omega
  have ne229 : NE (B + 15) (B + 20) := by unfold NE; omega
  have ne230 : NE (B + 15) (B + 21) := by unfold NE; omega
  have ne231 : NE (B + 15) (B + 22) := by unfold NE; omega
  have ne232 : NE (B + 16) (B + 17) := by unfold NE; omega
  have ne233 : NE (B + 16) (B + 18) := by unfold NE; omega
  have ne234 : NE (B + 16) (B + 19) := by unfold NE; omega
  have ne235 : NE (B + 16) (B + 20) := by unfold NE; omega
  have ne236 : NE (B + 16) (B + 21) := by unfold NE; omega
  have ne237 : NE (B + 16) (B + 22) := by unfold NE; omega
  have ne238 : NE (B + 17) (B + 18) := by unfold NE; omega
  have ne239 : NE (B + 17) (B + 19) := by unfold NE; omega
  have ne240 : NE (B + 17) (B + 20) := by unfold NE; omega
  have ne241 : NE (B + 17) (B + 21) := by unfold NE; omega
  have ne242 : NE (B + 17) (B + 22) := by unfold NE; omega
  have ne243 : NE (B + 18) (B + 19) := by unfold NE; omega
  have ne244 : NE (B + 18) (B + 20) := by unfold NE; omega
  have ne245 : NE (B + 18) (B + 21) := by unfold NE; omega
  have ne246 : NE (B + 18) (B + 22) := by unfold NE; omega
  have ne247 : NE (B + 19) (B + 20) := by unfold NE; omega
  have ne248 : NE (B + 19) (B + 21) := by unfold NE; omega
  have ne249 : NE (B + 19) (B + 22) := by unfold NE; omega
  have ne250 : NE (B + 20) (B + 21) := by unfold NE; omega
  have ne251 : NE (B + 20) (B + 22) := by unfold NE; omega
  have ne252 : NE (B + 21) (B + 22) := by unfold NE; omega
  obtain ⟨g9, g10, g11, g12, g13, g14, g15, x9, x10, x11, x12, x13, x14, x15, e0, e1, e2, e3, e4, hbd, hF, hK, hR⟩ := hX
  have hfb : hf = 0 ∨ hf = 1 := by omega
  refine g_aload_n 0 dX10_told_0 rfl ?_
  refine g_getf 9 dX10_told_1 kX10 (by decide) fX10_86 hm rfl ?_
  refine g_if_eq (tgt := 16) dX10_told_4 rfl (by first | assumption | (unfold gW; omega)) (fun c1 => ?_) (fun c1 => ?_)
  · skip
    refine g_iconst dX10_told_16 ?_
    exact g_iret dX10_told_17 rfl ⟨Fr.e0 (Fr.rf [] h), by unfold aTo; dsimp only; rw [if_neg (by omega), if_neg (by omega), if_neg (by omega), if_neg (by omega)]⟩
  · skip
    refine g_iload_n 1 dX10_told_7 rfl ?_
    refine g_if_lt (tgt := 16) dX10_told_8 rfl (by first | assumption | (unfold gW; omega)) (fun c2 => ?_) (fun c2 => ?_)
    · skip
      refine g_iconst dX10_told_16 ?_
      exact g_iret dX10_told_17 rfl ⟨Fr.e0 (Fr.rf [] h), by unfold aTo; dsimp only; rw [if_neg (by omega), if_neg (by omega), if_neg (by omega), if_neg (by omega)]⟩
    · skip
      refine g_iload_n 1 dX10_told_11 rfl ?_
      refine g_iconst dX10_told_12 ?_
      refine g_icmp_le (tgt := 18) dX10_told_13 rfl (by first | assumption | (unfold gW; omega)) (by first | assumption | (unfold gW; omega)) (fun c3 => ?_) (fun c3 => ?_)
      · skip
        refine g_iload_n 1 dX10_told_18 rfl ?_
        refine g_iconst dX10_told_19 ?_
        refine g_icmp_ne (tgt := 52) dX10_told_20 rfl (by first | assumption | (unfold gW; omega)) (by first | assumption | (unfold gW; omega)) (fun c4 => ?_) (fun c4 => ?_)
        · skip
          refine g_iload_n 1 dX10_told_52 rfl ?_
          refine g_if_ne (tgt := 63) dX10_told_53 rfl (by first | assumption | (unfold gW; omega)) (fun c5 => ?_) (fun c5 => ?_)
          · skip
            refine g_iload_n 1 dX10_told_63 rfl ?_
            refine g_iconst dX10_told_64 ?_
            refine g_icmp_ne (tgt := 75) dX10_told_65 rfl (by first | assumption | (unfold gW; omega)) (by first | assumption | (unfold gW; omega)) (fun c6 => ?_) (fun c6 => ?_)
            · skip
              refine g_aload_n 0 dX10_told_75 rfl ?_
              refine g_getf 19 dX10_told_76 kX10 (by decide) fX10_96 hm rfl ?_
              exact g_iret dX10_told_79 rfl ⟨Fr.e0 (Fr.rf [] h), by unfold aTo; dsimp only; rw [if_neg (by omega), if_neg (by omega), if_pos (by omega), e4]⟩
            · skip
              refine g_aload_n 0 dX10_told_68 rfl ?_
              refine g_getf 15 dX10_told_69 kX10 (by decide) fX10_93 hm rfl ?_
              refine g_goto (tgt := 79) dX10_told_72 rfl ?_
              exact g_iret dX10_told_79 rfl ⟨Fr.e0 (Fr.rf [] h), by unfold aTo; dsimp only; rw [if_neg (by omega), if_pos (by omega), e3]⟩
          · skip
            refine g_aload_n 0 dX10_told_56 rfl ?_
            refine g_getf 10 dX10_told_57 kX10 (by decide) fX10_208 hm rfl ?_
            refine g_goto (tgt := 79) dX10_told_60 rfl ?_
            exact g_iret dX10_told_79 rfl ⟨Fr.e0 (Fr.rf [] h), by unfold aTo; dsimp only; rw [if_pos (by omega), e1]⟩
        · skip
          refine g_iconst dX10_told_23 ?_
          refine g_istore_n (ls2 := [(2, .int (gI (0))), (0, .ref (B)), (1, .int (gI (w)))]) dX10_told_24 rfl (by decide) rfl ?_
          refine g_iconst dX10_told_25 ?_
          refine g_istore_n (ls2 := [(3, .int (gI (0))), (2, .int (gI (0))), (0, .ref (B)), (1, .int (gI (w)))]) dX10_told_26 rfl (by decide) rfl ?_
          have lo : ∀ (kk : Nat) (k : Int) (n : Int) (hlo : GH), kk = (41 - k).toNat → Fr [] h hlo → (0 ≤ k ∧ k ≤ fc) → (n = fS hp f k.toNat) → Go N mX10_told (fun v h1 => h1 = h ∧ v = some (.int (gI (aTo hp (some f) w)))) 0 0 hlo 27 [(3, .int (gI (k))), (2, .int (gI (n))), (0, .ref (B)), (1, .int (gI (w)))] [] := by
            refine Go.ind (fun kk ih_lo => ?_)
            intro k n hlo hkk_lo fr_lo hk hn_
            have cg_lo_0 : hlo.2 (B) = some (mO B ((p : Int)) (hf) (le) (fc) (pn) (rn) (hn) (qn)) := Fr.at0 fr_lo (Ni.n _) hm
            have cg_lo_1 : hlo.2 (B + 9) = some (aI 41 (g9)) := Fr.at0 fr_lo (Ni.n _) x9
            have cg_lo_2 : hlo.2 (B + 10) = some (aI 41 (g10)) := Fr.at0 fr_lo (Ni.n _) x10
            have cg_lo_3 : hlo.2 (B + 11) = some (aI 1681 (g11)) := Fr.at0 fr_lo (Ni.n _) x11
            have cg_lo_4 : hlo.2 (B + 12) = some (aI 41 (g12)) := Fr.at0 fr_lo (Ni.n _) x12
            have cg_lo_5 : hlo.2 (B + 13) = some (aI 41 (g13)) := Fr.at0 fr_lo (Ni.n _) x13
            have cg_lo_6 : hlo.2 (B + 14) = some (aI 1681 (g14)) := Fr.at0 fr_lo (Ni.n _) x14
            have cg_lo_7 : hlo.2 (B + 15) = some (aI 41 (g15)) := Fr.at0 fr_lo (Ni.n _) x15
            refine g_iload_n 0 dX10_told_27 rfl ?_
            refine g_aload_n 2 dX10_told_28 rfl ?_
            refine g_getf 11 dX10_told_29 kX10 (by decide) fX10_90 cg_lo_0 rfl ?_
            refine g_icmp_ge (tgt := 50) dX10_told_32 rfl (by first | assumption | (unfold gW; omega)) (by first | assumption | (unfold gW; omega)) (fun c107 => ?_) (fun c107 => ?_)
            · skip
              refine g_iload_n 1 dX10_told_50 rfl ?_
              exact g_iret dX10_told_51 rfl ⟨Fr.e0 fr_lo, by unfold aTo; dsimp only; rw [if_neg (by omega), if_neg (by omega), if_neg (by omega), if_pos (by omega), hn_, show k.toNat = fN hp f by omega]⟩
            · skip
              refine g_iload_n 1 dX10_told_35 rfl ?_
              refine g_aload_n 2 dX10_told_36 rfl ?_
              refine g_getf 13 dX10_told_37 kX10 (by decide) fX10_39 cg_lo_0 rfl ?_
              refine g_iload_n 0 dX10_told_40 rfl ?_
              refine g_iaload dX10_told_41 cg_lo_2 (by omega) (by omega) (by omega) ?_
              refine g_iadd dX10_told_42 ?_
              refine g_istore_n (ls2 := [(2, .int (gI ((n) + ((g10) (k))))), (3, .int (gI (k))), (0, .ref (B)), (1, .int (gI (w)))]) dX10_told_43 rfl (by decide) rfl ?_
              refine g_iinc 1 (ls2 := [(3, .int (gI (k + 1))), (2, .int (gI ((n) + ((g10) (k))))), (0, .ref (B)), (1, .int (gI (w)))]) dX10_told_44 rfl (by decide) rfl ?_
              refine g_goto (tgt := 27) dX10_told_47 rfl ?_
              exact ih_lo _ (by omega) (k + 1) ((n) + ((g10) (k))) hlo rfl fr_lo (by omega) (by
                                                                      rw [hn_, (hF k (by omega) (by omega)).2.2.2.1, show (k + 1).toNat = k.toNat + 1 by omega]
                                                                      show _ = fS hp f k.toNat + fE hp f (k.toNat : Int)
                                                                      rw [show ((k.toNat : Nat) : Int) = k by omega])
          exact lo _ (0) (0) h rfl (Fr.rf [] h) (by omega) rfl
      · skip
        refine g_iconst dX10_told_16 ?_
        exact g_iret dX10_told_17 rfl ⟨Fr.e0 (Fr.rf [] h), by unfold aTo; dsimp only; rw [if_neg (by omega), if_neg (by omega), if_neg (by omega), if_neg (by omega)]⟩
theorem sM_told (N : GN) (h : GH) (B p : Nat) (hp : prm p) (hp2 : p ≤ 65536) (hf le fc pn rn hn qn : Int) (fo : Option (Px p)) (w : Int) (gW_w : gW w) (hm : h.2 B = some (mO B p hf le fc pn rn hn qn)) (hX : MFx hp B h fo hf le fc pn rn) : Sp N yX10_told mX10_told 0 0 [.ref (B), .int (gI (w))] h (fun v h1 => h1 = h ∧ v = some (.int (gI (aTo hp (fo) w)))) := by
  cases fo with
  | none => exact sM_toldN N h B p hp hp2 hf le fc pn rn hn qn w gW_w hm hX
  | some f => exact sM_toldS N h B p hp hp2 hf le fc pn rn hn qn f w gW_w hm hX
theorem MFx_row {p : Nat} {hp : prm p} {B : Nat} {h : GH} {f : Px p} {hf le fc pn rn : Int} (hX : MFx hp B h (some f) hf le fc pn rn) {i : Int} (i0 : 0 ≤ i) (i1 : i < fN hp f) : ∃ g11, h.2 (B + 11) = some (aI 1681 g11) ∧ po (fR hp) (fP hp f i) ∧ dgi hp (fP hp f i) ≤ 40 ∧ ∀ k : Int, 0 ≤ k → k ≤ 40 → g11 (41 * i + k) = cf (fP hp f i) k := by
  obtain ⟨g9, g10, g11, g12, g13, g14, g15, x9, x10, x11, x12, x13, x14, x15, e0, e1, e2, e3, e4, hbd, hF, hK, hR⟩ := hX
  have := hF i i0 i1
  exact ⟨g11, x11, this.1, this.2.1, this.2.2.2.2⟩
theorem MFx.fr {p : Nat} {hp : prm p} {B : Nat} {L : List Nat} {h h1 : GH} {fo : Option (Px p)} {hf le fc pn rn : Int} (w : MFx hp B h fo hf le fc pn rn) (f : Fr L h h1) (n : ∀ k : Nat, 9 ≤ k → k ≤ 15 → Ni (B + k) L) : MFx hp B h1 fo hf le fc pn rn := by
  obtain ⟨g9, g10, g11, g12, g13, g14, g15, x9, x10, x11, x12, x13, x14, x15, e⟩ := w
  exact ⟨g9, g10, g11, g12, g13, g14, g15, f.at0 (n 9 (by omega) (by omega)) x9, f.at0 (n 10 (by omega) (by omega)) x10, f.at0 (n 11 (by omega) (by omega)) x11, f.at0 (n 12 (by omega) (by omega)) x12, f.at0 (n 13 (by omega) (by omega)) x13, f.at0 (n 14 (by omega) (by omega)) x14, f.at0 (n 15 (by omega) (by omega)) x15, e⟩
set_option maxHeartbeats 4000000 in
set_option maxRecDepth 100000 in
theorem sM_toFactor (N : GN) (h : GH) (B p : Nat) (hp : prm p) (hp2 : p ≤ 65536) (hf le fc pn rn hn qn : Int) (i r : Int) (hr : 0 ≤ r ∧ r < 40) (hi : 0 ≤ i ∧ i < 41) (G : Px p) (gr : Int → Int) (hm : h.2 B = some (mO B p hf le fc pn rn hn qn)) (ma : MA B h) (h11 : h.2 (B + 11) = some (aI 1681 gr)) (hGp : po (fR hp) G) (hGd : dgi hp G ≤ 40) (hGk : ∀ k : Int, 0 ≤ k → k ≤ 40 → gr (41 * i + k) = cf G k) : Sp N yX10_toFactor mX10_toFactor 0 0 [.ref (B), .int (gI (i)), .int (gI (r))] h (fun v h1 => v = none ∧ MF B [] [r] h h1 ∧ MG hp B h1 (r) (G)) := by
  refine Sp.of (by decide) rfl rfl (Nat.le_of_ble_eq_true rfl) ?_
  show Go N mX10_toFactor _ 0 0 h 0 [(0, .ref (B)), (1, .int (gI (i))), (2, .int (gI (r)))] []
  have hp1 := hp.1
  have neA : NE B (B + 5) := by unfold NE; omega
  have neB : NE B (B + 6) := by unfold NE; omega
  have neC : NE (B + 5) (B + 6) := by unfold NE; omega
  have ne0 : NE (B) (B + 1) := by unfold NE; omega
  have ne1 : NE (B) (B + 2) := by unfold NE; omega
  have ne2 : NE (B) (B + 3) := by unfold NE; omega
  have ne3 : NE (B) (B + 4) := by unfold NE; omega
  have ne4 : NE (B) (B + 5) := by unfold NE; omega
  have ne5 : NE (B) (B + 6) := by unfold NE; omega
  have ne6 : NE (B) (B + 7) := by unfold NE; omega
  have ne7 : NE (B) (B + 8) := by unfold NE; omega
  have ne8 : NE (B) (B + 9) := by unfold NE; omega
  have ne9 : NE (B) (B + 10) := by unfold NE; omega
  have ne10 : NE (B) (B + 11) := by unfold NE; omega
  have ne11 : NE (B) (B + 12) := by unfold NE; omega
  have ne12 : NE (B) (B + 13) := by unfold NE; omega
  have ne13 : NE (B) (B + 14) := by unfold NE; omega
  have ne14 : NE (B) (B + 15) := by unfold NE; omega
  have ne15 : NE (B) (B + 16) := by unfold NE; omega
  have ne16 : NE (B) (B + 17) := by unfold NE; omega
  have ne17 : NE (B) (B + 18) := by unfold NE; omega
  have ne18 : NE (B) (B + 19) := by unfold NE; omega
  have ne19 : NE (B) (B + 20) := by unfold NE; omega
  have ne20 : NE (B) (B + 21) := by unfold NE; omega
  have ne21 : NE (B) (B + 22) := by unfold NE; omega
  have ne22 : NE (B + 1) (B + 2) := by unfold NE; omega
  have ne23 : NE (B + 1) (B + 3) := by unfold NE; omega
  have ne24 : NE (B + 1) (B + 4) := by unfold NE; omega
  have ne25 : NE (B + 1) (B + 5) := by unfold NE; omega
  have ne26 : NE (B + 1) (B + 6) := by unfold NE; omega
  have ne27 : NE (B + 1) (B + 7) := by unfold NE; omega
  have ne28 : NE (B + 1) (B + 8) := by unfold NE; omega
  have ne29 : NE (B + 1) (B + 9) := by unfold NE; omega
  have ne30 : NE (B + 1) (B + 10) := by unfold NE; omega
  have ne31 : NE (B + 1) (B + 11) := by unfold NE; omega
  have ne32 : NE (B + 1) (B + 12) := by unfold NE; omega
  have ne33 : NE (B + 1) (B + 13) := by unfold NE; omega
  have ne34 : NE (B + 1) (B + 14) := by unfold NE; omega
  have ne35 : NE (B + 1) (B + 15) := by unfold NE; omega
  have ne36 : NE (B + 1) (B + 16) := by unfold NE; omega
  have ne37 : NE (B + 1) (B + 17) := by unfold NE; omega
  have ne38 : NE (B + 1) (B + 18) := by unfold NE; omega
  have ne39 : NE (B + 1) (B + 19) := by unfold NE; omega
  have ne40 : NE (B + 1) (B + 20) := by unfold NE; omega
  have ne41 : NE (B + 1) (B + 21) := by unfold NE; omega
  have ne42 : NE (B + 1) (B + 22) := by unfold NE; omega
  have ne43 : NE (B + 2) (B + 3) := by unfold NE; omega
  have ne44 : NE (B + 2) (B + 4) := by unfold NE; omega
  have ne45 : NE (B + 2) (B + 5) := by unfold NE; omega
  have ne46 : NE (B + 2) (B + 6) := by unfold NE; omega
  have ne47 : NE (B + 2) (B + 7) := by unfold NE; omega
  have ne48 : NE (B + 2) (B + 8) := by unfold NE; omega
  have ne49 : NE (B + 2) (B + 9) := by unfold NE; omega
  have ne50 : NE (B + 2) (B + 10) := by unfold NE; omega
  have ne51 : NE (B + 2) (B + 11) := by unfold NE; omega
  have ne52 : NE (B + 2) (B + 12) := by unfold NE; omega
  have ne53 : NE (B + 2) (B + 13) := by unfold NE; omega
  have ne54 : NE (B + 2) (B + 14) := by unfold NE; omega
  have ne55 : NE (B + 2) (B + 15) := by unfold NE; omega
  have ne56 : NE (B + 2) (B + 16) := by unfold NE; omega
  have ne57 : NE (B + 2) (B + 17) := by unfold NE; omega
  have ne58 : NE (B + 2) (B + 18) := by unfold NE; omega
  have ne59 : NE (B + 2) (B + 19) := by unfold NE; omega
  have ne60 : NE (B + 2) (B + 20) := by unfold NE; omega
  have ne61 : NE (B + 2) (B + 21) := by unfold NE; omega
  have ne62 : NE (B + 2) (B + 22) := by unfold NE; omega
  have ne63 : NE (B + 3) (B + 4) := by unfold NE; omega
  have ne64 : NE (B + 3) (B + 5) := by unfold NE; omega
  have ne65 : NE (B + 3) (B + 6) := by unfold NE; omega
  have ne66 : NE (B + 3) (B + 7) := by unfold NE; omega
  have ne67 : NE (B + 3) (B + 8) := by unfold NE; omega
  have ne68 : NE (B + 3) (B + 9) := by unfold NE; omega
  have ne69 : NE (B + 3) (B + 10) := by unfold NE; omega
  have ne70 : NE (B + 3) (B + 11) := by unfold NE; omega
  have ne71 : NE (B + 3) (B + 12) := by unfold NE; omega
  have ne72 : NE (B + 3) (B + 13) := by unfold NE; omega
  have ne73 : NE (B + 3) (B + 14) := by unfold NE; omega
  have ne74 : NE (B + 3) (B + 15) := by unfold NE; omega
  have ne75 : NE (B + 3) (B + 16) := by unfold NE; omega
  have ne76 : NE (B + 3) (B + 17) := by unfold NE; omega
  have ne77 : NE (B + 3) (B + 18) := by unfold NE; omega
  have ne78 : NE (B + 3) (B + 19) := by unfold NE; omega
  have ne79 : NE (B + 3) (B + 20) := by unfold NE; omega
  have ne80 : NE (B + 3) (B + 21) := by unfold NE; omega
  have ne81 : NE (B + 3) (B + 22) := by unfold NE; omega
  have ne82 : NE (B + 4) (B + 5) := by unfold NE; omega
  have ne83 : NE (B + 4) (B + 6) := by unfold NE; omega
  have ne84 : NE (B + 4) (B + 7) := by unfold NE; omega
  have ne85 : NE (B + 4) (B + 8) := by unfold NE; omega
  have ne86 : NE (B + 4) (B + 9) := by unfold NE; omega
  have ne87 : NE (B + 4) (B + 10) := by unfold NE; omega
  have ne88 : NE (B + 4) (B + 11) := by unfold NE; omega
  have ne89 : NE (B + 4) (B + 12) := by unfold NE; omega
  have ne90 : NE (B + 4) (B + 13) := by unfold NE; omega
  have ne91 : NE (B + 4) (B + 14) := by unfold NE; omega
  have ne92 : NE (B + 4) (B + 15) := by unfold NE; omega
  have ne93 : NE (B + 4) (B + 16) := by unfold NE; omega
  have ne94 : NE (B + 4) (B + 17) := by unfold NE; omega
  have ne95 : NE (B + 4) (B + 18) := by unfold NE; omega
  have ne96 : NE (B + 4) (B + 19) := by unfold NE; omega
  have ne97 : NE (B + 4) (B + 20) := by unfold NE; omega
  have ne98 : NE (B + 4) (B + 21) := by unfold NE; omega
  have ne99 : NE (B + 4) (B + 22) := by unfold NE; omega
  have ne100 : NE (B + 5) (B + 6) := by unfold NE; omega
  have ne101 : NE (B + 5) (B + 7) := by unfold NE; omega
  have ne102 : NE (B + 5) (B + 8) := by unfold NE; omega
  have ne103 : NE (B + 5) (B + 9) := by unfold NE; omega
  have ne104 : NE (B + 5) (B + 10) := by unfold NE; omega
  have ne105 : NE (B + 5) (B + 11) := by unfold NE; omega
  have ne106 : NE (B + 5) (B + 12) := by unfold NE; omega
  have ne107 : NE (B + 5) (B + 13) := by unfold NE; omega
  have ne108 : NE (B + 5) (B + 14) := by unfold NE; omega
  have ne109 : NE (B + 5) (B + 15) := by unfold NE; omega
  have ne110 : NE (B + 5) (B + 16) := by unfold NE; omega
  have ne111 : NE (B + 5) (B + 17) := by unfold NE; omega
  have ne112 : NE (B + 5) (B + 18) := by unfold NE; omega
  have ne113 : NE (B + 5) (B + 19) := by unfold NE; omega
  have ne114 : NE (B + 5) (B + 20) := by unfold NE; omega
  have ne115 : NE (B + 5) (B + 21) := by unfold NE; omega
  have ne116 : NE (B + 5) (B + 22) := by unfold NE; omega
  have ne117 : NE (B + 6) (B + 7) := by unfold NE; omega
  have ne118 : NE (B + 6) (B + 8) := by unfold NE; omega
  have ne119 : NE (B + 6) (B + 9) := by unfold NE; omega
  have ne120 : NE (B + 6) (B + 10) := by unfold NE; omega
  have ne121 : NE (B + 6) (B + 11) := by unfold NE; omega
  have ne122 : NE (B + 6) (B + 12) := by unfold NE; omega
  have ne123 : NE (B + 6) (B + 13) := by unfold NE; omega
  have ne124 : NE (B + 6) (B + 14) := by unfold NE; omega
  have ne125 : NE (B + 6) (B + 15) := by unfold NE; omega
  have ne126 : NE (B + 6) (B + 16) := by unfold NE; omega
  have ne127 : NE (B + 6) (B + 17) := by unfold NE; omega
  have ne128 : NE (B + 6) (B + 18) := by unfold NE; omega
  have ne129 : NE (B + 6) (B + 19) := by unfold NE; omega
  have ne130 : NE (B + 6) (B + 20) := by unfold NE; omega
  have ne131 : NE (B + 6) (B + 21) := by unfold NE; omega
  have ne132 : NE (B + 6) (B + 22) := by unfold NE; omega
  have ne133 : NE (B + 7) (B + 8) := by unfold NE; omega
  have ne134 : NE (B + 7) (B + 9) := by unfold NE; omega
  have ne135 : NE (B + 7) (B + 10) := by unfold NE; omega
  have ne136 : NE (B + 7) (B + 11) := by unfold NE; omega
  have ne137 : NE (B + 7) (B + 12) := by unfold NE; omega
  have ne138 : NE (B + 7) (B + 13) := by unfold NE; omega
  have ne139 : NE (B + 7) (B + 14) := by unfold NE; omega
  have ne140 : NE (B + 7) (B + 15) := by unfold NE; omega
  have ne141 : NE (B + 7) (B + 16) := by unfold NE; omega
  have ne142 : NE (B + 7) (B + 17) := by unfold NE; omega
  have ne143 : NE (B + 7) (B + 18) := by unfold NE; omega
  have ne144 : NE (B + 7) (B + 19) := by unfold NE; omega
  have ne145 : NE (B + 7) (B + 20) := by unfold NE; omega
  have ne146 : NE (B + 7) (B + 21) := by unfold NE; omega
  have ne147 : NE (B + 7) (B + 22) := by unfold NE; omega
  have ne148 : NE (B + 8) (B + 9) := by unfold NE; omega
  have ne149 : NE (B + 8) (B + 10) := by unfold NE; omega
  have ne150 : NE (B + 8) (B + 11) := by unfold NE; omega
  have ne151 : NE (B + 8) (B + 12) := by unfold NE; omega
  have ne152 : NE (B + 8) (B + 13) := by unfold NE; omega
  have ne153 : NE (B + 8) (B + 14) := by unfold NE; omega
  have ne154 : NE (B + 8) (B + 15) := by unfold NE; omega
  have ne155 : NE (B + 8) (B + 16) := by unfold NE; omega
  have ne156 : NE (B + 8) (B + 17) := by unfold NE; omega
  have ne157 : NE (B + 8) (B + 18) := by unfold NE; omega
  have ne158 : NE (B + 8) (B + 19) := by unfold NE; omega
  have ne159 : NE (B + 8) (B + 20) := by unfold NE; omega
  have ne160 : NE (B + 8) (B + 21) := by unfold NE; omega
  have ne161 : NE (B + 8) (B + 22) := by unfold NE; omega
  have ne162 : NE (B + 9) (B + 10) := by unfold NE; omega
  have ne163 : NE (B + 9) (B + 11) := by unfold NE; omega
  have ne164 : NE (B + 9) (B + 12) := by unfold NE; omega
  have ne165 : NE (B + 9) (B + 13) := by unfold NE; omega
  have ne166 : NE (B + 9) (B + 14) := by unfold NE; omega
  have ne167 : NE (B + 9) (B + 15) := by unfold NE; omega
  have ne168 : NE (B + 9) (B + 16) := by unfold NE; omega
  have ne169 : NE (B + 9) (B + 17) := by unfold NE; omega
  have ne170 : NE (B + 9) (B + 18) := by unfold NE; omega
  have ne171 : NE (B + 9) (B + 19) := by unfold NE; omega
  have ne172 : NE (B + 9) (B + 20) := by unfold NE; omega
  have ne173 : NE (B + 9) (B + 21) := by unfold NE; omega
  have ne174 : NE (B + 9) (B + 22) := by unfold NE; omega
  have ne175 : NE (B + 10) (B + 11) := by unfold NE; omega
  have ne176 : NE (B + 10) (B + 12) := by unfold NE; omega
  have ne177 : NE (B + 10) (B + 13) := by unfold NE; omega
  have ne178 : NE (B + 10) (B + 14) := by unfold NE; omega
  have ne179 : NE (B + 10) (B + 15) := by unfold NE; omega
  have ne180 : NE (B + 10) (B + 16) := by unfold NE; omega
  have ne181 : NE (B + 10) (B + 17) := by unfold NE; omega
  have ne182 : NE (B + 10) (B + 18) := by unfold NE; omega
  have ne183 : NE (B + 10) (B + 19) := by unfold NE; omega
  have ne184 : NE (B + 10) (B + 20) := by unfold NE; omega
  have ne185 : NE (B + 10) (B + 21) := by unfold NE; omega
  have ne186 : NE (B + 10) (B + 22) := by unfold NE; omega
  have ne187 : NE (B + 11) (B + 12) := by unfold NE; omega
  have ne188 : NE (B + 11) (B + 13) := by unfold NE; omega
  have ne189 : NE (B + 11) (B + 14) := by unfold NE; omega
  have ne190 : NE (B + 11) (B + 15) := by unfold NE; omega
  have ne191 : NE (B + 11) (B + 16) := by unfold NE; omega
  have ne192 : NE (B + 11) (B + 17) := by unfold NE; omega
  have ne193 : NE (B + 11) (B + 18) := by unfold NE; omega
  have ne194 : NE (B + 11) (B + 19) := by unfold NE; omega
  have ne195 : NE (B + 11) (B + 20) := by unfold NE; omega
  have ne196 : NE (B + 11) (B + 21) := by unfold NE; omega
  have ne197 : NE (B + 11) (B + 22) := by unfold NE; omega
  have ne198 : NE (B + 12) (B + 13) := by unfold NE; omega
  have ne199 : NE (B + 12) (B + 14) := by unfold NE; omega
  have ne200 : NE (B + 12) (B + 15) := by unfold NE; omega
  have ne201 : NE (B + 12) (B + 16) := by unfold NE; omega
  have ne202 : NE (B + 12) (B + 17) := by unfold NE; omega
  have ne203 : NE (B + 12) (B + 18) := by unfold NE; omega
  have ne204 : NE (B + 12) (B + 19) := by unfold NE; omega
  have ne205 : NE (B + 12) (B + 20) := by unfold NE; omega
  have ne206 : NE (B + 12) (B + 21) := by unfold NE; omega
  have ne207 : NE (B + 12) (B + 22) := by unfold NE; omega
  have ne208 : NE (B + 13) (B + 14) := by unfold NE; omega
  have ne209 : NE (B + 13) (B + 15) := by unfold NE; omega
  have ne210 : NE (B + 13) (B + 16) := by unfold NE; omega
  have ne211 : NE (B + 13) (B + 17) := by unfold NE; omega
  have ne212 : NE (B + 13) (B + 18) := by unfold NE; omega
  have ne213 : NE (B + 13) (B + 19) := by unfold NE; omega
  have ne214 : NE (B + 13) (B + 20) := by unfold NE; omega
  have ne215 : NE (B + 13) (B + 21) := by unfold NE; omega
  have ne216 : NE (B + 13) (B + 22) := by unfold NE; omega
  have ne217 : NE (B + 14) (B + 15) := by unfold NE; omega
  have ne218 : NE (B + 14) (B + 16) := by unfold NE; omega
  have ne219 : NE (B + 14) (B + 17) := by unfold NE; omega
  have ne220 : NE (B + 14) (B + 18) := by unfold NE; omega
  have ne221 : NE (B + 14) (B + 19) := by unfold NE; omega
  have ne222 : NE (B + 14) (B + 20) := by unfold NE; omega
  have ne223 : NE (B + 14) (B + 21) := by unfold NE; omega
  have ne224 : NE (B + 14) (B + 22) := by unfold NE; omega
  have ne225 : NE (B + 15) (B + 16) := by unfold NE; omega
  have ne226 : NE (B + 15) (B + 17) := by unfold NE; omega
  have ne227 : NE (B + 15) (B + 18) := by unfold NE; omega
  have ne228 : NE (B + 15) (B + 19) := by unfold NE; omega
  have ne229 : NE (B + 15) (B + 20) := by unfold NE; omega
  have ne230 : NE (B + 15) (B + 21) := by unfold NE; omega
  have ne231 : NE (B + 15) (B + 22) := by unfold NE; omega
  have ne232 : NE (B + 16) (B + 17) := by unfold NE; omega
  have ne233 : NE (B + 16) (B + 18) := by unfold NE; omega
  have ne234 : NE (B + 16) (B + 19) := by unfold NE; omega
  have ne235 : NE (B + 16) (B + 20) := by unfold NE; omega
  have ne236 : NE (B + 16) (B + 21) := by unfold NE; omega
  have ne237 : NE (B + 16) (B + 22) := by unfold NE; omega
  have ne238 : NE (B + 17) (B + 18) := by unfold NE; omega
  have ne239 : NE (B + 17) (B + 19) := by unfold NE; omega
  have ne240 : NE (B + 17) (B + 20) := by unfold NE; omega
  have ne241 : NE (B + 17) (B + 21) := by unfold NE; omega
  have ne242 : NE (B + 17) (B + 22) := by unfold NE; omega
  have ne243 : NE (B + 18) (B + 19) := by unfold NE; omega
  have ne244 : NE (B + 18) (B + 20) := by unfold NE; omega
  have ne245 : NE (B + 18) (B + 21) := by unfold NE; omega
  have ne246 : NE (B + 18) (B + 22) := by unfold NE; omega
  have ne247 : NE (B + 19) (B + 20) := by unfold NE; omega
  have ne248 : NE (B + 19) (B + 21) := by unfold NE; omega
  have ne249 : NE (B + 19) (B + 22) := by unfold NE; omega
  have ne250 : NE (B + 20) (B + 21) := by unfold NE; omega
  have ne251 : NE (B + 20) (B + 22) := by unfold NE; omega
  have ne252 : NE (B + 21) (B + 22) := by unfold NE; omega
  have hgc := dgi_ge hp hGp
  refine g_aload_n 0 dX10_toFactor_0 rfl ?_
  refine g_iload_n 2 dX10_toFactor_1 rfl ?_
  refine g_iconst dX10_toFactor_2 ?_
  refine g_callV (nc2 := 0) (ns2 := 0) (ci := 10) (As := [.int (gI (r)), .int (gI (0))]) (st := []) rfl dX10_toFactor_3 okX10_be lX10_170 itX10_be seX10_be rfl hm (by decide) (by decide) rfl (Nat.le_of_ble_eq_true rfl) (sM_be N _ B p hp hp2 hf le fc pn rn hn qn (r) (0) (by omega) (by omega) (by omega) hm ((MF.rf [] [r] ma)).2.1) (by omega) (by omega) (fun v1 hc1 q1 => ?_)
  obtain ⟨rfl, mfc2, rn2_0⟩ := q1
  have fk3_0 : hc1.2 (B) = some (mO B ((p : Int)) (hf) (le) (fc) (pn) (rn) (hn) (qn)) := Fr.at0 (mfc2).1 (Ni.c ⟨ne4, ne5⟩ (Ni.n _)) hm
  have fk3_1 : hc1.2 (B + 11) = some (aI 1681 (gr)) := Fr.at0 (mfc2).1 (Ni.c ⟨(ne105).s, (ne121).s⟩ (Ni.n _)) h11
  have fr3 : MF B [] [r] h hc1 := ((MF.rf [] [r] ma)).tr ((mfc2).mo sub_n (sbI_c (List.Mem.head _) sbI_n))
  refine Go.nf (h' := hc1) (st' := []) rfl rfl (Nat.le_refl _) (Nat.le_refl _) ?_
  have hz9 := rn2_0
  obtain ⟨R, d, hu, hv, hR, hD⟩ := (fr3).2.1
  have hat4 := (rn2_0).at hu hv hR hD
  refine g_iconst dX10_toFactor_6 ?_
  refine g_istore_n (ls2 := [(3, .int (gI (0))), (0, .ref (B)), (1, .int (gI (i))), (2, .int (gI (r)))]) dX10_toFactor_7 rfl (by decide) rfl ?_
  have lo : ∀ (kk : Nat) (c : Int) (hlo : GH), kk = (41 - c).toNat → Fr [B + 5] hc1 hlo → hlo.2 (B + 5) = some (aI 8000 (ar (gup R r (gF (R r) (cf (G)) c)))) → hlo.2 (B + 6) = some (aI 40 (d)) → (0 ≤ c ∧ c ≤ 41) → Go N mX10_toFactor (fun v h1 => v = none ∧ MF B [] [r] h h1 ∧ MG hp B h1 (r) (G)) 0 0 hlo 8 [(3, .int (gI (c))), (0, .ref (B)), (1, .int (gI (i))), (2, .int (gI (r)))] [] := by
    refine Go.ind (fun kk ih_lo => ?_)
    intro c hlo hkk_lo fr_lo cf_lo_0 cf_lo_1 hc
    have cg_lo_0 : hlo.2 (B) = some (mO B ((p : Int)) (hf) (le) (fc) (pn) (rn) (hn) (qn)) := Fr.at0 fr_lo (Ni.c ⟨ne4, ne5⟩ (Ni.n _)) fk3_0
    have cg_lo_1 : hlo.2 (B + 11) = some (aI 1681 (gr)) := Fr.at0 fr_lo (Ni.c ⟨(ne105).s, (ne121).s⟩ (Ni.n _)) fk3_1
    refine g_iload_n 0 dX10_toFactor_8 rfl ?_
    refine g_bipush dX10_toFactor_9 (by decide) ?_
    refine g_icmp_gt (tgt := 43) dX10_toFactor_11 rfl (by unfold gW; omega) (by unfold gW; omega) (fun c155 => ?_) (fun c155 => ?_)
    · skip
      have hc9 : c = 41 := by omega
      refine g_aload_n 1 dX10_toFactor_43 rfl ?_
      refine g_iload_n 3 dX10_toFactor_44 rfl ?_
      refine g_callV (nc2 := 0) (ns2 := 0) (ci := 10) (As := [.int (gI (r))]) (st := []) rfl dX10_toFactor_45 okX10_measure lX10_164 itX10_measure seX10_measure rfl cg_lo_0 (by decide) (by decide) rfl (Nat.le_of_ble_eq_true rfl) (sM_measure N _ B p hp hp2 hf le fc pn rn hn qn (r) (by omega) cg_lo_0 ((gup R r (gF (R r) (cf (G)) c))) (d) (G) cf_lo_0 cf_lo_1 (fun j j0 j1 => by
                                                                      rw [gup_s]; unfold gF
                                                                      split
                                                                      · exact cf_in _ hp _
                                                                      · rw [(hz9.at hu hv hR hD).2 j j0 j1]; exact cf_in _ hp _) (by
                                                                      rw [gup_s]
                                                                      refine (ph_cf hp hGp (d := 199) (by omega)).symm.trans (ph_cg hp (fun j j0 j1 => ?_))
                                                                      unfold gF
                                                                      by_cases z : 0 ≤ j ∧ j < c
                                                                      · rw [if_pos z]
                                                                      · rw [if_neg z, (hz9.at hu hv hR hD).2 j j0 (by omega), cf_hi hp hGp (by omega), cf_hi hp (cz_po hp _) (by
                                                                          have : dgi hp (cz hp (zi hp 0)) = -1 := by rw [cz_z0]; exact dgi_0 hp
                                                                          omega)])) (by omega) (by omega) (fun v156 hc156 q156 => ?_)
      obtain ⟨rfl, mfc157, rn157⟩ := q156
      have mfd157 : MF B [] [r] hc1 hc156 := (MF.one (r := r) fr_lo hu hv hR hD cf_lo_0 cf_lo_1 (fun s hs => gup_n _ _ hs) (fun _ _ => rfl)).tr mfc157
      have fk158_0 : hc156.2 (B) = some (mO B ((p : Int)) (hf) (le) (fc) (pn) (rn) (hn) (qn)) := Fr.at0 mfc157.1 (Ni.c ⟨ne4, ne5⟩ (Ni.n _)) cg_lo_0
      have fk158_1 : hc156.2 (B + 11) = some (aI 1681 (gr)) := Fr.at0 mfc157.1 (Ni.c ⟨(ne105).s, (ne121).s⟩ (Ni.n _)) cg_lo_1
      have fr158 : Fr [B + 5] hc1 hc156 := (fr_lo).tr ((mfc157.1).mo (sub_c (List.Mem.head _) sub_n))
      refine Go.nf (h' := hc156) (st' := []) rfl rfl (Nat.le_refl _) (Nat.le_refl _) ?_
      have fk209_0 : hc156.2 (B) = some (mO B ((p : Int)) (hf) (le) (fc) (pn) (rn) (hn) (qn)) := Fr.at0 (mfd157).1 (Ni.c ⟨ne4, ne5⟩ (Ni.n _)) fk3_0
      have fk209_1 : hc156.2 (B + 11) = some (aI 1681 (gr)) := Fr.at0 (mfd157).1 (Ni.c ⟨(ne105).s, (ne121).s⟩ (Ni.n _)) fk3_1
      have fr209 : MF B [] [r] h hc156 := (fr3).tr ((mfd157).mo sub_n (sbI_c (List.Mem.head _) sbI_n))
      exact g_vret dX10_toFactor_48 rfl ⟨rfl, fr209, rn157⟩
    · skip
      refine g_aload_n 1 dX10_toFactor_14 rfl ?_
      refine g_getf 5 dX10_toFactor_15 kX10 (by decide) fX10_23 cg_lo_0 rfl ?_
      refine g_sipush dX10_toFactor_18 (by decide) ?_
      refine g_iload_n 3 dX10_toFactor_21 rfl ?_
      refine g_imul dX10_toFactor_22 ?_
      refine g_iload_n 0 dX10_toFactor_23 rfl ?_
      refine g_iadd dX10_toFactor_24 ?_
      refine g_aload_n 1 dX10_toFactor_25 rfl ?_
      refine g_getf 14 dX10_toFactor_26 kX10 (by decide) fX10_42 cg_lo_0 rfl ?_
      refine g_bipush dX10_toFactor_29 (by decide) ?_
      refine g_iload_n 2 dX10_toFactor_31 rfl ?_
      refine g_imul dX10_toFactor_32 ?_
      refine g_iload_n 0 dX10_toFactor_33 rfl ?_
      refine g_iadd dX10_toFactor_34 ?_
      refine g_iaload dX10_toFactor_35 cg_lo_1 (by omega) (by omega) (by omega) ?_
      have hq_ : (gr) (((41) * (i)) + (c)) = cf (G) c := hGk c hc.1 (by omega)
      rw [hq_]
      refine g_iastore dX10_toFactor_36 cf_lo_0 (by omega) (by omega) (by omega) ?_
      obtain ⟨hh210, eh210⟩ : ∃ z : GH, z = hset hlo (B + 5) (aI 8000 (gup (ar (gup R r (gF (R r) (cf (G)) c))) (((200) * (r)) + (c)) (cf (G) c))) := ⟨_, rfl⟩
      refine Go.hp eh210.symm ?_
      have fh210_0 : hh210.2 (B) = some (mO B ((p : Int)) (hf) (le) (fc) (pn) (rn) (hn) (qn)) := hs_n eh210 ne4 cg_lo_0
      have fh210_1 : hh210.2 (B + 11) = some (aI 1681 (gr)) := hs_n eh210 (ne105).s cg_lo_1
      have fh210_2 : hh210.2 (B + 5) = some (aI 8000 (gup (ar (gup R r (gF (R r) (cf (G)) c))) (((200) * (r)) + (c)) (cf (G) c))) := hs_s eh210
      have fh210_3 : hh210.2 (B + 6) = some (aI 40 (d)) := hs_n eh210 (ne100).s cf_lo_1
      have fr210 : Fr [B + 5] hc1 hh210 := Fr.w0 fr_lo (List.Mem.head _) eh210
      refine g_iinc 0 (ls2 := [(3, .int (gI (c + 1))), (0, .ref (B)), (1, .int (gI (i))), (2, .int (gI (r)))]) dX10_toFactor_37 rfl (by decide) rfl ?_
      refine g_goto (tgt := 8) dX10_toFactor_40 rfl ?_
      exact ih_lo _ (by omega) (c + 1) hh210 rfl fr210 (by rw [← gF_s (R r) (cf (G)) hc.1, ← ar_wg R _ hc.1 (by omega)]; exact fh210_2) fh210_3 (by omega)
  exact lo _ (0) hc1 rfl (Fr.rf [B + 5] hc1) (by rw [gF_0, gup_id]; exact hR) hD (by omega)
set_option maxHeartbeats 4000000 in
set_option maxRecDepth 100000 in
theorem sM_takeN (N : GN) (h : GH) (B p : Nat) (hp : prm p) (hp2 : p ≤ 65536) (hf le fc pn rn hn qn : Int) (T : PT p) (i : Int) (gW_i : gW i) (hm : h.2 B = some (mO B p hf le fc pn rn hn qn)) (hT : MP hp B h T) (ms : MS B h) (hX : MFx hp B h (none) hf le fc pn rn) : Sp N yX10_take mX10_take 0 0 [.ref (B), .int (gI (i))] h (fun v h1 => Fr [B + 1, B + 3, B + 5, B + 7] h h1 ∧ MS B h1 ∧ ∃ w T2, Ou T (rTk hp (none) i) w T2 ∧ v = some (.int (gI w)) ∧ MP hp B h1 T2) := by
  refine Sp.of (by decide) rfl rfl (Nat.le_of_ble_eq_true rfl) ?_
  show Go N mX10_take _ 0 0 h 0 [(0, .ref (B)), (1, .int (gI (i)))] []
  have hp1 := hp.1
  have neA : NE B (B + 5) := by unfold NE; omega
  have neB : NE B (B + 6) := by unfold NE; omega
  have neC : NE (B + 5) (B + 6) := by unfold NE; omega
  have ne0 : NE (B) (B + 1) := by unfold NE; omega
  have ne1 : NE (B) (B + 2) := by unfold NE; omega
  have ne2 : NE (B) (B + 3) := by unfold NE; omega
  have ne3 : NE (B) (B + 4) := by unfold NE; omega
  have ne4 : NE (B) (B + 5) := by unfold NE; omega
  have ne5 : NE (B) (B + 6) := by unfold NE; omega
  have ne6 : NE (B) (B + 7) := by unfold NE; omega
  have ne7 : NE (B) (B + 8) := by unfold NE; omega
  have ne8 : NE (B) (B + 9) := by unfold NE; omega
  have ne9 : NE (B) (B + 10) := by unfold NE; omega
  have ne10 : NE (B) (B + 11) := by unfold NE; omega
  have ne11 : NE (B) (B + 12) := by unfold NE; omega
  have ne12 : NE (B) (B + 13) := by unfold NE; omega
  have ne13 : NE (B) (B + 14) := by unfold NE; omega
  have ne14 : NE (B) (B + 15) := by unfold NE; omega
  have ne15 : NE (B) (B + 16) := by unfold NE; omega
  have ne16 : NE (B) (B + 17) := by unfold NE; omega
  have ne17 : NE (B) (B + 18) := by unfold NE; omega
  have ne18 : NE (B) (B + 19) := by unfold NE; omega
  have ne19 : NE (B) (B + 20) := by unfold NE; omega
  have ne20 : NE (B) (B + 21) := by unfold NE; omega
  have ne21 : NE (B) (B + 22) := by unfold NE; omega
  have ne22 : NE (B + 1) (B + 2) := by unfold NE; omega
  have ne23 : NE (B + 1) (B + 3) := by unfold NE; omega
  have ne24 : NE (B + 1) (B + 4) := by unfold NE; omega
  have ne25 : NE (B + 1) (B + 5) := by unfold NE; omega
  have ne26 : NE (B + 1) (B + 6) := by unfold NE; omega
  have ne27 : NE (B + 1) (B + 7) := by unfold NE; omega
  have ne28 : NE (B + 1) (B + 8) := by unfold NE; omega
  have ne29 : NE (B + 1) (B + 9) := by unfold NE; omega
  have ne30 : NE (B + 1) (B + 10) := by unfold NE; omega
  have ne31 : NE (B + 1) (B + 11) := by unfold NE; omega
  have ne32 : NE (B + 1) (B + 12) := by unfold NE; omega
  have ne33 : NE (B + 1) (B + 13) := by unfold NE; omega
  have ne34 : NE (B + 1) (B + 14) := by unfold NE; omega
  have ne35 : NE (B + 1) (B + 15) := by unfold NE; omega
  have ne36 : NE (B + 1) (B + 16) := by unfold NE; omega
  have ne37 : NE (B + 1) (B + 17) := by unfold NE; omega
  have ne38 : NE (B + 1) (B + 18) := by unfold NE; omega
  have ne39 : NE (B + 1) (B + 19) := by unfold NE; omega
  have ne40 : NE (B + 1) (B + 20) := by unfold NE; omega
  have ne41 : NE (B + 1) (B + 21) := by unfold NE; omega
  have ne42 : NE (B + 1) (B + 22) := by unfold NE; omega
  have ne43 : NE (B + 2) (B + 3) := by unfold NE; omega
  have ne44 : NE (B + 2) (B + 4) := by unfold NE; omega
  have ne45 : NE (B + 2) (B + 5) := by unfold NE; omega
  have ne46 : NE (B + 2) (B + 6) := by unfold NE; omega
  have ne47 : NE (B + 2) (B + 7) := by unfold NE; omega
  have ne48 : NE (B + 2) (B + 8) := by unfold NE; omega
  have ne49 : NE (B + 2) (B + 9) := by unfold NE; omega
  have ne50 : NE (B + 2) (B + 10) := by unfold NE; omega
  have ne51 : NE (B + 2) (B + 11) := by unfold NE; omega
  have ne52 : NE (B + 2) (B + 12) := by unfold NE; omega
  have ne53 : NE (B + 2) (B + 13) := by unfold NE; omega
  have ne54 : NE (B + 2) (B + 14) := by unfold NE; omega
  have ne55 : NE (B + 2) (B + 15) := by unfold NE; omega
  have ne56 : NE (B + 2) (B + 16) := by unfold NE; omega
  have ne57 : NE (B + 2) (B + 17) := by unfold NE; omega
  have ne58 : NE (B + 2) (B + 18) := by unfold NE; omega
  have ne59 : NE (B + 2) (B + 19) := by unfold NE; omega
  have ne60 : NE (B + 2) (B + 20) := by unfold NE; omega
  have ne61 : NE (B + 2) (B + 21) := by unfold NE; omega
  have ne62 : NE (B + 2) (B + 22) := by unfold NE; omega
  have ne63 : NE (B + 3) (B + 4) := by unfold NE; omega
  have ne64 : NE (B + 3) (B + 5) := by unfold NE; omega
  have ne65 : NE (B + 3) (B + 6) := by unfold NE; omega
  have ne66 : NE (B + 3) (B + 7) := by unfold NE; omega
  have ne67 : NE (B + 3) (B + 8) := by unfold NE; omega
  have ne68 : NE (B + 3) (B + 9) := by unfold NE; omega
  have ne69 : NE (B + 3) (B + 10) := by unfold NE; omega
  have ne70 : NE (B + 3) (B + 11) := by unfold NE; omega
  have ne71 : NE (B + 3) (B + 12) := by unfold NE; omega
  have ne72 : NE (B + 3) (B + 13) := by unfold NE; omega
  have ne73 : NE (B + 3) (B + 14) := by unfold NE; omega
  have ne74 : NE (B + 3) (B + 15) := by unfold NE; omega
  have ne75 : NE (B + 3) (B + 16) := by unfold NE; omega
  have ne76 : NE (B + 3) (B + 17) := by unfold NE; omega
  have ne77 : NE (B + 3) (B + 18) := by unfold NE; omega
  have ne78 : NE (B + 3) (B + 19) := by unfold NE; omega
  have ne79 : NE (B + 3) (B + 20) := by unfold NE; omega
  have ne80 : NE (B + 3) (B + 21) := by unfold NE; omega
  have ne81 : NE (B + 3) (B + 22) := by unfold NE; omega
  have ne82 : NE (B + 4) (B + 5) := by unfold NE; omega
  have ne83 : NE (B + 4) (B + 6) := by unfold NE; omega
  have ne84 : NE (B + 4) (B + 7) := by unfold NE; omega
  have ne85 : NE (B + 4) (B + 8) := by unfold NE; omega
  have ne86 : NE (B + 4) (B + 9) := by unfold NE; omega
  have ne87 : NE (B + 4) (B + 10) := by unfold NE; omega
  have ne88 : NE (B + 4) (B + 11) := by unfold NE; omega
  have ne89 : NE (B + 4) (B + 12) := by unfold NE; omega
  have ne90 : NE (B + 4) (B + 13) := by unfold NE; omega
  have ne91 : NE (B + 4) (B + 14) := by unfold NE; omega
  have ne92 : NE (B + 4) (B + 15) := by unfold NE; omega
  have ne93 : NE (B + 4) (B + 16) := by unfold NE; omega
  have ne94 : NE (B + 4) (B + 17) := by unfold NE; omega
  have ne95 : NE (B + 4) (B + 18) := by unfold NE; omega
  have ne96 : NE (B + 4) (B + 19) := by unfold NE; omega
  have ne97 : NE (B + 4) (B + 20) := by unfold NE; omega
  have ne98 : NE (B + 4) (B + 21) := by unfold NE; omega
  have ne99 : NE (B + 4) (B + 22) := by unfold NE; omega
  have ne100 : NE (B + 5) (B + 6) := by unfold NE; omega
  have ne101 : NE (B + 5) (B + 7) := by unfold NE; omega
  have ne102 : NE (B + 5) (B + 8) := by unfold NE; omega
  have ne103 : NE (B + 5) (B + 9) := by unfold NE; omega
  have ne104 : NE (B + 5) (B + 10) := by unfold NE; omega
  have ne105 : NE (B + 5) (B + 11) := by unfold NE; omega
  have ne106 : NE (B + 5) (B + 12) := by unfold NE; omega
  have ne107 : NE (B + 5) (B + 13) := by unfold NE; omega
  have ne108 : NE (B + 5) (B + 14) := by unfold NE; omega
  have ne109 : NE (B + 5) (B + 15) := by unfold NE; omega
  have ne110 : NE (B + 5) (B + 16) := by unfold NE; omega
  have ne111 : NE (B + 5) (B + 17) := by unfold NE; omega
  have ne112 : NE (B + 5) (B + 18) := by unfold NE; omega
  have ne113 : NE (B + 5) (B + 19) := by unfold NE; omega
  have ne114 : NE (B + 5) (B + 20) := by unfold NE; omega
  have ne115 : NE (B + 5) (B + 21) := by unfold NE; omega
  have ne116 : NE (B + 5) (B + 22) := by unfold NE; omega
  have ne117 : NE (B + 6) (B + 7) := by unfold NE; omega
  have ne118 : NE (B + 6) (B + 8) := by unfold NE; omega
  have ne119 : NE (B + 6) (B + 9) := by unfold NE; omega
  have ne120 : NE (B + 6) (B + 10) := by unfold NE; omega
  have ne121 : NE (B + 6) (B + 11) := by unfold NE; omega
  have ne122 : NE (B + 6) (B + 12) := by unfold NE; omega
  have ne123 : NE (B + 6) (B + 13) := by unfold NE; omega
  have ne124 : NE (B + 6) (B + 14) := by unfold NE; omega
  have ne125 : NE (B + 6) (B + 15) := by unfold NE; omega
  have ne126 : NE (B + 6) (B + 16) := by unfold NE; omega
  have ne127 : NE (B + 6) (B + 17) := by unfold NE; omega
  have ne128 : NE (B + 6) (B + 18) := by unfold NE; omega
  have ne129 : NE (B + 6) (B + 19) := by unfold NE; omega
  have ne130 : NE (B + 6) (B + 20) := by unfold NE; omega
  have ne131 : NE (B + 6) (B + 21) := by unfold NE; omega
  have ne132 : NE (B + 6) (B + 22) := by unfold NE; omega
  have ne133 : NE (B + 7) (B + 8) := by unfold NE; omega
  have ne134 : NE (B + 7) (B + 9) := by unfold NE; omega
  have ne135 : NE (B + 7) (B + 10) := by unfold NE; omega
  have ne136 : NE (B + 7) (B + 11) := by unfold NE; omega
  have ne137 : NE (B + 7) (B + 12) := by unfold NE; omega
  have ne138 : NE (B + 7) (B + 13) := by unfold NE; omega
  have ne139 : NE (B + 7) (B + 14) := by unfold NE; omega
  have ne140 : NE (B + 7) (B + 15) := by unfold NE; omega
  have ne141 : NE (B + 7) (B + 16) := by unfold NE; omega
  have ne142 : NE (B + 7) (B + 17) := by unfold NE; omega
  have ne143 : NE (B + 7) (B + 18) := by unfold NE; omega
  have ne144 : NE (B + 7) (B + 19) := by unfold NE; omega
  have ne145 : NE (B + 7) (B + 20) := by unfold NE; omega
  have ne146 : NE (B + 7) (B + 21) := by unfold NE; omega
  have ne147 : NE (B + 7) (B + 22) := by unfold NE; omega
  have ne148 : NE (B + 8) (B + 9) := by unfold NE; omega
  have ne149 : NE (B + 8) (B + 10) := by unfold NE; omega
  have ne150 : NE (B + 8) (B + 11) := by unfold NE; omega
  have ne151 : NE (B + 8) (B + 12) := by unfold NE; omega
  have ne152 : NE (B + 8) (B + 13) := by unfold NE; omega
  have ne153 : NE (B + 8) (B + 14) := by unfold NE; omega
  have ne154 : NE (B + 8) (B + 15) := by unfold NE; omega
  have ne155 : NE (B + 8) (B + 16) := by unfold NE; omega
  have ne156 : NE (B + 8) (B + 17) := by unfold NE; omega
  have ne157 : NE (B + 8) (B + 18) := by unfold NE; omega
  have ne158 : NE (B + 8) (B + 19) := by unfold NE; omega
  have ne159 : NE (B + 8) (B + 20) := by unfold NE; omega
  have ne160 : NE (B + 8) (B + 21) := by unfold NE; omega
  have ne161 : NE (B + 8) (B + 22) := by unfold NE; omega
  have ne162 : NE (B + 9) (B + 10) := by unfold NE; omega
  have ne163 : NE (B + 9) (B + 11) := by unfold NE; omega
  have ne164 : NE (B + 9) (B + 12) := by unfold NE; omega
  have ne165 : NE (B + 9) (B + 13) := by unfold NE; omega
  have ne166 : NE (B + 9) (B + 14) := by unfold NE; omega
  have ne167 : NE (B + 9) (B + 15) := by unfold NE; omega
  have ne168 : NE (B + 9) (B + 16) := by unfold NE; omega
  have ne169 : NE (B + 9) (B + 17) := by unfold NE; omega
  have ne170 : NE (B + 9) (B + 18) := by unfold NE; omega
  have ne171 : NE (B + 9) (B + 19) := by unfold NE; omega
  have ne172 : NE (B + 9) (B + 20) := by unfold NE; omega
  have ne173 : NE (B + 9) (B + 21) := by unfold NE; omega
  have ne174 : NE (B + 9) (B + 22) := by unfold NE; omega
  have ne175 : NE (B + 10) (B + 11) := by unfold NE; omega
  have ne176 : NE (B + 10) (B + 12) := by unfold NE; omega
  have ne177 : NE (B + 10) (B + 13) := by unfold NE; omega
  have ne178 : NE (B + 10) (B + 14) := by unfold NE; omega
  have ne179 : NE (B + 10) (B + 15) := by unfold NE; omega
  have ne180 : NE (B + 10) (B + 16) := by unfold NE; omega
  have ne181 : NE (B + 10) (B + 17) := by unfold NE; omega
  have ne182 : NE (B + 10) (B + 18) := by unfold NE; omega
  have ne183 : NE (B + 10) (B + 19) := by unfold NE; omega
  have ne184 : NE (B + 10) (B + 20) := by unfold NE; omega
  have ne185 : NE (B + 10) (B + 21) := by unfold NE; omega
  have ne186 : NE (B + 10) (B + 22) := by unfold NE; omega
  have ne187 : NE (B + 11) (B + 12) := by unfold NE; omega
  have ne188 : NE (B + 11) (B + 13) := by unfold NE; omega
  have ne189 : NE (B + 11) (B + 14) := by unfold NE; omega
  have ne190 : NE (B + 11) (B + 15) := by unfold NE; omega
  have ne191 : NE (B + 11) (B + 16) := by unfold NE; omega
  have ne192 : NE (B + 11) (B + 17) := by unfold NE; omega
  have ne193 : NE (B + 11) (B + 18) := by unfold NE; omega
  have ne194 : NE (B + 11) (B + 19) := by unfold NE; omega
  have ne195 : NE (B + 11) (B + 20) := by unfold NE; omega
  have ne196 : NE (B + 11) (B + 21) := by unfold NE; omega
  have ne197 : NE (B + 11) (B + 22) := by unfold NE; omega
  have ne198 : NE (B + 12) (B + 13) := by unfold NE; omega
  have ne199 : NE (B + 12) (B + 14) := by unfold NE; omega
  have ne200 : NE (B + 12) (B + 15) := by unfold NE; omega
  have ne201 : NE (B + 12) (B + 16) := by unfold NE; omega
  have ne202 : NE (B + 12) (B + 17) := by unfold NE; omega
  have ne203 : NE (B + 12) (B + 18) := by unfold NE; omega
  have ne204 : NE (B + 12) (B + 19) := by unfold NE; omega
  have ne205 : NE (B + 12) (B + 20) := by unfold NE; omega
  have ne206 : NE (B + 12) (B + 21) := by unfold NE; omega
  have ne207 : NE (B + 12) (B + 22) := by unfold NE; omega
  have ne208 : NE (B + 13) (B + 14) := by unfold NE; omega
  have ne209 : NE (B + 13) (B + 15) := by unfold NE; omega
  have ne210 : NE (B + 13) (B + 16) := by unfold NE; omega
  have ne211 : NE (B + 13) (B + 17) := by unfold NE; omega
  have ne212 : NE (B + 13) (B + 18) := by unfold NE; omega
  have ne213 : NE (B + 13) (B + 19) := by unfold NE; omega
  have ne214 : NE (B + 13) (B + 20) := by unfold NE; omega
  have ne215 : NE (B + 13) (B + 21) := by unfold NE; omega
  have ne216 : NE (B + 13) (B + 22) := by unfold NE; omega
  have ne217 : NE (B + 14) (B + 15) := by unfold NE; omega
  have ne218 : NE (B + 14) (B + 16) := by unfold NE; omega
  have ne219 : NE (B + 14) (B + 17) := by unfold NE; omega
  have ne220 : NE (B + 14) (B + 18) := by unfold NE; omega
  have ne221 : NE (B + 14) (B + 19) := by unfold NE; omega
  have ne222 : NE (B + 14) (B + 20) := by unfold NE; omega
  have ne223 : NE (B + 14) (B + 21) := by unfold NE; omega
  have ne224 : NE (B + 14) (B + 22) := by unfold NE; omega
  have ne225 : NE (B + 15) (B + 16) := by unfold NE; omega
  have ne226 : NE (B + 15) (B + 17) := by unfold NE; omega
  have ne227 : NE (B + 15) (B + 18) := by unfold NE; omega
  have ne228 : NE (B + 15) (B + 19) := by unfold NE; omega
  have ne229 : NE (B + 15) (B + 20) := by unfold NE; omega
  have ne230 : NE (B + 15) (B + 21) := by unfold NE; omega
  have ne231 : NE (B + 15) (B + 22) := by unfold NE; omega
  have ne232 : NE (B + 16) (B + 17) := by unfold NE; omega
  have ne233 : NE (B + 16) (B + 18) := by unfold NE; omega
  have ne234 : NE (B + 16) (B + 19) := by unfold NE; omega
  have ne235 : NE (B + 16) (B + 20) := by unfold NE; omega
  have ne236 : NE (B + 16) (B + 21) := by unfold NE; omega
  have ne237 : NE (B + 16) (B + 22) := by unfold NE; omega
  have ne238 : NE (B + 17) (B + 18) := by unfold NE; omega
  have ne239 : NE (B + 17) (B + 19) := by unfold NE; omega
  have ne240 : NE (B + 17) (B + 20) := by unfold NE; omega
  have ne241 : NE (B + 17) (B + 21) := by unfold NE; omega
  have ne242 : NE (B + 17) (B + 22) := by unfold NE; omega
  have ne243 : NE (B + 18) (B + 19) := by unfold NE; omega
  have ne244 : NE (B + 18) (B + 20) := by unfold NE; omega
  have ne245 : NE (B + 18) (B + 21) := by unfold NE; omega
  have ne246 : NE (B + 18) (B + 22) := by unfold NE; omega
  have ne247 : NE (B + 19) (B + 20) := by unfold NE; omega
  have ne248 : NE (B + 19) (B + 21) := by unfold NE; omega
  have ne249 : NE (B + 19) (B + 22) := by unfold NE; omega
  have ne250 : NE (B + 20) (B + 21) := by unfold NE; omega
  have ne251 : NE (B + 20) (B + 22) := by unfold NE; omega
  have ne252 : NE (B + 21) (B + 22) := by unfold NE; omega
  obtain ⟨ma, hw, ⟨gm, h4⟩, ⟨g7, h7⟩, ⟨g8, h8⟩⟩ := ms
  have hX0 := hX
  obtain ⟨g9, g10, g11, g12, g13, g14, g15, x9, x10, x11, x12, x13, x14, x15, e0, e1, e2, e3⟩   := hX0
  refine g_iload_n 1 dX10_take_0 rfl ?_
  refine g_if_lt (tgt := 12) dX10_take_1 rfl (by first | exact gW_i | (unfold gW; omega)) (fun c1 => ?_) (fun c1 => ?_)
  · skip
    refine g_iconst dX10_take_12 ?_
    exact g_iret dX10_take_13 rfl ⟨(((MF.rf [B + 1, B + 3] [0] ma)).1.mo (sub_c (List.Mem.tail _ (List.Mem.tail _ (List.Mem.head _))) (sub_c (List.Mem.head _) (sub_c (List.Mem.tail _ (List.Mem.head _)) sub_n)))), ⟨((MF.rf [B + 1, B + 3] [0] ma)).2.1, hw, ⟨_, h4⟩, ⟨_, h7⟩, ⟨_, h8⟩⟩, (-1), T, (by unfold rTk; exact ⟨rfl, rfl⟩), rfl, hT⟩
  · skip
    refine g_iload_n 1 dX10_take_4 rfl ?_
    refine g_aload_n 0 dX10_take_5 rfl ?_
    refine g_getf 11 dX10_take_6 kX10 (by decide) fX10_90 hm rfl ?_
    refine g_icmp_lt (tgt := 14) dX10_take_9 rfl (by first | exact gW_i | (unfold gW; omega)) (by first | exact gW_i | (unfold gW; omega)) (fun c2 => ?_) (fun c2 => ?_)
    · skip
      exfalso; omega
    · skip
      refine g_iconst dX10_take_12 ?_
      exact g_iret dX10_take_13 rfl ⟨(((MF.rf [B + 1, B + 3] [0] ma)).1.mo (sub_c (List.Mem.tail _ (List.Mem.tail _ (List.Mem.head _))) (sub_c (List.Mem.head _) (sub_c (List.Mem.tail _ (List.Mem.head _)) sub_n)))), ⟨((MF.rf [B + 1, B + 3] [0] ma)).2.1, hw, ⟨_, h4⟩, ⟨_, h7⟩, ⟨_, h8⟩⟩, (-1), T, (by unfold rTk; exact ⟨rfl, rfl⟩), rfl, hT⟩
set_option maxHeartbeats 4000000 in
set_option maxRecDepth 100000 in
theorem sM_takeS (N : GN) (h : GH) (B p : Nat) (hp : prm p) (hp2 : p ≤ 65536) (hf le fc pn rn hn qn : Int) (T : PT p) (f : Px p) (i : Int) (gW_i : gW i) (hm : h.2 B = some (mO B p hf le fc pn rn hn qn)) (hT : MP hp B h T) (ms : MS B h) (hX : MFx hp B h (some f) hf le fc pn rn) : Sp N yX10_take mX10_take 0 0 [.ref (B), .int (gI (i))] h (fun v h1 => Fr [B + 1, B + 3, B + 5, B + 7] h h1 ∧ MS B h1 ∧ ∃ w T2, Ou T (rTk hp (some f) i) w T2 ∧ v = some (.int (gI w)) ∧ MP hp B h1 T2) := by
  refine Sp.of (by decide) rfl rfl (Nat.le_of_ble_eq_true rfl) ?_
  show Go N mX10_take _ 0 0 h 0 [(0, .ref (B)), (1, .int (gI (i)))] []
  have hp1 := hp.1
  have neA : NE B (B + 5) := by unfold NE; omega
  have neB : NE B (B + 6) := by unfold NE; omega
  have neC : NE (B + 5) (B + 6) := by unfold NE; omega
  have ne0 : NE (B) (B + 1) := by unfold NE; omega
  have ne1 : NE (B) (B + 2) := by unfold NE; omega
  have ne2 : NE (B) (B + 3) := by unfold NE; omega
  have ne3 : NE (B) (B + 4) := by unfold NE; omega
  have ne4 : NE (B) (B + 5) := by unfold NE; omega
  have ne5 : NE (B) (B + 6) := by unfold NE; omega
  have ne6 : NE (B) (B + 7) := by unfold NE; omega
  have ne7 : NE (B) (B + 8) := by unfold NE; omega
  have ne8 : NE (B) (B + 9) := by unfold NE; omega
  have ne9 : NE (B) (B + 10) := by unfold NE; omega
  have ne10 : NE (B) (B + 11) := by unfold NE; omega
  have ne11 : NE (B) (B + 12) := by unfold NE; omega
  have ne12 : NE (B) (B + 13) := by unfold NE; omega
  have ne13 : NE (B) (B + 14) := by unfold NE; omega
  have ne14 : NE (B) (B + 15) := by unfold NE; omega
  have ne15 : NE (B) (B + 16) := by unfold NE; omega
  have ne16 : NE (B) (B + 17) := by unfold NE; omega
  have ne17 : NE (B) (B + 18) := by unfold NE; omega
  have ne18 : NE (B) (B + 19) := by unfold NE; omega
  have ne19 : NE (B) (B + 20) := by unfold NE; omega
  have ne20 : NE (B) (B + 21) := by unfold NE; omega
  have ne21 : NE (B) (B + 22) := by unfold NE; omega
  have ne22 : NE (B + 1) (B + 2) := by unfold NE; omega
  have ne23 : NE (B + 1) (B + 3) := by unfold NE; omega
  have ne24 : NE (B + 1) (B + 4) := by unfold NE; omega
  have ne25 : NE (B + 1) (B + 5) := by unfold NE; omega
  have ne26 : NE (B + 1) (B + 6) := by unfold NE; omega
  have ne27 : NE (B + 1) (B + 7) := by unfold NE; omega
  have ne28 : NE (B + 1) (B + 8) := by unfold NE; omega
  have ne29 : NE (B + 1) (B + 9) := by unfold NE; omega
  have ne30 : NE (B + 1) (B + 10) := by unfold NE; omega
  have ne31 : NE (B + 1) (B + 11) := by unfold NE; omega
  have ne32 : NE (B + 1) (B + 12) := by unfold NE; omega
  have ne33 : NE (B + 1) (B + 13) := by unfold NE; omega
  have ne34 : NE (B + 1) (B + 14) := by unfold NE; omega
  have ne35 : NE (B + 1) (B + 15) := by unfold NE; omega
  have ne36 : NE (B + 1) (B + 16) := by unfold NE; omega
  have ne37 : NE (B + 1) (B + 17) := by unfold NE; omega
  have ne38 : NE (B + 1) (B + 18) := by unfold NE; omega
  have ne39 : NE (B + 1) (B + 19) := by unfold NE; omega
  have ne40 : NE (B + 1) (B + 20) := by unfold NE; omega
  have ne41 : NE (B + 1) (B + 21) := by unfold NE; omega
  have ne42 : NE (B + 1) (B + 22) := by unfold NE; omega
  have ne43 : NE (B + 2) (B + 3) := by unfold NE; omega
  have ne44 : NE (B + 2) (B + 4) := by unfold NE; omega
  have ne45 : NE (B + 2) (B + 5) := by unfold NE; omega
  have ne46 : NE (B + 2) (B + 6) := by unfold NE; omega
  have ne47 : NE (B + 2) (B + 7) := by unfold NE; omega
  have ne48 : NE (B + 2) (B + 8) := by unfold NE; omega
  have ne49 : NE (B + 2) (B + 9) := by unfold NE; omega
  have ne50 : NE (B + 2) (B + 10) := by unfold NE; omega
  have ne51 : NE (B + 2) (B + 11) := by unfold NE; omega
  have ne52 : NE (B + 2) (B + 12) := by unfold NE; omega
  have ne53 : NE (B + 2) (B + 13) := by unfold NE; omega
  have ne54 : NE (B + 2) (B + 14) := by unfold NE; omega
  have ne55 : NE (B + 2) (B + 15) := by unfold NE; omega
  have ne56 : NE (B + 2) (B + 16) := by unfold NE; omega
  have ne57 : NE (B + 2) (B + 17) := by unfold NE; omega
  have ne58 : NE (B + 2) (B + 18) := by unfold NE; omega
  have ne59 : NE (B + 2) (B + 19) := by unfold NE; omega
  have ne60 : NE (B + 2) (B + 20) := by unfold NE; omega
  have ne61 : NE (B + 2) (B + 21) := by unfold NE; omega
  have ne62 : NE (B + 2) (B + 22) := by unfold NE; omega
  have ne63 : NE (B + 3) (B + 4) := by unfold NE; omega
  have ne64 : NE (B + 3) (B + 5) := by unfold NE; omega
  have ne65 : NE (B + 3) (B + 6) := by unfold NE; omega
  have ne66 : NE (B + 3) (B + 7) := by unfold NE; omega
  have ne67 : NE (B + 3) (B + 8) := by unfold NE; omega
  have ne68 : NE (B + 3) (B + 9) := by unfold NE; omega
  have ne69 : NE (B + 3) (B + 10) := by unfold NE; omega
  have ne70 : NE (B + 3) (B + 11) := by unfold NE; omega
  have ne71 : NE (B + 3) (B + 12) := by unfold NE; omega
  have ne72 : NE (B + 3) (B + 13) := by unfold NE; omega
  have ne73 : NE (B + 3) (B + 14) := by unfold NE; omega
  have ne74 : NE (B + 3) (B + 15) := by unfold NE; omega
  have ne75 : NE (B + 3) (B + 16) := by unfold NE; omega
  have ne76 : NE (B + 3) (B + 17) := by unfold NE; omega
  have ne77 : NE (B + 3) (B + 18) := by unfold NE; omega
  have ne78 : NE (B + 3) (B + 19) := by unfold NE; omega
  have ne79 : NE (B + 3) (B + 20) := by unfold NE; omega
  have ne80 : NE (B + 3) (B + 21) := by unfold NE; omega
  have ne81 : NE (B + 3) (B + 22) := by unfold NE; omega
  have ne82 : NE (B + 4) (B + 5) := by unfold NE; omega
  have ne83 : NE (B + 4) (B + 6) := by unfold NE; omega
  have ne84 : NE (B + 4) (B + 7) := by unfold NE; omega
  have ne85 : NE (B + 4) (B + 8) := by unfold NE; omega
  have ne86 : NE (B + 4) (B + 9) := by unfold NE; omega
  have ne87 : NE (B + 4) (B + 10) := by unfold NE; omega
  have ne88 : NE (B + 4) (B + 11) := by unfold NE; omega
  have ne89 : NE (B + 4) (B + 12) := by unfold NE; omega
  have ne90 : NE (B + 4) (B + 13) := by unfold NE; omega
  have ne91 : NE (B + 4) (B + 14) := by unfold NE; omega
  have ne92 : NE (B + 4) (B + 15) := by unfold NE; omega
  have ne93 : NE (B + 4) (B + 16) := by unfold NE; omega
  have ne94 : NE (B + 4) (B + 17) := by unfold NE; omega
  have ne95 : NE (B + 4) (B + 18) := by unfold NE; omega
  have ne96 : NE (B + 4) (B + 19) := by unfold NE; omega
  have ne97 : NE (B + 4) (B + 20) := by unfold NE; omega
  have ne98 : NE (B + 4) (B + 21) := by unfold NE; omega
  have ne99 : NE (B + 4) (B + 22) := by unfold NE; omega
  have ne100 : NE (B + 5) (B + 6) := by unfold NE; omega
  have ne101 : NE (B + 5) (B + 7) := by unfold NE; omega
  have ne102 : NE (B + 5) (B + 8) := by unfold NE; omega
  have ne103 : NE (B + 5) (B + 9) := by unfold NE; omega
  have ne104 : NE (B + 5) (B + 10) := by unfold NE; omega
  have ne105 : NE (B + 5) (B + 11) := by unfold NE; omega
  have ne106 : NE (B + 5) (B + 12) := by unfold NE; omega
  have ne107 : NE (B + 5) (B + 13) := by unfold NE; omega
  have ne108 : NE (B + 5) (B + 14) := by unfold NE; omega
  have ne109 : NE (B + 5) (B + 15) := by unfold NE; omega
  have ne110 : NE (B + 5) (B + 16) := by unfold NE; omega
  have ne111 : NE (B + 5) (B + 17) := by unfold NE; omega
  have ne112 : NE (B + 5) (B + 18) := by unfold NE; omega
  have ne113 : NE (B + 5) (B + 19) := by unfold NE; omega
  have ne114 : NE (B + 5) (B + 20) := by unfold NE; omega
  have ne115 : NE (B + 5) (B + 21) := by unfold NE; omega
  have ne116 : NE (B + 5) (B + 22) := by unfold NE; omega
  have ne117 : NE (B + 6) (B + 7) := by unfold NE; omega
  have ne118 : NE (B + 6) (B + 8) := by unfold NE; omega
  have ne119 : NE (B + 6) (B + 9) := by unfold NE; omega
  have ne120 : NE (B + 6) (B + 10) := by unfold NE; omega
  have ne121 : NE (B + 6) (B + 11) := by unfold NE; omega
  have ne122 : NE (B + 6) (B + 12) := by unfold NE; omega
  have ne123 : NE (B + 6) (B + 13) := by unfold NE; omega
  have ne124 : NE (B + 6) (B + 14) := by unfold NE; omega
  have ne125 : NE (B + 6) (B + 15) := by unfold NE; omega
  have ne126 : NE (B + 6) (B + 16) := by unfold NE; omega
  have ne127 : NE (B + 6) (B + 17) := by unfold NE; omega
  have ne128 : NE (B + 6) (B + 18) := by unfold NE; omega
  have ne129 : NE (B + 6) (B + 19) := by unfold NE; omega
  have ne130 : NE (B + 6) (B + 20) := by unfold NE; omega
  have ne131 : NE (B + 6) (B + 21) := by unfold NE; omega
  have ne132 : NE (B + 6) (B + 22) := by unfold NE; omega
  have ne133 : NE (B + 7) (B + 8) := by unfold NE; omega
  have ne134 : NE (B + 7) (B + 9) := by unfold NE; omega
  have ne135 : NE (B + 7) (B + 10) := by unfold NE; omega
  have ne136 : NE (B + 7) (B + 11) := by unfold NE; omega
  have ne137 : NE (B + 7) (B + 12) := by unfold NE; omega
  have ne138 : NE (B + 7) (B + 13) := by unfold NE; omega
  have ne139 : NE (B + 7) (B + 14) := by unfold NE; omega
  have ne140 : NE (B + 7) (B + 15) := by unfold NE; omega
  have ne141 : NE (B + 7) (B + 16) := by unfold NE; omega
  have ne142 : NE (B + 7) (B + 17) := by unfold NE; omega
  have ne143 : NE (B + 7) (B + 18) := by unfold NE; omega
  have ne144 : NE (B + 7) (B + 19) := by unfold NE; omega
  have ne145 : NE (B + 7) (B + 20) := by unfold NE; omega
  have ne146 : NE (B + 7) (B + 21) := by unfold NE; omega
  have ne147 : NE (B + 7) (B + 22) := by unfold NE; omega
  have ne148 : NE (B + 8) (B + 9) := by unfold NE; omega
  have ne149 : NE (B + 8) (B + 10) := by unfold NE; omega
  have ne150 : NE (B + 8) (B + 11) := by unfold NE; omega
  have ne151 : NE (B + 8) (B + 12) := by unfold NE; omega
  have ne152 : NE (B + 8) (B + 13) := by unfold NE; omega
  have ne153 : NE (B + 8) (B + 14) := by unfold NE; omega
  have ne154 : NE (B + 8) (B + 15) := by unfold NE; omega
  have ne155 : NE (B + 8) (B + 16) := by unfold NE; omega
  have ne156 : NE (B + 8) (B + 17) := by unfold NE; omega
  have ne157 : NE (B + 8) (B + 18) := by unfold NE; omega
  have ne158 : NE (B + 8) (B + 19) := by unfold NE; omega
  have ne159 : NE (B + 8) (B + 20) := by unfold NE; omega
  have ne160 : NE (B + 8) (B + 21) := by unfold NE; omega
  have ne161 : NE (B + 8) (B + 22) := by unfold NE; omega
  have ne162 : NE (B + 9) (B + 10) := by unfold NE; omega
  have ne163 : NE (B + 9) (B + 11) := by unfold NE; omega
  have ne164 : NE (B + 9) (B + 12) := by unfold NE; omega
  have ne165 : NE (B + 9) (B + 13) := by unfold NE; omega
  have ne166 : NE (B + 9) (B + 14) := by unfold NE; omega
  have ne167 : NE (B + 9) (B + 15) := by unfold NE; omega
  have ne168 : NE (B + 9) (B + 16) := by unfold NE; omega
  have ne169 : NE (B + 9) (B + 17) := by unfold NE; omega
  have ne170 : NE (B + 9) (B + 18) := by unfold NE; omega
  have ne171 : NE (B + 9) (B + 19) := by unfold NE; omega
  have ne172 : NE (B + 9) (B + 20) := by unfold NE; omega
  have ne173 : NE (B + 9) (B + 21) := by unfold NE; omega
  have ne174 : NE (B + 9) (B + 22) := by unfold NE; omega
  have ne175 : NE (B + 10) (B + 11) := by unfold NE; omega
  have ne176 : NE (B + 10) (B + 12) := by unfold NE; omega
  have ne177 : NE (B + 10) (B + 13) := by unfold NE; omega
  have ne178 : NE (B + 10) (B + 14) := by unfold NE; omega
  have ne179 : NE (B + 10) (B + 15) := by unfold NE; omega
  have ne180 : NE (B + 10) (B + 16) := by unfold NE; omega
  have ne181 : NE (B + 10) (B + 17) := by unfold NE; omega
  have ne182 : NE (B + 10) (B + 18) := by unfold NE; omega
  have ne183 : NE (B + 10) (B + 19) := by unfold NE; omega
  have ne184 : NE (B + 10) (B + 20) := by unfold NE; omega
  have ne185 : NE (B + 10) (B + 21) := by unfold NE; omega
  have ne186 : NE (B + 10) (B + 22) := by unfold NE; omega
  have ne187 : NE (B + 11) (B + 12) := by unfold NE; omega
  have ne188 : NE (B + 11) (B + 13) := by unfold NE; omega
  have ne189 : NE (B + 11) (B + 14) := by unfold NE; omega
  have ne190 : NE (B + 11) (B + 15) := by unfold NE; omega
  have ne191 : NE (B + 11) (B + 16) := by unfold NE; omega
  have ne192 : NE (B + 11) (B + 17) := by unfold NE; omega
  have ne193 : NE (B + 11) (B + 18) := by unfold NE; omega
  have ne194 : NE (B + 11) (B + 19) := by unfold NE; omega
  have ne195 : NE (B + 11) (B + 20) := by unfold NE; omega
  have ne196 : NE (B + 11) (B + 21) := by unfold NE; omega
  have ne197 : NE (B + 11) (B + 22) := by unfold NE; omega
  have ne198 : NE (B + 12) (B + 13) := by unfold NE; omega
  have ne199 : NE (B + 12) (B + 14) := by unfold NE; omega
  have ne200 : NE (B + 12) (B + 15) := by unfold NE; omega
  have ne201 : NE (B + 12) (B + 16) := by unfold NE; omega
  have ne202 : NE (B + 12) (B + 17) := by unfold NE; omega
  have ne203 : NE (B + 12) (B + 18) := by unfold NE; omega
  have ne204 : NE (B + 12) (B + 19) := by unfold NE; omega
  have ne205 : NE (B + 12) (B + 20) := by unfold NE; omega
  have ne206 : NE (B + 12) (B + 21) := by unfold NE; omega
  have ne207 : NE (B + 12) (B + 22) := by unfold NE; omega
  have ne208 : NE (B + 13) (B + 14) := by unfold NE; omega
  have ne209 : NE (B + 13) (B + 15) := by unfold NE; omega
  have ne210 : NE (B + 13) (B + 16) := by unfold NE; omega
  have ne211 : NE (B + 13) (B + 17) := by unfold NE; omega
  have ne212 : NE (B + 13) (B + 18) := by unfold NE; omega
  have ne213 : NE (B + 13) (B + 19) := by unfold NE; omega
  have ne214 : NE (B + 13) (B + 20) := by unfold NE; omega
  have ne215 : NE (B + 13) (B + 21) := by unfold NE; omega
  have ne216 : NE (B + 13) (B + 22) := by unfold NE; omega
  have ne217 : NE (B + 14) (B + 15) := by unfold NE; omega
  have ne218 : NE (B + 14) (B + 16) := by unfold NE; omega
  have ne219 : NE (B + 14) (B + 17) := by unfold NE; omega
  have ne220 : NE (B + 14) (B + 18) := by unfold NE; omega
  have ne221 : NE (B + 14) (B + 19) := by unfold NE; omega
  have ne222 : NE (B + 14) (B + 20) := by unfold NE; omega
  have ne223 : NE (B + 14) (B + 21) := by unfold NE; omega
  have ne224 : NE (B + 14) (B + 22) := by unfold NE; omega
  have ne225 : NE (B + 15) (B + 16) := by unfold NE; omega
  have ne226 : NE (B + 15) (B + 17) := by unfold NE; omega
  have ne227 : NE (B + 15) (B + 18) := by unfold NE; omega
  have ne228 : NE (B + 15) (B + 19) := by unfold NE; omega
  have ne229 : NE (B + 15) (B + 20) := by unfold NE; omega
  have ne230 : NE (B + 15) (B + 21) := by unfold NE; omega
  have ne231 : NE (B + 15) (B + 22) := by unfold NE; omega
  have ne232 : NE (B + 16) (B + 17) := by unfold NE; omega
  have ne233 : NE (B + 16) (B + 18) := by unfold NE; omega
  have ne234 : NE (B + 16) (B + 19) := by unfold NE; omega
  have ne235 : NE (B + 16) (B + 20) := by unfold NE; omega
  have ne236 : NE (B + 16) (B + 21) := by unfold NE; omega
  have ne237 : NE (B + 16) (B + 22) := by unfold NE; omega
  have ne238 : NE (B + 17) (B + 18) := by unfold NE; omega
  have ne239 : NE (B + 17) (B + 19) := by unfold NE; omega
  have ne240 : NE (B + 17) (B + 20) := by unfold NE; omega
  have ne241 : NE (B + 17) (B + 21) := by unfold NE; omega
  have ne242 : NE (B + 17) (B + 22) := by unfold NE; omega
  have ne243 : NE (B + 18) (B + 19) := by unfold NE; omega
  have ne244 : NE (B + 18) (B + 20) := by unfold NE; omega
  have ne245 : NE (B + 18) (B + 21) := by unfold NE; omega
  have ne246 : NE (B + 18) (B + 22) := by unfold NE; omega
  have ne247 : NE (B + 19) (B + 20) := by unfold NE; omega
  have ne248 : NE (B + 19) (B + 21) := by unfold NE; omega
  have ne249 : NE (B + 19) (B + 22) := by unfold NE; omega
  have ne250 : NE (B + 20) (B + 21) := by unfold NE; omega
  have ne251 : NE (B + 20) (B + 22) := by unfold NE; omega
  have ne252 : NE (B + 21) (B + 22) := by unfold NE; omega
  obtain ⟨ma, hw, ⟨gm, h4⟩, ⟨g7, h7⟩, ⟨g8, h8⟩⟩ := ms
  have hX0 := hX
  obtain ⟨g9, g10, g11, g12, g13, g14, g15, x9, x10, x11, x12, x13, x14, x15, e0, e1, e2, e3, e4, hbd, hF, hK, hR⟩   := hX0
  refine g_iload_n 1 dX10_take_0 rfl ?_
  refine g_if_lt (tgt := 12) dX10_take_1 rfl (by first | exact gW_i | (unfold gW; omega)) (fun c1 => ?_) (fun c1 => ?_)
  · skip
    refine g_iconst dX10_take_12 ?_
    exact g_iret dX10_take_13 rfl ⟨(((MF.rf [B + 1, B + 3] [0] ma)).1.mo (sub_c (List.Mem.tail _ (List.Mem.tail _ (List.Mem.head _))) (sub_c (List.Mem.head _) (sub_c (List.Mem.tail _ (List.Mem.head _)) sub_n)))), ⟨((MF.rf [B + 1, B + 3] [0] ma)).2.1, hw, ⟨_, h4⟩, ⟨_, h7⟩, ⟨_, h8⟩⟩, (-1), T, (by unfold rTk; dsimp only; rw [if_neg (by omega)]; exact ⟨rfl, rfl⟩), rfl, hT⟩
  · skip
    refine g_iload_n 1 dX10_take_4 rfl ?_
    refine g_aload_n 0 dX10_take_5 rfl ?_
    refine g_getf 11 dX10_take_6 kX10 (by decide) fX10_90 hm rfl ?_
    refine g_icmp_lt (tgt := 14) dX10_take_9 rfl (by first | exact gW_i | (unfold gW; omega)) (by first | exact gW_i | (unfold gW; omega)) (fun c2 => ?_) (fun c2 => ?_)
    · skip
      obtain ⟨gr, hgr, hgp, hgd, hgk⟩ := MFx_row hX (show 0 ≤ i by omega) (by omega)
      refine g_aload_n 0 dX10_take_14 rfl ?_
      refine g_iload_n 1 dX10_take_15 rfl ?_
      refine g_iconst dX10_take_16 ?_
      refine g_callV (nc2 := 0) (ns2 := 0) (ci := 10) (As := [.int (gI (i)), .int (gI (0))]) (st := []) rfl dX10_take_17 okX10_toFactor lX10_239 itX10_toFactor seX10_toFactor rfl hm (by decide) (by decide) rfl (Nat.le_of_ble_eq_true rfl) (sM_toFactor N _ B p hp hp2 hf le fc pn rn hn qn (i) (0) (by omega) (by omega) (fP hp f i) gr hm ((MF.rf [B + 1, B + 3] [0] ma)).2.1 hgr hgp hgd hgk) (by omega) (by omega) (fun v3 hc3 q3 => ?_)
      obtain ⟨rfl, mfc4, rn4_0⟩ := q3
      have fk5_0 : hc3.2 (B) = some (mO B ((p : Int)) (hf) (le) (fc) (pn) (rn) (hn) (qn)) := Fr.at0 (mfc4).1 (Ni.c ⟨ne4, ne5⟩ (Ni.n _)) hm
      have fk5_1 : hc3.2 (B + 4) = some (aI 1500 (gm)) := Fr.at0 (mfc4).1 (Ni.c ⟨ne82, ne83⟩ (Ni.n _)) h4
      have fk5_2 : hc3.2 (B + 7) = some (aJ 6400 (g7)) := Fr.at0 (mfc4).1 (Ni.c ⟨(ne101).s, (ne117).s⟩ (Ni.n _)) h7
      have fk5_3 : hc3.2 (B + 8) = some (aI 11520 (g8)) := Fr.at0 (mfc4).1 (Ni.c ⟨(ne102).s, (ne118).s⟩ (Ni.n _)) h8
      have fk5_4 : hc3.2 (B + 11) = some (aI 1681 (gr)) := Fr.at0 (mfc4).1 (Ni.c ⟨(ne105).s, (ne121).s⟩ (Ni.n _)) hgr
      have rk5_0 : MP hp B hc3 (T) := (hT).fr (mfc4).1 (Ni.c ⟨ne25, ne26⟩ (Ni.n _)) (Ni.c ⟨ne45, ne46⟩ (Ni.n _))
      have rk5_1 : MWA B hc3 := (hw).fr (mfc4).1 (Ni.c ⟨ne64, ne65⟩ (Ni.n _))
      have fr5 : MF B [B + 1, B + 3] [0] h hc3 := ((MF.rf [B + 1, B + 3] [0] ma)).tr ((mfc4).mo sub_n (sbI_c (List.Mem.head _) sbI_n))
      refine Go.nf (h' := hc3) (st' := []) rfl rfl (Nat.le_refl _) (Nat.le_refl _) ?_
      refine g_aload_n 0 dX10_take_20 rfl ?_
      refine g_iconst dX10_take_21 ?_
      refine g_callV (nc2 := 0) (ns2 := 0) (ci := 10) (As := [.int (gI (0))]) (st := []) rfl dX10_take_22 okX10_keepRegister lX10_182 itX10_keepRegister seX10_keepRegister rfl fk5_0 (by decide) (by decide) rfl (Nat.le_of_ble_eq_true rfl) (sM_keepR N _ B p hp hp2 hf le fc pn rn hn qn T (0) (fP hp f i) (gm) fk5_0 rk5_0 rk5_1 fk5_1 rn4_0) (by omega) (by omega) (fun v6 hc6 q6 => ?_)
      obtain ⟨mfc7, f4_7, mwa7, w7, T2_7, hO7, rfl, mp7⟩ := q6
      have fk8_0 : hc6.2 (B) = some (mO B ((p : Int)) (hf) (le) (fc) (pn) (rn) (hn) (qn)) := Fr.at0 (mfc7).1 (Ni.c ⟨ne4, ne5⟩ (Ni.c ⟨ne0, ne1⟩ (Ni.c ⟨ne2, ne3⟩ (Ni.n _)))) fk5_0
      have fk8_2 : hc6.2 (B + 7) = some (aJ 6400 (g7)) := Fr.at0 (mfc7).1 (Ni.c ⟨(ne101).s, (ne117).s⟩ (Ni.c ⟨(ne27).s, (ne47).s⟩ (Ni.c ⟨(ne66).s, (ne84).s⟩ (Ni.n _)))) fk5_2
      have fk8_3 : hc6.2 (B + 8) = some (aI 11520 (g8)) := Fr.at0 (mfc7).1 (Ni.c ⟨(ne102).s, (ne118).s⟩ (Ni.c ⟨(ne28).s, (ne48).s⟩ (Ni.c ⟨(ne67).s, (ne85).s⟩ (Ni.n _)))) fk5_3
      have fk8_4 : hc6.2 (B + 11) = some (aI 1681 (gr)) := Fr.at0 (mfc7).1 (Ni.c ⟨(ne105).s, (ne121).s⟩ (Ni.c ⟨(ne31).s, (ne51).s⟩ (Ni.c ⟨(ne70).s, (ne88).s⟩ (Ni.n _)))) fk5_4
      have rk8_2 : MG hp B hc6 (0) (fP hp f i) := (rn4_0).fr hp2 mfc7 Nr.n
      have fr8 : MF B [B + 1, B + 3] [0] h hc6 := (fr5).tr ((mfc7).mo (sub_c (List.Mem.head _) (sub_c (List.Mem.tail _ (List.Mem.head _)) sub_n)) sbI_n)
      refine Go.nf (h' := hc6) (st' := [.int (gI (w7))]) rfl rfl (Nat.le_refl _) (Nat.le_refl _) ?_
      exact g_iret dX10_take_25 rfl ⟨((fr8).1.mo (sub_c (List.Mem.tail _ (List.Mem.tail _ (List.Mem.head _))) (sub_c (List.Mem.head _) (sub_c (List.Mem.tail _ (List.Mem.head _)) sub_n)))), ⟨(fr8).2.1, mwa7, ⟨_, f4_7⟩, ⟨_, fk8_2⟩, ⟨_, fk8_3⟩⟩, w7, T2_7, (by unfold rTk; dsimp only; rw [if_pos (by omega)]; exact hO7), rfl, mp7⟩
    · skip
      refine g_iconst dX10_take_12 ?_
      exact g_iret dX10_take_13 rfl ⟨(((MF.rf [B + 1, B + 3] [0] ma)).1.mo (sub_c (List.Mem.tail _ (List.Mem.tail _ (List.Mem.head _))) (sub_c (List.Mem.head _) (sub_c (List.Mem.tail _ (List.Mem.head _)) sub_n)))), ⟨((MF.rf [B + 1, B + 3] [0] ma)).2.1, hw, ⟨_, h4⟩, ⟨_, h7⟩, ⟨_, h8⟩⟩, (-1), T, (by unfold rTk; dsimp only; rw [if_neg (by omega)]; exact ⟨rfl, rfl⟩), rfl, hT⟩
theorem sM_take (N : GN) (h : GH) (B p : Nat) (hp : prm p) (hp2 : p ≤ 65536) (hf le fc pn rn hn qn : Int) (T : PT p) (fo : Option (Px p)) (i : Int) (gW_i : gW i) (hm : h.2 B = some (mO B p hf le fc pn rn hn qn)) (hT : MP hp B h T) (ms : MS B h) (hX : MFx hp B h fo hf le fc pn rn) : Sp N yX10_take mX10_take 0 0 [.ref (B), .int (gI (i))] h (fun v h1 => Fr [B + 1, B + 3, B + 5, B + 7] h h1 ∧ MS B h1 ∧ ∃ w T2, Ou T (rTk hp fo i) w T2 ∧ v = some (.int (gI w)) ∧ MP hp B h1 T2) := by
  cases fo with
  | none => exact sM_takeN N h B p hp hp2 hf le fc pn rn hn qn T i gW_i hm hT ms hX
  | some f => exact sM_takeS N h B p hp hp2 hf le fc pn rn hn qn T f i gW_i hm hT ms hX
section
variable {p : Nat}
theorem hr_ev (h : prm p) {f : Px p} (hf : po (fR h) f) (x : Fp p) (hn : dgi h f < 42) : hr h f x 42 0 = ev h f x := ev_n h hf x hn (by omega)
theorem nwP_dg2 (h : prm p) (xs : Nat → Fp p) (k : Nat) : po (fR h) (nwP h xs k) ∧ dgi h (nwP h xs k) = k := by
  induction k with
  | zero =>
    refine ⟨cz_po h _, ?_⟩
    show dgi h (cz h (zi h 1)) = 0
    rw [cz_z1]; exact dgi_1 h
  | succ k ih =>
    refine ⟨mul_po ih.1 (lin_po h _), ?_⟩
    have : dgi h (pml h (nwP h xs k) (lin h (xs k))) = _ := mul_dgi h ih.1 (lin_po h (xs k))
    show dgi h (pml h (nwP h xs k) (lin h (xs k))) = _
    rw [this, dgi_of h (lin_dg h (xs k)), ih.2, if_neg (by omega)]
    omega
theorem lin_ph (h : prm p) {a : Int} {g : Int → Int} (h0 : g 0 = (p - a) % p) (h1 : g 1 = 1) (hz : ∀ k, 1 < k → k ≤ 199 → g k = 0) : lin h (zi h a) = ph h g 199 := funext fun k => by
  letI := fR h
  show (if k = 1 then (1 : Fp p) else if k = 0 then - zi h a else 0) = (if (k : Int) ≤ 199 then zi h (g k) else 0)
  by_cases z : k = 1
  · subst z
    rw [if_pos rfl, if_pos (by omega)]
    show _ = zi h (g 1)
    rw [h1, zi_1]
  · rw [if_neg z]
    by_cases y : k = 0
    · subst y
      rw [if_pos rfl, if_pos (by omega)]
      show _ = zi h (g 0)
      rw [h0, zi_mod, zi_sub, zi_p]
      generalize zi h a = x
      grind
    · rw [if_neg y]
      by_cases x : (k : Int) ≤ 199
      · rw [if_pos x, hz k (by omega) x, zi_0]
      · rw [if_neg x]
end
set_option maxHeartbeats 4000000 in
set_option maxRecDepth 100000 in
theorem sM_interpolate (N : GN) (h : GH) (B p : Nat) (hp : prm p) (hp2 : p ≤ 65536) (hf le fc pn rn hn qn : Int) (T : PT p) (gx gv : Int → Int) (hm : h.2 B = some (mO B p hf le fc pn rn hn qn)) (hT : MP hp B h T) (ms : MS B h) (hx21 : h.2 (B + 21) = some (aI 41 gx)) (hx22 : h.2 (B + 22) = some (aI 41 gv)) (hq : 0 ≤ qn ∧ qn ≤ 41) (hXb : ∀ k, 0 ≤ k → k < qn → 0 ≤ gx k ∧ gx k < p) (hVb : ∀ k, 0 ≤ k → k < qn → 0 ≤ gv k ∧ gv k < p) : Sp N yX10_interpolate mX10_interpolate 0 0 [.ref (B)] h (fun v h1 => Fr [B, B + 1, B + 3, B + 5, B + 7] h h1 ∧ h1.2 B = some (mO B p hf le fc pn rn hn 0) ∧ MS B h1 ∧ ∃ w T2, Ou T (kR hp (nwO hp (fun i => zi hp (gx i)) (fun i => zi hp (gv i)) (qn).toNat)) w T2 ∧ v = some (.int (gI w)) ∧ MP hp B h1 T2) := by
  refine Sp.of (by decide) rfl rfl (Nat.le_of_ble_eq_true rfl) ?_
  show Go N mX10_interpolate _ 0 0 h 0 [(0, .ref (B))] []
  have hp1 := hp.1
  have neA : NE B (B + 5) := by unfold NE; omega
  have neB : NE B (B + 6) := by unfold NE; omega
  have neC : NE (B + 5) (B + 6) := by unfold NE; omega
  have ne0 : NE (B) (B + 1) := by unfold NE; omega
  have ne1 : NE (B) (B + 2) := by unfold NE; omega
  have ne2 : NE (B) (B + 3) := by unfold NE; omega
  have ne3 : NE (B) (B + 4) := by unfold NE; omega
  have ne4 : NE (B) (B + 5) := by unfold NE; omega
  have ne5 : NE (B) (B + 6) := by unfold NE; omega
  have ne6 : NE (B) (B + 7) := by unfold NE; omega
  have ne7 : NE (B) (B + 8) := by unfold NE; omega
  have ne8 : NE (B) (B + 9) := by unfold NE; omega
  have ne9 : NE (B) (B + 10) := by unfold NE; omega
  have ne10 : NE (B) (B + 11) := by unfold NE; omega
  have ne11 : NE (B) (B + 12) := by unfold NE; omega
  have ne12 : NE (B) (B + 13) := by unfold NE; omega
  have ne13 : NE (B) (B + 14) := by unfold NE; omega
  have ne14 : NE (B) (B + 15) := by unfold NE; omega
  have ne15 : NE (B) (B + 16) := by unfold NE; omega
  have ne16 : NE (B) (B + 17) := by unfold NE; omega
  have ne17 : NE (B) (B + 18) := by unfold NE; omega
  have ne18 : NE (B) (B + 19) := by unfold NE; omega
  have ne19 : NE (B) (B + 20) := by unfold NE; omega
  have ne20 : NE (B) (B + 21) := by unfold NE; omega
  have ne21 : NE (B) (B + 22) := by unfold NE; omega
  have ne22 : NE (B + 1) (B + 2) := by unfold NE; omega
  have ne23 : NE (B + 1) (B + 3) := by unfold NE; omega
  have ne24 : NE (B + 1) (B + 4) := by unfold NE; omega
  have ne25 : NE (B + 1) (B + 5) := by unfold NE; omega
  have ne26 : NE (B + 1) (B + 6) := by unfold NE; omega
  have ne27 : NE (B + 1) (B + 7) := by unfold NE; omega
  have ne28 : NE (B + 1) (B + 8) := by unfold NE; omega
  have ne29 : NE (B + 1) (B + 9) := by unfold NE; omega
  have ne30 : NE (B + 1) (B + 10) := by unfold NE; omega
  have ne31 : NE (B + 1) (B + 11) := by unfold NE; omega
  have ne32 : NE (B + 1) (B + 12) := by unfold NE; omega
  have ne33 : NE (B + 1) (B + 13) := by unfold NE; omega
  have ne34 : NE (B + 1) (B + 14) := by unfold NE; omega
  have ne35 : NE (B + 1) (B + 15) := by unfold NE; omega
  have ne36 : NE (B + 1) (B + 16) := by unfold NE; omega
  have ne37 : NE (B + 1) (B + 17) := by unfold NE; omega
  have ne38 : NE (B + 1) (B + 18) := by unfold NE; omega
  have ne39 : NE (B + 1) (B + 19) := by unfold NE; omega
  have ne40 : NE (B + 1) (B + 20) := by unfold NE; omega
  have ne41 : NE (B + 1) (B + 21) := by unfold NE; omega
  have ne42 : NE (B + 1) (B + 22) := by unfold NE; omega
  have ne43 : NE (B + 2) (B + 3) := by unfold NE; omega
  have ne44 : NE (B + 2) (B + 4) := by unfold NE; omega
  have ne45 : NE (B + 2) (B + 5) := by unfold NE; omega
  have ne46 : NE (B + 2) (B + 6) := by unfold NE; omega
  have ne47 : NE (B + 2) (B + 7) := by unfold NE; omega
  have ne48 : NE (B + 2) (B + 8) := by unfold NE; omega
  have ne49 : NE (B + 2) (B + 9) := by unfold NE; omega
  have ne50 : NE (B + 2) (B + 10) := by unfold NE; omega
  have ne51 : NE (B + 2) (B + 11) := by unfold NE; omega
  have ne52 : NE (B + 2) (B + 12) := by unfold NE; omega
  have ne53 : NE (B + 2) (B + 13) := by unfold NE; omega
  have ne54 : NE (B + 2) (B + 14) := by unfold NE; omega
  have ne55 : NE (B + 2) (B + 15) := by unfold NE; omega
  have ne56 : NE (B + 2) (B + 16) := by unfold NE; omega
  have ne57 : NE (B + 2) (B + 17) := by unfold NE; omega
  have ne58 : NE (B + 2) (B + 18) := by unfold NE; omega
  have ne59 : NE (B + 2) (B + 19) := by unfold NE; omega
  have ne60 : NE (B + 2) (B + 20) := by unfold NE; omega
  have ne61 : NE (B + 2) (B + 21) := by unfold NE; omega
  have ne62 : NE (B + 2) (B + 22) := by unfold NE; omega
  have ne63 : NE (B + 3) (B + 4) := by unfold NE; omega
  have ne64 : NE (B + 3) (B + 5) := by unfold NE; omega
  have ne65 : NE (B + 3) (B + 6) := by unfold NE; omega
  have ne66 : NE (B + 3) (B + 7) := by unfold NE; omega
  have ne67 : NE (B + 3) (B + 8) := by unfold NE; omega
  have ne68 : NE (B + 3) (B + 9) := by unfold NE; omega
  have ne69 : NE (B + 3) (B + 10) := by unfold NE; omega
  have ne70 : NE (B + 3) (B + 11) := by unfold NE; omega
  have ne71 : NE (B + 3) (B + 12) := by unfold NE; omega
  have ne72 : NE (B + 3) (B + 13) := by unfold NE; omega
  have ne73 : NE (B + 3) (B + 14) := by unfold NE; omega
  have ne74 : NE (B + 3) (B + 15) := by unfold NE; omega
  have ne75 : NE (B + 3) (B + 16) := by unfold NE; omega
  have ne76 : NE (B + 3) (B + 17) := by unfold NE; omega
  have ne77 : NE (B + 3) (B + 18) := by unfold NE; omega
  have ne78 : NE (B + 3) (B + 19) := by unfold NE; omega
  have ne79 : NE (B + 3) (B + 20) := by unfold NE; omega
  have ne80 : NE (B + 3) (B + 21) := by unfold NE; omega
  have ne81 : NE (B + 3) (B + 22) := by unfold NE; omega
  have ne82 : NE (B + 4) (B + 5) := by unfold NE; omega
  have ne83 : NE (B + 4) (B + 6) := by unfold NE; omega
  have ne84 : NE (B + 4) (B + 7) := by unfold NE; omega
  have ne85 : NE (B + 4) (B + 8) := by unfold NE; omega
  have ne86 : NE (B + 4) (B + 9) := by unfold NE; omega
  have ne87 : NE (B + 4) (B + 10) := by unfold NE; omega
  have ne88 : NE (B + 4) (B + 11) := by unfold NE; omega
  have ne89 : NE (B + 4) (B + 12) := by unfold NE; omega
  have ne90 : NE (B + 4) (B + 13) := by unfold NE; omega
  have ne91 : NE (B + 4) (B + 14) := by unfold NE; omega
  have ne92 : NE (B + 4) (B + 15) := by unfold NE; omega
  have ne93 : NE (B + 4) (B + 16) := by unfold NE; omega
  have ne94 : NE (B + 4) (B + 17) := by unfold NE; omega
  have ne95 : NE (B + 4) (B + 18) := by unfold NE; omega
  have ne96 : NE (B + 4) (B + 19) := by unfold NE; omega
  have ne97 : NE (B + 4) (B + 20) := by unfold NE; omega
  have ne98 : NE (B + 4) (B + 21) := by unfold NE; omega
  have ne99 : NE (B + 4) (B + 22) := by unfold NE; omega
  have ne100 : NE (B + 5) (B + 6) := by unfold NE; omega
  have ne101 : NE (B + 5) (B + 7) := by unfold NE; omega
  have ne102 : NE (B + 5) (B + 8) := by unfold NE; omega
  have ne103 : NE (B + 5) (B + 9) := by unfold NE; omega
  have ne104 : NE (B + 5) (B + 10) := by unfold NE; omega
  have ne105 : NE (B + 5) (B + 11) := by unfold NE; omega
  have ne106 : NE (B + 5) (B + 12) := by unfold NE; omega
  have ne107 : NE (B + 5) (B + 13) := by unfold NE; omega
  have ne108 : NE (B + 5) (B + 14) := by unfold NE; omega
  have ne109 : NE (B + 5) (B + 15) := by unfold NE; omega
  have ne110 : NE (B + 5) (B + 16) := by unfold NE; omega
  have ne111 : NE (B + 5) (B + 17) := by unfold NE; omega
  have ne112 : NE (B + 5) (B + 18) := by unfold NE; omega
  have ne113 : NE (B + 5) (B + 19) := by unfold NE; omega
  have ne114 : NE (B + 5) (B + 20) := by unfold NE; omega
  have ne115 : NE (B + 5) (B + 21) := by unfold NE; omega
  have ne116 : NE (B + 5) (B + 22) := by unfold NE; omega
  have ne117 : NE (B + 6) (B + 7) := by unfold NE; omega
  have ne118 : NE (B + 6) (B + 8) := by unfold NE; omega
  have ne119 : NE (B + 6) (B + 9) := by unfold NE; omega
  have ne120 : NE (B + 6) (B + 10) := by unfold NE; omega
  have ne121 : NE (B + 6) (B + 11) := by unfold NE; omega
  have ne122 : NE (B + 6) (B + 12) := by unfold NE; omega
  have ne123 : NE (B + 6) (B + 13) := by unfold NE; omega
  have ne124 : NE (B + 6) (B + 14) := by unfold NE; omega
  have ne125 : NE (B + 6) (B + 15) := by unfold NE; omega
  have ne126 : NE (B + 6) (B + 16) := by unfold NE; omega
  have ne127 : NE (B + 6) (B + 17) := by unfold NE; omega
  have ne128 : NE (B + 6) (B + 18) := by unfold NE; omega
  have ne129 : NE (B + 6) (B + 19) := by unfold NE; omega
  have ne130 : NE (B + 6) (B + 20) := by unfold NE; omega
  have ne131 : NE (B + 6) (B + 21) := by unfold NE; omega
  have ne132 : NE (B + 6) (B + 22) := by unfold NE; omega
  have ne133 : NE (B + 7) (B + 8) := by unfold NE; omega
  have ne134 : NE (B + 7) (B + 9) := by unfold NE; omega
  have ne135 : NE (B + 7) (B + 10) := by unfold NE; omega
  have ne136 : NE (B + 7) (B + 11) := by unfold NE; omega
  have ne137 : NE (B + 7) (B + 12) := by unfold NE; omega
  have ne138 : NE (B + 7) (B + 13) := by unfold NE; omega
  have ne139 : NE (B + 7) (B + 14) := by unfold NE; omega
  have ne140 : NE (B + 7) (B + 15) := by unfold NE; omega
  have ne141 : NE (B + 7) (B + 16) := by unfold NE; omega
  have ne142 : NE (B + 7) (B + 17) := by unfold NE; omega
  have ne143 : NE (B + 7) (B + 18) := by unfold NE; omega
  have ne144 : NE (B + 7) (B + 19) := by unfold NE; omega
  have ne145 : NE (B + 7) (B + 20) := by unfold NE; omega
  have ne146 : NE (B + 7) (B + 21) := by unfold NE; omega
  have ne147 : NE (B + 7) (B + 22) := by unfold NE; omega
  have ne148 : NE (B + 8) (B + 9) := by unfold NE; omega
  have ne149 : NE (B + 8) (B + 10) := by unfold NE; omega
  have ne150 : NE (B + 8) (B + 11) := by unfold NE; omega
  have ne151 : NE (B + 8) (B + 12) := by unfold NE; omega
  have ne152 : NE (B + 8) (B + 13) := by unfold NE; omega
  have ne153 : NE (B + 8) (B + 14) := by unfold NE; omega
  have ne154 : NE (B + 8) (B + 15) := by unfold NE; omega
  have ne155 : NE (B + 8) (B + 16) := by unfold NE; omega
  have ne156 : NE (B + 8) (B + 17) := by unfold NE; omega
  have ne157 : NE (B + 8) (B + 18) := by unfold NE; omega
  have ne158 : NE (B + 8) (B + 19) := by unfold NE; omega
  have ne159 : NE (B + 8) (B + 20) := by unfold NE; omega
  have ne160 : NE (B + 8) (B + 21) := by unfold NE; omega
  have ne161 : NE (B + 8) (B + 22) := by unfold NE; omega
  have ne162 : NE (B + 9) (B + 10) := by unfold NE; omega
  have ne163 : NE (B + 9) (B + 11) := by unfold NE; omega
  have ne164 : NE (B + 9) (B + 12) := by unfold NE; omega
  have ne165 : NE (B + 9) (B + 13) := by unfold NE; omega
  have ne166 : NE (B + 9) (B + 14) := by unfold NE; omega
  have ne167 : NE (B + 9) (B + 15) := by unfold NE; omega
  have ne168 : NE (B + 9) (B + 16) := by unfold NE; omega
  have ne169 : NE (B + 9) (B + 17) := by unfold NE; omega
  have ne170 : NE (B + 9) (B + 18) := by unfold NE; omega
  have ne171 : NE (B + 9) (B + 19) := by unfold NE; omega
  have ne172 : NE (B + 9) (B + 20) := by unfold NE; omega
  have ne173 : NE (B + 9) (B + 21) := by unfold NE; omega
  have ne174 : NE (B + 9) (B + 22) := by unfold NE; omega
  have ne175 : NE (B + 10) (B + 11) := by unfold NE; omega
  have ne176 : NE (B + 10) (B + 12) := by unfold NE; omega
  have ne177 : NE (B + 10) (B + 13) := by unfold NE; omega
  have ne178 : NE (B + 10) (B + 14) := by unfold NE; omega
  have ne179 : NE (B + 10) (B + 15) := by unfold NE; omega
  have ne180 : NE (B + 10) (B + 16) := by unfold NE; omega
  have ne181 : NE (B + 10) (B + 17) := by unfold NE; omega
  have ne182 : NE (B + 10) (B + 18) := by unfold NE; omega
  have ne183 : NE (B + 10) (B + 19) := by unfold NE; omega
  have ne184 : NE (B + 10) (B + 20) := by unfold NE; omega
  have ne185 : NE (B + 10) (B + 21) := by unfold NE; omega
  have ne186 : NE (B + 10) (B + 22) := by unfold NE; omega
  have ne187 : NE (B + 11) (B + 12) := by unfold NE; omega
  have ne188 : NE (B + 11) (B + 13) := by unfold NE; omega
  have ne189 : NE (B + 11) (B + 14) := by unfold NE; omega
  have ne190 : NE (B + 11) (B + 15) := by unfold NE; omega
  have ne191 : NE (B + 11) (B + 16) := by unfold NE; omega
  have ne192 : NE (B + 11) (B + 17) := by unfold NE; omega
  have ne193 : NE (B + 11) (B + 18) := by unfold NE; omega
  have ne194 : NE (B + 11) (B + 19) := by unfold NE; omega
  have ne195 : NE (B + 11) (B + 20) := by unfold NE; omega
  have ne196 : NE (B + 11) (B + 21) := by unfold NE; omega
  have ne197 : NE (B + 11) (B + 22) := by unfold NE; omega
  have ne198 : NE (B + 12) (B + 13) := by unfold NE; omega
  have ne199 : NE (B + 12) (B + 14) := by unfold NE; omega
  have ne200 : NE (B + 12) (B + 15) := by unfold NE; omega
  have ne201 : NE (B + 12) (B + 16) := by unfold NE; omega
  have ne202 : NE (B + 12) (B + 17) := by unfold NE; omega
  have ne203 : NE (B + 12) (B + 18) := by unfold NE; omega
  have ne204 : NE (B + 12) (B + 19) := by unfold NE; omega
  have ne205 : NE (B + 12) (B + 20) := by unfold NE; omega
  have ne206 : NE (B + 12) (B + 21) := by unfold NE; omega
  have ne207 : NE (B + 12) (B + 22) := by unfold NE; omega
  have ne208 : NE (B + 13) (B + 14) := by unfold NE; omega
  have ne209 : NE (B + 13) (B + 15) := by unfold NE; omega
  have ne210 : NE (B + 13) (B + 16) := by unfold NE; omega
  have ne211 : NE (B + 13) (B + 17) := by unfold NE; omega
  have ne212 : NE (B + 13) (B + 18) := by unfold NE; omega
  have ne213 : NE (B + 13) (B + 19) := by unfold NE; omega
  have ne214 : NE (B + 13) (B + 20) := by unfold NE; omega
  have ne215 : NE (B + 13) (B + 21) := by unfold NE; omega
  have ne216 : NE (B + 13) (B + 22) := by unfold NE; omega
  have ne217 : NE (B + 14) (B + 15) := by unfold NE; omega
  have ne218 : NE (B + 14) (B + 16) := by unfold NE; omega
  have ne219 : NE (B + 14) (B + 17) := by unfold NE; omega
  have ne220 : NE (B + 14) (B + 18) := by unfold NE; omega
  have ne221 : NE (B + 14) (B + 19) := by unfold NE; omega
  have ne222 : NE (B + 14) (B + 20) := by unfold NE; omega
  have ne223 : NE (B + 14) (B + 21) := by unfold NE; omega
  have ne224 : NE (B + 14) (B + 22) := by unfold NE; omega
  have ne225 : NE (B + 15) (B + 16) := by unfold NE; omega
  have ne226 : NE (B + 15) (B + 17) := by unfold NE; omega
  have ne227 : NE (B + 15) (B + 18) := by unfold NE; omega
  have ne228 : NE (B + 15) (B + 19) := by unfold NE; omega
  have ne229 : NE (B + 15) (B + 20) := by unfold NE; omega
  have ne230 : NE (B + 15) (B + 21) := by unfold NE; omega
  have ne231 : NE (B + 15) (B + 22) := by unfold NE; omega
  have ne232 : NE (B + 16) (B + 17) := by unfold NE; omega
  have ne233 : NE (B + 16) (B + 18) := by unfold NE; omega
  have ne234 : NE (B + 16) (B + 19) := by unfold NE; omega
  have ne235 : NE (B + 16) (B + 20) := by unfold NE; omega
  have ne236 : NE (B + 16) (B + 21) := by unfold NE; omega
  have ne237 : NE (B + 16) (B + 22) := by unfold NE; omega
  have ne238 : NE (B + 17) (B + 18) := by unfold NE; omega
  have ne239 : NE (B + 17) (B + 19) := by unfold NE; omega
  have ne240 : NE (B + 17) (B + 20) := by unfold NE; omega
  have ne241 : NE (B + 17) (B + 21) := by unfold NE; omega
  have ne242 : NE (B + 17) (B + 22) := by unfold NE; omega
  have ne243 : NE (B + 18) (B + 19) := by unfold NE; omega
  have ne244 : NE (B + 18) (B + 20) := by unfold NE; omega
  have ne245 : NE (B + 18) (B + 21) := by unfold NE; omega
  have ne246 : NE (B + 18) (B + 22) := by unfold NE; omega
  have ne247 : NE (B + 19) (B + 20) := by unfold NE; omega
  have ne248 : NE (B + 19) (B + 21) := by unfold NE; omega
  have ne249 : NE (B + 19) (B + 22) := by unfold NE; omega
  have ne250 : NE (B + 20) (B + 21) := by unfold NE; omega
  have ne251 : NE (B + 20) (B + 22) := by unfold NE; omega
  have ne252 : NE (B + 21) (B + 22) := by unfold NE; omega
  obtain ⟨ma, hw, ⟨gm, h4⟩, ⟨g7, h7⟩, ⟨g8, h8⟩⟩ := ms
  refine g_aload_n 0 dX10_interpolate_0 rfl ?_
  refine g_iconst dX10_interpolate_1 ?_
  refine g_iconst dX10_interpolate_2 ?_
  refine g_callV (nc2 := 0) (ns2 := 0) (ci := 10) (As := [.int (gI (0)), .int (gI (0))]) (st := []) rfl dX10_interpolate_3 okX10_be lX10_170 itX10_be seX10_be rfl hm (by decide) (by decide) rfl (Nat.le_of_ble_eq_true rfl) (sM_be N _ B p hp hp2 hf le fc pn rn hn qn (0) (0) (by omega) (by omega) (by omega) hm ((MF.rf [B, B + 1, B + 3] [0, 1, 2, 3, 4, 5, 6] ma)).2.1) (by omega) (by omega) (fun v1 hc1 q1 => ?_)
  obtain ⟨rfl, mfc2, rn2_0⟩ := q1
  have fk3_0 : hc1.2 (B) = some (mO B ((p : Int)) (hf) (le) (fc) (pn) (rn) (hn) (qn)) := Fr.at0 (mfc2).1 (Ni.c ⟨ne4, ne5⟩ (Ni.n _)) hm
  have fk3_1 : hc1.2 (B + 4) = some (aI 1500 (gm)) := Fr.at0 (mfc2).1 (Ni.c ⟨ne82, ne83⟩ (Ni.n _)) h4
  have fk3_2 : hc1.2 (B + 7) = some (aJ 6400 (g7)) := Fr.at0 (mfc2).1 (Ni.c ⟨(ne101).s, (ne117).s⟩ (Ni.n _)) h7
  have fk3_3 : hc1.2 (B + 8) = some (aI 11520 (g8)) := Fr.at0 (mfc2).1 (Ni.c ⟨(ne102).s, (ne118).s⟩ (Ni.n _)) h8
  have fk3_4 : hc1.2 (B + 21) = some (aI 41 (gx)) := Fr.at0 (mfc2).1 (Ni.c ⟨(ne115).s, (ne131).s⟩ (Ni.n _)) hx21
  have fk3_5 : hc1.2 (B + 22) = some (aI 41 (gv)) := Fr.at0 (mfc2).1 (Ni.c ⟨(ne116).s, (ne132).s⟩ (Ni.n _)) hx22
  have rk3_0 : MP hp B hc1 (T) := (hT).fr (mfc2).1 (Ni.c ⟨ne25, ne26⟩ (Ni.n _)) (Ni.c ⟨ne45, ne46⟩ (Ni.n _))
  have rk3_1 : MWA B hc1 := (hw).fr (mfc2).1 (Ni.c ⟨ne64, ne65⟩ (Ni.n _))
  have fr3 : MF B [B, B + 1, B + 3] [0, 1, 2, 3, 4, 5, 6] h hc1 := ((MF.rf [B, B + 1, B + 3] [0, 1, 2, 3, 4, 5, 6] ma)).tr ((mfc2).mo sub_n (sbI_c (List.Mem.head _) sbI_n))
  refine Go.nf (h' := hc1) (st' := []) rfl rfl (Nat.le_refl _) (Nat.le_refl _) ?_
  refine g_aload_n 0 dX10_interpolate_6 rfl ?_
  refine g_iconst dX10_interpolate_7 ?_
  refine g_iconst dX10_interpolate_8 ?_
  refine g_callV (nc2 := 0) (ns2 := 0) (ci := 10) (As := [.int (gI (1)), .int (gI (1))]) (st := []) rfl dX10_interpolate_9 okX10_be lX10_170 itX10_be seX10_be rfl fk3_0 (by decide) (by decide) rfl (Nat.le_of_ble_eq_true rfl) (sM_be N _ B p hp hp2 hf le fc pn rn hn qn (1) (1) (by omega) (by omega) (by omega) fk3_0 (fr3).2.1) (by omega) (by omega) (fun v4 hc4 q4 => ?_)
  obtain ⟨rfl, mfc5, rn5_0⟩ := q4
  have fk6_0 : hc4.2 (B) = some (mO B ((p : Int)) (hf) (le) (fc) (pn) (rn) (hn) (qn)) := Fr.at0 (mfc5).1 (Ni.c ⟨ne4, ne5⟩ (Ni.n _)) fk3_0
  have fk6_1 : hc4.2 (B + 4) = some (aI 1500 (gm)) := Fr.at0 (mfc5).1 (Ni.c ⟨ne82, ne83⟩ (Ni.n _)) fk3_1
  have fk6_2 : hc4.2 (B + 7) = some (aJ 6400 (g7)) := Fr.at0 (mfc5).1 (Ni.c ⟨(ne101).s, (ne117).s⟩ (Ni.n _)) fk3_2
  have fk6_3 : hc4.2 (B + 8) = some (aI 11520 (g8)) := Fr.at0 (mfc5).1 (Ni.c ⟨(ne102).s, (ne118).s⟩ (Ni.n _)) fk3_3
  have fk6_4 : hc4.2 (B + 21) = some (aI 41 (gx)) := Fr.at0 (mfc5).1 (Ni.c ⟨(ne115).s, (ne131).s⟩ (Ni.n _)) fk3_4
  have fk6_5 : hc4.2 (B + 22) = some (aI 41 (gv)) := Fr.at0 (mfc5).1 (Ni.c ⟨(ne116).s, (ne132).s⟩ (Ni.n _)) fk3_5
  have rk6_0 : MP hp B hc4 (T) := (rk3_0).fr (mfc5).1 (Ni.c ⟨ne25, ne26⟩ (Ni.n _)) (Ni.c ⟨ne45, ne46⟩ (Ni.n _))
  have rk6_1 : MWA B hc4 := (rk3_1).fr (mfc5).1 (Ni.c ⟨ne64, ne65⟩ (Ni.n _))
  have rk6_2 : MG hp B hc4 (0) (cz hp (zi hp (0))) := (rn2_0).fr hp2 mfc5 (Nr.c (by omega) Nr.n)
  have fr6 : MF B [B, B + 1, B + 3] [0, 1, 2, 3, 4, 5, 6] h hc4 := (fr3).tr ((mfc5).mo sub_n (sbI_c (List.Mem.tail _ (List.Mem.head _)) sbI_n))
  refine Go.nf (h' := hc4) (st' := []) rfl rfl (Nat.le_refl _) (Nat.le_refl _) ?_
  refine g_iconst dX10_interpolate_12 ?_
  refine g_istore_n (ls2 := [(1, .int (gI (0))), (0, .ref (B))]) dX10_interpolate_13 rfl (by decide) rfl ?_
  have lk : ∀ (kk : Nat) (k : Int) (hlk : GH), kk = (41 - k).toNat → MF B [B, B + 1, B + 3] [0, 1, 2, 3, 4, 5, 6] h hlk → hlk.2 (B) = some (mO B ((p : Int)) (hf) (le) (fc) (pn) (rn) (hn) (qn)) → hlk.2 (B + 4) = some (aI 1500 (gm)) → MP hp B hlk (T) → MWA B hlk → MG hp B hlk (0) (nwO hp (fun i => zi hp (gx i)) (fun i => zi hp (gv i)) (k).toNat) → MG hp B hlk (1) (nwP hp (fun i => zi hp (gx i)) (k).toNat) → (0 ≤ k ∧ k ≤ qn) → Go N mX10_interpolate (fun v h1 => Fr [B, B + 1, B + 3, B + 5, B + 7] h h1 ∧ h1.2 B = some (mO B p hf le fc pn rn hn 0) ∧ MS B h1 ∧ ∃ w T2, Ou T (kR hp (nwO hp (fun i => zi hp (gx i)) (fun i => zi hp (gv i)) (qn).toNat)) w T2 ∧ v = some (.int (gI w)) ∧ MP hp B h1 T2) 0 0 hlk 14 [(1, .int (gI (k))), (0, .ref (B))] [] := by
    refine Go.ind (fun kk ih_lk => ?_)
    intro k hlk hkk_lk fr_lk cf_lk_0 cf_lk_1 cr_lk_0 cr_lk_1 cr_lk_2 cr_lk_3 hk
    have cg_lk_2 : hlk.2 (B + 7) = some (aJ 6400 (g7)) := Fr.at0 (fr_lk).1 (Ni.c ⟨(ne101).s, (ne117).s⟩ (Ni.c ⟨(ne6).s, (ne27).s⟩ (Ni.c ⟨(ne27).s, (ne47).s⟩ (Ni.c ⟨(ne66).s, (ne84).s⟩ (Ni.n _))))) h7
    have cg_lk_3 : hlk.2 (B + 8) = some (aI 11520 (g8)) := Fr.at0 (fr_lk).1 (Ni.c ⟨(ne102).s, (ne118).s⟩ (Ni.c ⟨(ne7).s, (ne28).s⟩ (Ni.c ⟨(ne28).s, (ne48).s⟩ (Ni.c ⟨(ne67).s, (ne85).s⟩ (Ni.n _))))) h8
    have cg_lk_4 : hlk.2 (B + 21) = some (aI 41 (gx)) := Fr.at0 (fr_lk).1 (Ni.c ⟨(ne115).s, (ne131).s⟩ (Ni.c ⟨(ne20).s, (ne41).s⟩ (Ni.c ⟨(ne41).s, (ne61).s⟩ (Ni.c ⟨(ne80).s, (ne98).s⟩ (Ni.n _))))) hx21
    have cg_lk_5 : hlk.2 (B + 22) = some (aI 41 (gv)) := Fr.at0 (fr_lk).1 (Ni.c ⟨(ne116).s, (ne132).s⟩ (Ni.c ⟨(ne21).s, (ne42).s⟩ (Ni.c ⟨(ne42).s, (ne62).s⟩ (Ni.c ⟨(ne81).s, (ne99).s⟩ (Ni.n _))))) hx22
    have hOd := nwO_dg hp (fun i => zi hp (gx i)) (fun i => zi hp (gv i)) k.toNat
    have hOg := dgi_ge hp hOd.1
    have hPd := nwP_dg2 hp (fun i => zi hp (gx i)) k.toNat
    refine g_iload_n 0 dX10_interpolate_14 rfl ?_
    refine g_aload_n 1 dX10_interpolate_15 rfl ?_
    refine g_getf 27 dX10_interpolate_16 kX10 (by decide) fX10_83 cf_lk_0 rfl ?_
    refine g_icmp_ge (tgt := 242) dX10_interpolate_19 rfl (by unfold gW; omega) (by unfold gW; omega) (fun c107 => ?_) (fun c107 => ?_)
    · skip
      have hk9 : k = qn := by omega
      refine g_aload_n 1 dX10_interpolate_242 rfl ?_
      refine g_iconst dX10_interpolate_243 ?_
      refine g_putf 27 dX10_interpolate_244 kX10 (by decide) fX10_83 rfl cf_lk_0 (Nat.le_of_ble_eq_true rfl) rfl rfl ?_
      obtain ⟨hh108, eh108⟩ : ∃ z : GH, z = hset hlk (B) (mO B ((p : Int)) (hf) (le) (fc) (pn) (rn) (hn) (0)) := ⟨_, rfl⟩
      refine Go.hp eh108.symm ?_
      have fx108 : Fr [B] hlk hh108 := Fr.w0 (Fr.rf _ _) (List.Mem.head _) eh108
      have mpx108 : MP hp B hh108 (T) := by
                                                                      obtain ⟨gt9, gn9, y1, y2, y3⟩ := cr_lk_0
                                                                      exact ⟨gt9, gn9, hs_n eh108 (show NE (B + 1) B by unfold NE; omega) y1, hs_n eh108 (show NE (B + 2) B by unfold NE; omega) y2, y3⟩
      have fhw108 : hh108.2 (B) = some (mO B ((p : Int)) (hf) (le) (fc) (pn) (rn) (hn) (0)) := hs_s eh108
      have mfz109 : MF B [B] [] hlk hh108 := MF.of fx108 (fr_lk).2.1 (Ni.c ⟨(ne4).s, (ne25).s⟩ (Ni.n _)) (Ni.c ⟨(ne5).s, (ne26).s⟩ (Ni.n _)) []
      have fk110_0 : hh108.2 (B + 7) = some (aJ 6400 (g7)) := Fr.at0 (mfz109).1 (Ni.c ⟨(ne101).s, (ne117).s⟩ (Ni.c ⟨(ne6).s, (ne27).s⟩ (Ni.n _))) cg_lk_2
      have fk110_1 : hh108.2 (B + 8) = some (aI 11520 (g8)) := Fr.at0 (mfz109).1 (Ni.c ⟨(ne102).s, (ne118).s⟩ (Ni.c ⟨(ne7).s, (ne28).s⟩ (Ni.n _))) cg_lk_3
      have fk110_2 : hh108.2 (B + 21) = some (aI 41 (gx)) := Fr.at0 (mfz109).1 (Ni.c ⟨(ne115).s, (ne131).s⟩ (Ni.c ⟨(ne20).s, (ne41).s⟩ (Ni.n _))) cg_lk_4
      have fk110_3 : hh108.2 (B + 22) = some (aI 41 (gv)) := Fr.at0 (mfz109).1 (Ni.c ⟨(ne116).s, (ne132).s⟩ (Ni.c ⟨(ne21).s, (ne42).s⟩ (Ni.n _))) cg_lk_5
      have fk110_5 : hh108.2 (B + 4) = some (aI 1500 (gm)) := Fr.at0 (mfz109).1 (Ni.c ⟨ne82, ne83⟩ (Ni.c ⟨(ne3).s, (ne24).s⟩ (Ni.n _))) cf_lk_1
      have rk110_1 : MWA B hh108 := (cr_lk_1).fr (mfz109).1 (Ni.c ⟨ne64, ne65⟩ (Ni.c ⟨(ne2).s, (ne23).s⟩ (Ni.n _)))
      have rk110_2 : MG hp B hh108 (0) (nwO hp (fun i => zi hp (gx i)) (fun i => zi hp (gv i)) (k).toNat) := (cr_lk_2).fr hp2 mfz109 Nr.n
      have rk110_3 : MG hp B hh108 (1) (nwP hp (fun i => zi hp (gx i)) (k).toNat) := (cr_lk_3).fr hp2 mfz109 Nr.n
      have fr110 : MF B [B, B + 1, B + 3] [0, 1, 2, 3, 4, 5, 6] h hh108 := (fr_lk).tr ((mfz109).mo (sub_c (List.Mem.head _) sub_n) sbI_n)
      refine g_aload_n 1 dX10_interpolate_247 rfl ?_
      refine g_iconst dX10_interpolate_248 ?_
      refine g_callV (nc2 := 0) (ns2 := 0) (ci := 10) (As := [.int (gI (0))]) (st := []) rfl dX10_interpolate_249 okX10_keepRegister lX10_182 itX10_keepRegister seX10_keepRegister rfl fhw108 (by decide) (by decide) rfl (Nat.le_of_ble_eq_true rfl) (sM_keepR N _ B p hp hp2 hf le fc pn rn hn 0 T (0) (nwO hp (fun i => zi hp (gx i)) (fun i => zi hp (gv i)) (k).toNat) (gm) fhw108 mpx108 rk110_1 fk110_5 rk110_2) (by omega) (by omega) (fun v111 hc111 q111 => ?_)
      obtain ⟨mfc112, f4_112, mwa112, w112, T2_112, hO112, rfl, mp112⟩ := q111
      have fk113_0 : hc111.2 (B + 7) = some (aJ 6400 (g7)) := Fr.at0 (mfc112).1 (Ni.c ⟨(ne101).s, (ne117).s⟩ (Ni.c ⟨(ne27).s, (ne47).s⟩ (Ni.c ⟨(ne66).s, (ne84).s⟩ (Ni.n _)))) fk110_0
      have fk113_1 : hc111.2 (B + 8) = some (aI 11520 (g8)) := Fr.at0 (mfc112).1 (Ni.c ⟨(ne102).s, (ne118).s⟩ (Ni.c ⟨(ne28).s, (ne48).s⟩ (Ni.c ⟨(ne67).s, (ne85).s⟩ (Ni.n _)))) fk110_1
      have fk113_2 : hc111.2 (B + 21) = some (aI 41 (gx)) := Fr.at0 (mfc112).1 (Ni.c ⟨(ne115).s, (ne131).s⟩ (Ni.c ⟨(ne41).s, (ne61).s⟩ (Ni.c ⟨(ne80).s, (ne98).s⟩ (Ni.n _)))) fk110_2
      have fk113_3 : hc111.2 (B + 22) = some (aI 41 (gv)) := Fr.at0 (mfc112).1 (Ni.c ⟨(ne116).s, (ne132).s⟩ (Ni.c ⟨(ne42).s, (ne62).s⟩ (Ni.c ⟨(ne81).s, (ne99).s⟩ (Ni.n _)))) fk110_3
      have fk113_5 : hc111.2 (B) = some (mO B ((p : Int)) (hf) (le) (fc) (pn) (rn) (hn) (0)) := Fr.at0 (mfc112).1 (Ni.c ⟨ne4, ne5⟩ (Ni.c ⟨ne0, ne1⟩ (Ni.c ⟨ne2, ne3⟩ (Ni.n _)))) fhw108
      have rk113_1 : MG hp B hc111 (0) (nwO hp (fun i => zi hp (gx i)) (fun i => zi hp (gv i)) (k).toNat) := (rk110_2).fr hp2 mfc112 Nr.n
      have rk113_2 : MG hp B hc111 (1) (nwP hp (fun i => zi hp (gx i)) (k).toNat) := (rk110_3).fr hp2 mfc112 Nr.n
      have fr113 : MF B [B, B + 1, B + 3] [0, 1, 2, 3, 4, 5, 6] h hc111 := (fr110).tr ((mfc112).mo (sub_c (List.Mem.tail _ (List.Mem.head _)) (sub_c (List.Mem.tail _ (List.Mem.tail _ (List.Mem.head _))) sub_n)) sbI_n)
      refine Go.nf (h' := hc111) (st' := [.int (gI (w112))]) rfl rfl (Nat.le_refl _) (Nat.le_refl _) ?_
      exact g_iret dX10_interpolate_252 rfl ⟨((fr113).1.mo (sub_c (List.Mem.tail _ (List.Mem.tail _ (List.Mem.tail _ (List.Mem.head _)))) (sub_c (List.Mem.head _) (sub_c (List.Mem.tail _ (List.Mem.head _)) (sub_c (List.Mem.tail _ (List.Mem.tail _ (List.Mem.head _))) sub_n))))), fk113_5, ⟨(fr113).2.1, mwa112, ⟨_, f4_112⟩, ⟨_, fk113_0⟩, ⟨_, fk113_1⟩⟩, w112, T2_112, (by rw [← hk9]; exact hO112), rfl, mp112⟩
    · skip
      have hxk := hXb k hk.1 (by omega)
      have hvk := hVb k hk.1 (by omega)
      refine g_lconst0 dX10_interpolate_22 ?_
      refine g_lstore_n (ls2 := [(2, .long (gJ (0))), (1, .int (gI (k))), (0, .ref (B))]) dX10_interpolate_23 rfl (by decide) rfl ?_
      refine g_lconst0 dX10_interpolate_24 ?_
      refine g_lstore (ls2 := [(4, .long (gJ (0))), (2, .long (gJ (0))), (1, .int (gI (k))), (0, .ref (B))]) dX10_interpolate_25 (by decide) rfl ?_
      refine g_bipush dX10_interpolate_27 (by decide) ?_
      refine g_istore (ls2 := [(6, .int (gI (41))), (4, .long (gJ (0))), (2, .long (gJ (0))), (1, .int (gI (k))), (0, .ref (B))]) dX10_interpolate_29 (by decide) rfl ?_
      have li : ∀ (kk : Nat) (i : Int) (u : Int) (v : Int) (hli : GH), kk = (i + 1).toNat → MF B [B, B + 1, B + 3] [0, 1, 2, 3, 4, 5, 6] h hli → hli.2 (B) = some (mO B ((p : Int)) (hf) (le) (fc) (pn) (rn) (hn) (qn)) → hli.2 (B + 4) = some (aI 1500 (gm)) → MP hp B hli (T) → MWA B hli → MG hp B hli (0) (nwO hp (fun i => zi hp (gx i)) (fun i => zi hp (gv i)) (k).toNat) → MG hp B hli (1) (nwP hp (fun i => zi hp (gx i)) (k).toNat) → (-1 ≤ i ∧ i ≤ 41) → (u = fv (hr hp (nwO hp (fun i => zi hp (gx i)) (fun i => zi hp (gv i)) (k).toNat) (zi hp (gx k)) 42 (i + 1).toNat)) → (v = fv (hr hp (nwP hp (fun i => zi hp (gx i)) (k).toNat) (zi hp (gx k)) 42 (i + 1).toNat)) → Go N mX10_interpolate (fun v h1 => Fr [B, B + 1, B + 3, B + 5, B + 7] h h1 ∧ h1.2 B = some (mO B p hf le fc pn rn hn 0) ∧ MS B h1 ∧ ∃ w T2, Ou T (kR hp (nwO hp (fun i => zi hp (gx i)) (fun i => zi hp (gv i)) (qn).toNat)) w T2 ∧ v = some (.int (gI w)) ∧ MP hp B h1 T2) 0 0 hli 31 [(6, .int (gI (i))), (4, .long (gJ (v))), (2, .long (gJ (u))), (1, .int (gI (k))), (0, .ref (B))] [] := by
        refine Go.ind (fun kk ih_li => ?_)
        intro i u v hli hkk_li fr_li cf_li_0 cf_li_1 cr_li_0 cr_li_1 cr_li_2 cr_li_3 hi hu_ hv_
        have cg_li_2 : hli.2 (B + 7) = some (aJ 6400 (g7)) := Fr.at0 (fr_li).1 (Ni.c ⟨(ne101).s, (ne117).s⟩ (Ni.c ⟨(ne6).s, (ne27).s⟩ (Ni.c ⟨(ne27).s, (ne47).s⟩ (Ni.c ⟨(ne66).s, (ne84).s⟩ (Ni.n _))))) h7
        have cg_li_3 : hli.2 (B + 8) = some (aI 11520 (g8)) := Fr.at0 (fr_li).1 (Ni.c ⟨(ne102).s, (ne118).s⟩ (Ni.c ⟨(ne7).s, (ne28).s⟩ (Ni.c ⟨(ne28).s, (ne48).s⟩ (Ni.c ⟨(ne67).s, (ne85).s⟩ (Ni.n _))))) h8
        have cg_li_4 : hli.2 (B + 21) = some (aI 41 (gx)) := Fr.at0 (fr_li).1 (Ni.c ⟨(ne115).s, (ne131).s⟩ (Ni.c ⟨(ne20).s, (ne41).s⟩ (Ni.c ⟨(ne41).s, (ne61).s⟩ (Ni.c ⟨(ne80).s, (ne98).s⟩ (Ni.n _))))) hx21
        have cg_li_5 : hli.2 (B + 22) = some (aI 41 (gv)) := Fr.at0 (fr_li).1 (Ni.c ⟨(ne116).s, (ne132).s⟩ (Ni.c ⟨(ne21).s, (ne42).s⟩ (Ni.c ⟨(ne42).s, (ne62).s⟩ (Ni.c ⟨(ne81).s, (ne99).s⟩ (Ni.n _))))) hx22
        have hub : 0 ≤ u ∧ u < p := by rw [hu_]; have := fv_lt (hr hp (nwO hp (fun i => zi hp (gx i)) (fun i => zi hp (gv i)) (k).toNat) (zi hp (gx k)) 42 (i + 1).toNat); omega
        have hvb : 0 ≤ v ∧ v < p := by rw [hv_]; have := fv_lt (hr hp (nwP hp (fun i => zi hp (gx i)) (k).toNat) (zi hp (gx k)) 42 (i + 1).toNat); omega
        have bp1 := g_prod hub.1 hub.2 hxk.1 hxk.2 (show (p : Int) ≤ 65536 by omega)
        have bp2 := g_prod hvb.1 hvb.2 hxk.1 hxk.2 (show (p : Int) ≤ 65536 by omega)
        refine g_iload 0 dX10_interpolate_31 rfl ?_
        refine g_if_lt (tgt := 98) dX10_interpolate_33 rfl (by unfold gW; omega) (fun c214 => ?_) (fun c214 => ?_)
        · skip
          have hi9 : i = -1 := by omega
          have hue : u = fv (ev hp (nwO hp (fun i => zi hp (gx i)) (fun i => zi hp (gv i)) (k).toNat) (zi hp (gx k))) := by
                                                                      rw [hu_, hi9, show ((-1 : Int) + 1).toNat = 0 from rfl, hr_ev hp hOd.1 _ (by omega)]
          have hve : v = fv (ev hp (nwP hp (fun i => zi hp (gx i)) (k).toNat) (zi hp (gx k))) := by
                                                                      rw [hv_, hi9, show ((-1 : Int) + 1).toNat = 0 from rfl, hr_ev hp hPd.1 _ (by omega)]
          have hiv := ivr_in hp v
          refine g_aload_n 4 dX10_interpolate_98 rfl ?_
          refine g_getf 29 dX10_interpolate_99 kX10 (by decide) fX10_75 cf_li_0 rfl ?_
          refine g_iload_n 3 dX10_interpolate_102 rfl ?_
          refine g_iaload dX10_interpolate_103 cg_li_5 (by omega) (by omega) (by omega) ?_
          refine g_i2l dX10_interpolate_104 (by unfold gW; omega) ?_
          refine g_lload_n 2 dX10_interpolate_105 rfl ?_
          refine g_lsub dX10_interpolate_106 ?_
          refine g_aload_n 4 dX10_interpolate_107 rfl ?_
          refine g_getf 0 dX10_interpolate_108 kX10 (by decide) fX10_78 cf_li_0 rfl ?_
          refine g_i2l dX10_interpolate_111 (by unfold gW; omega) ?_
          refine g_ladd dX10_interpolate_112 ?_
          refine g_aload_n 4 dX10_interpolate_113 rfl ?_
          refine g_getf 0 dX10_interpolate_114 kX10 (by decide) fX10_78 cf_li_0 rfl ?_
          refine g_i2l dX10_interpolate_117 (by unfold gW; omega) ?_
          refine g_lrem dX10_interpolate_118 (by unfold gX; omega) (by unfold gX; omega) (by omega) ?_
          rw [tm_em (show 0 ≤ gv k - u + p by omega)]
          obtain ⟨g, hg⟩ : ∃ g : Int, g = (gv k - u + p) % (p : Int) := ⟨_, rfl⟩
          rw [← hg]
          have hgb : 0 ≤ g ∧ g < p := by rw [hg]; exact em_in hp _
          have bp3 := g_prod hgb.1 hgb.2 hiv.1 hiv.2 (show (p : Int) ≤ 65536 by omega)
          refine g_aload_n 4 dX10_interpolate_119 rfl ?_
          refine g_lload 1 dX10_interpolate_120 rfl ?_
          refine g_l2i dX10_interpolate_122 ?_
          refine g_callV (nc2 := 0) (ns2 := 0) (ci := 10) (As := [.int (gI (v))]) (st := [.long (gJ (g))]) rfl dX10_interpolate_123 okX10_inverse lX10_173 itX10_inverse seX10_inverse rfl cf_li_0 (by decide) (by decide) rfl (Nat.le_of_ble_eq_true rfl) (sM_inverse N _ B p hp hp2 hf le fc pn rn hn qn (v) cf_li_0 (by omega) (by omega)) (by omega) (by omega) (fun v215 hc215 q215 => ?_)
          obtain ⟨hq216, rfl⟩ := q215
          refine Go.nf (h' := hli) (st' := [.int (gI (ivr p (v))), .long (gJ (g))]) hq216 rfl (Nat.le_refl _) (Nat.le_refl _) ?_
          refine g_i2l dX10_interpolate_126 (by unfold gW; omega) ?_
          refine g_lmul dX10_interpolate_127 ?_
          refine g_aload_n 4 dX10_interpolate_128 rfl ?_
          refine g_getf 0 dX10_interpolate_129 kX10 (by decide) fX10_78 cf_li_0 rfl ?_
          refine g_i2l dX10_interpolate_132 (by unfold gW; omega) ?_
          refine g_lrem dX10_interpolate_133 (by unfold gX; omega) (by unfold gX; omega) (by omega) ?_
          rw [tm_em bp3.1]
          obtain ⟨c, hc⟩ : ∃ c : Int, c = g * ivr p v % (p : Int) := ⟨_, rfl⟩
          rw [← hc]
          have hcb : 0 ≤ c ∧ c < p := by rw [hc]; exact em_in hp _
          have hcz : zi hp c = nwC hp (nwO hp (fun i => zi hp (gx i)) (fun i => zi hp (gv i)) (k).toNat) (nwP hp (fun i => zi hp (gx i)) (k).toNat) (zi hp (gx k)) (zi hp (gv k)) := by
                                                                      letI := fR hp
                                                                      rw [hc, zi_mod, zi_mul, ivr_pw hp hvb.1 hvb.2, hg, zi_mod, zi_add, zi_p, zi_sub, hue, hve, zi_of, zi_of]
                                                                      unfold nwC
                                                                      generalize ev hp (nwP hp (fun i => zi hp (gx i)) (k).toNat) (zi hp (gx k)) ^ (p - 2) = y
                                                                      generalize ev hp (nwO hp (fun i => zi hp (gx i)) (fun i => zi hp (gv i)) (k).toNat) (zi hp (gx k)) = x
                                                                      grind
          have hd2 : dgi hp (cz hp (zi hp c)) ≤ 0 := by
                                                                      have : dl (fR hp) (cz hp (zi hp c)) 1 := fun q hq => by
                                                                        letI := fR hp
                                                                        show (if q = 0 then zi hp c else 0) = 0
                                                                        rw [if_neg (by omega)]
                                                                      have := dgi_le hp this
                                                                      omega
          refine g_lstore (ls2 := [(6, .long (gJ (c))), (4, .long (gJ (v))), (2, .long (gJ (u))), (1, .int (gI (k))), (0, .ref (B))]) dX10_interpolate_134 (by decide) rfl ?_
          refine g_aload_n 4 dX10_interpolate_136 rfl ?_
          refine g_iconst dX10_interpolate_137 ?_
          refine g_lload 0 dX10_interpolate_138 rfl ?_
          refine g_l2i dX10_interpolate_140 ?_
          refine g_callV (nc2 := 0) (ns2 := 0) (ci := 10) (As := [.int (gI (2)), .int (gI (c))]) (st := []) rfl dX10_interpolate_141 okX10_be lX10_170 itX10_be seX10_be rfl cf_li_0 (by decide) (by decide) rfl (Nat.le_of_ble_eq_true rfl) (sM_be N _ B p hp hp2 hf le fc pn rn hn qn (2) (c) (by omega) (by omega) (by omega) cf_li_0 (fr_li).2.1) (by omega) (by omega) (fun v217 hc217 q217 => ?_)
          obtain ⟨rfl, mfc218, rn218_0⟩ := q217
          have fk219_0 : hc217.2 (B + 7) = some (aJ 6400 (g7)) := Fr.at0 (mfc218).1 (Ni.c ⟨(ne101).s, (ne117).s⟩ (Ni.n _)) cg_li_2
          have fk219_1 : hc217.2 (B + 8) = some (aI 11520 (g8)) := Fr.at0 (mfc218).1 (Ni.c ⟨(ne102).s, (ne118).s⟩ (Ni.n _)) cg_li_3
          have fk219_2 : hc217.2 (B + 21) = some (aI 41 (gx)) := Fr.at0 (mfc218).1 (Ni.c ⟨(ne115).s, (ne131).s⟩ (Ni.n _)) cg_li_4
          have fk219_3 : hc217.2 (B + 22) = some (aI 41 (gv)) := Fr.at0 (mfc218).1 (Ni.c ⟨(ne116).s, (ne132).s⟩ (Ni.n _)) cg_li_5
          have fk219_4 : hc217.2 (B) = some (mO B ((p : Int)) (hf) (le) (fc) (pn) (rn) (hn) (qn)) := Fr.at0 (mfc218).1 (Ni.c ⟨ne4, ne5⟩ (Ni.n _)) cf_li_0
          have fk219_5 : hc217.2 (B + 4) = some (aI 1500 (gm)) := Fr.at0 (mfc218).1 (Ni.c ⟨ne82, ne83⟩ (Ni.n _)) cf_li_1
          have rk219_0 : MP hp B hc217 (T) := (cr_li_0).fr (mfc218).1 (Ni.c ⟨ne25, ne26⟩ (Ni.n _)) (Ni.c ⟨ne45, ne46⟩ (Ni.n _))
          have rk219_1 : MWA B hc217 := (cr_li_1).fr (mfc218).1 (Ni.c ⟨ne64, ne65⟩ (Ni.n _))
          have rk219_2 : MG hp B hc217 (0) (nwO hp (fun i => zi hp (gx i)) (fun i => zi hp (gv i)) (k).toNat) := (cr_li_2).fr hp2 mfc218 (Nr.c (by omega) Nr.n)
          have rk219_3 : MG hp B hc217 (1) (nwP hp (fun i => zi hp (gx i)) (k).toNat) := (cr_li_3).fr hp2 mfc218 (Nr.c (by omega) Nr.n)
          have fr219 : MF B [B, B + 1, B + 3] [0, 1, 2, 3, 4, 5, 6] h hc217 := (fr_li).tr ((mfc218).mo sub_n (sbI_c (List.Mem.tail _ (List.Mem.tail _ (List.Mem.head _))) sbI_n))
          refine Go.nf (h' := hc217) (st' := []) rfl rfl (Nat.le_refl _) (Nat.le_refl _) ?_
          refine g_aload_n 4 dX10_interpolate_144 rfl ?_
          refine g_iconst dX10_interpolate_145 ?_
          refine g_iconst dX10_interpolate_146 ?_
          refine g_iconst dX10_interpolate_147 ?_
          refine g_callV (nc2 := 0) (ns2 := 0) (ci := 10) (As := [.int (gI (1)), .int (gI (2)), .int (gI (3))]) (st := []) rfl dX10_interpolate_148 okX10_product lX10_189 itX10_product seX10_product rfl fk219_4 (by decide) (by decide) rfl (Nat.le_of_ble_eq_true rfl) (sM_product N _ B p hp hp2 hf le fc pn rn hn qn (1) (2) (3) (by omega) (by omega) (by omega) (nwP hp (fun i => zi hp (gx i)) (k).toNat) (cz hp (zi hp (c))) fk219_4 (fr219).2.1 rk219_3 rn218_0 (by omega)) (by omega) (by omega) (fun v220 hc220 q220 => ?_)
          obtain ⟨rfl, mfc221, rn221_0⟩ := q220
          have fk222_0 : hc220.2 (B + 7) = some (aJ 6400 (g7)) := Fr.at0 (mfc221).1 (Ni.c ⟨(ne101).s, (ne117).s⟩ (Ni.n _)) fk219_0
          have fk222_1 : hc220.2 (B + 8) = some (aI 11520 (g8)) := Fr.at0 (mfc221).1 (Ni.c ⟨(ne102).s, (ne118).s⟩ (Ni.n _)) fk219_1
          have fk222_2 : hc220.2 (B + 21) = some (aI 41 (gx)) := Fr.at0 (mfc221).1 (Ni.c ⟨(ne115).s, (ne131).s⟩ (Ni.n _)) fk219_2
          have fk222_3 : hc220.2 (B + 22) = some (aI 41 (gv)) := Fr.at0 (mfc221).1 (Ni.c ⟨(ne116).s, (ne132).s⟩ (Ni.n _)) fk219_3
          have fk222_4 : hc220.2 (B) = some (mO B ((p : Int)) (hf) (le) (fc) (pn) (rn) (hn) (qn)) := Fr.at0 (mfc221).1 (Ni.c ⟨ne4, ne5⟩ (Ni.n _)) fk219_4
          have fk222_5 : hc220.2 (B + 4) = some (aI 1500 (gm)) := Fr.at0 (mfc221).1 (Ni.c ⟨ne82, ne83⟩ (Ni.n _)) fk219_5
          have rk222_0 : MP hp B hc220 (T) := (rk219_0).fr (mfc221).1 (Ni.c ⟨ne25, ne26⟩ (Ni.n _)) (Ni.c ⟨ne45, ne46⟩ (Ni.n _))
          have rk222_1 : MWA B hc220 := (rk219_1).fr (mfc221).1 (Ni.c ⟨ne64, ne65⟩ (Ni.n _))
          have rk222_2 : MG hp B hc220 (0) (nwO hp (fun i => zi hp (gx i)) (fun i => zi hp (gv i)) (k).toNat) := (rk219_2).fr hp2 mfc221 (Nr.c (by omega) Nr.n)
          have rk222_3 : MG hp B hc220 (1) (nwP hp (fun i => zi hp (gx i)) (k).toNat) := (rk219_3).fr hp2 mfc221 (Nr.c (by omega) Nr.n)
          have rk222_4 : MG hp B hc220 (2) (cz hp (zi hp (c))) := (rn218_0).fr hp2 mfc221 (Nr.c (by omega) Nr.n)
          have fr222 : MF B [B, B + 1, B + 3] [0, 1, 2, 3, 4, 5, 6] h hc220 := (fr219).tr ((mfc221).mo sub_n (sbI_c (List.Mem.tail _ (List.Mem.tail _ (List.Mem.tail _ (List.Mem.head _)))) sbI_n))
          refine Go.nf (h' := hc220) (st' := []) rfl rfl (Nat.le_refl _) (Nat.le_refl _) ?_
          refine g_aload_n 4 dX10_interpolate_151 rfl ?_
          refine g_iconst dX10_interpolate_152 ?_
          refine g_iconst dX10_interpolate_153 ?_
          refine g_callV (nc2 := 0) (ns2 := 0) (ci := 10) (As := [.int (gI (4)), .int (gI (0))]) (st := []) rfl dX10_interpolate_154 okX10_be lX10_170 itX10_be seX10_be rfl fk222_4 (by decide) (by decide) rfl (Nat.le_of_ble_eq_true rfl) (sM_be N _ B p hp hp2 hf le fc pn rn hn qn (4) (0) (by omega) (by omega) (by omega) fk222_4 (fr222).2.1) (by omega) (by omega) (fun v223 hc223 q223 => ?_)
          obtain ⟨rfl, mfc224, rn224_0⟩ := q223
          have fk225_0 : hc223.2 (B + 7) = some (aJ 6400 (g7)) := Fr.at0 (mfc224).1 (Ni.c ⟨(ne101).s, (ne117).s⟩ (Ni.n _)) fk222_0
          have fk225_1 : hc223.2 (B + 8) = some (aI 11520 (g8)) := Fr.at0 (mfc224).1 (Ni.c ⟨(ne102).s, (ne118).s⟩ (Ni.n _)) fk222_1
          have fk225_2 : hc223.2 (B + 21) = some (aI 41 (gx)) := Fr.at0 (mfc224).1 (Ni.c ⟨(ne115).s, (ne131).s⟩ (Ni.n _)) fk222_2
          have fk225_3 : hc223.2 (B + 22) = some (aI 41 (gv)) := Fr.at0 (mfc224).1 (Ni.c ⟨(ne116).s, (ne132).s⟩ (Ni.n _)) fk222_3
          have fk225_4 : hc223.2 (B) = some (mO B ((p : Int)) (hf) (le) (fc) (pn) (rn) (hn) (qn)) := Fr.at0 (mfc224).1 (Ni.c ⟨ne4, ne5⟩ (Ni.n _)) fk222_4
          have fk225_5 : hc223.2 (B + 4) = some (aI 1500 (gm)) := Fr.at0 (mfc224).1 (Ni.c ⟨ne82, ne83⟩ (Ni.n _)) fk222_5
          have rk225_0 : MP hp B hc223 (T) := (rk222_0).fr (mfc224).1 (Ni.c ⟨ne25, ne26⟩ (Ni.n _)) (Ni.c ⟨ne45, ne46⟩ (Ni.n _))
          have rk225_1 : MWA B hc223 := (rk222_1).fr (mfc224).1 (Ni.c ⟨ne64, ne65⟩ (Ni.n _))
          have rk225_2 : MG hp B hc223 (0) (nwO hp (fun i => zi hp (gx i)) (fun i => zi hp (gv i)) (k).toNat) := (rk222_2).fr hp2 mfc224 (Nr.c (by omega) Nr.n)
          have rk225_3 : MG hp B hc223 (1) (nwP hp (fun i => zi hp (gx i)) (k).toNat) := (rk222_3).fr hp2 mfc224 (Nr.c (by omega) Nr.n)
          have rk225_4 : MG hp B hc223 (2) (cz hp (zi hp (c))) := (rk222_4).fr hp2 mfc224 (Nr.c (by omega) Nr.n)
          have rk225_5 : MG hp B hc223 (3) (pml hp (nwP hp (fun i => zi hp (gx i)) (k).toNat) (cz hp (zi hp (c)))) := (rn221_0).fr hp2 mfc224 (Nr.c (by omega) Nr.n)
          have fr225 : MF B [B, B + 1, B + 3] [0, 1, 2, 3, 4, 5, 6] h hc223 := (fr222).tr ((mfc224).mo sub_n (sbI_c (List.Mem.tail _ (List.Mem.tail _ (List.Mem.tail _ (List.Mem.tail _ (List.Mem.head _))))) sbI_n))
          refine Go.nf (h' := hc223) (st' := []) rfl rfl (Nat.le_refl _) (Nat.le_refl _) ?_
          refine g_aload_n 4 dX10_interpolate_157 rfl ?_
          refine g_iconst dX10_interpolate_158 ?_
          refine g_iconst dX10_interpolate_159 ?_
          refine g_iconst dX10_interpolate_160 ?_
          refine g_callV (nc2 := 0) (ns2 := 0) (ci := 10) (As := [.int (gI (4)), .int (gI (3)), .int (gI (5))]) (st := []) rfl dX10_interpolate_161 okX10_minus lX10_192 itX10_minus seX10_minus rfl fk225_4 (by decide) (by decide) rfl (Nat.le_of_ble_eq_true rfl) (sM_minus N _ B p hp hp2 hf le fc pn rn hn qn (4) (3) (5) (by omega) (cz hp (zi hp (0))) (pml hp (nwP hp (fun i => zi hp (gx i)) (k).toNat) (cz hp (zi hp (c)))) fk225_4 (fr225).2.1 rn224_0 rk225_5) (by omega) (by omega) (fun v226 hc226 q226 => ?_)
          obtain ⟨rfl, mfc227, rn227_0⟩ := q226
          have fk228_0 : hc226.2 (B + 7) = some (aJ 6400 (g7)) := Fr.at0 (mfc227).1 (Ni.c ⟨(ne101).s, (ne117).s⟩ (Ni.n _)) fk225_0
          have fk228_1 : hc226.2 (B + 8) = some (aI 11520 (g8)) := Fr.at0 (mfc227).1 (Ni.c ⟨(ne102).s, (ne118).s⟩ (Ni.n _)) fk225_1
          have fk228_2 : hc226.2 (B + 21) = some (aI 41 (gx)) := Fr.at0 (mfc227).1 (Ni.c ⟨(ne115).s, (ne131).s⟩ (Ni.n _)) fk225_2
          have fk228_3 : hc226.2 (B + 22) = some (aI 41 (gv)) := Fr.at0 (mfc227).1 (Ni.c ⟨(ne116).s, (ne132).s⟩ (Ni.n _)) fk225_3
          have fk228_4 : hc226.2 (B) = some (mO B ((p : Int)) (hf) (le) (fc) (pn) (rn) (hn) (qn)) := Fr.at0 (mfc227).1 (Ni.c ⟨ne4, ne5⟩ (Ni.n _)) fk225_4
          have fk228_5 : hc226.2 (B + 4) = some (aI 1500 (gm)) := Fr.at0 (mfc227).1 (Ni.c ⟨ne82, ne83⟩ (Ni.n _)) fk225_5
          have rk228_0 : MP hp B hc226 (T) := (rk225_0).fr (mfc227).1 (Ni.c ⟨ne25, ne26⟩ (Ni.n _)) (Ni.c ⟨ne45, ne46⟩ (Ni.n _))
          have rk228_1 : MWA B hc226 := (rk225_1).fr (mfc227).1 (Ni.c ⟨ne64, ne65⟩ (Ni.n _))
          have rk228_2 : MG hp B hc226 (0) (nwO hp (fun i => zi hp (gx i)) (fun i => zi hp (gv i)) (k).toNat) := (rk225_2).fr hp2 mfc227 (Nr.c (by omega) Nr.n)
          have rk228_3 : MG hp B hc226 (1) (nwP hp (fun i => zi hp (gx i)) (k).toNat) := (rk225_3).fr hp2 mfc227 (Nr.c (by omega) Nr.n)
          have rk228_4 : MG hp B hc226 (2) (cz hp (zi hp (c))) := (rk225_4).fr hp2 mfc227 (Nr.c (by omega) Nr.n)
          have rk228_5 : MG hp B hc226 (3) (pml hp (nwP hp (fun i => zi hp (gx i)) (k).toNat) (cz hp (zi hp (c)))) := (rk225_5).fr hp2 mfc227 (Nr.c (by omega) Nr.n)
          have rk228_6 : MG hp B hc226 (4) (cz hp (zi hp (0))) := (rn224_0).fr hp2 mfc227 (Nr.c (by omega) Nr.n)
          have fr228 : MF B [B, B + 1, B + 3] [0, 1, 2, 3, 4, 5, 6] h hc226 := (fr225).tr ((mfc227).mo sub_n (sbI_c (List.Mem.tail _ (List.Mem.tail _ (List.Mem.tail _ (List.Mem.tail _ (List.Mem.tail _ (List.Mem.head _)))))) sbI_n))
          refine Go.nf (h' := hc226) (st' := []) rfl rfl (Nat.le_refl _) (Nat.le_refl _) ?_
          refine g_aload_n 4 dX10_interpolate_164 rfl ?_
          refine g_iconst dX10_interpolate_165 ?_
          refine g_iconst dX10_interpolate_166 ?_
          refine g_bipush dX10_interpolate_167 (by decide) ?_
          refine g_callV (nc2 := 0) (ns2 := 0) (ci := 10) (As := [.int (gI (0)), .int (gI (5)), .int (gI (6))]) (st := []) rfl dX10_interpolate_169 okX10_minus lX10_192 itX10_minus seX10_minus rfl fk228_4 (by decide) (by decide) rfl (Nat.le_of_ble_eq_true rfl) (sM_minus N _ B p hp hp2 hf le fc pn rn hn qn (0) (5) (6) (by omega) (nwO hp (fun i => zi hp (gx i)) (fun i => zi hp (gv i)) (k).toNat) (psb hp (cz hp (zi hp (0))) (pml hp (nwP hp (fun i => zi hp (gx i)) (k).toNat) (cz hp (zi hp (c))))) fk228_4 (fr228).2.1 rk228_2 rn227_0) (by omega) (by omega) (fun v229 hc229 q229 => ?_)
          obtain ⟨rfl, mfc230, rn230_0⟩ := q229
          have fk231_0 : hc229.2 (B + 7) = some (aJ 6400 (g7)) := Fr.at0 (mfc230).1 (Ni.c ⟨(ne101).s, (ne117).s⟩ (Ni.n _)) fk228_0
          have fk231_1 : hc229.2 (B + 8) = some (aI 11520 (g8)) := Fr.at0 (mfc230).1 (Ni.c ⟨(ne102).s, (ne118).s⟩ (Ni.n _)) fk228_1
          have fk231_2 : hc229.2 (B + 21) = some (aI 41 (gx)) := Fr.at0 (mfc230).1 (Ni.c ⟨(ne115).s, (ne131).s⟩ (Ni.n _)) fk228_2
          have fk231_3 : hc229.2 (B + 22) = some (aI 41 (gv)) := Fr.at0 (mfc230).1 (Ni.c ⟨(ne116).s, (ne132).s⟩ (Ni.n _)) fk228_3
          have fk231_4 : hc229.2 (B) = some (mO B ((p : Int)) (hf) (le) (fc) (pn) (rn) (hn) (qn)) := Fr.at0 (mfc230).1 (Ni.c ⟨ne4, ne5⟩ (Ni.n _)) fk228_4
          have fk231_5 : hc229.2 (B + 4) = some (aI 1500 (gm)) := Fr.at0 (mfc230).1 (Ni.c ⟨ne82, ne83⟩ (Ni.n _)) fk228_5
          have rk231_0 : MP hp B hc229 (T) := (rk228_0).fr (mfc230).1 (Ni.c ⟨ne25, ne26⟩ (Ni.n _)) (Ni.c ⟨ne45, ne46⟩ (Ni.n _))
          have rk231_1 : MWA B hc229 := (rk228_1).fr (mfc230).1 (Ni.c ⟨ne64, ne65⟩ (Ni.n _))
          have rk231_2 : MG hp B hc229 (0) (nwO hp (fun i => zi hp (gx i)) (fun i => zi hp (gv i)) (k).toNat) := (rk228_2).fr hp2 mfc230 (Nr.c (by omega) Nr.n)
          have rk231_3 : MG hp B hc229 (1) (nwP hp (fun i => zi hp (gx i)) (k).toNat) := (rk228_3).fr hp2 mfc230 (Nr.c (by omega) Nr.n)
          have rk231_4 : MG hp B hc229 (2) (cz hp (zi hp (c))) := (rk228_4).fr hp2 mfc230 (Nr.c (by omega) Nr.n)
          have rk231_5 : MG hp B hc229 (3) (pml hp (nwP hp (fun i => zi hp (gx i)) (k).toNat) (cz hp (zi hp (c)))) := (rk228_5).fr hp2 mfc230 (Nr.c (by omega) Nr.n)
          have rk231_6 : MG hp B hc229 (4) (cz hp (zi hp (0))) := (rk228_6).fr hp2 mfc230 (Nr.c (by omega) Nr.n)
          have rk231_7 : MG hp B hc229 (5) (psb hp (cz hp (zi hp (0))) (pml hp (nwP hp (fun i => zi hp (gx i)) (k).toNat) (cz hp (zi hp (c))))) := (rn227_0).fr hp2 mfc230 (Nr.c (by omega) Nr.n)
          have fr231 : MF B [B, B + 1, B + 3] [0, 1, 2, 3, 4, 5, 6] h hc229 := (fr228).tr ((mfc230).mo sub_n (sbI_c (List.Mem.tail _ (List.Mem.tail _ (List.Mem.tail _ (List.Mem.tail _ (List.Mem.tail _ (List.Mem.tail _ (List.Mem.head _))))))) sbI_n))
          refine Go.nf (h' := hc229) (st' := []) rfl rfl (Nat.le_refl _) (Nat.le_refl _) ?_
          refine g_aload_n 4 dX10_interpolate_172 rfl ?_
          refine g_bipush dX10_interpolate_173 (by decide) ?_
          refine g_iconst dX10_interpolate_175 ?_
          refine g_callV (nc2 := 0) (ns2 := 0) (ci := 10) (As := [.int (gI (6)), .int (gI (0))]) (st := []) rfl dX10_interpolate_176 okX10_copy lX10_167 itX10_copy seX10_copy rfl fk231_4 (by decide) (by decide) rfl (Nat.le_of_ble_eq_true rfl) (sM_copy N _ B p hp hp2 hf le fc pn rn hn qn (6) (0) (by omega) (by omega) (psb hp (nwO hp (fun i => zi hp (gx i)) (fun i => zi hp (gv i)) (k).toNat) (psb hp (cz hp (zi hp (0))) (pml hp (nwP hp (fun i => zi hp (gx i)) (k).toNat) (cz hp (zi hp (c)))))) fk231_4 (fr231).2.1 rn230_0) (by omega) (by omega) (fun v232 hc232 q232 => ?_)
          obtain ⟨rfl, mfc233, rn233_0⟩ := q232
          have fk234_0 : hc232.2 (B + 7) = some (aJ 6400 (g7)) := Fr.at0 (mfc233).1 (Ni.c ⟨(ne101).s, (ne117).s⟩ (Ni.n _)) fk231_0
          have fk234_1 : hc232.2 (B + 8) = some (aI 11520 (g8)) := Fr.at0 (mfc233).1 (Ni.c ⟨(ne102).s, (ne118).s⟩ (Ni.n _)) fk231_1
          have fk234_2 : hc232.2 (B + 21) = some (aI 41 (gx)) := Fr.at0 (mfc233).1 (Ni.c ⟨(ne115).s, (ne131).s⟩ (Ni.n _)) fk231_2
          have fk234_3 : hc232.2 (B + 22) = some (aI 41 (gv)) := Fr.at0 (mfc233).1 (Ni.c ⟨(ne116).s, (ne132).s⟩ (Ni.n _)) fk231_3
          have fk234_4 : hc232.2 (B) = some (mO B ((p : Int)) (hf) (le) (fc) (pn) (rn) (hn) (qn)) := Fr.at0 (mfc233).1 (Ni.c ⟨ne4, ne5⟩ (Ni.n _)) fk231_4
          have fk234_5 : hc232.2 (B + 4) = some (aI 1500 (gm)) := Fr.at0 (mfc233).1 (Ni.c ⟨ne82, ne83⟩ (Ni.n _)) fk231_5
          have rk234_0 : MP hp B hc232 (T) := (rk231_0).fr (mfc233).1 (Ni.c ⟨ne25, ne26⟩ (Ni.n _)) (Ni.c ⟨ne45, ne46⟩ (Ni.n _))
          have rk234_1 : MWA B hc232 := (rk231_1).fr (mfc233).1 (Ni.c ⟨ne64, ne65⟩ (Ni.n _))
          have rk234_3 : MG hp B hc232 (1) (nwP hp (fun i => zi hp (gx i)) (k).toNat) := (rk231_3).fr hp2 mfc233 (Nr.c (by omega) Nr.n)
          have rk234_4 : MG hp B hc232 (2) (cz hp (zi hp (c))) := (rk231_4).fr hp2 mfc233 (Nr.c (by omega) Nr.n)
          have rk234_5 : MG hp B hc232 (3) (pml hp (nwP hp (fun i => zi hp (gx i)) (k).toNat) (cz hp (zi hp (c)))) := (rk231_5).fr hp2 mfc233 (Nr.c (by omega) Nr.n)
          have rk234_6 : MG hp B hc232 (4) (cz hp (zi hp (0))) := (rk231_6).fr hp2 mfc233 (Nr.c (by omega) Nr.n)
          have rk234_7 : MG hp B hc232 (5) (psb hp (cz hp (zi hp (0))) (pml hp (nwP hp (fun i => zi hp (gx i)) (k).toNat) (cz hp (zi hp (c))))) := (rk231_7).fr hp2 mfc233 (Nr.c (by omega) Nr.n)
          have rk234_8 : MG hp B hc232 (6) (psb hp (nwO hp (fun i => zi hp (gx i)) (fun i => zi hp (gv i)) (k).toNat) (psb hp (cz hp (zi hp (0))) (pml hp (nwP hp (fun i => zi hp (gx i)) (k).toNat) (cz hp (zi hp (c)))))) := (rn230_0).fr hp2 mfc233 (Nr.c (by omega) Nr.n)
          have fr234 : MF B [B, B + 1, B + 3] [0, 1, 2, 3, 4, 5, 6] h hc232 := (fr231).tr ((mfc233).mo sub_n (sbI_c (List.Mem.head _) sbI_n))
          refine Go.nf (h' := hc232) (st' := []) rfl rfl (Nat.le_refl _) (Nat.le_refl _) ?_
          refine g_aload_n 4 dX10_interpolate_179 rfl ?_
          refine g_iconst dX10_interpolate_180 ?_
          refine g_iconst dX10_interpolate_181 ?_
          refine g_callV (nc2 := 0) (ns2 := 0) (ci := 10) (As := [.int (gI (2)), .int (gI (0))]) (st := []) rfl dX10_interpolate_182 okX10_be lX10_170 itX10_be seX10_be rfl fk234_4 (by decide) (by decide) rfl (Nat.le_of_ble_eq_true rfl) (sM_be N _ B p hp hp2 hf le fc pn rn hn qn (2) (0) (by omega) (by omega) (by omega) fk234_4 (fr234).2.1) (by omega) (by omega) (fun v235 hc235 q235 => ?_)
          obtain ⟨rfl, mfc236, rn236_0⟩ := q235
          have fk237_0 : hc235.2 (B + 7) = some (aJ 6400 (g7)) := Fr.at0 (mfc236).1 (Ni.c ⟨(ne101).s, (ne117).s⟩ (Ni.n _)) fk234_0
          have fk237_1 : hc235.2 (B + 8) = some (aI 11520 (g8)) := Fr.at0 (mfc236).1 (Ni.c ⟨(ne102).s, (ne118).s⟩ (Ni.n _)) fk234_1
          have fk237_2 : hc235.2 (B + 21) = some (aI 41 (gx)) := Fr.at0 (mfc236).1 (Ni.c ⟨(ne115).s, (ne131).s⟩ (Ni.n _)) fk234_2
          have fk237_3 : hc235.2 (B + 22) = some (aI 41 (gv)) := Fr.at0 (mfc236).1 (Ni.c ⟨(ne116).s, (ne132).s⟩ (Ni.n _)) fk234_3
          have fk237_4 : hc235.2 (B) = some (mO B ((p : Int)) (hf) (le) (fc) (pn) (rn) (hn) (qn)) := Fr.at0 (mfc236).1 (Ni.c ⟨ne4, ne5⟩ (Ni.n _)) fk234_4
          have fk237_5 : hc235.2 (B + 4) = some (aI 1500 (gm)) := Fr.at0 (mfc236).1 (Ni.c ⟨ne82, ne83⟩ (Ni.n _)) fk234_5
          have rk237_0 : MP hp B hc235 (T) := (rk234_0).fr (mfc236).1 (Ni.c ⟨ne25, ne26⟩ (Ni.n _)) (Ni.c ⟨ne45, ne46⟩ (Ni.n _))
          have rk237_1 : MWA B hc235 := (rk234_1).fr (mfc236).1 (Ni.c ⟨ne64, ne65⟩ (Ni.n _))
          have rk237_2 : MG hp B hc235 (1) (nwP hp (fun i => zi hp (gx i)) (k).toNat) := (rk234_3).fr hp2 mfc236 (Nr.c (by omega) Nr.n)
          have rk237_4 : MG hp B hc235 (3) (pml hp (nwP hp (fun i => zi hp (gx i)) (k).toNat) (cz hp (zi hp (c)))) := (rk234_5).fr hp2 mfc236 (Nr.c (by omega) Nr.n)
          have rk237_5 : MG hp B hc235 (4) (cz hp (zi hp (0))) := (rk234_6).fr hp2 mfc236 (Nr.c (by omega) Nr.n)
          have rk237_6 : MG hp B hc235 (5) (psb hp (cz hp (zi hp (0))) (pml hp (nwP hp (fun i => zi hp (gx i)) (k).toNat) (cz hp (zi hp (c))))) := (rk234_7).fr hp2 mfc236 (Nr.c (by omega) Nr.n)
          have rk237_7 : MG hp B hc235 (6) (psb hp (nwO hp (fun i => zi hp (gx i)) (fun i => zi hp (gv i)) (k).toNat) (psb hp (cz hp (zi hp (0))) (pml hp (nwP hp (fun i => zi hp (gx i)) (k).toNat) (cz hp (zi hp (c)))))) := (rk234_8).fr hp2 mfc236 (Nr.c (by omega) Nr.n)
          have rk237_8 : MG hp B hc235 (0) (psb hp (nwO hp (fun i => zi hp (gx i)) (fun i => zi hp (gv i)) (k).toNat) (psb hp (cz hp (zi hp (0))) (pml hp (nwP hp (fun i => zi hp (gx i)) (k).toNat) (cz hp (zi hp (c)))))) := (rn233_0).fr hp2 mfc236 (Nr.c (by omega) Nr.n)
          have fr237 : MF B [B, B + 1, B + 3] [0, 1, 2, 3, 4, 5, 6] h hc235 := (fr234).tr ((mfc236).mo sub_n (sbI_c (List.Mem.tail _ (List.Mem.tail _ (List.Mem.head _))) sbI_n))
          refine Go.nf (h' := hc235) (st' := []) rfl rfl (Nat.le_refl _) (Nat.le_refl _) ?_
          have hlin := dgi_of hp (lin_dg hp (zi hp (gx k)))
          have hz9 := rn236_0
          obtain ⟨R, d, hu, hv, hR, hD⟩ := (fr237).2.1
          have hat238 := (rk237_2).at hu hv hR hD
          have hat239 := (rk237_4).at hu hv hR hD
          have hat240 := (rk237_5).at hu hv hR hD
          have hat241 := (rk237_6).at hu hv hR hD
          have hat242 := (rk237_7).at hu hv hR hD
          have hat243 := (rk237_8).at hu hv hR hD
          have hat244 := (rn236_0).at hu hv hR hD
          refine g_aload_n 4 dX10_interpolate_185 rfl ?_
          refine g_getf 5 dX10_interpolate_186 kX10 (by decide) fX10_23 fk237_4 rfl ?_
          refine g_sipush dX10_interpolate_189 (by decide) ?_
          refine g_aload_n 4 dX10_interpolate_192 rfl ?_
          refine g_getf 0 dX10_interpolate_193 kX10 (by decide) fX10_78 fk237_4 rfl ?_
          refine g_aload_n 4 dX10_interpolate_196 rfl ?_
          refine g_getf 28 dX10_interpolate_197 kX10 (by decide) fX10_72 fk237_4 rfl ?_
          refine g_iload_n 3 dX10_interpolate_200 rfl ?_
          refine g_iaload dX10_interpolate_201 fk237_2 (by omega) (by omega) (by omega) ?_
          refine g_isub dX10_interpolate_202 ?_
          refine g_aload_n 4 dX10_interpolate_203 rfl ?_
          refine g_getf 0 dX10_interpolate_204 kX10 (by decide) fX10_78 fk237_4 rfl ?_
          refine g_irem dX10_interpolate_207 (by unfold gW; omega) (by unfold gW; omega) (by omega) ?_
          rw [tm_em (show 0 ≤ (p : Int) - gx k by omega)]
          refine g_iastore dX10_interpolate_208 hR (by omega) (by omega) (by omega) ?_
          obtain ⟨hh295, eh295⟩ : ∃ z : GH, z = hset hc235 (B + 5) (aI 8000 (gup (ar R) (400) (((p : Int) - gx k) % (p : Int)))) := ⟨_, rfl⟩
          refine Go.hp eh295.symm ?_
          have fh295_0 : hh295.2 (B + 7) = some (aJ 6400 (g7)) := hs_n eh295 (ne101).s fk237_0
          have fh295_1 : hh295.2 (B + 8) = some (aI 11520 (g8)) := hs_n eh295 (ne102).s fk237_1
          have fh295_2 : hh295.2 (B + 21) = some (aI 41 (gx)) := hs_n eh295 (ne115).s fk237_2
          have fh295_3 : hh295.2 (B + 22) = some (aI 41 (gv)) := hs_n eh295 (ne116).s fk237_3
          have fh295_4 : hh295.2 (B) = some (mO B ((p : Int)) (hf) (le) (fc) (pn) (rn) (hn) (qn)) := hs_n eh295 ne4 fk237_4
          have fh295_5 : hh295.2 (B + 4) = some (aI 1500 (gm)) := hs_n eh295 ne82 fk237_5
          have fh295_6 : hh295.2 (B + 5) = some (aI 8000 (gup (ar R) (400) (((p : Int) - gx k) % (p : Int)))) := hs_s eh295
          have fh295_7 : hh295.2 (B + 6) = some (aI 40 (d)) := hs_n eh295 (ne100).s hD
          have fr295 : Fr [B + 5] hc235 hh295 := Fr.w0 (Fr.rf [B + 5] hc235) (List.Mem.head _) eh295
          refine g_aload_n 4 dX10_interpolate_209 rfl ?_
          refine g_getf 5 dX10_interpolate_210 kX10 (by decide) fX10_23 fh295_4 rfl ?_
          refine g_sipush dX10_interpolate_213 (by decide) ?_
          refine g_iconst dX10_interpolate_216 ?_
          refine g_iastore dX10_interpolate_217 fh295_6 (by omega) (by omega) (by omega) ?_
          obtain ⟨hh296, eh296⟩ : ∃ z : GH, z = hset hh295 (B + 5) (aI 8000 (gup (gup (ar R) (400) (((p : Int) - gx k) % (p : Int))) (401) (1))) := ⟨_, rfl⟩
          refine Go.hp eh296.symm ?_
          have fh296_0 : hh296.2 (B + 7) = some (aJ 6400 (g7)) := hs_n eh296 (ne101).s fh295_0
          have fh296_1 : hh296.2 (B + 8) = some (aI 11520 (g8)) := hs_n eh296 (ne102).s fh295_1
          have fh296_2 : hh296.2 (B + 21) = some (aI 41 (gx)) := hs_n eh296 (ne115).s fh295_2
          have fh296_3 : hh296.2 (B + 22) = some (aI 41 (gv)) := hs_n eh296 (ne116).s fh295_3
          have fh296_4 : hh296.2 (B) = some (mO B ((p : Int)) (hf) (le) (fc) (pn) (rn) (hn) (qn)) := hs_n eh296 ne4 fh295_4
          have fh296_5 : hh296.2 (B + 4) = some (aI 1500 (gm)) := hs_n eh296 ne82 fh295_5
          have fh296_6 : hh296.2 (B + 5) = some (aI 8000 (gup (gup (ar R) (400) (((p : Int) - gx k) % (p : Int))) (401) (1))) := hs_s eh296
          have fh296_7 : hh296.2 (B + 6) = some (aI 40 (d)) := hs_n eh296 (ne100).s fh295_7
          have fr296 : Fr [B + 5] hc235 hh296 := Fr.w0 fr295 (List.Mem.head _) eh296
          have e5 : hh296.2 (B + 5) = some (aI 8000 (ar (gup R 2 (gup (gup (R 2) 0 (((p : Int) - gx k) % (p : Int))) 1 1)))) := by
                                                                      have e9 := fh296_6
                                                                      rw [show gup (ar R) (400) (((p : Int) - gx k) % (p : Int)) = gup (ar R) (200 * 2 + 0) (((p : Int) - gx k) % (p : Int)) from rfl, ar_w R (by omega) (by omega), show (401 : Int) = 200 * 2 + 1 by omega, ar_wg _ _ (by omega) (by omega)] at e9
                                                                      exact e9
          refine g_aload_n 4 dX10_interpolate_218 rfl ?_
          refine g_iconst dX10_interpolate_219 ?_
          refine g_callV (nc2 := 0) (ns2 := 0) (ci := 10) (As := [.int (gI (2))]) (st := []) rfl dX10_interpolate_220 okX10_measure lX10_164 itX10_measure seX10_measure rfl fh296_4 (by decide) (by decide) rfl (Nat.le_of_ble_eq_true rfl) (sM_measure N _ B p hp hp2 hf le fc pn rn hn qn (2) (by omega) fh296_4 ((gup R 2 (gup (gup (R 2) 0 (((p : Int) - gx k) % (p : Int))) 1 1))) (d) (lin hp (zi hp (gx k))) e5 fh296_7 (fun j j0 j1 => by
                                                                      rw [gup_s]
                                                                      by_cases z1 : j = 1
                                                                      · rw [z1, gup_s]; omega
                                                                      · rw [gup_n _ _ z1]
                                                                        by_cases z2 : j = 0
                                                                        · rw [z2, gup_s]; exact em_in hp _
                                                                        · rw [gup_n _ _ z2, (hz9.at hu hv hR hD).2 j j0 j1]; exact cf_in _ hp _) (by
                                                                      rw [gup_s]
                                                                      exact lin_ph hp (by rw [gup_n _ _ (by omega), gup_s]) (gup_s _ _ _) (fun q q0 q1 => by
                                                                        rw [gup_n _ _ (by omega), gup_n _ _ (by omega), (hz9.at hu hv hR hD).2 q (by omega) (by omega), cf_hi hp (cz_po hp _) (by
                                                                            have : dgi hp (cz hp (zi hp 0)) = -1 := by rw [cz_z0]; exact dgi_0 hp
                                                                            omega)]))) (by omega) (by omega) (fun v297 hc297 q297 => ?_)
          obtain ⟨rfl, mfc298, rn298⟩ := q297
          have mfd298 : MF B [] [2] hc235 hc297 := (MF.one (r := 2) fr296 hu hv hR hD e5 fh296_7 (fun s hs => gup_n _ _ hs) (fun _ _ => rfl)).tr mfc298
          have fk299_0 : hc297.2 (B + 7) = some (aJ 6400 (g7)) := Fr.at0 mfc298.1 (Ni.c ⟨(ne101).s, (ne117).s⟩ (Ni.n _)) fh296_0
          have fk299_1 : hc297.2 (B + 8) = some (aI 11520 (g8)) := Fr.at0 mfc298.1 (Ni.c ⟨(ne102).s, (ne118).s⟩ (Ni.n _)) fh296_1
          have fk299_2 : hc297.2 (B + 21) = some (aI 41 (gx)) := Fr.at0 mfc298.1 (Ni.c ⟨(ne115).s, (ne131).s⟩ (Ni.n _)) fh296_2
          have fk299_3 : hc297.2 (B + 22) = some (aI 41 (gv)) := Fr.at0 mfc298.1 (Ni.c ⟨(ne116).s, (ne132).s⟩ (Ni.n _)) fh296_3
          have fk299_4 : hc297.2 (B) = some (mO B ((p : Int)) (hf) (le) (fc) (pn) (rn) (hn) (qn)) := Fr.at0 mfc298.1 (Ni.c ⟨ne4, ne5⟩ (Ni.n _)) fh296_4
          have fk299_5 : hc297.2 (B + 4) = some (aI 1500 (gm)) := Fr.at0 mfc298.1 (Ni.c ⟨ne82, ne83⟩ (Ni.n _)) fh296_5
          have fr299 : Fr [B + 5] hc235 hc297 := (fr296).tr ((mfc298.1).mo (sub_c (List.Mem.head _) sub_n))
          refine Go.nf (h' := hc297) (st' := []) rfl rfl (Nat.le_refl _) (Nat.le_refl _) ?_
          have fk350_0 : hc297.2 (B + 7) = some (aJ 6400 (g7)) := Fr.at0 (mfd298).1 (Ni.c ⟨(ne101).s, (ne117).s⟩ (Ni.n _)) fk237_0
          have fk350_1 : hc297.2 (B + 8) = some (aI 11520 (g8)) := Fr.at0 (mfd298).1 (Ni.c ⟨(ne102).s, (ne118).s⟩ (Ni.n _)) fk237_1
          have fk350_2 : hc297.2 (B + 21) = some (aI 41 (gx)) := Fr.at0 (mfd298).1 (Ni.c ⟨(ne115).s, (ne131).s⟩ (Ni.n _)) fk237_2
          have fk350_3 : hc297.2 (B + 22) = some (aI 41 (gv)) := Fr.at0 (mfd298).1 (Ni.c ⟨(ne116).s, (ne132).s⟩ (Ni.n _)) fk237_3
          have fk350_4 : hc297.2 (B) = some (mO B ((p : Int)) (hf) (le) (fc) (pn) (rn) (hn) (qn)) := Fr.at0 (mfd298).1 (Ni.c ⟨ne4, ne5⟩ (Ni.n _)) fk237_4
          have fk350_5 : hc297.2 (B + 4) = some (aI 1500 (gm)) := Fr.at0 (mfd298).1 (Ni.c ⟨ne82, ne83⟩ (Ni.n _)) fk237_5
          have rk350_0 : MP hp B hc297 (T) := (rk237_0).fr (mfd298).1 (Ni.c ⟨ne25, ne26⟩ (Ni.n _)) (Ni.c ⟨ne45, ne46⟩ (Ni.n _))
          have rk350_1 : MWA B hc297 := (rk237_1).fr (mfd298).1 (Ni.c ⟨ne64, ne65⟩ (Ni.n _))
          have rk350_2 : MG hp B hc297 (1) (nwP hp (fun i => zi hp (gx i)) (k).toNat) := (rk237_2).fr hp2 mfd298 (Nr.c (by omega) Nr.n)
          have rk350_3 : MG hp B hc297 (3) (pml hp (nwP hp (fun i => zi hp (gx i)) (k).toNat) (cz hp (zi hp (c)))) := (rk237_4).fr hp2 mfd298 (Nr.c (by omega) Nr.n)
          have rk350_4 : MG hp B hc297 (4) (cz hp (zi hp (0))) := (rk237_5).fr hp2 mfd298 (Nr.c (by omega) Nr.n)
          have rk350_5 : MG hp B hc297 (5) (psb hp (cz hp (zi hp (0))) (pml hp (nwP hp (fun i => zi hp (gx i)) (k).toNat) (cz hp (zi hp (c))))) := (rk237_6).fr hp2 mfd298 (Nr.c (by omega) Nr.n)
          have rk350_6 : MG hp B hc297 (6) (psb hp (nwO hp (fun i => zi hp (gx i)) (fun i => zi hp (gv i)) (k).toNat) (psb hp (cz hp (zi hp (0))) (pml hp (nwP hp (fun i => zi hp (gx i)) (k).toNat) (cz hp (zi hp (c)))))) := (rk237_7).fr hp2 mfd298 (Nr.c (by omega) Nr.n)
          have rk350_7 : MG hp B hc297 (0) (psb hp (nwO hp (fun i => zi hp (gx i)) (fun i => zi hp (gv i)) (k).toNat) (psb hp (cz hp (zi hp (0))) (pml hp (nwP hp (fun i => zi hp (gx i)) (k).toNat) (cz hp (zi hp (c)))))) := (rk237_8).fr hp2 mfd298 (Nr.c (by omega) Nr.n)
          have fr350 : MF B [B, B + 1, B + 3] [0, 1, 2, 3, 4, 5, 6] h hc297 := (fr237).tr ((mfd298).mo sub_n (sbI_c (List.Mem.tail _ (List.Mem.tail _ (List.Mem.head _))) sbI_n))
          refine g_aload_n 4 dX10_interpolate_223 rfl ?_
          refine g_iconst dX10_interpolate_224 ?_
          refine g_iconst dX10_interpolate_225 ?_
          refine g_iconst dX10_interpolate_226 ?_
          refine g_callV (nc2 := 0) (ns2 := 0) (ci := 10) (As := [.int (gI (1)), .int (gI (2)), .int (gI (3))]) (st := []) rfl dX10_interpolate_227 okX10_product lX10_189 itX10_product seX10_product rfl fk350_4 (by decide) (by decide) rfl (Nat.le_of_ble_eq_true rfl) (sM_product N _ B p hp hp2 hf le fc pn rn hn qn (1) (2) (3) (by omega) (by omega) (by omega) (nwP hp (fun i => zi hp (gx i)) (k).toNat) (lin hp (zi hp (gx k))) fk350_4 (fr350).2.1 rk350_2 rn298 (by omega)) (by omega) (by omega) (fun v351 hc351 q351 => ?_)
          obtain ⟨rfl, mfc352, rn352_0⟩ := q351
          have fk353_0 : hc351.2 (B + 7) = some (aJ 6400 (g7)) := Fr.at0 (mfc352).1 (Ni.c ⟨(ne101).s, (ne117).s⟩ (Ni.n _)) fk350_0
          have fk353_1 : hc351.2 (B + 8) = some (aI 11520 (g8)) := Fr.at0 (mfc352).1 (Ni.c ⟨(ne102).s, (ne118).s⟩ (Ni.n _)) fk350_1
          have fk353_2 : hc351.2 (B + 21) = some (aI 41 (gx)) := Fr.at0 (mfc352).1 (Ni.c ⟨(ne115).s, (ne131).s⟩ (Ni.n _)) fk350_2
          have fk353_3 : hc351.2 (B + 22) = some (aI 41 (gv)) := Fr.at0 (mfc352).1 (Ni.c ⟨(ne116).s, (ne132).s⟩ (Ni.n _)) fk350_3
          have fk353_4 : hc351.2 (B) = some (mO B ((p : Int)) (hf) (le) (fc) (pn) (rn) (hn) (qn)) := Fr.at0 (mfc352).1 (Ni.c ⟨ne4, ne5⟩ (Ni.n _)) fk350_4
          have fk353_5 : hc351.2 (B + 4) = some (aI 1500 (gm)) := Fr.at0 (mfc352).1 (Ni.c ⟨ne82, ne83⟩ (Ni.n _)) fk350_5
          have rk353_0 : MP hp B hc351 (T) := (rk350_0).fr (mfc352).1 (Ni.c ⟨ne25, ne26⟩ (Ni.n _)) (Ni.c ⟨ne45, ne46⟩ (Ni.n _))
          have rk353_1 : MWA B hc351 := (rk350_1).fr (mfc352).1 (Ni.c ⟨ne64, ne65⟩ (Ni.n _))
          have rk353_2 : MG hp B hc351 (1) (nwP hp (fun i => zi hp (gx i)) (k).toNat) := (rk350_2).fr hp2 mfc352 (Nr.c (by omega) Nr.n)
          have rk353_4 : MG hp B hc351 (4) (cz hp (zi hp (0))) := (rk350_4).fr hp2 mfc352 (Nr.c (by omega) Nr.n)
          have rk353_5 : MG hp B hc351 (5) (psb hp (cz hp (zi hp (0))) (pml hp (nwP hp (fun i => zi hp (gx i)) (k).toNat) (cz hp (zi hp (c))))) := (rk350_5).fr hp2 mfc352 (Nr.c (by omega) Nr.n)
          have rk353_6 : MG hp B hc351 (6) (psb hp (nwO hp (fun i => zi hp (gx i)) (fun i => zi hp (gv i)) (k).toNat) (psb hp (cz hp (zi hp (0))) (pml hp (nwP hp (fun i => zi hp (gx i)) (k).toNat) (cz hp (zi hp (c)))))) := (rk350_6).fr hp2 mfc352 (Nr.c (by omega) Nr.n)
          have rk353_7 : MG hp B hc351 (0) (psb hp (nwO hp (fun i => zi hp (gx i)) (fun i => zi hp (gv i)) (k).toNat) (psb hp (cz hp (zi hp (0))) (pml hp (nwP hp (fun i => zi hp (gx i)) (k).toNat) (cz hp (zi hp (c)))))) := (rk350_7).fr hp2 mfc352 (Nr.c (by omega) Nr.n)
          have rk353_8 : MG hp B hc351 (2) (lin hp (zi hp (gx k))) := (rn298).fr hp2 mfc352 (Nr.c (by omega) Nr.n)
          have fr353 : MF B [B, B + 1, B + 3] [0, 1, 2, 3, 4, 5, 6] h hc351 := (fr350).tr ((mfc352).mo sub_n (sbI_c (List.Mem.tail _ (List.Mem.tail _ (List.Mem.tail _ (List.Mem.head _)))) sbI_n))
          refine Go.nf (h' := hc351) (st' := []) rfl rfl (Nat.le_refl _) (Nat.le_refl _) ?_
          refine g_aload_n 4 dX10_interpolate_230 rfl ?_
          refine g_iconst dX10_interpolate_231 ?_
          refine g_iconst dX10_interpolate_232 ?_
          refine g_callV (nc2 := 0) (ns2 := 0) (ci := 10) (As := [.int (gI (3)), .int (gI (1))]) (st := []) rfl dX10_interpolate_233 okX10_copy lX10_167 itX10_copy seX10_copy rfl fk353_4 (by decide) (by decide) rfl (Nat.le_of_ble_eq_true rfl) (sM_copy N _ B p hp hp2 hf le fc pn rn hn qn (3) (1) (by omega) (by omega) (pml hp (nwP hp (fun i => zi hp (gx i)) (k).toNat) (lin hp (zi hp (gx k)))) fk353_4 (fr353).2.1 rn352_0) (by omega) (by omega) (fun v354 hc354 q354 => ?_)
          obtain ⟨rfl, mfc355, rn355_0⟩ := q354
          have fk356_0 : hc354.2 (B + 7) = some (aJ 6400 (g7)) := Fr.at0 (mfc355).1 (Ni.c ⟨(ne101).s, (ne117).s⟩ (Ni.n _)) fk353_0
          have fk356_1 : hc354.2 (B + 8) = some (aI 11520 (g8)) := Fr.at0 (mfc355).1 (Ni.c ⟨(ne102).s, (ne118).s⟩ (Ni.n _)) fk353_1
          have fk356_2 : hc354.2 (B + 21) = some (aI 41 (gx)) := Fr.at0 (mfc355).1 (Ni.c ⟨(ne115).s, (ne131).s⟩ (Ni.n _)) fk353_2
          have fk356_3 : hc354.2 (B + 22) = some (aI 41 (gv)) := Fr.at0 (mfc355).1 (Ni.c ⟨(ne116).s, (ne132).s⟩ (Ni.n _)) fk353_3
          have fk356_4 : hc354.2 (B) = some (mO B ((p : Int)) (hf) (le) (fc) (pn) (rn) (hn) (qn)) := Fr.at0 (mfc355).1 (Ni.c ⟨ne4, ne5⟩ (Ni.n _)) fk353_4
          have fk356_5 : hc354.2 (B + 4) = some (aI 1500 (gm)) := Fr.at0 (mfc355).1 (Ni.c ⟨ne82, ne83⟩ (Ni.n _)) fk353_5
          have rk356_0 : MP hp B hc354 (T) := (rk353_0).fr (mfc355).1 (Ni.c ⟨ne25, ne26⟩ (Ni.n _)) (Ni.c ⟨ne45, ne46⟩ (Ni.n _))
          have rk356_1 : MWA B hc354 := (rk353_1).fr (mfc355).1 (Ni.c ⟨ne64, ne65⟩ (Ni.n _))
          have rk356_3 : MG hp B hc354 (4) (cz hp (zi hp (0))) := (rk353_4).fr hp2 mfc355 (Nr.c (by omega) Nr.n)
          have rk356_4 : MG hp B hc354 (5) (psb hp (cz hp (zi hp (0))) (pml hp (nwP hp (fun i => zi hp (gx i)) (k).toNat) (cz hp (zi hp (c))))) := (rk353_5).fr hp2 mfc355 (Nr.c (by omega) Nr.n)
          have rk356_5 : MG hp B hc354 (6) (psb hp (nwO hp (fun i => zi hp (gx i)) (fun i => zi hp (gv i)) (k).toNat) (psb hp (cz hp (zi hp (0))) (pml hp (nwP hp (fun i => zi hp (gx i)) (k).toNat) (cz hp (zi hp (c)))))) := (rk353_6).fr hp2 mfc355 (Nr.c (by omega) Nr.n)
          have rk356_6 : MG hp B hc354 (0) (psb hp (nwO hp (fun i => zi hp (gx i)) (fun i => zi hp (gv i)) (k).toNat) (psb hp (cz hp (zi hp (0))) (pml hp (nwP hp (fun i => zi hp (gx i)) (k).toNat) (cz hp (zi hp (c)))))) := (rk353_7).fr hp2 mfc355 (Nr.c (by omega) Nr.n)
          have rk356_7 : MG hp B hc354 (2) (lin hp (zi hp (gx k))) := (rk353_8).fr hp2 mfc355 (Nr.c (by omega) Nr.n)
          have rk356_8 : MG hp B hc354 (3) (pml hp (nwP hp (fun i => zi hp (gx i)) (k).toNat) (lin hp (zi hp (gx k)))) := (rn352_0).fr hp2 mfc355 (Nr.c (by omega) Nr.n)
          have fr356 : MF B [B, B + 1, B + 3] [0, 1, 2, 3, 4, 5, 6] h hc354 := (fr353).tr ((mfc355).mo sub_n (sbI_c (List.Mem.tail _ (List.Mem.head _)) sbI_n))
          refine Go.nf (h' := hc354) (st' := []) rfl rfl (Nat.le_refl _) (Nat.le_refl _) ?_
          refine g_iinc 3 (ls2 := [(1, .int (gI (k + 1))), (6, .long (gJ (c))), (4, .long (gJ (v))), (2, .long (gJ (u))), (0, .ref (B))]) dX10_interpolate_236 rfl (by decide) rfl ?_
          refine g_goto (tgt := 14) dX10_interpolate_239 rfl ?_
          refine Go.sub [0, 4] rfl ?_
          exact ih_lk _ (by omega) (k + 1) hc354 rfl fr356 fk356_4 fk356_5 rk356_0 rk356_1 (by
                                                                      have e9 : psb hp (nwO hp (fun i => zi hp (gx i)) (fun i => zi hp (gv i)) (k).toNat) (psb hp (cz hp (zi hp (0))) (pml hp (nwP hp (fun i => zi hp (gx i)) (k).toNat) (cz hp (zi hp (c))))) = nwO hp (fun i => zi hp (gx i)) (fun i => zi hp (gv i)) (k + 1).toNat := by
                                                                        rw [show (k + 1).toNat = k.toNat + 1 by omega]
                                                                        letI := pR hp
                                                                        show nwO hp (fun i => zi hp (gx i)) (fun i => zi hp (gv i)) (k).toNat - (cz hp (zi hp 0) - nwP hp (fun i => zi hp (gx i)) (k).toNat * cz hp (zi hp c)) = nwO hp (fun i => zi hp (gx i)) (fun i => zi hp (gv i)) (k).toNat + cz hp (nwC hp (nwO hp (fun i => zi hp (gx i)) (fun i => zi hp (gv i)) (k).toNat) (nwP hp (fun i => zi hp (gx i)) (k).toNat) (zi hp (gx (k.toNat : Int))) (zi hp (gv (k.toNat : Int)))) * nwP hp (fun i => zi hp (gx i)) (k).toNat
                                                                        rw [show ((k.toNat : Nat) : Int) = k by omega, ← hcz, cz_z0]
                                                                        generalize nwO hp (fun i => zi hp (gx i)) (fun i => zi hp (gv i)) (k).toNat = O
                                                                        generalize nwP hp (fun i => zi hp (gx i)) (k).toNat = P
                                                                        generalize cz hp (zi hp c) = q
                                                                        grind
                                                                      rw [← e9]; exact rk356_6) (by
                                                                      have e9 : pml hp (nwP hp (fun i => zi hp (gx i)) (k).toNat) (lin hp (zi hp (gx k))) = nwP hp (fun i => zi hp (gx i)) (k + 1).toNat := by
                                                                        rw [show (k + 1).toNat = k.toNat + 1 by omega]
                                                                        show _ = pml hp (nwP hp (fun i => zi hp (gx i)) (k).toNat) (lin hp (zi hp (gx (k.toNat : Int))))
                                                                        rw [show ((k.toNat : Nat) : Int) = k by omega]
                                                                      rw [← e9]; exact rn355_0) (by omega)
        · skip
          refine g_lload_n 2 dX10_interpolate_36 rfl ?_
          refine g_aload_n 4 dX10_interpolate_37 rfl ?_
          refine g_getf 28 dX10_interpolate_38 kX10 (by decide) fX10_72 cf_li_0 rfl ?_
          refine g_iload_n 3 dX10_interpolate_41 rfl ?_
          refine g_iaload dX10_interpolate_42 cg_li_4 (by omega) (by omega) (by omega) ?_
          refine g_i2l dX10_interpolate_43 (by unfold gW; omega) ?_
          refine g_lmul dX10_interpolate_44 ?_
          obtain ⟨R1, hR1, hnum1⟩ := MG.num cr_li_2
          refine g_aload_n 4 dX10_interpolate_45 rfl ?_
          refine g_getf 5 dX10_interpolate_46 kX10 (by decide) fX10_23 cf_li_0 rfl ?_
          refine g_iload 0 dX10_interpolate_49 rfl ?_
          refine g_iaload dX10_interpolate_51 hR1 (by omega) (by omega) (by omega) ?_
          have hv1_ : (ar R1) (i) = cf (nwO hp (fun i => zi hp (gx i)) (fun i => zi hp (gv i)) (k).toNat) i := by
                                                                      have e9 := ar_r R1 (r := 0) (i := i) (by omega) (by omega)
                                                                      rw [show (200 * 0 + i : Int) = i by omega] at e9
                                                                      rw [e9]; exact hnum1 _ (by omega) (by omega)
          rw [hv1_]
          have hcb1 := cf_in (nwO hp (fun i => zi hp (gx i)) (fun i => zi hp (gv i)) (k).toNat) hp i
          refine g_i2l dX10_interpolate_52 (by unfold gW; omega) ?_
          refine g_ladd dX10_interpolate_53 ?_
          refine g_aload_n 4 dX10_interpolate_54 rfl ?_
          refine g_getf 0 dX10_interpolate_55 kX10 (by decide) fX10_78 cf_li_0 rfl ?_
          refine g_i2l dX10_interpolate_58 (by unfold gW; omega) ?_
          refine g_lrem dX10_interpolate_59 (by unfold gX; omega) (by unfold gX; omega) (by omega) ?_
          rw [tm_em (show 0 ≤ u * gx k + cf (nwO hp (fun i => zi hp (gx i)) (fun i => zi hp (gv i)) (k).toNat) i by omega)]
          refine g_lstore_n (ls2 := [(2, .long (gJ ((u * gx k + cf (nwO hp (fun i => zi hp (gx i)) (fun i => zi hp (gv i)) (k).toNat) i) % (p : Int)))), (6, .int (gI (i))), (4, .long (gJ (v))), (1, .int (gI (k))), (0, .ref (B))]) dX10_interpolate_60 rfl (by decide) rfl ?_
          refine g_lload 2 dX10_interpolate_61 rfl ?_
          refine g_aload_n 4 dX10_interpolate_63 rfl ?_
          refine g_getf 28 dX10_interpolate_64 kX10 (by decide) fX10_72 cf_li_0 rfl ?_
          refine g_iload_n 3 dX10_interpolate_67 rfl ?_
          refine g_iaload dX10_interpolate_68 cg_li_4 (by omega) (by omega) (by omega) ?_
          refine g_i2l dX10_interpolate_69 (by unfold gW; omega) ?_
          refine g_lmul dX10_interpolate_70 ?_
          obtain ⟨R2, hR2, hnum2⟩ := MG.num cr_li_3
          refine g_aload_n 4 dX10_interpolate_71 rfl ?_
          refine g_getf 5 dX10_interpolate_72 kX10 (by decide) fX10_23 cf_li_0 rfl ?_
          refine g_sipush dX10_interpolate_75 (by decide) ?_
          refine g_iload 1 dX10_interpolate_78 rfl ?_
          refine g_iadd dX10_interpolate_80 ?_
          refine g_iaload dX10_interpolate_81 hR2 (by omega) (by omega) (by omega) ?_
          have hv2_ : (ar R2) ((200) + (i)) = cf (nwP hp (fun i => zi hp (gx i)) (k).toNat) i := by
                                                                      have e9 := ar_r R2 (r := 1) (i := i) (by omega) (by omega)
                                                                      rw [show (200 * 1 + i : Int) = 200 + i by omega] at e9
                                                                      rw [e9]; exact hnum2 _ (by omega) (by omega)
          rw [hv2_]
          have hcb2 := cf_in (nwP hp (fun i => zi hp (gx i)) (k).toNat) hp i
          refine g_i2l dX10_interpolate_82 (by unfold gW; omega) ?_
          refine g_ladd dX10_interpolate_83 ?_
          refine g_aload_n 4 dX10_interpolate_84 rfl ?_
          refine g_getf 0 dX10_interpolate_85 kX10 (by decide) fX10_78 cf_li_0 rfl ?_
          refine g_i2l dX10_interpolate_88 (by unfold gW; omega) ?_
          refine g_lrem dX10_interpolate_89 (by unfold gX; omega) (by unfold gX; omega) (by omega) ?_
          rw [tm_em (show 0 ≤ v * gx k + cf (nwP hp (fun i => zi hp (gx i)) (k).toNat) i by omega)]
          refine g_lstore (ls2 := [(4, .long (gJ ((v * gx k + cf (nwP hp (fun i => zi hp (gx i)) (k).toNat) i) % (p : Int)))), (2, .long (gJ ((u * gx k + cf (nwO hp (fun i => zi hp (gx i)) (fun i => zi hp (gv i)) (k).toNat) i) % (p : Int)))), (6, .int (gI (i))), (1, .int (gI (k))), (0, .ref (B))]) dX10_interpolate_90 (by decide) rfl ?_
          refine g_iinc 2 (ls2 := [(6, .int (gI (i + (-1)))), (4, .long (gJ ((v * gx k + cf (nwP hp (fun i => zi hp (gx i)) (k).toNat) i) % (p : Int)))), (2, .long (gJ ((u * gx k + cf (nwO hp (fun i => zi hp (gx i)) (fun i => zi hp (gv i)) (k).toNat) i) % (p : Int)))), (1, .int (gI (k))), (0, .ref (B))]) dX10_interpolate_92 rfl (by decide) rfl ?_
          refine g_goto (tgt := 31) dX10_interpolate_95 rfl ?_
          exact ih_li _ (by omega) (i + (-1)) ((u * gx k + cf (nwO hp (fun i => zi hp (gx i)) (fun i => zi hp (gv i)) (k).toNat) i) % (p : Int)) ((v * gx k + cf (nwP hp (fun i => zi hp (gx i)) (k).toNat) i) % (p : Int)) hli rfl fr_li cf_li_0 cf_li_1 cr_li_0 cr_li_1 cr_li_2 cr_li_3 (by omega) (by
                                                                      rw [hu_, fv_st, show (i + (-1) + 1).toNat = i.toNat by omega, hr_s hp _ _ (show i.toNat < 42 by omega), show i.toNat + 1 = (i + 1).toNat by omega]
                                                                      have e9 := cf_zi hp (nwO hp (fun i => zi hp (gx i)) (fun i => zi hp (gv i)) (k).toNat) i.toNat
                                                                      rw [show ((i.toNat : Nat) : Int) = i by omega] at e9
                                                                      rw [e9]) (by
                                                                      rw [hv_, fv_st, show (i + (-1) + 1).toNat = i.toNat by omega, hr_s hp _ _ (show i.toNat < 42 by omega), show i.toNat + 1 = (i + 1).toNat by omega]
                                                                      have e9 := cf_zi hp (nwP hp (fun i => zi hp (gx i)) (k).toNat) i.toNat
                                                                      rw [show ((i.toNat : Nat) : Int) = i by omega] at e9
                                                                      rw [e9])
      exact li _ (41) (0) (0) hlk rfl fr_lk cf_lk_0 cf_lk_1 cr_lk_0 cr_lk_1 cr_lk_2 cr_lk_3 (by omega) (by rw [hr_e hp _ _ (show 42 ≤ ((41 : Int) + 1).toNat by decide), f_zero hp]) (by rw [hr_e hp _ _ (show 42 ≤ ((41 : Int) + 1).toNat by decide), f_zero hp])
  exact lk _ (0) hc4 rfl fr6 fk6_0 fk6_1 rk6_0 rk6_1 (by
                                                                      have e9 : cz hp (zi hp 0) = nwO hp (fun i => zi hp (gx i)) (fun i => zi hp (gv i)) (0 : Int).toNat := rfl
                                                                      rw [← e9]; exact rk6_2) (by
                                                                      have e9 : cz hp (zi hp 1) = nwP hp (fun i => zi hp (gx i)) (0 : Int).toNat := rfl
                                                                      rw [← e9]; exact rn5_0) (by omega)
