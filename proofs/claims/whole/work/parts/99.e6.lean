/-! what the premises give of the start -/
def zNar : List Cond := flatC (Jvm.Cond.and given_1 narrow_1)
def zEnt : List Nat := [115, 121, 124, 127, 130, 133, 136, 139, 142, 145, 148, 151, 154, 157, 160, 163, 166, 169, 172, 175, 178, 181]
abbrev dW : String := "LLotOffice$Word;"
abbrev dA : String := "[LLotOffice$Word;"
abbrev zSt (i : Nat) : Term := .static RX9 (zNmW.getD i "") dW
abbrev zSg (i : Nat) : Term := .string RX9 (zEnt.getD i 0)
abbrev zSv (i : Nat) : Term := .field (zSg i) "java/lang/String" "value" "[B"
theorem z_22 {P : Nat → Prop} (h0 : P 0) (h1 : P 1) (h2 : P 2) (h3 : P 3) (h4 : P 4) (h5 : P 5) (h6 : P 6) (h7 : P 7) (h8 : P 8) (h9 : P 9) (h10 : P 10) (h11 : P 11) (h12 : P 12) (h13 : P 13) (h14 : P 14) (h15 : P 15) (h16 : P 16) (h17 : P 17) (h18 : P 18) (h19 : P 19) (h20 : P 20) (h21 : P 21) : ∀ i, i < 22 → P i := by
  intro i hi
  obtain rfl | rfl | rfl | rfl | rfl | rfl | rfl | rfl | rfl | rfl | rfl | rfl | rfl | rfl | rfl | rfl | rfl | rfl | rfl | rfl | rfl | rfl : i = 0 ∨ i = 1 ∨ i = 2 ∨ i = 3 ∨ i = 4 ∨ i = 5 ∨ i = 6 ∨ i = 7 ∨ i = 8 ∨ i = 9 ∨ i = 10 ∨ i = 11 ∨ i = 12 ∨ i = 13 ∨ i = 14 ∨ i = 15 ∨ i = 16 ∨ i = 17 ∨ i = 18 ∨ i = 19 ∨ i = 20 ∨ i = 21 := by omega
  · exact h0
  · exact h1
  · exact h2
  · exact h3
  · exact h4
  · exact h5
  · exact h6
  · exact h7
  · exact h8
  · exact h9
  · exact h10
  · exact h11
  · exact h12
  · exact h13
  · exact h14
  · exact h15
  · exact h16
  · exact h17
  · exact h18
  · exact h19
  · exact h20
  · exact h21
theorem zn_ex : ∀ i, i < 22 → (Cond.exactly (zSt i) RX9) ∈ zNar := z_22 (P := fun i => (Cond.exactly (zSt i) RX9) ∈ zNar) (List.mem_of_getElem? (i := 68) (by decide +kernel)) (List.mem_of_getElem? (i := 36) (by decide +kernel)) (List.mem_of_getElem? (i := 74) (by decide +kernel)) (List.mem_of_getElem? (i := 48) (by decide +kernel)) (List.mem_of_getElem? (i := 80) (by decide +kernel)) (List.mem_of_getElem? (i := 86) (by decide +kernel)) (List.mem_of_getElem? (i := 92) (by decide +kernel)) (List.mem_of_getElem? (i := 42) (by decide +kernel)) (List.mem_of_getElem? (i := 98) (by decide +kernel)) (List.mem_of_getElem? (i := 60) (by decide +kernel)) (List.mem_of_getElem? (i := 54) (by decide +kernel)) (List.mem_of_getElem? (i := 104) (by decide +kernel)) (List.mem_of_getElem? (i := 110) (by decide +kernel)) (List.mem_of_getElem? (i := 116) (by decide +kernel)) (List.mem_of_getElem? (i := 122) (by decide +kernel)) (List.mem_of_getElem? (i := 128) (by decide +kernel)) (List.mem_of_getElem? (i := 134) (by decide +kernel)) (List.mem_of_getElem? (i := 140) (by decide +kernel)) (List.mem_of_getElem? (i := 146) (by decide +kernel)) (List.mem_of_getElem? (i := 152) (by decide +kernel)) (List.mem_of_getElem? (i := 158) (by decide +kernel)) (List.mem_of_getElem? (i := 164) (by decide +kernel))
theorem zn_ord : ∀ i, i < 22 → (Cond.eq (.field (zSt i) "java/lang/Enum" "ordinal" "I") (.int (Int32.ofNat i))) ∈ zNar := z_22 (P := fun i => (Cond.eq (.field (zSt i) "java/lang/Enum" "ordinal" "I") (.int (Int32.ofNat i))) ∈ zNar) (List.mem_of_getElem? (i := 69) (by decide +kernel)) (List.mem_of_getElem? (i := 37) (by decide +kernel)) (List.mem_of_getElem? (i := 75) (by decide +kernel)) (List.mem_of_getElem? (i := 49) (by decide +kernel)) (List.mem_of_getElem? (i := 81) (by decide +kernel)) (List.mem_of_getElem? (i := 87) (by decide +kernel)) (List.mem_of_getElem? (i := 93) (by decide +kernel)) (List.mem_of_getElem? (i := 43) (by decide +kernel)) (List.mem_of_getElem? (i := 99) (by decide +kernel)) (List.mem_of_getElem? (i := 61) (by decide +kernel)) (List.mem_of_getElem? (i := 55) (by decide +kernel)) (List.mem_of_getElem? (i := 105) (by decide +kernel)) (List.mem_of_getElem? (i := 111) (by decide +kernel)) (List.mem_of_getElem? (i := 117) (by decide +kernel)) (List.mem_of_getElem? (i := 123) (by decide +kernel)) (List.mem_of_getElem? (i := 129) (by decide +kernel)) (List.mem_of_getElem? (i := 135) (by decide +kernel)) (List.mem_of_getElem? (i := 141) (by decide +kernel)) (List.mem_of_getElem? (i := 147) (by decide +kernel)) (List.mem_of_getElem? (i := 153) (by decide +kernel)) (List.mem_of_getElem? (i := 159) (by decide +kernel)) (List.mem_of_getElem? (i := 165) (by decide +kernel))
theorem zn_txt : ∀ i, i < 22 → (Cond.eq (.field (zSt i) RX9 "text" "Ljava/lang/String;") (zSg i)) ∈ zNar := z_22 (P := fun i => (Cond.eq (.field (zSt i) RX9 "text" "Ljava/lang/String;") (zSg i)) ∈ zNar) (List.mem_of_getElem? (i := 70) (by decide +kernel)) (List.mem_of_getElem? (i := 38) (by decide +kernel)) (List.mem_of_getElem? (i := 76) (by decide +kernel)) (List.mem_of_getElem? (i := 50) (by decide +kernel)) (List.mem_of_getElem? (i := 82) (by decide +kernel)) (List.mem_of_getElem? (i := 88) (by decide +kernel)) (List.mem_of_getElem? (i := 94) (by decide +kernel)) (List.mem_of_getElem? (i := 44) (by decide +kernel)) (List.mem_of_getElem? (i := 100) (by decide +kernel)) (List.mem_of_getElem? (i := 62) (by decide +kernel)) (List.mem_of_getElem? (i := 56) (by decide +kernel)) (List.mem_of_getElem? (i := 106) (by decide +kernel)) (List.mem_of_getElem? (i := 112) (by decide +kernel)) (List.mem_of_getElem? (i := 118) (by decide +kernel)) (List.mem_of_getElem? (i := 124) (by decide +kernel)) (List.mem_of_getElem? (i := 130) (by decide +kernel)) (List.mem_of_getElem? (i := 136) (by decide +kernel)) (List.mem_of_getElem? (i := 142) (by decide +kernel)) (List.mem_of_getElem? (i := 148) (by decide +kernel)) (List.mem_of_getElem? (i := 154) (by decide +kernel)) (List.mem_of_getElem? (i := 160) (by decide +kernel)) (List.mem_of_getElem? (i := 166) (by decide +kernel))
theorem zn_line : ∀ i, i < 22 → (Cond.eq (.field (zSt i) RX9 "line" "I") (.int (zWln.getD i 0))) ∈ zNar := z_22 (P := fun i => (Cond.eq (.field (zSt i) RX9 "line" "I") (.int (zWln.getD i 0))) ∈ zNar) (List.mem_of_getElem? (i := 71) (by decide +kernel)) (List.mem_of_getElem? (i := 39) (by decide +kernel)) (List.mem_of_getElem? (i := 77) (by decide +kernel)) (List.mem_of_getElem? (i := 51) (by decide +kernel)) (List.mem_of_getElem? (i := 83) (by decide +kernel)) (List.mem_of_getElem? (i := 89) (by decide +kernel)) (List.mem_of_getElem? (i := 95) (by decide +kernel)) (List.mem_of_getElem? (i := 45) (by decide +kernel)) (List.mem_of_getElem? (i := 101) (by decide +kernel)) (List.mem_of_getElem? (i := 63) (by decide +kernel)) (List.mem_of_getElem? (i := 57) (by decide +kernel)) (List.mem_of_getElem? (i := 107) (by decide +kernel)) (List.mem_of_getElem? (i := 113) (by decide +kernel)) (List.mem_of_getElem? (i := 119) (by decide +kernel)) (List.mem_of_getElem? (i := 125) (by decide +kernel)) (List.mem_of_getElem? (i := 131) (by decide +kernel)) (List.mem_of_getElem? (i := 137) (by decide +kernel)) (List.mem_of_getElem? (i := 143) (by decide +kernel)) (List.mem_of_getElem? (i := 149) (by decide +kernel)) (List.mem_of_getElem? (i := 155) (by decide +kernel)) (List.mem_of_getElem? (i := 161) (by decide +kernel)) (List.mem_of_getElem? (i := 167) (by decide +kernel))
theorem zn_asks : ∀ i, i < 22 → (Cond.eq (.field (zSt i) RX9 "asks" "I") (.int (zWas.getD i 0))) ∈ zNar := z_22 (P := fun i => (Cond.eq (.field (zSt i) RX9 "asks" "I") (.int (zWas.getD i 0))) ∈ zNar) (List.mem_of_getElem? (i := 72) (by decide +kernel)) (List.mem_of_getElem? (i := 40) (by decide +kernel)) (List.mem_of_getElem? (i := 78) (by decide +kernel)) (List.mem_of_getElem? (i := 52) (by decide +kernel)) (List.mem_of_getElem? (i := 84) (by decide +kernel)) (List.mem_of_getElem? (i := 90) (by decide +kernel)) (List.mem_of_getElem? (i := 96) (by decide +kernel)) (List.mem_of_getElem? (i := 46) (by decide +kernel)) (List.mem_of_getElem? (i := 102) (by decide +kernel)) (List.mem_of_getElem? (i := 64) (by decide +kernel)) (List.mem_of_getElem? (i := 58) (by decide +kernel)) (List.mem_of_getElem? (i := 108) (by decide +kernel)) (List.mem_of_getElem? (i := 114) (by decide +kernel)) (List.mem_of_getElem? (i := 120) (by decide +kernel)) (List.mem_of_getElem? (i := 126) (by decide +kernel)) (List.mem_of_getElem? (i := 132) (by decide +kernel)) (List.mem_of_getElem? (i := 138) (by decide +kernel)) (List.mem_of_getElem? (i := 144) (by decide +kernel)) (List.mem_of_getElem? (i := 150) (by decide +kernel)) (List.mem_of_getElem? (i := 156) (by decide +kernel)) (List.mem_of_getElem? (i := 162) (by decide +kernel)) (List.mem_of_getElem? (i := 168) (by decide +kernel))
theorem zn_answer : ∀ i, i < 22 → (Cond.eq (.field (zSt i) RX9 "answer" "I") (.int (zWan.getD i 0))) ∈ zNar := z_22 (P := fun i => (Cond.eq (.field (zSt i) RX9 "answer" "I") (.int (zWan.getD i 0))) ∈ zNar) (List.mem_of_getElem? (i := 73) (by decide +kernel)) (List.mem_of_getElem? (i := 41) (by decide +kernel)) (List.mem_of_getElem? (i := 79) (by decide +kernel)) (List.mem_of_getElem? (i := 53) (by decide +kernel)) (List.mem_of_getElem? (i := 85) (by decide +kernel)) (List.mem_of_getElem? (i := 91) (by decide +kernel)) (List.mem_of_getElem? (i := 97) (by decide +kernel)) (List.mem_of_getElem? (i := 47) (by decide +kernel)) (List.mem_of_getElem? (i := 103) (by decide +kernel)) (List.mem_of_getElem? (i := 65) (by decide +kernel)) (List.mem_of_getElem? (i := 59) (by decide +kernel)) (List.mem_of_getElem? (i := 109) (by decide +kernel)) (List.mem_of_getElem? (i := 115) (by decide +kernel)) (List.mem_of_getElem? (i := 121) (by decide +kernel)) (List.mem_of_getElem? (i := 127) (by decide +kernel)) (List.mem_of_getElem? (i := 133) (by decide +kernel)) (List.mem_of_getElem? (i := 139) (by decide +kernel)) (List.mem_of_getElem? (i := 145) (by decide +kernel)) (List.mem_of_getElem? (i := 151) (by decide +kernel)) (List.mem_of_getElem? (i := 157) (by decide +kernel)) (List.mem_of_getElem? (i := 163) (by decide +kernel)) (List.mem_of_getElem? (i := 169) (by decide +kernel))
theorem zn_el : ∀ i, i < 22 → (Cond.eq (.elem (.static RX9 "ALL" dA) (.int (Int32.ofNat i))) (zSt i)) ∈ zNar := z_22 (P := fun i => (Cond.eq (.elem (.static RX9 "ALL" dA) (.int (Int32.ofNat i))) (zSt i)) ∈ zNar) (List.mem_of_getElem? (i := 9) (by decide +kernel)) (List.mem_of_getElem? (i := 10) (by decide +kernel)) (List.mem_of_getElem? (i := 11) (by decide +kernel)) (List.mem_of_getElem? (i := 12) (by decide +kernel)) (List.mem_of_getElem? (i := 13) (by decide +kernel)) (List.mem_of_getElem? (i := 14) (by decide +kernel)) (List.mem_of_getElem? (i := 15) (by decide +kernel)) (List.mem_of_getElem? (i := 16) (by decide +kernel)) (List.mem_of_getElem? (i := 17) (by decide +kernel)) (List.mem_of_getElem? (i := 18) (by decide +kernel)) (List.mem_of_getElem? (i := 19) (by decide +kernel)) (List.mem_of_getElem? (i := 20) (by decide +kernel)) (List.mem_of_getElem? (i := 21) (by decide +kernel)) (List.mem_of_getElem? (i := 22) (by decide +kernel)) (List.mem_of_getElem? (i := 23) (by decide +kernel)) (List.mem_of_getElem? (i := 24) (by decide +kernel)) (List.mem_of_getElem? (i := 25) (by decide +kernel)) (List.mem_of_getElem? (i := 26) (by decide +kernel)) (List.mem_of_getElem? (i := 27) (by decide +kernel)) (List.mem_of_getElem? (i := 28) (by decide +kernel)) (List.mem_of_getElem? (i := 29) (by decide +kernel)) (List.mem_of_getElem? (i := 30) (by decide +kernel))
theorem zn_sx : ∀ i, i < 22 → (Cond.exactly (zSg i) "java/lang/String") ∈ zNar := z_22 (P := fun i => (Cond.exactly (zSg i) "java/lang/String") ∈ zNar) (List.mem_of_getElem? (i := 214) (by decide +kernel)) (List.mem_of_getElem? (i := 182) (by decide +kernel)) (List.mem_of_getElem? (i := 221) (by decide +kernel)) (List.mem_of_getElem? (i := 195) (by decide +kernel)) (List.mem_of_getElem? (i := 229) (by decide +kernel)) (List.mem_of_getElem? (i := 238) (by decide +kernel)) (List.mem_of_getElem? (i := 247) (by decide +kernel)) (List.mem_of_getElem? (i := 188) (by decide +kernel)) (List.mem_of_getElem? (i := 255) (by decide +kernel)) (List.mem_of_getElem? (i := 208) (by decide +kernel)) (List.mem_of_getElem? (i := 201) (by decide +kernel)) (List.mem_of_getElem? (i := 265) (by decide +kernel)) (List.mem_of_getElem? (i := 276) (by decide +kernel)) (List.mem_of_getElem? (i := 286) (by decide +kernel)) (List.mem_of_getElem? (i := 295) (by decide +kernel)) (List.mem_of_getElem? (i := 303) (by decide +kernel)) (List.mem_of_getElem? (i := 312) (by decide +kernel)) (List.mem_of_getElem? (i := 324) (by decide +kernel)) (List.mem_of_getElem? (i := 334) (by decide +kernel)) (List.mem_of_getElem? (i := 343) (by decide +kernel)) (List.mem_of_getElem? (i := 355) (by decide +kernel)) (List.mem_of_getElem? (i := 366) (by decide +kernel))
theorem zn_sc : ∀ i, i < 22 → (Cond.eq (.field (zSg i) "java/lang/String" "coder" "B") (.int 0)) ∈ zNar := z_22 (P := fun i => (Cond.eq (.field (zSg i) "java/lang/String" "coder" "B") (.int 0)) ∈ zNar) (List.mem_of_getElem? (i := 215) (by decide +kernel)) (List.mem_of_getElem? (i := 183) (by decide +kernel)) (List.mem_of_getElem? (i := 222) (by decide +kernel)) (List.mem_of_getElem? (i := 196) (by decide +kernel)) (List.mem_of_getElem? (i := 230) (by decide +kernel)) (List.mem_of_getElem? (i := 239) (by decide +kernel)) (List.mem_of_getElem? (i := 248) (by decide +kernel)) (List.mem_of_getElem? (i := 189) (by decide +kernel)) (List.mem_of_getElem? (i := 256) (by decide +kernel)) (List.mem_of_getElem? (i := 209) (by decide +kernel)) (List.mem_of_getElem? (i := 202) (by decide +kernel)) (List.mem_of_getElem? (i := 266) (by decide +kernel)) (List.mem_of_getElem? (i := 277) (by decide +kernel)) (List.mem_of_getElem? (i := 287) (by decide +kernel)) (List.mem_of_getElem? (i := 296) (by decide +kernel)) (List.mem_of_getElem? (i := 304) (by decide +kernel)) (List.mem_of_getElem? (i := 313) (by decide +kernel)) (List.mem_of_getElem? (i := 325) (by decide +kernel)) (List.mem_of_getElem? (i := 335) (by decide +kernel)) (List.mem_of_getElem? (i := 344) (by decide +kernel)) (List.mem_of_getElem? (i := 356) (by decide +kernel)) (List.mem_of_getElem? (i := 367) (by decide +kernel))
theorem zn_sa : ∀ i, i < 22 → (Cond.arrayOf (zSv i) .byte) ∈ zNar := z_22 (P := fun i => (Cond.arrayOf (zSv i) .byte) ∈ zNar) (List.mem_of_getElem? (i := 216) (by decide +kernel)) (List.mem_of_getElem? (i := 184) (by decide +kernel)) (List.mem_of_getElem? (i := 223) (by decide +kernel)) (List.mem_of_getElem? (i := 197) (by decide +kernel)) (List.mem_of_getElem? (i := 231) (by decide +kernel)) (List.mem_of_getElem? (i := 240) (by decide +kernel)) (List.mem_of_getElem? (i := 249) (by decide +kernel)) (List.mem_of_getElem? (i := 190) (by decide +kernel)) (List.mem_of_getElem? (i := 257) (by decide +kernel)) (List.mem_of_getElem? (i := 210) (by decide +kernel)) (List.mem_of_getElem? (i := 203) (by decide +kernel)) (List.mem_of_getElem? (i := 267) (by decide +kernel)) (List.mem_of_getElem? (i := 278) (by decide +kernel)) (List.mem_of_getElem? (i := 288) (by decide +kernel)) (List.mem_of_getElem? (i := 297) (by decide +kernel)) (List.mem_of_getElem? (i := 305) (by decide +kernel)) (List.mem_of_getElem? (i := 314) (by decide +kernel)) (List.mem_of_getElem? (i := 326) (by decide +kernel)) (List.mem_of_getElem? (i := 336) (by decide +kernel)) (List.mem_of_getElem? (i := 345) (by decide +kernel)) (List.mem_of_getElem? (i := 357) (by decide +kernel)) (List.mem_of_getElem? (i := 368) (by decide +kernel))
theorem zn_sl : ∀ i, i < 22 → (Cond.eq (.length (zSv i)) (.int (Int32.ofNat (zTlen.getD i 0)))) ∈ zNar := z_22 (P := fun i => (Cond.eq (.length (zSv i)) (.int (Int32.ofNat (zTlen.getD i 0)))) ∈ zNar) (List.mem_of_getElem? (i := 217) (by decide +kernel)) (List.mem_of_getElem? (i := 185) (by decide +kernel)) (List.mem_of_getElem? (i := 224) (by decide +kernel)) (List.mem_of_getElem? (i := 198) (by decide +kernel)) (List.mem_of_getElem? (i := 232) (by decide +kernel)) (List.mem_of_getElem? (i := 241) (by decide +kernel)) (List.mem_of_getElem? (i := 250) (by decide +kernel)) (List.mem_of_getElem? (i := 191) (by decide +kernel)) (List.mem_of_getElem? (i := 258) (by decide +kernel)) (List.mem_of_getElem? (i := 211) (by decide +kernel)) (List.mem_of_getElem? (i := 204) (by decide +kernel)) (List.mem_of_getElem? (i := 268) (by decide +kernel)) (List.mem_of_getElem? (i := 279) (by decide +kernel)) (List.mem_of_getElem? (i := 289) (by decide +kernel)) (List.mem_of_getElem? (i := 298) (by decide +kernel)) (List.mem_of_getElem? (i := 306) (by decide +kernel)) (List.mem_of_getElem? (i := 315) (by decide +kernel)) (List.mem_of_getElem? (i := 327) (by decide +kernel)) (List.mem_of_getElem? (i := 337) (by decide +kernel)) (List.mem_of_getElem? (i := 346) (by decide +kernel)) (List.mem_of_getElem? (i := 358) (by decide +kernel)) (List.mem_of_getElem? (i := 369) (by decide +kernel))
theorem zn_se0 : ∀ j, j < 3 → (Cond.eq (.elem (zSv 0) (.int (Int32.ofNat j))) (.int ((zTbyt.getD 0 []).getD j 0))) ∈ zNar := by
  intro j hj
  obtain rfl | rfl | rfl : j = 0 ∨ j = 1 ∨ j = 2 := by omega
  · exact List.mem_of_getElem? (i := 218) (by decide +kernel)
  · exact List.mem_of_getElem? (i := 219) (by decide +kernel)
  · exact List.mem_of_getElem? (i := 220) (by decide +kernel)
theorem zn_se1 : ∀ j, j < 2 → (Cond.eq (.elem (zSv 1) (.int (Int32.ofNat j))) (.int ((zTbyt.getD 1 []).getD j 0))) ∈ zNar := by
  intro j hj
  obtain rfl | rfl : j = 0 ∨ j = 1 := by omega
  · exact List.mem_of_getElem? (i := 186) (by decide +kernel)
  · exact List.mem_of_getElem? (i := 187) (by decide +kernel)
theorem zn_se2 : ∀ j, j < 4 → (Cond.eq (.elem (zSv 2) (.int (Int32.ofNat j))) (.int ((zTbyt.getD 2 []).getD j 0))) ∈ zNar := by
  intro j hj
  obtain rfl | rfl | rfl | rfl : j = 0 ∨ j = 1 ∨ j = 2 ∨ j = 3 := by omega
  · exact List.mem_of_getElem? (i := 225) (by decide +kernel)
  · exact List.mem_of_getElem? (i := 226) (by decide +kernel)
  · exact List.mem_of_getElem? (i := 227) (by decide +kernel)
  · exact List.mem_of_getElem? (i := 228) (by decide +kernel)
theorem zn_se3 : ∀ j, j < 2 → (Cond.eq (.elem (zSv 3) (.int (Int32.ofNat j))) (.int ((zTbyt.getD 3 []).getD j 0))) ∈ zNar := by
  intro j hj
  obtain rfl | rfl : j = 0 ∨ j = 1 := by omega
  · exact List.mem_of_getElem? (i := 199) (by decide +kernel)
  · exact List.mem_of_getElem? (i := 200) (by decide +kernel)
theorem zn_se4 : ∀ j, j < 5 → (Cond.eq (.elem (zSv 4) (.int (Int32.ofNat j))) (.int ((zTbyt.getD 4 []).getD j 0))) ∈ zNar := by
  intro j hj
  obtain rfl | rfl | rfl | rfl | rfl : j = 0 ∨ j = 1 ∨ j = 2 ∨ j = 3 ∨ j = 4 := by omega
  · exact List.mem_of_getElem? (i := 233) (by decide +kernel)
  · exact List.mem_of_getElem? (i := 234) (by decide +kernel)
  · exact List.mem_of_getElem? (i := 235) (by decide +kernel)
  · exact List.mem_of_getElem? (i := 236) (by decide +kernel)
  · exact List.mem_of_getElem? (i := 237) (by decide +kernel)
theorem zn_se5 : ∀ j, j < 5 → (Cond.eq (.elem (zSv 5) (.int (Int32.ofNat j))) (.int ((zTbyt.getD 5 []).getD j 0))) ∈ zNar := by
  intro j hj
  obtain rfl | rfl | rfl | rfl | rfl : j = 0 ∨ j = 1 ∨ j = 2 ∨ j = 3 ∨ j = 4 := by omega
  · exact List.mem_of_getElem? (i := 242) (by decide +kernel)
  · exact List.mem_of_getElem? (i := 243) (by decide +kernel)
  · exact List.mem_of_getElem? (i := 244) (by decide +kernel)
  · exact List.mem_of_getElem? (i := 245) (by decide +kernel)
  · exact List.mem_of_getElem? (i := 246) (by decide +kernel)
theorem zn_se6 : ∀ j, j < 4 → (Cond.eq (.elem (zSv 6) (.int (Int32.ofNat j))) (.int ((zTbyt.getD 6 []).getD j 0))) ∈ zNar := by
  intro j hj
  obtain rfl | rfl | rfl | rfl : j = 0 ∨ j = 1 ∨ j = 2 ∨ j = 3 := by omega
  · exact List.mem_of_getElem? (i := 251) (by decide +kernel)
  · exact List.mem_of_getElem? (i := 252) (by decide +kernel)
  · exact List.mem_of_getElem? (i := 253) (by decide +kernel)
  · exact List.mem_of_getElem? (i := 254) (by decide +kernel)
theorem zn_se7 : ∀ j, j < 3 → (Cond.eq (.elem (zSv 7) (.int (Int32.ofNat j))) (.int ((zTbyt.getD 7 []).getD j 0))) ∈ zNar := by
  intro j hj
  obtain rfl | rfl | rfl : j = 0 ∨ j = 1 ∨ j = 2 := by omega
  · exact List.mem_of_getElem? (i := 192) (by decide +kernel)
  · exact List.mem_of_getElem? (i := 193) (by decide +kernel)
  · exact List.mem_of_getElem? (i := 194) (by decide +kernel)
theorem zn_se8 : ∀ j, j < 6 → (Cond.eq (.elem (zSv 8) (.int (Int32.ofNat j))) (.int ((zTbyt.getD 8 []).getD j 0))) ∈ zNar := by
  intro j hj
  obtain rfl | rfl | rfl | rfl | rfl | rfl : j = 0 ∨ j = 1 ∨ j = 2 ∨ j = 3 ∨ j = 4 ∨ j = 5 := by omega
  · exact List.mem_of_getElem? (i := 259) (by decide +kernel)
  · exact List.mem_of_getElem? (i := 260) (by decide +kernel)
  · exact List.mem_of_getElem? (i := 261) (by decide +kernel)
  · exact List.mem_of_getElem? (i := 262) (by decide +kernel)
  · exact List.mem_of_getElem? (i := 263) (by decide +kernel)
  · exact List.mem_of_getElem? (i := 264) (by decide +kernel)
theorem zn_se9 : ∀ j, j < 2 → (Cond.eq (.elem (zSv 9) (.int (Int32.ofNat j))) (.int ((zTbyt.getD 9 []).getD j 0))) ∈ zNar := by
  intro j hj
  obtain rfl | rfl : j = 0 ∨ j = 1 := by omega
  · exact List.mem_of_getElem? (i := 212) (by decide +kernel)
  · exact List.mem_of_getElem? (i := 213) (by decide +kernel)
theorem zn_se10 : ∀ j, j < 3 → (Cond.eq (.elem (zSv 10) (.int (Int32.ofNat j))) (.int ((zTbyt.getD 10 []).getD j 0))) ∈ zNar := by
  intro j hj
  obtain rfl | rfl | rfl : j = 0 ∨ j = 1 ∨ j = 2 := by omega
  · exact List.mem_of_getElem? (i := 205) (by decide +kernel)
  · exact List.mem_of_getElem? (i := 206) (by decide +kernel)
  · exact List.mem_of_getElem? (i := 207) (by decide +kernel)
theorem zn_se11 : ∀ j, j < 7 → (Cond.eq (.elem (zSv 11) (.int (Int32.ofNat j))) (.int ((zTbyt.getD 11 []).getD j 0))) ∈ zNar := by
  intro j hj
  obtain rfl | rfl | rfl | rfl | rfl | rfl | rfl : j = 0 ∨ j = 1 ∨ j = 2 ∨ j = 3 ∨ j = 4 ∨ j = 5 ∨ j = 6 := by omega
  · exact List.mem_of_getElem? (i := 269) (by decide +kernel)
  · exact List.mem_of_getElem? (i := 270) (by decide +kernel)
  · exact List.mem_of_getElem? (i := 271) (by decide +kernel)
  · exact List.mem_of_getElem? (i := 272) (by decide +kernel)
  · exact List.mem_of_getElem? (i := 273) (by decide +kernel)
  · exact List.mem_of_getElem? (i := 274) (by decide +kernel)
  · exact List.mem_of_getElem? (i := 275) (by decide +kernel)
theorem zn_se12 : ∀ j, j < 6 → (Cond.eq (.elem (zSv 12) (.int (Int32.ofNat j))) (.int ((zTbyt.getD 12 []).getD j 0))) ∈ zNar := by
  intro j hj
  obtain rfl | rfl | rfl | rfl | rfl | rfl : j = 0 ∨ j = 1 ∨ j = 2 ∨ j = 3 ∨ j = 4 ∨ j = 5 := by omega
  · exact List.mem_of_getElem? (i := 280) (by decide +kernel)
  · exact List.mem_of_getElem? (i := 281) (by decide +kernel)
  · exact List.mem_of_getElem? (i := 282) (by decide +kernel)
  · exact List.mem_of_getElem? (i := 283) (by decide +kernel)
  · exact List.mem_of_getElem? (i := 284) (by decide +kernel)
  · exact List.mem_of_getElem? (i := 285) (by decide +kernel)
theorem zn_se13 : ∀ j, j < 5 → (Cond.eq (.elem (zSv 13) (.int (Int32.ofNat j))) (.int ((zTbyt.getD 13 []).getD j 0))) ∈ zNar := by
  intro j hj
  obtain rfl | rfl | rfl | rfl | rfl : j = 0 ∨ j = 1 ∨ j = 2 ∨ j = 3 ∨ j = 4 := by omega
  · exact List.mem_of_getElem? (i := 290) (by decide +kernel)
  · exact List.mem_of_getElem? (i := 291) (by decide +kernel)
  · exact List.mem_of_getElem? (i := 292) (by decide +kernel)
  · exact List.mem_of_getElem? (i := 293) (by decide +kernel)
  · exact List.mem_of_getElem? (i := 294) (by decide +kernel)
theorem zn_se14 : ∀ j, j < 4 → (Cond.eq (.elem (zSv 14) (.int (Int32.ofNat j))) (.int ((zTbyt.getD 14 []).getD j 0))) ∈ zNar := by
  intro j hj
  obtain rfl | rfl | rfl | rfl : j = 0 ∨ j = 1 ∨ j = 2 ∨ j = 3 := by omega
  · exact List.mem_of_getElem? (i := 299) (by decide +kernel)
  · exact List.mem_of_getElem? (i := 300) (by decide +kernel)
  · exact List.mem_of_getElem? (i := 301) (by decide +kernel)
  · exact List.mem_of_getElem? (i := 302) (by decide +kernel)
theorem zn_se15 : ∀ j, j < 5 → (Cond.eq (.elem (zSv 15) (.int (Int32.ofNat j))) (.int ((zTbyt.getD 15 []).getD j 0))) ∈ zNar := by
  intro j hj
  obtain rfl | rfl | rfl | rfl | rfl : j = 0 ∨ j = 1 ∨ j = 2 ∨ j = 3 ∨ j = 4 := by omega
  · exact List.mem_of_getElem? (i := 307) (by decide +kernel)
  · exact List.mem_of_getElem? (i := 308) (by decide +kernel)
  · exact List.mem_of_getElem? (i := 309) (by decide +kernel)
  · exact List.mem_of_getElem? (i := 310) (by decide +kernel)
  · exact List.mem_of_getElem? (i := 311) (by decide +kernel)
theorem zn_se16 : ∀ j, j < 8 → (Cond.eq (.elem (zSv 16) (.int (Int32.ofNat j))) (.int ((zTbyt.getD 16 []).getD j 0))) ∈ zNar := by
  intro j hj
  obtain rfl | rfl | rfl | rfl | rfl | rfl | rfl | rfl : j = 0 ∨ j = 1 ∨ j = 2 ∨ j = 3 ∨ j = 4 ∨ j = 5 ∨ j = 6 ∨ j = 7 := by omega
  · exact List.mem_of_getElem? (i := 316) (by decide +kernel)
  · exact List.mem_of_getElem? (i := 317) (by decide +kernel)
  · exact List.mem_of_getElem? (i := 318) (by decide +kernel)
  · exact List.mem_of_getElem? (i := 319) (by decide +kernel)
  · exact List.mem_of_getElem? (i := 320) (by decide +kernel)
  · exact List.mem_of_getElem? (i := 321) (by decide +kernel)
  · exact List.mem_of_getElem? (i := 322) (by decide +kernel)
  · exact List.mem_of_getElem? (i := 323) (by decide +kernel)
theorem zn_se17 : ∀ j, j < 6 → (Cond.eq (.elem (zSv 17) (.int (Int32.ofNat j))) (.int ((zTbyt.getD 17 []).getD j 0))) ∈ zNar := by
  intro j hj
  obtain rfl | rfl | rfl | rfl | rfl | rfl : j = 0 ∨ j = 1 ∨ j = 2 ∨ j = 3 ∨ j = 4 ∨ j = 5 := by omega
  · exact List.mem_of_getElem? (i := 328) (by decide +kernel)
  · exact List.mem_of_getElem? (i := 329) (by decide +kernel)
  · exact List.mem_of_getElem? (i := 330) (by decide +kernel)
  · exact List.mem_of_getElem? (i := 331) (by decide +kernel)
  · exact List.mem_of_getElem? (i := 332) (by decide +kernel)
  · exact List.mem_of_getElem? (i := 333) (by decide +kernel)
theorem zn_se18 : ∀ j, j < 5 → (Cond.eq (.elem (zSv 18) (.int (Int32.ofNat j))) (.int ((zTbyt.getD 18 []).getD j 0))) ∈ zNar := by
  intro j hj
  obtain rfl | rfl | rfl | rfl | rfl : j = 0 ∨ j = 1 ∨ j = 2 ∨ j = 3 ∨ j = 4 := by omega
  · exact List.mem_of_getElem? (i := 338) (by decide +kernel)
  · exact List.mem_of_getElem? (i := 339) (by decide +kernel)
  · exact List.mem_of_getElem? (i := 340) (by decide +kernel)
  · exact List.mem_of_getElem? (i := 341) (by decide +kernel)
  · exact List.mem_of_getElem? (i := 342) (by decide +kernel)
theorem zn_se19 : ∀ j, j < 8 → (Cond.eq (.elem (zSv 19) (.int (Int32.ofNat j))) (.int ((zTbyt.getD 19 []).getD j 0))) ∈ zNar := by
  intro j hj
  obtain rfl | rfl | rfl | rfl | rfl | rfl | rfl | rfl : j = 0 ∨ j = 1 ∨ j = 2 ∨ j = 3 ∨ j = 4 ∨ j = 5 ∨ j = 6 ∨ j = 7 := by omega
  · exact List.mem_of_getElem? (i := 347) (by decide +kernel)
  · exact List.mem_of_getElem? (i := 348) (by decide +kernel)
  · exact List.mem_of_getElem? (i := 349) (by decide +kernel)
  · exact List.mem_of_getElem? (i := 350) (by decide +kernel)
  · exact List.mem_of_getElem? (i := 351) (by decide +kernel)
  · exact List.mem_of_getElem? (i := 352) (by decide +kernel)
  · exact List.mem_of_getElem? (i := 353) (by decide +kernel)
  · exact List.mem_of_getElem? (i := 354) (by decide +kernel)
theorem zn_se20 : ∀ j, j < 7 → (Cond.eq (.elem (zSv 20) (.int (Int32.ofNat j))) (.int ((zTbyt.getD 20 []).getD j 0))) ∈ zNar := by
  intro j hj
  obtain rfl | rfl | rfl | rfl | rfl | rfl | rfl : j = 0 ∨ j = 1 ∨ j = 2 ∨ j = 3 ∨ j = 4 ∨ j = 5 ∨ j = 6 := by omega
  · exact List.mem_of_getElem? (i := 359) (by decide +kernel)
  · exact List.mem_of_getElem? (i := 360) (by decide +kernel)
  · exact List.mem_of_getElem? (i := 361) (by decide +kernel)
  · exact List.mem_of_getElem? (i := 362) (by decide +kernel)
  · exact List.mem_of_getElem? (i := 363) (by decide +kernel)
  · exact List.mem_of_getElem? (i := 364) (by decide +kernel)
  · exact List.mem_of_getElem? (i := 365) (by decide +kernel)
theorem zn_se21 : ∀ j, j < 6 → (Cond.eq (.elem (zSv 21) (.int (Int32.ofNat j))) (.int ((zTbyt.getD 21 []).getD j 0))) ∈ zNar := by
  intro j hj
  obtain rfl | rfl | rfl | rfl | rfl | rfl : j = 0 ∨ j = 1 ∨ j = 2 ∨ j = 3 ∨ j = 4 ∨ j = 5 := by omega
  · exact List.mem_of_getElem? (i := 370) (by decide +kernel)
  · exact List.mem_of_getElem? (i := 371) (by decide +kernel)
  · exact List.mem_of_getElem? (i := 372) (by decide +kernel)
  · exact List.mem_of_getElem? (i := 373) (by decide +kernel)
  · exact List.mem_of_getElem? (i := 374) (by decide +kernel)
  · exact List.mem_of_getElem? (i := 375) (by decide +kernel)
theorem zn_se : ∀ i, i < 22 → ∀ j, j < zTlen.getD i 0 → (Cond.eq (.elem (zSv i) (.int (Int32.ofNat j))) (.int ((zTbyt.getD i []).getD j 0))) ∈ zNar := z_22 (P := fun i => ∀ j, j < zTlen.getD i 0 → (Cond.eq (.elem (zSv i) (.int (Int32.ofNat j))) (.int ((zTbyt.getD i []).getD j 0))) ∈ zNar) zn_se0 zn_se1 zn_se2 zn_se3 zn_se4 zn_se5 zn_se6 zn_se7 zn_se8 zn_se9 zn_se10 zn_se11 zn_se12 zn_se13 zn_se14 zn_se15 zn_se16 zn_se17 zn_se18 zn_se19 zn_se20 zn_se21
theorem zn_l : ∀ i, i < 22 → Cond.laysStatic RX9 (zNmW.getD i "") dW ∈ lw_tbl := z_22 (P := fun i => Cond.laysStatic RX9 (zNmW.getD i "") dW ∈ lw_tbl) (zmT8 (List.mem_of_getElem? (i := 33) (by decide +kernel))) (zmT3 (List.mem_of_getElem? (i := 157) (by decide +kernel))) (zmT8 (List.mem_of_getElem? (i := 34) (by decide +kernel))) (zmT3 (List.mem_of_getElem? (i := 177) (by decide +kernel))) (zmT8 (List.mem_of_getElem? (i := 35) (by decide +kernel))) (zmT8 (List.mem_of_getElem? (i := 36) (by decide +kernel))) (zmT8 (List.mem_of_getElem? (i := 37) (by decide +kernel))) (zmT3 (List.mem_of_getElem? (i := 171) (by decide +kernel))) (zmT8 (List.mem_of_getElem? (i := 38) (by decide +kernel))) (zmT3 (List.mem_of_getElem? (i := 208) (by decide +kernel))) (zmT3 (List.mem_of_getElem? (i := 206) (by decide +kernel))) (zmT8 (List.mem_of_getElem? (i := 39) (by decide +kernel))) (zmT8 (List.mem_of_getElem? (i := 40) (by decide +kernel))) (zmT8 (List.mem_of_getElem? (i := 41) (by decide +kernel))) (zmT8 (List.mem_of_getElem? (i := 42) (by decide +kernel))) (zmT8 (List.mem_of_getElem? (i := 43) (by decide +kernel))) (zmT8 (List.mem_of_getElem? (i := 44) (by decide +kernel))) (zmT8 (List.mem_of_getElem? (i := 45) (by decide +kernel))) (zmT8 (List.mem_of_getElem? (i := 46) (by decide +kernel))) (zmT8 (List.mem_of_getElem? (i := 47) (by decide +kernel))) (zmT8 (List.mem_of_getElem? (i := 48) (by decide +kernel))) (zmT8 (List.mem_of_getElem? (i := 49) (by decide +kernel)))
theorem zn_lA : Cond.laysStatic RX9 "ALL" dA ∈ lw_tbl := (zmT3 (List.mem_of_getElem? (i := 64) (by decide +kernel)))
theorem zn_lC : Cond.laysStatic "java/lang/String" "COMPACT_STRINGS" "Z" ∈ lw_tbl := (zmT3 (List.mem_of_getElem? (i := 78) (by decide +kernel)))
theorem zn_lF : Cond.laysStatic "jdk/internal/util/Preconditions" "SIOOBE_FORMATTER" "Ljava/util/function/BiFunction;" ∈ lw_tbl := (zmT3 (List.mem_of_getElem? (i := 94) (by decide +kernel)))
theorem zn_lU : Cond.laysStatic "java/lang/Throwable" "UNASSIGNED_STACK" "[Ljava/lang/StackTraceElement;" ∈ lw_tbl := (zmT5 (List.mem_of_getElem? (i := 23) (by decide +kernel)))
theorem zn_lS : Cond.laysStatic "java/lang/Throwable" "SUPPRESSED_SENTINEL" "Ljava/util/List;" ∈ lw_tbl := (zmT5 (List.mem_of_getElem? (i := 25) (by decide +kernel)))
theorem zn_A : (Cond.arrayOf (.static RX9 "ALL" dA) (.object RX9)) ∈ zNar := List.mem_of_getElem? (i := 6) (by decide +kernel)
theorem zn_Al : (Cond.eq (.length (.static RX9 "ALL" dA)) (.int 22)) ∈ zNar := List.mem_of_getElem? (i := 7) (by decide +kernel)
theorem zn_C : (Cond.eq (.static "java/lang/String" "COMPACT_STRINGS" "Z") (.int 1)) ∈ zNar := List.mem_of_getElem? (i := 31) (by decide +kernel)
theorem zn_F : (Cond.isRef (.static "jdk/internal/util/Preconditions" "SIOOBE_FORMATTER" "Ljava/util/function/BiFunction;")) ∈ zNar := List.mem_of_getElem? (i := 32) (by decide +kernel)
theorem zn_U : (Cond.isRef (.static "java/lang/Throwable" "UNASSIGNED_STACK" "[Ljava/lang/StackTraceElement;")) ∈ zNar := List.mem_of_getElem? (i := 66) (by decide +kernel)
theorem zn_S : (Cond.isRef (.static "java/lang/Throwable" "SUPPRESSED_SENTINEL" "Ljava/util/List;")) ∈ zNar := List.mem_of_getElem? (i := 67) (by decide +kernel)
theorem z_neq {args : Array Value} {s : State} {t u : Term} {a b : Nat} (ht : t.eval args s none [] s = some (.ref a)) (hu : u.eval args s none [] s = some (.ref b)) (e : a ≠ b) : (Cond.not (.eq t u)).before args s = true := by
  simp [Cond.before, Cond.holds, Cond.value, ht, hu, e]
theorem z_xev {args : Array Value} {s : State} {t : Term} {C : String} (h : (Cond.exactly t C).before args s = true) : ∃ a : Nat, t.eval args s none [] s = some (.ref a) := by
  obtain ⟨a, _, _, _, q1, -⟩ := Cond.exactly_spec h
  exact ⟨a, q1⟩
theorem z_Zev {args : Array Value} {C n d : String} {v : Value} {A : Nat → Prop} {s : State} (h : va_Z C n d v A s s.heap) : (Term.static C n d).eval args s none [] s = some v := by
  obtain ⟨cf, kf, fi, f, a, cell, h1, h2, h3, h4, h5, h6, h7, -⟩ := h
  simp [Term.eval, State.fieldNamed?, h1, h2, h4, h5, h6, h7]
theorem z_lcg {args : Array Value} {s : State} {t u : Term} (h : t.eval args s none [] s = u.eval args s none [] s) : (Term.length t).eval args s none [] s = (Term.length u).eval args s none [] s := by
  simp only [Term.eval, h]
theorem z_ecg {args : Array Value} {s : State} {t u i : Term} (h : t.eval args s none [] s = u.eval args s none [] s) : (Term.elem t i).eval args s none [] s = (Term.elem u i).eval args s none [] s := by
  simp only [Term.eval, h]
theorem z_ordne : ∀ i, i < 22 → ∀ j, j < 22 → Int32.ofNat i = Int32.ofNat j → i = j := by decide +kernel
theorem z_txtne : ∀ i, i < 22 → ∀ j, j < 22 → i ≠ j → Int32.ofNat (zTlen.getD i 0) = Int32.ofNat (zTlen.getD j 0) → (List.range (zTlen.getD i 0)).any (fun p => (zTbyt.getD i []).getD p 0 != (zTbyt.getD j []).getD p 0) = true ∧ zTlen.getD i 0 = zTlen.getD j 0 := by decide +kernel
section ZPRE
variable {args : Array Value} {s : State} {A : Nat → Prop}
theorem z_stne (hn : ∀ w ∈ zNar, w.before args s = true) (i j : Nat) (hi : i < 22) (hj : j < 22) (e : i ≠ j) : (Cond.not (.eq (zSt i) (zSt j))).before args s = true := by
  obtain ⟨a, ha⟩ := z_xev (hn _ (zn_ex i hi))
  obtain ⟨b, hb⟩ := z_xev (hn _ (zn_ex j hj))
  refine z_neq ha hb (fun q => e ?_)
  have o1 := va_eqt (hn _ (zn_ord i hi))
  have o2 := va_eqt (hn _ (zn_ord j hj))
  rw [va_fe ha] at o1
  rw [va_fe hb, ← q, o1] at o2
  refine z_ordne i hi j hj ?_
  injection o2 with o2
  injection o2
theorem z_sgne (hn : ∀ w ∈ zNar, w.before args s = true) (i j : Nat) (hi : i < 22) (hj : j < 22) (e : i ≠ j) : (Cond.not (.eq (zSg i) (zSg j))).before args s = true := by
  obtain ⟨a, ha⟩ := z_xev (hn _ (zn_sx i hi))
  obtain ⟨b, hb⟩ := z_xev (hn _ (zn_sx j hj))
  refine z_neq ha hb (fun q => ?_)
  have hv : (zSv i).eval args s none [] s = (zSv j).eval args s none [] s := by
    rw [show (zSv i).eval args s none [] s = s.fieldOf? a "java/lang/String" "value" "[B" from va_fe ha, show (zSv j).eval args s none [] s = s.fieldOf? b "java/lang/String" "value" "[B" from va_fe hb, q]
  have o1 := va_eqt (hn _ (zn_sl i hi))
  have o2 := va_eqt (hn _ (zn_sl j hj))
  rw [z_lcg hv, o2] at o1
  have o3 : Int32.ofNat (zTlen.getD i 0) = Int32.ofNat (zTlen.getD j 0) := by
    injection o1 with o1
    injection o1 with o1
    exact o1.symm
  obtain ⟨hany, hl⟩ := z_txtne i hi j hj e o3
  obtain ⟨p, hp, hne⟩ := List.any_eq_true.mp hany
  have hp := List.mem_range.mp hp
  have b1 := va_eqt (hn _ (zn_se i hi p hp))
  have b2 := va_eqt (hn _ (zn_se j hj p (hl ▸ hp)))
  rw [z_ecg hv, b2] at b1
  refine absurd ?_ (bne_iff_ne.mp hne)
  injection b1 with b1
  injection b1 with b1
  exact b1.symm
/-- the constants of the enum -/
theorem z_enum (hn : ∀ w ∈ zNar, w.before args s = true) (ht : ∀ w ∈ lw_tbl, w.before args s = true) (hA : ∀ a : Nat, a < s.heap.size → ¬ A a) : ∃ ad : Nat → Nat, va_En RX9 dW zNmW zFW ad A s s.heap := by
  refine va_Enof (args := args) (fun i hi => ht _ (zn_l i hi)) (ht _ (List.mem_filter.mp zb_95).1) (fun i hi => hn _ (zn_ex i hi)) (fun q hq i hi => ?_) (fun i j hi hj e => Or.inl (z_stne hn i j hi hj e)) hA
  rcases List.mem_cons.mp hq with rfl | hq
  · exact hn _ (zn_line i hi)
  rcases List.mem_cons.mp hq with rfl | hq
  · exact hn _ (zn_asks i hi)
  rcases List.mem_cons.mp hq with rfl | hq
  · exact hn _ (zn_answer i hi)
  exact absurd hq List.not_mem_nil
/-- where all lies at the start -/
def zAd (b tA tF : Nat) (adW adK adV : Nat → Nat) (q : Nat) : Nat :=
  if q = 2000000 then b else if q = 1000200 then tA else if q = 1000400 then tF else if q < 1000100 then adW (q - 1000000) else if q < 1000300 then adK (q - 1000100) else adV (q - 1000300)
theorem z_fo (hn : ∀ w ∈ zNar, w.before args s = true) (ht : ∀ w ∈ lw_tbl, w.before args s = true) (hA : ∀ a : Nat, a < s.heap.size → ¬ A a) {b : Nat} {X : zX} (hX : va_X b X.1 X.2 s s.heap) (hb : b < s.heap.size) (D : va_G) (cl : Nat → ClassId) : ∃ ad : Nat → Nat, ad 2000000 = b ∧ zFo (D, ad, cl, []) X s A s.heap := by
  obtain ⟨adW, hE⟩ := z_enum hn ht hA
  obtain ⟨adK, adV, hS, hSe⟩ := vk_Sof (args := args) (s := s) (N := 22) (tm := zSg) (len := zTlen) (byt := zTbyt) (A := A) (by decide +kernel) (fun i hi => hn _ (zn_sx i hi)) (fun i hi => hn _ (zn_sc i hi)) (fun i hi => hn _ (zn_sa i hi)) (fun i hi => hn _ (zn_sl i hi)) (fun i hi j hj => hn _ (zn_se i hi j hj)) (fun i j hi hj e => Or.inl (z_sgne hn i j hi hj e)) hA
  have hst : ∀ i, i < 22 → (zSt i).eval args s none [] s = some (.ref (adW i)) := fun i hi => z_Zev (hE.1 i hi).1
  obtain ⟨tA, hA1, hA2⟩ := va_Tof (f := fun j => .ref (adW j)) (N := 22) (A := A) (by decide) (hn _ zn_A) (va_eqt (hn _ zn_Al)) (fun j hj => va_eqv (hn _ (zn_el j hj)) (hst j hj)) hA
  have hF := va_Zqof (args := args) (A := A) (ht _ zn_lF) (ht _ (List.mem_filter.mp zb_98).1) (hn _ zn_F) hA
  obtain ⟨tF, hF⟩ : ∃ tF : Nat, va_Z "jdk/internal/util/Preconditions" "SIOOBE_FORMATTER" "Ljava/util/function/BiFunction;" .null A s s.heap ∨ va_Z "jdk/internal/util/Preconditions" "SIOOBE_FORMATTER" "Ljava/util/function/BiFunction;" (.ref tF) A s s.heap := by
    rcases hF with h | ⟨t, h⟩
    · exact ⟨0, Or.inl h⟩
    · exact ⟨t, Or.inr h⟩
  have eW : ∀ i, i < 22 → zAd b tA tF adW adK adV (1000000 + i) = adW i := fun i hi => by
    unfold zAd
    rw [if_neg (by omega), if_neg (by omega), if_neg (by omega), if_pos (by omega), show 1000000 + i - 1000000 = i by omega]
  have eK : ∀ i, i < 22 → zAd b tA tF adW adK adV (1000100 + i) = adK i := fun i hi => by
    unfold zAd
    rw [if_neg (by omega), if_neg (by omega), if_neg (by omega), if_neg (by omega), if_pos (by omega), show 1000100 + i - 1000100 = i by omega]
  have eV : ∀ i, i < 22 → zAd b tA tF adW adK adV (1000300 + i) = adV i := fun i hi => by
    unfold zAd
    rw [if_neg (by omega), if_neg (by omega), if_neg (by omega), if_neg (by omega), if_neg (by omega), show 1000300 + i - 1000300 = i by omega]
  refine ⟨zAd b tA tF adW adK adV, rfl, ⟨fun i hi => ?_, fun i j hi hj e => ?_⟩, ⟨hX, hA b hb⟩, ⟨fun i hi => ?_, fun i j hi hj e => ?_⟩, fun i hi => ?_, ?_, ?_, ?_, ?_⟩
  · show va_Z RX9 (zNmW.getD i "") dW (.ref (zAd b tA tF adW adK adV (1000000 + i))) A s s.heap ∧ va_O RX9 (zAd b tA tF adW adK adV (1000000 + i)) A s s.heap ∧ ∀ q ∈ zFW, va_OF q.1 q.2.1 q.2.2.1 (.int (q.2.2.2.getD i 0)) (zAd b tA tF adW adK adV (1000000 + i)) A s s.heap
    rw [eW i hi]
    exact hE.1 i hi
  · have e1 : zAd b tA tF adW adK adV (1000000 + i) = zAd b tA tF adW adK adV (1000000 + j) := e
    rw [eW i hi, eW j hj] at e1
    exact hE.2 i j hi hj e1
  · show va_O "java/lang/String" (zAd b tA tF adW adK adV (1000100 + i)) A s s.heap ∧ va_OF "java/lang/String" "coder" "B" (.int 0) (zAd b tA tF adW adK adV (1000100 + i)) A s s.heap ∧ va_OF "java/lang/String" "value" "[B" (.ref (zAd b tA tF adW adK adV (1000300 + i))) (zAd b tA tF adW adK adV (1000100 + i)) A s s.heap ∧ va_T .byte (zAd b tA tF adW adK adV (1000300 + i)) (zTlen.getD i 0) (fun j => .int ((zTbyt.getD i []).getD j 0)) A s s.heap
    rw [eK i hi, eV i hi]
    exact hS.1 i hi
  · have e1 : zAd b tA tF adW adK adV (1000100 + i) = zAd b tA tF adW adK adV (1000100 + j) := e
    rw [eK i hi, eK j hj] at e1
    exact hS.2 i j hi hj e1
  · show va_OF RX9 "text" "Ljava/lang/String;" (.ref (zAd b tA tF adW adK adV (1000100 + i))) (zAd b tA tF adW adK adV (1000000 + i)) A s s.heap
    rw [eK i hi, eW i hi]
    exact vk_OFof (hst i hi) (va_eqv (hn _ (zn_txt i hi)) (hSe i hi)) hA
  · exact va_Zof (args := args) (ht _ zn_lA) (ht _ (List.mem_filter.mp zb_95).1) hA1 hA
  · obtain ⟨cell, c1, c2, c3, c4, c5, c6, c7⟩ := hA2
    refine ⟨cell, c1, c2, c3, c4, c5, fun j hj => ?_, c7⟩
    show cell.slots[j]? = some (.ref (zAd b tA tF adW adK adV (1000000 + j)))
    rw [eW j hj]
    exact c6 j hj
  · exact va_Zof (args := args) (ht _ zn_lC) (ht _ (List.mem_filter.mp zb_96).1) (va_eqt (hn _ zn_C)) hA
  · rcases hF with h | h
    · exact ⟨-1, Or.inl rfl, h⟩
    · exact ⟨1000400, Or.inr rfl, h⟩
end ZPRE

