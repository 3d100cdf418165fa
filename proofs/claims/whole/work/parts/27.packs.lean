/-! the classes, the methods: what the tables say of them -/
set_option maxRecDepth 100000 in
theorem zu0 : ∀ w ∈ u_ws RX0 TX0 3, w ∈ zBIG := by
  have h : (u_ws RX0 TX0 3).all (fun w => decide (w ∈ lw_tbl) && goodWord w) = true := by decide +kernel
  intro w hw
  have h1 := List.all_eq_true.mp h w hw
  simp only [Bool.and_eq_true, decide_eq_true_eq] at h1
  exact zBIG_in h1.1 h1.2
theorem pk0 : zPk 0 RX0 TX0 3 tyX0 := ⟨rfl, zu0, tyX0_ok, nmX0, fun _ => rfl⟩
set_option maxRecDepth 100000 in
theorem zu1 : ∀ w ∈ u_ws RX1 TX1 13, w ∈ zBIG := by
  have h : (u_ws RX1 TX1 13).all (fun w => decide (w ∈ lw_tbl) && goodWord w) = true := by decide +kernel
  intro w hw
  have h1 := List.all_eq_true.mp h w hw
  simp only [Bool.and_eq_true, decide_eq_true_eq] at h1
  exact zBIG_in h1.1 h1.2
theorem pk1 : zPk 1 RX1 TX1 13 tyX1 := ⟨rfl, zu1, tyX1_ok, nmX1, fun _ => rfl⟩
set_option maxRecDepth 100000 in
theorem zu2 : ∀ w ∈ u_ws RX2 TX2 3, w ∈ zBIG := by
  have h : (u_ws RX2 TX2 3).all (fun w => decide (w ∈ lw_tbl) && goodWord w) = true := by decide +kernel
  intro w hw
  have h1 := List.all_eq_true.mp h w hw
  simp only [Bool.and_eq_true, decide_eq_true_eq] at h1
  exact zBIG_in h1.1 h1.2
theorem pk2 : zPk 2 RX2 TX2 3 tyX2 := ⟨rfl, zu2, tyX2_ok, nmX2, fun _ => rfl⟩
set_option maxRecDepth 100000 in
theorem zu3 : ∀ w ∈ u_ws RX3 TX3 6, w ∈ zBIG := by
  have h : (u_ws RX3 TX3 6).all (fun w => decide (w ∈ lw_tbl) && goodWord w) = true := by decide +kernel
  intro w hw
  have h1 := List.all_eq_true.mp h w hw
  simp only [Bool.and_eq_true, decide_eq_true_eq] at h1
  exact zBIG_in h1.1 h1.2
theorem pk3 : zPk 3 RX3 TX3 6 tyX3 := ⟨rfl, zu3, tyX3_ok, nmX3, fun _ => rfl⟩
set_option maxRecDepth 100000 in
theorem zu4 : ∀ w ∈ u_ws RX4 TX4 17, w ∈ zBIG := by
  have h : (u_ws RX4 TX4 17).all (fun w => decide (w ∈ lw_tbl) && goodWord w) = true := by decide +kernel
  intro w hw
  have h1 := List.all_eq_true.mp h w hw
  simp only [Bool.and_eq_true, decide_eq_true_eq] at h1
  exact zBIG_in h1.1 h1.2
theorem pk4 : zPk 4 RX4 TX4 17 tyX4 := ⟨rfl, zu4, tyX4_ok, nmX4, fun _ => rfl⟩
set_option maxRecDepth 100000 in
theorem zu5 : ∀ w ∈ u_ws RX5 TX5 8, w ∈ zBIG := by
  have h : (u_ws RX5 TX5 8).all (fun w => decide (w ∈ lw_tbl) && goodWord w) = true := by decide +kernel
  intro w hw
  have h1 := List.all_eq_true.mp h w hw
  simp only [Bool.and_eq_true, decide_eq_true_eq] at h1
  exact zBIG_in h1.1 h1.2
theorem pk5 : zPk 5 RX5 TX5 8 tyX5 := ⟨rfl, zu5, tyX5_ok, nmX5, fun _ => rfl⟩
set_option maxRecDepth 100000 in
theorem zu6 : ∀ w ∈ u_ws RX6 TX6 13, w ∈ zBIG := by
  have h : (u_ws RX6 TX6 13).all (fun w => decide (w ∈ lw_tbl) && goodWord w) = true := by decide +kernel
  intro w hw
  have h1 := List.all_eq_true.mp h w hw
  simp only [Bool.and_eq_true, decide_eq_true_eq] at h1
  exact zBIG_in h1.1 h1.2
theorem pk6 : zPk 6 RX6 TX6 13 tyX6 := ⟨rfl, zu6, tyX6_ok, nmX6, fun _ => rfl⟩
set_option maxRecDepth 100000 in
theorem zu7 : ∀ w ∈ u_ws RX7 TX7 2, w ∈ zBIG := by
  have h : (u_ws RX7 TX7 2).all (fun w => decide (w ∈ lw_tbl) && goodWord w) = true := by decide +kernel
  intro w hw
  have h1 := List.all_eq_true.mp h w hw
  simp only [Bool.and_eq_true, decide_eq_true_eq] at h1
  exact zBIG_in h1.1 h1.2
theorem pk7 : zPk 7 RX7 TX7 2 tyX7 := ⟨rfl, zu7, tyX7_ok, nmX7, fun _ => rfl⟩
set_option maxRecDepth 100000 in
theorem zu8 : ∀ w ∈ u_ws RX8 TX8 6, w ∈ zBIG := by
  have h : (u_ws RX8 TX8 6).all (fun w => decide (w ∈ lw_tbl) && goodWord w) = true := by decide +kernel
  intro w hw
  have h1 := List.all_eq_true.mp h w hw
  simp only [Bool.and_eq_true, decide_eq_true_eq] at h1
  exact zBIG_in h1.1 h1.2
theorem pk8 : zPk 8 RX8 TX8 6 tyX8 := ⟨rfl, zu8, tyX8_ok, nmX8, fun _ => rfl⟩
set_option maxRecDepth 100000 in
theorem zu9 : ∀ w ∈ u_ws RX9 TX9 0, w ∈ zBIG := by
  have h : (u_ws RX9 TX9 0).all (fun w => decide (w ∈ lw_tbl) && goodWord w) = true := by decide +kernel
  intro w hw
  have h1 := List.all_eq_true.mp h w hw
  simp only [Bool.and_eq_true, decide_eq_true_eq] at h1
  exact zBIG_in h1.1 h1.2
set_option maxRecDepth 100000 in
theorem zu10 : ∀ w ∈ u_ws RX10 TX10 17, w ∈ zBIG := by
  have h : (u_ws RX10 TX10 17).all (fun w => decide (w ∈ lw_tbl) && goodWord w) = true := by decide +kernel
  intro w hw
  have h1 := List.all_eq_true.mp h w hw
  simp only [Bool.and_eq_true, decide_eq_true_eq] at h1
  exact zBIG_in h1.1 h1.2
theorem pk10 : zPk 10 RX10 TX10 17 tyX10 := ⟨rfl, zu10, tyX10_ok, nmX10, fun _ => rfl⟩
set_option maxRecDepth 100000 in
theorem zu11 : ∀ w ∈ u_ws RX11 TX11 97, w ∈ zBIG := by
  have h : (u_ws RX11 TX11 97).all (fun w => decide (w ∈ lw_tbl) && goodWord w) = true := by decide +kernel
  intro w hw
  have h1 := List.all_eq_true.mp h w hw
  simp only [Bool.and_eq_true, decide_eq_true_eq] at h1
  exact zBIG_in h1.1 h1.2
theorem pk11 : zPk 11 RX11 TX11 97 tyX11 := ⟨rfl, zu11, tyX11_ok, nmX11, fun _ => rfl⟩
abbrev mX0_init : zMd := (yX0_init, cX0_init, 1, none)
theorem nX0_init : zNm mX0_init 0 := ⟨by decide +kernel, by decide, by decide, by decide +kernel, by decide, zb_359⟩
abbrev mX0_holdsTold : zMd := (yX0_holdsTold, cX0_holdsTold, 2, (some .boolean))
theorem nX0_holdsTold : zNm mX0_holdsTold 1 := ⟨by decide +kernel, by decide, by decide, by decide +kernel, by decide, zb_1006⟩
abbrev mX0_leave : zMd := (yX0_leave, cX0_leave, 11, (some .boolean))
theorem nX0_leave : zNm mX0_leave 3 := ⟨by decide +kernel, by decide, by decide, by decide +kernel, by decide, zb_1011⟩
abbrev mX0_mostHands : zMd := (yX0_mostHands, cX0_mostHands, 5, (some .int))
theorem nX0_mostHands : zNm mX0_mostHands 2 := ⟨by decide +kernel, by decide, by decide, by decide +kernel, by decide, zb_1015⟩
abbrev mX1_init : zMd := (yX1_init, cX1_init, 1, none)
theorem nX1_init : zNm mX1_init 0 := ⟨by decide +kernel, by decide, by decide, by decide +kernel, by decide, zb_270⟩
abbrev mX1_empty : zMd := (yX1_empty, cX1_empty, 1, none)
theorem nX1_empty : zNm mX1_empty 0 := ⟨by decide +kernel, by decide, by decide, by decide +kernel, by decide, zb_599⟩
abbrev mX1_addLine : zMd := (yX1_addLine, cX1_addLine, 2, none)
theorem nX1_addLine : zNm mX1_addLine 1 := ⟨by decide +kernel, by decide, by decide, by decide +kernel, by decide, zb_704⟩
abbrev mX1_setNumber : zMd := (yX1_setNumber, cX1_setNumber, 2, none)
theorem nX1_setNumber : zNm mX1_setNumber 1 := ⟨by decide +kernel, by decide, by decide, by decide +kernel, by decide, zb_726⟩
abbrev mX1_addStep : zMd := (yX1_addStep, cX1_addStep, 2, none)
theorem nX1_addStep : zNm mX1_addStep 1 := ⟨by decide +kernel, by decide, by decide, by decide +kernel, by decide, zb_761⟩
abbrev mX1_question : zMd := (yX1_question, cX1_question, 3, (some .int))
theorem nX1_question : zNm mX1_question 3 := ⟨by decide +kernel, by decide, by decide, by decide +kernel, by decide, zb_757⟩
abbrev mX1_hasLine : zMd := (yX1_hasLine, cX1_hasLine, 3, (some .boolean))
theorem nX1_hasLine : zNm mX1_hasLine 1 := ⟨by decide +kernel, by decide, by decide, by decide +kernel, by decide, zb_700⟩
abbrev mX1_lineFor : zMd := (yX1_lineFor, cX1_lineFor, 5, (some .int))
theorem nX1_lineFor : zNm mX1_lineFor 3 := ⟨by decide +kernel, by decide, by decide, by decide +kernel, by decide, zb_906⟩
abbrev mX1_numberOf : zMd := (yX1_numberOf, cX1_numberOf, 3, (some .int))
theorem nX1_numberOf : zNm mX1_numberOf 2 := ⟨by decide +kernel, by decide, by decide, by decide +kernel, by decide, zb_918⟩
abbrev mX1_holds : zMd := (yX1_holds, cX1_holds, 10, (some .boolean))
theorem nX1_holds : zNm mX1_holds 3 := ⟨by decide +kernel, by decide, by decide, by decide +kernel, by decide, zb_910⟩
abbrev mX1_answers : zMd := (yX1_answers, cX1_answers, 5, (some .boolean))
theorem nX1_answers : zNm mX1_answers 3 := ⟨by decide +kernel, by decide, by decide, by decide +kernel, by decide, zb_914⟩
abbrev mX2_init : zMd := (yX2_init, cX2_init, 2, none)
theorem nX2_init : zNm mX2_init 1 := ⟨by decide +kernel, by decide, by decide, by decide +kernel, by decide, zb_140⟩
abbrev mX2_add : zMd := (yX2_add, cX2_add, 8, (some .boolean))
theorem nX2_add : zNm mX2_add 6 := ⟨by decide +kernel, by decide, by decide, by decide +kernel, by decide, zb_569⟩
abbrev mX2_get : zMd := (yX2_get, cX2_get, 3, (some .int))
theorem nX2_get : zNm mX2_get 2 := ⟨by decide +kernel, by decide, by decide, by decide +kernel, by decide, zb_832⟩
abbrev mX2_knownBy : zMd := (yX2_knownBy, cX2_knownBy, 3, (some .int))
theorem nX2_knownBy : zNm mX2_knownBy 1 := ⟨by decide +kernel, by decide, by decide, by decide +kernel, by decide, zb_828⟩
abbrev mX3_init : zMd := (yX3_init, cX3_init, 2, none)
theorem nX3_init : zNm mX3_init 0 := ⟨by decide +kernel, by decide, by decide, by decide +kernel, by decide, zb_385⟩
abbrev mX3_takeWeeks : zMd := (yX3_takeWeeks, cX3_takeWeeks, 2, (some .boolean))
theorem nX3_takeWeeks : zNm mX3_takeWeeks 1 := ⟨by decide +kernel, by decide, by decide, by decide +kernel, by decide, zb_789⟩
abbrev mX3_takeLetters : zMd := (yX3_takeLetters, cX3_takeLetters, 2, (some .boolean))
theorem nX3_takeLetters : zNm mX3_takeLetters 1 := ⟨by decide +kernel, by decide, by decide, by decide +kernel, by decide, zb_805⟩
abbrev mX3_takePicks : zMd := (yX3_takePicks, cX3_takePicks, 4, none)
theorem nX3_takePicks : zNm mX3_takePicks 2 := ⟨by decide +kernel, by decide, by decide, by decide +kernel, by decide, zb_796⟩
abbrev mX3_pickedAhead : zMd := (yX3_pickedAhead, cX3_pickedAhead, 6, (some .int))
theorem nX3_pickedAhead : zNm mX3_pickedAhead 3 := ⟨by decide +kernel, by decide, by decide, by decide +kernel, by decide, zb_1099⟩
abbrev mX4_init : zMd := (yX4_init, cX4_init, 1, none)
theorem nX4_init : zNm mX4_init 0 := ⟨by decide +kernel, by decide, by decide, by decide +kernel, by decide, zb_134⟩
abbrev mX4_addMan : zMd := (yX4_addMan, cX4_addMan, 4, (some .int))
theorem nX4_addMan : zNm mX4_addMan 3 := ⟨by decide +kernel, by decide, by decide, by decide +kernel, by decide, zb_554⟩
abbrev mX4_look : zMd := (yX4_look, cX4_look, 3, none)
theorem nX4_look : zNm mX4_look 1 := ⟨by decide +kernel, by decide, by decide, by decide +kernel, by decide, zb_820⟩
abbrev mX4_lookWho : zMd := (yX4_lookWho, cX4_lookWho, 8, none)
theorem nX4_lookWho : zNm mX4_lookWho 0 := ⟨by decide +kernel, by decide, by decide, by decide +kernel, by decide, zb_824⟩
abbrev mX4_lookBirths : zMd := (yX4_lookBirths, cX4_lookBirths, 4, none)
theorem nX4_lookBirths : zNm mX4_lookBirths 0 := ⟨by decide +kernel, by decide, by decide, by decide +kernel, by decide, zb_841⟩
abbrev mX4_ageOn : zMd := (yX4_ageOn, cX4_ageOn, 4, (some .int))
theorem nX4_ageOn : zNm mX4_ageOn 2 := ⟨by decide +kernel, by decide, by decide, by decide +kernel, by decide, zb_852⟩
abbrev mX4_brothersOf : zMd := (yX4_brothersOf, cX4_brothersOf, 2, (some .int))
theorem nX4_brothersOf : zNm mX4_brothersOf 1 := ⟨by decide +kernel, by decide, by decide, by decide +kernel, by decide, zb_860⟩
abbrev mX4_servingBrothersOf : zMd := (yX4_servingBrothersOf, cX4_servingBrothersOf, 4, (some .int))
theorem nX4_servingBrothersOf : zNm mX4_servingBrothersOf 1 := ⟨by decide +kernel, by decide, by decide, by decide +kernel, by decide, zb_887⟩
abbrev mX5_init : zMd := (yX5_init, cX5_init, 1, none)
theorem nX5_init : zNm mX5_init 0 := ⟨by decide +kernel, by decide, by decide, by decide +kernel, by decide, zb_231⟩
abbrev mX5_read : zMd := (yX5_read, cX5_read, 4, (some .boolean))
theorem nX5_read : zNm mX5_read 2 := ⟨by decide +kernel, by decide, by decide, by decide +kernel, by decide, zb_595⟩
abbrev mX5_readToken : zMd := (yX5_readToken, cX5_readToken, 1, none)
theorem nX5_readToken : zNm mX5_readToken 0 := ⟨by decide +kernel, by decide, by decide, by decide +kernel, by decide, zb_688⟩
abbrev mX5_fail : zMd := (yX5_fail, cX5_fail, 2, (some .boolean))
theorem nX5_fail : zNm mX5_fail 1 := ⟨by decide +kernel, by decide, by decide, by decide +kernel, by decide, zb_696⟩
abbrev mX5_readLine : zMd := (yX5_readLine, cX5_readLine, 3, (some .boolean))
theorem nX5_readLine : zNm mX5_readLine 0 := ⟨by decide +kernel, by decide, by decide, by decide +kernel, by decide, zb_692⟩
abbrev mX5_readHead : zMd := (yX5_readHead, cX5_readHead, 2, (some .boolean))
theorem nX5_readHead : zNm mX5_readHead 1 := ⟨by decide +kernel, by decide, by decide, by decide +kernel, by decide, zb_708⟩
abbrev mX5_readAges : zMd := (yX5_readAges, cX5_readAges, 1, (some .boolean))
theorem nX5_readAges : zNm mX5_readAges 0 := ⟨by decide +kernel, by decide, by decide, by decide +kernel, by decide, zb_712⟩
abbrev mX5_readClass : zMd := (yX5_readClass, cX5_readClass, 2, (some .boolean))
theorem nX5_readClass : zNm mX5_readClass 0 := ⟨by decide +kernel, by decide, by decide, by decide +kernel, by decide, zb_722⟩
abbrev mX5_readSend : zMd := (yX5_readSend, cX5_readSend, 1, (some .boolean))
theorem nX5_readSend : zNm mX5_readSend 0 := ⟨by decide +kernel, by decide, by decide, by decide +kernel, by decide, zb_730⟩
abbrev mX5_readAppeal : zMd := (yX5_readAppeal, cX5_readAppeal, 1, (some .boolean))
theorem nX5_readAppeal : zNm mX5_readAppeal 0 := ⟨by decide +kernel, by decide, by decide, by decide +kernel, by decide, zb_736⟩
abbrev mX5_readNumber : zMd := (yX5_readNumber, cX5_readNumber, 4, (some .int))
theorem nX5_readNumber : zNm mX5_readNumber 2 := ⟨by decide +kernel, by decide, by decide, by decide +kernel, by decide, zb_716⟩
abbrev mX5_readSign : zMd := (yX5_readSign, cX5_readSign, 2, (some .boolean))
theorem nX5_readSign : zNm mX5_readSign 1 := ⟨by decide +kernel, by decide, by decide, by decide +kernel, by decide, zb_765⟩
abbrev mX5_readCond : zMd := (yX5_readCond, cX5_readCond, 3, (some .boolean))
theorem nX5_readCond : zNm mX5_readCond 1 := ⟨by decide +kernel, by decide, by decide, by decide +kernel, by decide, zb_742⟩
abbrev mX5_readAll : zMd := (yX5_readAll, cX5_readAll, 3, (some .boolean))
theorem nX5_readAll : zNm mX5_readAll 1 := ⟨by decide +kernel, by decide, by decide, by decide +kernel, by decide, zb_746⟩
abbrev mX5_readOne : zMd := (yX5_readOne, cX5_readOne, 4, (some .boolean))
theorem nX5_readOne : zNm mX5_readOne 1 := ⟨by decide +kernel, by decide, by decide, by decide +kernel, by decide, zb_750⟩
abbrev mX5_readQuestion : zMd := (yX5_readQuestion, cX5_readQuestion, 3, (some .boolean))
theorem nX5_readQuestion : zNm mX5_readQuestion 1 := ⟨by decide +kernel, by decide, by decide, by decide +kernel, by decide, zb_754⟩
abbrev mX6_init : zMd := (yX6_init, cX6_init, 2, none)
theorem nX6_init : zNm mX6_init 1 := ⟨by decide +kernel, by decide, by decide, by decide +kernel, by decide, zb_379⟩
abbrev mX6_draw : zMd := (yX6_draw, cX6_draw, 4, none)
theorem nX6_draw : zNm mX6_draw 2 := ⟨by decide +kernel, by decide, by decide, by decide +kernel, by decide, zb_876⟩
abbrev mX6_isListed : zMd := (yX6_isListed, cX6_isListed, 2, (some .boolean))
theorem nX6_isListed : zNm mX6_isListed 1 := ⟨by decide +kernel, by decide, by decide, by decide +kernel, by decide, zb_933⟩
abbrev mX6_maySend : zMd := (yX6_maySend, cX6_maySend, 4, (some .boolean))
theorem nX6_maySend : zNm mX6_maySend 2 := ⟨by decide +kernel, by decide, by decide, by decide +kernel, by decide, zb_978⟩
abbrev mX6_mayBeSent : zMd := (yX6_mayBeSent, cX6_mayBeSent, 3, (some .boolean))
theorem nX6_mayBeSent : zNm mX6_mayBeSent 1 := ⟨by decide +kernel, by decide, by decide, by decide +kernel, by decide, zb_982⟩
abbrev mX6_endOfChain : zMd := (yX6_endOfChain, cX6_endOfChain, 4, (some .int))
theorem nX6_endOfChain : zNm mX6_endOfChain 1 := ⟨by decide +kernel, by decide, by decide, by decide +kernel, by decide, zb_953⟩
abbrev mX6_ask : zMd := (yX6_ask, cX6_ask, 5, none)
theorem nX6_ask : zNm mX6_ask 2 := ⟨by decide +kernel, by decide, by decide, by decide +kernel, by decide, zb_880⟩
abbrev mX6_askFacts : zMd := (yX6_askFacts, cX6_askFacts, 6, none)
theorem nX6_askFacts : zNm mX6_askFacts 1 := ⟨by decide +kernel, by decide, by decide, by decide +kernel, by decide, zb_891⟩
abbrev mX6_askGrades : zMd := (yX6_askGrades, cX6_askGrades, 5, none)
theorem nX6_askGrades : zNm mX6_askGrades 1 := ⟨by decide +kernel, by decide, by decide, by decide +kernel, by decide, zb_897⟩
abbrev mX6_judge : zMd := (yX6_judge, cX6_judge, 5, none)
theorem nX6_judge : zNm mX6_judge 3 := ⟨by decide +kernel, by decide, by decide, by decide +kernel, by decide, zb_902⟩
abbrev mX6_orderOf : zMd := (yX6_orderOf, cX6_orderOf, 6, (some .int))
theorem nX6_orderOf : zNm mX6_orderOf 3 := ⟨by decide +kernel, by decide, by decide, by decide +kernel, by decide, zb_922⟩
abbrev mX6_share : zMd := (yX6_share, cX6_share, 5, none)
theorem nX6_share : zNm mX6_share 1 := ⟨by decide +kernel, by decide, by decide, by decide +kernel, by decide, zb_929⟩
abbrev mX6_shareOneMore : zMd := (yX6_shareOneMore, cX6_shareOneMore, 3, none)
theorem nX6_shareOneMore : zNm mX6_shareOneMore 0 := ⟨by decide +kernel, by decide, by decide, by decide +kernel, by decide, zb_937⟩
abbrev mX6_callUp : zMd := (yX6_callUp, cX6_callUp, 3, none)
theorem nX6_callUp : zNm mX6_callUp 1 := ⟨by decide +kernel, by decide, by decide, by decide +kernel, by decide, zb_941⟩
abbrev mX6_countAhead : zMd := (yX6_countAhead, cX6_countAhead, 5, (some .int))
theorem nX6_countAhead : zNm mX6_countAhead 2 := ⟨by decide +kernel, by decide, by decide, by decide +kernel, by decide, zb_945⟩
abbrev mX6_followChains : zMd := (yX6_followChains, cX6_followChains, 5, none)
theorem nX6_followChains : zNm mX6_followChains 1 := ⟨by decide +kernel, by decide, by decide, by decide +kernel, by decide, zb_949⟩
abbrev mX7_init : zMd := (yX7_init, cX7_init, 1, none)
theorem nX7_init : zNm mX7_init 0 := ⟨by decide +kernel, by decide, by decide, by decide +kernel, by decide, zb_117⟩
abbrev mX7_put : zMd := (yX7_put, cX7_put, 3, none)
theorem nX7_put : zNm mX7_put 1 := ⟨by decide +kernel, by decide, by decide, by decide +kernel, by decide, zb_516⟩
abbrev mX7_at : zMd := (yX7_at, cX7_at, 2, (some .int))
theorem nX7_at : zNm mX7_at 1 := ⟨by decide +kernel, by decide, by decide, by decide +kernel, by decide, zb_543⟩
abbrev mX7_isLetter : zMd := (yX7_isLetter, cX7_isLetter, 2, (some .boolean))
theorem nX7_isLetter : zNm mX7_isLetter 1 := ⟨by decide +kernel, by decide, by decide, by decide +kernel, by decide, zb_539⟩
abbrev mX7_isDigit : zMd := (yX7_isDigit, cX7_isDigit, 2, (some .boolean))
theorem nX7_isDigit : zNm mX7_isDigit 1 := ⟨by decide +kernel, by decide, by decide, by decide +kernel, by decide, zb_615⟩
abbrev mX7_isBlank : zMd := (yX7_isBlank, cX7_isBlank, 2, (some .boolean))
theorem nX7_isBlank : zNm mX7_isBlank 1 := ⟨by decide +kernel, by decide, by decide, by decide +kernel, by decide, zb_610⟩
abbrev mX7_holdsName : zMd := (yX7_holdsName, cX7_holdsName, 2, (some .boolean))
theorem nX7_holdsName : zNm mX7_holdsName 0 := ⟨by decide +kernel, by decide, by decide, by decide +kernel, by decide, zb_535⟩
abbrev mX7_holdsPicks : zMd := (yX7_holdsPicks, cX7_holdsPicks, 6, (some .boolean))
theorem nX7_holdsPicks : zNm mX7_holdsPicks 1 := ⟨by decide +kernel, by decide, by decide, by decide +kernel, by decide, zb_793⟩
abbrev mX7_holdsWord : zMd := (yX7_holdsWord, cX7_holdsWord, 5, (some .boolean))
theorem nX7_holdsWord : zNm mX7_holdsWord 3 := ⟨by decide +kernel, by decide, by decide, by decide +kernel, by decide, zb_629⟩
abbrev mX8_init : zMd := (yX8_init, cX8_init, 1, none)
theorem nX8_init : zNm mX8_init 0 := ⟨by decide +kernel, by decide, by decide, by decide +kernel, by decide, zb_237⟩
abbrev mX8_read : zMd := (yX8_read, cX8_read, 5, none)
theorem nX8_read : zNm mX8_read 1 := ⟨by decide +kernel, by decide, by decide, by decide +kernel, by decide, zb_603⟩
abbrev mX8_isSign : zMd := (yX8_isSign, cX8_isSign, 1, (some .boolean))
theorem nX8_isSign : zNm mX8_isSign 1 := ⟨by decide +kernel, by decide, by decide, by decide +kernel, by decide, zb_684⟩
abbrev mX8_readRun : zMd := (yX8_readRun, cX8_readRun, 7, (some .int))
theorem nX8_readRun : zNm mX8_readRun 2 := ⟨by decide +kernel, by decide, by decide, by decide +kernel, by decide, zb_619⟩
abbrev mX8_add : zMd := (yX8_add, cX8_add, 5, none)
theorem nX8_add : zNm mX8_add 4 := ⟨by decide +kernel, by decide, by decide, by decide +kernel, by decide, zb_681⟩
abbrev mX9_find : zMd := (yX9_find, cX9_find, 7, (some (.object "LotOffice$Word")))
theorem nX9_find : zNm mX9_find 3 := ⟨by decide +kernel, by decide, by decide, by decide +kernel, by decide, zb_623⟩
abbrev mX10_init : zMd := (yX10_init, cX10_init, 2, none)
theorem nX10_init : zNm mX10_init 0 := ⟨by decide +kernel, by decide, by decide, by decide +kernel, by decide, zb_109⟩
abbrev mX10_feed : zMd := (yX10_feed, cX10_feed, 6, (some .int))
theorem nX10_feed : zNm mX10_feed 5 := ⟨by decide +kernel, by decide, by decide, by decide +kernel, by decide, zb_512⟩
abbrev mX10_end : zMd := (yX10_end, cX10_end, 2, (some .boolean))
theorem nX10_end : zNm mX10_end 1 := ⟨by decide +kernel, by decide, by decide, by decide +kernel, by decide, zb_520⟩
abbrev mX10_next : zMd := (yX10_next, cX10_next, 2, (some .int))
theorem nX10_next : zNm mX10_next 1 := ⟨by decide +kernel, by decide, by decide, by decide +kernel, by decide, zb_524⟩
abbrev mX10_man : zMd := (yX10_man, cX10_man, 5, (some .int))
theorem nX10_man : zNm mX10_man 2 := ⟨by decide +kernel, by decide, by decide, by decide +kernel, by decide, zb_531⟩
abbrev mX10_birth : zMd := (yX10_birth, cX10_birth, 4, (some .boolean))
theorem nX10_birth : zNm mX10_birth 3 := ⟨by decide +kernel, by decide, by decide, by decide +kernel, by decide, zb_558⟩
abbrev mX10_fact : zMd := (yX10_fact, cX10_fact, 6, (some .boolean))
theorem nX10_fact : zNm mX10_fact 5 := ⟨by decide +kernel, by decide, by decide, by decide +kernel, by decide, zb_573⟩
abbrev mX10_exam : zMd := (yX10_exam, cX10_exam, 4, (some .boolean))
theorem nX10_exam : zNm mX10_exam 3 := ⟨by decide +kernel, by decide, by decide, by decide +kernel, by decide, zb_580⟩
abbrev mX10_same : zMd := (yX10_same, cX10_same, 3, (some .boolean))
theorem nX10_same : zNm mX10_same 2 := ⟨by decide +kernel, by decide, by decide, by decide +kernel, by decide, zb_587⟩
abbrev mX10_law : zMd := (yX10_law, cX10_law, 4, (some .int))
theorem nX10_law : zNm mX10_law 1 := ⟨by decide +kernel, by decide, by decide, by decide +kernel, by decide, zb_591⟩
abbrev mX10_fault : zMd := (yX10_fault, cX10_fault, 1, (some .int))
theorem nX10_fault : zNm mX10_fault 0 := ⟨by decide +kernel, by decide, by decide, by decide +kernel, by decide, zb_773⟩
abbrev mX10_lot : zMd := (yX10_lot, cX10_lot, 3, (some .int))
theorem nX10_lot : zNm mX10_lot 2 := ⟨by decide +kernel, by decide, by decide, by decide +kernel, by decide, zb_777⟩
abbrev mX10_weeks : zMd := (yX10_weeks, cX10_weeks, 3, (some .boolean))
theorem nX10_weeks : zNm mX10_weeks 1 := ⟨by decide +kernel, by decide, by decide, by decide +kernel, by decide, zb_781⟩
abbrev mX10_letters : zMd := (yX10_letters, cX10_letters, 3, (some .boolean))
theorem nX10_letters : zNm mX10_letters 1 := ⟨by decide +kernel, by decide, by decide, by decide +kernel, by decide, zb_801⟩
abbrev mX10_hands : zMd := (yX10_hands, cX10_hands, 4, (some .boolean))
theorem nX10_hands : zNm mX10_hands 3 := ⟨by decide +kernel, by decide, by decide, by decide +kernel, by decide, zb_809⟩
abbrev mX10_who : zMd := (yX10_who, cX10_who, 3, (some .int))
theorem nX10_who : zNm mX10_who 2 := ⟨by decide +kernel, by decide, by decide, by decide +kernel, by decide, zb_816⟩
abbrev mX10_age : zMd := (yX10_age, cX10_age, 4, (some .int))
theorem nX10_age : zNm mX10_age 3 := ⟨by decide +kernel, by decide, by decide, by decide +kernel, by decide, zb_848⟩
abbrev mX10_brothers : zMd := (yX10_brothers, cX10_brothers, 3, (some .int))
theorem nX10_brothers : zNm mX10_brothers 2 := ⟨by decide +kernel, by decide, by decide, by decide +kernel, by decide, zb_856⟩
abbrev mX10_state : zMd := (yX10_state, cX10_state, 5, (some .int))
theorem nX10_state : zNm mX10_state 3 := ⟨by decide +kernel, by decide, by decide, by decide +kernel, by decide, zb_864⟩
abbrev mX10_why : zMd := (yX10_why, cX10_why, 1, (some .int))
theorem nX10_why : zNm mX10_why 0 := ⟨by decide +kernel, by decide, by decide, by decide +kernel, by decide, zb_957⟩
abbrev mX10_quota : zMd := (yX10_quota, cX10_quota, 4, (some .int))
theorem nX10_quota : zNm mX10_quota 3 := ⟨by decide +kernel, by decide, by decide, by decide +kernel, by decide, zb_961⟩
abbrev mX10_place : zMd := (yX10_place, cX10_place, 5, (some .int))
theorem nX10_place : zNm mX10_place 3 := ⟨by decide +kernel, by decide, by decide, by decide +kernel, by decide, zb_965⟩
abbrev mX10_called : zMd := (yX10_called, cX10_called, 3, (some .int))
theorem nX10_called : zNm mX10_called 2 := ⟨by decide +kernel, by decide, by decide, by decide +kernel, by decide, zb_970⟩
abbrev mX10_send : zMd := (yX10_send, cX10_send, 5, (some .boolean))
theorem nX10_send : zNm mX10_send 3 := ⟨by decide +kernel, by decide, by decide, by decide +kernel, by decide, zb_974⟩
abbrev mX10_serves : zMd := (yX10_serves, cX10_serves, 5, (some .int))
theorem nX10_serves : zNm mX10_serves 3 := ⟨by decide +kernel, by decide, by decide, by decide +kernel, by decide, zb_986⟩
abbrev mX10_mended : zMd := (yX10_mended, cX10_mended, 8, (some .int))
theorem nX10_mended : zNm mX10_mended 4 := ⟨by decide +kernel, by decide, by decide, by decide +kernel, by decide, zb_991⟩
abbrev mX10_mendedAt : zMd := (yX10_mendedAt, cX10_mendedAt, 2, (some .int))
theorem nX10_mendedAt : zNm mX10_mendedAt 1 := ⟨by decide +kernel, by decide, by decide, by decide +kernel, by decide, zb_995⟩
abbrev mX10_appeal : zMd := (yX10_appeal, cX10_appeal, 6, (some .int))
theorem nX10_appeal : zNm mX10_appeal 2 := ⟨by decide +kernel, by decide, by decide, by decide +kernel, by decide, zb_999⟩
abbrev mX10_mixed : zMd := (yX10_mixed, cX10_mixed, 7, (some .long))
theorem nX10_mixed : zNm mX10_mixed 5 := ⟨by decide +kernel, by decide, by decide, by decide +kernel, by decide, zb_1033⟩
abbrev mX10_doubt : zMd := (yX10_doubt, cX10_doubt, 11, (some .long))
theorem nX10_doubt : zNm mX10_doubt 3 := ⟨by decide +kernel, by decide, by decide, by decide +kernel, by decide, zb_1115⟩
abbrev mX10_leaves : zMd := (yX10_leaves, cX10_leaves, 5, (some .int))
theorem nX10_leaves : zNm mX10_leaves 2 := ⟨by decide +kernel, by decide, by decide, by decide +kernel, by decide, zb_1003⟩
abbrev mX10_gone : zMd := (yX10_gone, cX10_gone, 3, (some .int))
theorem nX10_gone : zNm mX10_gone 2 := ⟨by decide +kernel, by decide, by decide, by decide +kernel, by decide, zb_1021⟩
abbrev mX10_count : zMd := (yX10_count, cX10_count, 2, (some .int))
theorem nX10_count : zNm mX10_count 1 := ⟨by decide +kernel, by decide, by decide, by decide +kernel, by decide, zb_1025⟩
abbrev mX10_isMan : zMd := (yX10_isMan, cX10_isMan, 2, (some .boolean))
theorem nX10_isMan : zNm mX10_isMan 1 := ⟨by decide +kernel, by decide, by decide, by decide +kernel, by decide, zb_562⟩
abbrev mX10_isLot : zMd := (yX10_isLot, cX10_isLot, 2, (some .boolean))
theorem nX10_isLot : zNm mX10_isLot 1 := ⟨by decide +kernel, by decide, by decide, by decide +kernel, by decide, zb_785⟩
abbrev mX10_isDay : zMd := (yX10_isDay, cX10_isDay, 1, (some .boolean))
theorem nX10_isDay : zNm mX10_isDay 1 := ⟨by decide +kernel, by decide, by decide, by decide +kernel, by decide, zb_527⟩
abbrev mX10_isWeek : zMd := (yX10_isWeek, cX10_isWeek, 1, (some .boolean))
theorem nX10_isWeek : zNm mX10_isWeek 1 := ⟨by decide +kernel, by decide, by decide, by decide +kernel, by decide, zb_565⟩
abbrev mX10_isFieldWeek : zMd := (yX10_isFieldWeek, cX10_isFieldWeek, 1, (some .boolean))
theorem nX10_isFieldWeek : zNm mX10_isFieldWeek 1 := ⟨by decide +kernel, by decide, by decide, by decide +kernel, by decide, zb_812⟩
abbrev mX10_isParish : zMd := (yX10_isParish, cX10_isParish, 1, (some .boolean))
theorem nX10_isParish : zNm mX10_isParish 1 := ⟨by decide +kernel, by decide, by decide, by decide +kernel, by decide, zb_547⟩
abbrev mX10_isFather : zMd := (yX10_isFather, cX10_isFather, 1, (some .boolean))
theorem nX10_isFather : zNm mX10_isFather 1 := ⟨by decide +kernel, by decide, by decide, by decide +kernel, by decide, zb_550⟩
abbrev mX10_isDoctor : zMd := (yX10_isDoctor, cX10_isDoctor, 1, (some .boolean))
theorem nX10_isDoctor : zNm mX10_isDoctor 1 := ⟨by decide +kernel, by decide, by decide, by decide +kernel, by decide, zb_583⟩
abbrev mX10_isWhat : zMd := (yX10_isWhat, cX10_isWhat, 1, (some .boolean))
theorem nX10_isWhat : zNm mX10_isWhat 1 := ⟨by decide +kernel, by decide, by decide, by decide +kernel, by decide, zb_1036⟩
abbrev mX10_isFactValue : zMd := (yX10_isFactValue, cX10_isFactValue, 2, (some .boolean))
theorem nX10_isFactValue : zNm mX10_isFactValue 2 := ⟨by decide +kernel, by decide, by decide, by decide +kernel, by decide, zb_576⟩
abbrev mX10_lawFor : zMd := (yX10_lawFor, cX10_lawFor, 6, (some (.object "LotOffice$Law")))
theorem nX10_lawFor : zNm mX10_lawFor 2 := ⟨by decide +kernel, by decide, by decide, by decide +kernel, by decide, zb_872⟩
abbrev mX10_rollAsOf : zMd := (yX10_rollAsOf, cX10_rollAsOf, 5, (some (.object "LotOffice$Roll")))
theorem nX10_rollAsOf : zNm mX10_rollAsOf 2 := ⟨by decide +kernel, by decide, by decide, by decide +kernel, by decide, zb_868⟩
abbrev mX10_chance : zMd := (yX10_chance, cX10_chance, 11, (some .long))
theorem nX10_chance : zNm mX10_chance 5 := ⟨by decide +kernel, by decide, by decide, by decide +kernel, by decide, zb_1102⟩
abbrev mX10_ways : zMd := (yX10_ways, cX10_ways, 5, (some .long))
theorem nX10_ways : zNm mX10_ways 2 := ⟨by decide +kernel, by decide, by decide, by decide +kernel, by decide, zb_1105⟩
abbrev mX10_commonDivisor : zMd := (yX10_commonDivisor, cX10_commonDivisor, 11, (some .long))
theorem nX10_commonDivisor : zNm mX10_commonDivisor 2 := ⟨by decide +kernel, by decide, by decide, by decide +kernel, by decide, zb_1108⟩
abbrev mX11_init : zMd := (yX11_init, cX11_init, 1, none)
theorem nX11_init : zNm mX11_init 0 := ⟨by decide +kernel, by decide, by decide, by decide +kernel, by decide, zb_1122⟩
abbrev mX11_thrown : zMd := (yX11_thrown, cX11_thrown, 1, (some .int))
theorem nX11_thrown : zNm mX11_thrown 0 := ⟨by decide +kernel, by decide, by decide, by decide +kernel, by decide, zb_1420⟩
abbrev mX11_throwsIf : zMd := (yX11_throwsIf, cX11_throwsIf, 2, (some .boolean))
theorem nX11_throwsIf : zNm mX11_throwsIf 1 := ⟨by decide +kernel, by decide, by decide, by decide +kernel, by decide, zb_1738⟩
abbrev mX11_feed : zMd := (yX11_feed, cX11_feed, 6, (some .int))
theorem nX11_feed : zNm mX11_feed 5 := ⟨by decide +kernel, by decide, by decide, by decide +kernel, by decide, zb_1424⟩
abbrev mX11_four : zMd := (yX11_four, cX11_four, 3, none)
theorem nX11_four : zNm mX11_four 1 := ⟨by decide +kernel, by decide, by decide, by decide +kernel, by decide, zb_1428⟩
abbrev mX11_end : zMd := (yX11_end, cX11_end, 2, (some .boolean))
theorem nX11_end : zNm mX11_end 1 := ⟨by decide +kernel, by decide, by decide, by decide +kernel, by decide, zb_1432⟩
abbrev mX11_taken : zMd := (yX11_taken, cX11_taken, 1, none)
theorem nX11_taken : zNm mX11_taken 0 := ⟨by decide +kernel, by decide, by decide, by decide +kernel, by decide, zb_1447⟩
abbrev mX11_isIn : zMd := (yX11_isIn, cX11_isIn, 3, (some .boolean))
theorem nX11_isIn : zNm mX11_isIn 3 := ⟨by decide +kernel, by decide, by decide, by decide +kernel, by decide, zb_1439⟩
abbrev mX11_next : zMd := (yX11_next, cX11_next, 2, (some .int))
theorem nX11_next : zNm mX11_next 1 := ⟨by decide +kernel, by decide, by decide, by decide +kernel, by decide, zb_1436⟩
abbrev mX11_isMan : zMd := (yX11_isMan, cX11_isMan, 2, (some .boolean))
theorem nX11_isMan : zNm mX11_isMan 1 := ⟨by decide +kernel, by decide, by decide, by decide +kernel, by decide, zb_1458⟩
abbrev mX11_man : zMd := (yX11_man, cX11_man, 4, (some .int))
theorem nX11_man : zNm mX11_man 2 := ⟨by decide +kernel, by decide, by decide, by decide +kernel, by decide, zb_1443⟩
abbrev mX11_birth : zMd := (yX11_birth, cX11_birth, 4, (some .boolean))
theorem nX11_birth : zNm mX11_birth 3 := ⟨by decide +kernel, by decide, by decide, by decide +kernel, by decide, zb_1454⟩
abbrev mX11_fact : zMd := (yX11_fact, cX11_fact, 6, (some .boolean))
theorem nX11_fact : zNm mX11_fact 5 := ⟨by decide +kernel, by decide, by decide, by decide +kernel, by decide, zb_1462⟩
abbrev mX11_exam : zMd := (yX11_exam, cX11_exam, 4, (some .boolean))
theorem nX11_exam : zNm mX11_exam 3 := ⟨by decide +kernel, by decide, by decide, by decide +kernel, by decide, zb_1466⟩
abbrev mX11_same : zMd := (yX11_same, cX11_same, 3, (some .boolean))
theorem nX11_same : zNm mX11_same 2 := ⟨by decide +kernel, by decide, by decide, by decide +kernel, by decide, zb_1470⟩
abbrev mX11_peek : zMd := (yX11_peek, cX11_peek, 1, (some .int))
theorem nX11_peek : zNm mX11_peek 0 := ⟨by decide +kernel, by decide, by decide, by decide +kernel, by decide, zb_1482⟩
abbrev mX11_isSmall : zMd := (yX11_isSmall, cX11_isSmall, 1, (some .boolean))
theorem nX11_isSmall : zNm mX11_isSmall 1 := ⟨by decide +kernel, by decide, by decide, by decide +kernel, by decide, zb_1450⟩
abbrev mX11_isDigit : zMd := (yX11_isDigit, cX11_isDigit, 1, (some .boolean))
theorem nX11_isDigit : zNm mX11_isDigit 1 := ⟨by decide +kernel, by decide, by decide, by decide +kernel, by decide, zb_1485⟩
abbrev mX11_next_ : zMd := (yX11_next_, cX11_next_, 4, none)
theorem nX11_next_ : zNm mX11_next_ 0 := ⟨by decide +kernel, by decide, by decide, by decide +kernel, by decide, zb_1478⟩
abbrev mX11_bad : zMd := (yX11_bad, cX11_bad, 2, (some .boolean))
theorem nX11_bad : zNm mX11_bad 1 := ⟨by decide +kernel, by decide, by decide, by decide +kernel, by decide, zb_1503⟩
abbrev mX11_isWord : zMd := (yX11_isWord, cX11_isWord, 3, (some .boolean))
theorem nX11_isWord : zNm mX11_isWord 1 := ⟨by decide +kernel, by decide, by decide, by decide +kernel, by decide, zb_1494⟩
abbrev mX11_isSign : zMd := (yX11_isSign, cX11_isSign, 2, (some .boolean))
theorem nX11_isSign : zNm mX11_isSign 1 := ⟨by decide +kernel, by decide, by decide, by decide +kernel, by decide, zb_1541⟩
abbrev mX11_sign : zMd := (yX11_sign, cX11_sign, 2, (some .boolean))
theorem nX11_sign : zNm mX11_sign 1 := ⟨by decide +kernel, by decide, by decide, by decide +kernel, by decide, zb_1566⟩
abbrev mX11_atom : zMd := (yX11_atom, cX11_atom, 1, (some .int))
theorem nX11_atom : zNm mX11_atom 0 := ⟨by decide +kernel, by decide, by decide, by decide +kernel, by decide, zb_1526⟩
abbrev mX11_write : zMd := (yX11_write, cX11_write, 4, none)
theorem nX11_write : zNm mX11_write 3 := ⟨by decide +kernel, by decide, by decide, by decide +kernel, by decide, zb_1549⟩
abbrev mX11_writeDown : zMd := (yX11_writeDown, cX11_writeDown, 2, none)
theorem nX11_writeDown : zNm mX11_writeDown 1 := ⟨by decide +kernel, by decide, by decide, by decide +kernel, by decide, zb_1553⟩
abbrev mX11_binds : zMd := (yX11_binds, cX11_binds, 1, (some .int))
theorem nX11_binds : zNm mX11_binds 1 := ⟨by decide +kernel, by decide, by decide, by decide +kernel, by decide, zb_1556⟩
abbrev mX11_open : zMd := (yX11_open, cX11_open, 3, (some .int))
theorem nX11_open : zNm mX11_open 0 := ⟨by decide +kernel, by decide, by decide, by decide +kernel, by decide, zb_1545⟩
abbrev mX11_isOpen : zMd := (yX11_isOpen, cX11_isOpen, 2, (some .boolean))
theorem nX11_isOpen : zNm mX11_isOpen 0 := ⟨by decide +kernel, by decide, by decide, by decide +kernel, by decide, zb_1560⟩
abbrev mX11_cond : zMd := (yX11_cond, cX11_cond, 2, (some .boolean))
theorem nX11_cond : zNm mX11_cond 0 := ⟨by decide +kernel, by decide, by decide, by decide +kernel, by decide, zb_1518⟩
abbrev mX11_one : zMd := (yX11_one, cX11_one, 4, (some .boolean))
theorem nX11_one : zNm mX11_one 0 := ⟨by decide +kernel, by decide, by decide, by decide +kernel, by decide, zb_1522⟩
abbrev mX11_readNumber : zMd := (yX11_readNumber, cX11_readNumber, 3, (some .boolean))
theorem nX11_readNumber : zNm mX11_readNumber 2 := ⟨by decide +kernel, by decide, by decide, by decide +kernel, by decide, zb_1507⟩
abbrev mX11_line : zMd := (yX11_line, cX11_line, 3, (some .boolean))
theorem nX11_line : zNm mX11_line 0 := ⟨by decide +kernel, by decide, by decide, by decide +kernel, by decide, zb_1489⟩
abbrev mX11_ages : zMd := (yX11_ages, cX11_ages, 2, (some .boolean))
theorem nX11_ages : zNm mX11_ages 1 := ⟨by decide +kernel, by decide, by decide, by decide +kernel, by decide, zb_1511⟩
abbrev mX11_law : zMd := (yX11_law, cX11_law, 2, (some .int))
theorem nX11_law : zNm mX11_law 1 := ⟨by decide +kernel, by decide, by decide, by decide +kernel, by decide, zb_1474⟩
abbrev mX11_keep : zMd := (yX11_keep, cX11_keep, 5, none)
theorem nX11_keep : zNm mX11_keep 1 := ⟨by decide +kernel, by decide, by decide, by decide +kernel, by decide, zb_1570⟩
abbrev mX11_fault : zMd := (yX11_fault, cX11_fault, 1, (some .int))
theorem nX11_fault : zNm mX11_fault 0 := ⟨by decide +kernel, by decide, by decide, by decide +kernel, by decide, zb_1574⟩
abbrev mX11_lawFor : zMd := (yX11_lawFor, cX11_lawFor, 5, (some .int))
theorem nX11_lawFor : zNm mX11_lawFor 2 := ⟨by decide +kernel, by decide, by decide, by decide +kernel, by decide, zb_1638⟩
abbrev mX11_isLot : zMd := (yX11_isLot, cX11_isLot, 2, (some .boolean))
theorem nX11_isLot : zNm mX11_isLot 1 := ⟨by decide +kernel, by decide, by decide, by decide +kernel, by decide, zb_1586⟩
abbrev mX11_lot : zMd := (yX11_lot, cX11_lot, 4, (some .int))
theorem nX11_lot : zNm mX11_lot 2 := ⟨by decide +kernel, by decide, by decide, by decide +kernel, by decide, zb_1578⟩
abbrev mX11_isOrder : zMd := (yX11_isOrder, cX11_isOrder, 3, (some .boolean))
theorem nX11_isOrder : zNm mX11_isOrder 1 := ⟨by decide +kernel, by decide, by decide, by decide +kernel, by decide, zb_1590⟩
abbrev mX11_weeks : zMd := (yX11_weeks, cX11_weeks, 3, (some .boolean))
theorem nX11_weeks : zNm mX11_weeks 1 := ⟨by decide +kernel, by decide, by decide, by decide +kernel, by decide, zb_1582⟩
abbrev mX11_letters : zMd := (yX11_letters, cX11_letters, 3, (some .boolean))
theorem nX11_letters : zNm mX11_letters 1 := ⟨by decide +kernel, by decide, by decide, by decide +kernel, by decide, zb_1594⟩
abbrev mX11_people : zMd := (yX11_people, cX11_people, 6, none)
theorem nX11_people : zNm mX11_people 1 := ⟨by decide +kernel, by decide, by decide, by decide +kernel, by decide, zb_1602⟩
abbrev mX11_who : zMd := (yX11_who, cX11_who, 3, (some .int))
theorem nX11_who : zNm mX11_who 2 := ⟨by decide +kernel, by decide, by decide, by decide +kernel, by decide, zb_1598⟩
abbrev mX11_ageOf : zMd := (yX11_ageOf, cX11_ageOf, 4, (some .int))
theorem nX11_ageOf : zNm mX11_ageOf 2 := ⟨by decide +kernel, by decide, by decide, by decide +kernel, by decide, zb_1610⟩
abbrev mX11_age : zMd := (yX11_age, cX11_age, 4, (some .int))
theorem nX11_age : zNm mX11_age 3 := ⟨by decide +kernel, by decide, by decide, by decide +kernel, by decide, zb_1606⟩
abbrev mX11_areBrothers : zMd := (yX11_areBrothers, cX11_areBrothers, 3, (some .boolean))
theorem nX11_areBrothers : zNm mX11_areBrothers 2 := ⟨by decide +kernel, by decide, by decide, by decide +kernel, by decide, zb_1622⟩
abbrev mX11_brothersOf : zMd := (yX11_brothersOf, cX11_brothersOf, 4, (some .int))
theorem nX11_brothersOf : zNm mX11_brothersOf 1 := ⟨by decide +kernel, by decide, by decide, by decide +kernel, by decide, zb_1618⟩
abbrev mX11_brothers : zMd := (yX11_brothers, cX11_brothers, 3, (some .int))
theorem nX11_brothers : zNm mX11_brothers 2 := ⟨by decide +kernel, by decide, by decide, by decide +kernel, by decide, zb_1614⟩
abbrev mX11_hold : zMd := (yX11_hold, cX11_hold, 4, none)
theorem nX11_hold : zNm mX11_hold 2 := ⟨by decide +kernel, by decide, by decide, by decide +kernel, by decide, zb_1634⟩
abbrev mX11_servingOf : zMd := (yX11_servingOf, cX11_servingOf, 7, (some .int))
theorem nX11_servingOf : zNm mX11_servingOf 2 := ⟨by decide +kernel, by decide, by decide, by decide +kernel, by decide, zb_1658⟩
abbrev mX11_numberOf : zMd := (yX11_numberOf, cX11_numberOf, 4, (some .int))
theorem nX11_numberOf : zNm mX11_numberOf 3 := ⟨by decide +kernel, by decide, by decide, by decide +kernel, by decide, zb_1654⟩
abbrev mX11_isSo : zMd := (yX11_isSo, cX11_isSo, 9, (some .boolean))
theorem nX11_isSo : zNm mX11_isSo 4 := ⟨by decide +kernel, by decide, by decide, by decide +kernel, by decide, zb_1650⟩
abbrev mX11_lineOf : zMd := (yX11_lineOf, cX11_lineOf, 6, (some .int))
theorem nX11_lineOf : zNm mX11_lineOf 4 := ⟨by decide +kernel, by decide, by decide, by decide +kernel, by decide, zb_1646⟩
abbrev mX11_judge : zMd := (yX11_judge, cX11_judge, 8, none)
theorem nX11_judge : zNm mX11_judge 3 := ⟨by decide +kernel, by decide, by decide, by decide +kernel, by decide, zb_1642⟩
abbrev mX11_isListed : zMd := (yX11_isListed, cX11_isListed, 3, (some .boolean))
theorem nX11_isListed : zNm mX11_isListed 2 := ⟨by decide +kernel, by decide, by decide, by decide +kernel, by decide, zb_1666⟩
abbrev mX11_isAhead : zMd := (yX11_isAhead, cX11_isAhead, 5, (some .boolean))
theorem nX11_isAhead : zNm mX11_isAhead 3 := ⟨by decide +kernel, by decide, by decide, by decide +kernel, by decide, zb_1674⟩
abbrev mX11_weekOf : zMd := (yX11_weekOf, cX11_weekOf, 2, (some .int))
theorem nX11_weekOf : zNm mX11_weekOf 1 := ⟨by decide +kernel, by decide, by decide, by decide +kernel, by decide, zb_1678⟩
abbrev mX11_placeOf : zMd := (yX11_placeOf, cX11_placeOf, 5, (some .int))
theorem nX11_placeOf : zNm mX11_placeOf 2 := ⟨by decide +kernel, by decide, by decide, by decide +kernel, by decide, zb_1670⟩
abbrev mX11_share : zMd := (yX11_share, cX11_share, 8, none)
theorem nX11_share : zNm mX11_share 1 := ⟨by decide +kernel, by decide, by decide, by decide +kernel, by decide, zb_1662⟩
abbrev mX11_sentBy : zMd := (yX11_sentBy, cX11_sentBy, 5, (some .int))
theorem nX11_sentBy : zNm mX11_sentBy 3 := ⟨by decide +kernel, by decide, by decide, by decide +kernel, by decide, zb_1686⟩
abbrev mX11_chain : zMd := (yX11_chain, cX11_chain, 6, none)
theorem nX11_chain : zNm mX11_chain 2 := ⟨by decide +kernel, by decide, by decide, by decide +kernel, by decide, zb_1682⟩
abbrev mX11_roll : zMd := (yX11_roll, cX11_roll, 6, none)
theorem nX11_roll : zNm mX11_roll 2 := ⟨by decide +kernel, by decide, by decide, by decide +kernel, by decide, zb_1630⟩
abbrev mX11_state : zMd := (yX11_state, cX11_state, 4, (some .int))
theorem nX11_state : zNm mX11_state 3 := ⟨by decide +kernel, by decide, by decide, by decide +kernel, by decide, zb_1626⟩
abbrev mX11_why : zMd := (yX11_why, cX11_why, 1, (some .int))
theorem nX11_why : zNm mX11_why 0 := ⟨by decide +kernel, by decide, by decide, by decide +kernel, by decide, zb_1690⟩
abbrev mX11_quota : zMd := (yX11_quota, cX11_quota, 4, (some .int))
theorem nX11_quota : zNm mX11_quota 3 := ⟨by decide +kernel, by decide, by decide, by decide +kernel, by decide, zb_1694⟩
abbrev mX11_place : zMd := (yX11_place, cX11_place, 4, (some .int))
theorem nX11_place : zNm mX11_place 3 := ⟨by decide +kernel, by decide, by decide, by decide +kernel, by decide, zb_1698⟩
abbrev mX11_called : zMd := (yX11_called, cX11_called, 5, (some .int))
theorem nX11_called : zNm mX11_called 2 := ⟨by decide +kernel, by decide, by decide, by decide +kernel, by decide, zb_1702⟩
abbrev mX11_wasSent : zMd := (yX11_wasSent, cX11_wasSent, 4, (some .boolean))
theorem nX11_wasSent : zNm mX11_wasSent 2 := ⟨by decide +kernel, by decide, by decide, by decide +kernel, by decide, zb_1710⟩
abbrev mX11_send : zMd := (yX11_send, cX11_send, 7, (some .boolean))
theorem nX11_send : zNm mX11_send 3 := ⟨by decide +kernel, by decide, by decide, by decide +kernel, by decide, zb_1706⟩
abbrev mX11_serves : zMd := (yX11_serves, cX11_serves, 4, (some .int))
theorem nX11_serves : zNm mX11_serves 3 := ⟨by decide +kernel, by decide, by decide, by decide +kernel, by decide, zb_1714⟩
abbrev mX11_callOf : zMd := (yX11_callOf, cX11_callOf, 4, none)
theorem nX11_callOf : zNm mX11_callOf 2 := ⟨by decide +kernel, by decide, by decide, by decide +kernel, by decide, zb_1722⟩
abbrev mX11_mended : zMd := (yX11_mended, cX11_mended, 6, (some .int))
theorem nX11_mended : zNm mX11_mended 4 := ⟨by decide +kernel, by decide, by decide, by decide +kernel, by decide, zb_1718⟩
abbrev mX11_mendedAt : zMd := (yX11_mendedAt, cX11_mendedAt, 2, (some .int))
theorem nX11_mendedAt : zNm mX11_mendedAt 1 := ⟨by decide +kernel, by decide, by decide, by decide +kernel, by decide, zb_1726⟩
abbrev mX11_appeal : zMd := (yX11_appeal, cX11_appeal, 5, (some .int))
theorem nX11_appeal : zNm mX11_appeal 2 := ⟨by decide +kernel, by decide, by decide, by decide +kernel, by decide, zb_1730⟩
abbrev mX11_choose : zMd := (yX11_choose, cX11_choose, 5, (some .long))
theorem nX11_choose : zNm mX11_choose 2 := ⟨by decide +kernel, by decide, by decide, by decide +kernel, by decide, zb_1745⟩
abbrev mX11_take : zMd := (yX11_take, cX11_take, 15, none)
theorem nX11_take : zNm mX11_take 4 := ⟨by decide +kernel, by decide, by decide, by decide +kernel, by decide, zb_1742⟩
abbrev mX11_mixed : zMd := (yX11_mixed, cX11_mixed, 8, (some .long))
theorem nX11_mixed : zNm mX11_mixed 5 := ⟨by decide +kernel, by decide, by decide, by decide +kernel, by decide, zb_1734⟩
abbrev mX11_doubt : zMd := (yX11_doubt, cX11_doubt, 10, (some .long))
theorem nX11_doubt : zNm mX11_doubt 3 := ⟨by decide +kernel, by decide, by decide, by decide +kernel, by decide, zb_1749⟩
abbrev mX11_hands : zMd := (yX11_hands, cX11_hands, 4, (some .boolean))
theorem nX11_hands : zNm mX11_hands 3 := ⟨by decide +kernel, by decide, by decide, by decide +kernel, by decide, zb_1753⟩
abbrev mX11_mayGo : zMd := (yX11_mayGo, cX11_mayGo, 8, (some .int))
theorem nX11_mayGo : zNm mX11_mayGo 3 := ⟨by decide +kernel, by decide, by decide, by decide +kernel, by decide, zb_1761⟩
abbrev mX11_leaves : zMd := (yX11_leaves, cX11_leaves, 8, (some .int))
theorem nX11_leaves : zNm mX11_leaves 2 := ⟨by decide +kernel, by decide, by decide, by decide +kernel, by decide, zb_1757⟩
abbrev mX11_gone : zMd := (yX11_gone, cX11_gone, 3, (some .int))
theorem nX11_gone : zNm mX11_gone 2 := ⟨by decide +kernel, by decide, by decide, by decide +kernel, by decide, zb_1765⟩
abbrev mX11_count : zMd := (yX11_count, cX11_count, 2, (some .int))
theorem nX11_count : zNm mX11_count 1 := ⟨by decide +kernel, by decide, by decide, by decide +kernel, by decide, zb_1769⟩
abbrev mJ9_floorMod_7cf53 : zMd := (yJ9_floorMod_7cf53, cJ9_floorMod_7cf53, 3, (some .int))
theorem nJ9_floorMod_7cf53 : zNm mJ9_floorMod_7cf53 2 := ⟨by decide +kernel, by decide, by decide, by decide +kernel, by decide, zb_925⟩
abbrev mJ9_max_7cf53 : zMd := (yJ9_max_7cf53, cJ9_max_7cf53, 2, (some .int))
theorem nJ9_max_7cf53 : zNm mJ9_max_7cf53 2 := ⟨by decide +kernel, by decide, by decide, by decide +kernel, by decide, zb_837⟩
abbrev mJ9_min_7cf53 : zMd := (yJ9_min_7cf53, cJ9_min_7cf53, 2, (some .int))
theorem nJ9_min_7cf53 : zNm mJ9_min_7cf53 2 := ⟨by decide +kernel, by decide, by decide, by decide +kernel, by decide, zb_606⟩
abbrev mJ7_fill_53178 : zMd := (yJ7_fill_53178, cJ7_fill_53178, 4, none)
theorem nJ7_fill_53178 : zNm mJ7_fill_53178 2 := ⟨by decide +kernel, by decide, by decide, by decide +kernel, by decide, zb_844⟩
