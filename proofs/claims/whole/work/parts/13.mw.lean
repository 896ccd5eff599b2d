theorem mwLH_init : MW yLH_init bLH_init 1 none 0 := ⟨w19, w1, ⟨by decide, by decide⟩, by decide +kernel⟩
theorem mwSp_init : MW ySp_init bSp_init 1 none 0 := ⟨w29, w2, ⟨by decide, by decide⟩, by decide +kernel⟩
theorem mwTa_init : MW yTa_init bTa_init 1 none 0 := ⟨w35, w3, ⟨by decide, by decide⟩, by decide +kernel⟩
theorem mwSt_init : MW ySt_init bSt_init 1 none 0 := ⟨w63, w4, ⟨by decide, by decide⟩, by decide +kernel⟩
theorem mwAr_fill : MW yAr_fill bAr_fill 4 none 2 := ⟨w110, w5, ⟨by decide, by decide⟩, by decide +kernel⟩
theorem mwLH_clear : MW yLH_clear bLH_clear 2 (some .int) 0 := ⟨w160, w1, ⟨by decide, by decide⟩, by decide +kernel⟩
theorem mwLH_events : MW yLH_events bLH_events 1 (some .int) 0 := ⟨w164, w1, ⟨by decide, by decide⟩, by decide +kernel⟩
theorem mwLH_linear : MW yLH_linear bLH_linear 4 (some .int) 0 := ⟨w168, w1, ⟨by decide, by decide⟩, by decide +kernel⟩
theorem mwLH_subjectOf : MW yLH_subjectOf bLH_subjectOf 2 (some (.object "LinearHistories$Subject")) 1 := ⟨w172, w1, ⟨by decide, by decide⟩, by decide +kernel⟩
theorem mwSu_learn : MW ySu_learn bSu_learn 2 none 1 := ⟨w244, w11, ⟨by decide, by decide⟩, by decide +kernel⟩
theorem mwSp_explore : MW ySp_explore bSp_explore 9 (some .boolean) 4 := ⟨w248, w2, ⟨by decide, by decide⟩, by decide +kernel⟩
theorem mwTa_makeEmpty : MW yTa_makeEmpty bTa_makeEmpty 1 none 0 := ⟨w252, w3, ⟨by decide, by decide⟩, by decide +kernel⟩
theorem mwTa_keep : MW yTa_keep bTa_keep 6 (some .int) 2 := ⟨w257, w3, ⟨by decide, by decide⟩, by decide +kernel⟩
theorem mwTa_chainOf : MW yTa_chainOf bTa_chainOf 4 (some .int) 2 := ⟨w261, w3, ⟨by decide, by decide⟩, by decide +kernel⟩
theorem mwTa_findIn : MW yTa_findIn bTa_findIn 7 (some .int) 3 := ⟨w267, w3, ⟨by decide, by decide⟩, by decide +kernel⟩
theorem mwSp_step : MW ySp_step bSp_step 8 (some .boolean) 3 := ⟨w271, w2, ⟨by decide, by decide⟩, by decide +kernel⟩
theorem mwSt_become : MW ySt_become bSt_become 4 none 2 := ⟨w276, w4, ⟨by decide, by decide⟩, by decide +kernel⟩
theorem mwSt_change : MW ySt_change bSt_change 4 none 3 := ⟨w280, w4, ⟨by decide, by decide⟩, by decide +kernel⟩
theorem mwSt_changeRegister : MW ySt_changeRegister bSt_changeRegister 3 (some .int) 1 := ⟨w284, w4, ⟨by decide, by decide⟩, by decide +kernel⟩
theorem mwSt_changeSet : MW ySt_changeSet bSt_changeSet 5 (some .int) 1 := ⟨w288, w4, ⟨by decide, by decide⟩, by decide +kernel⟩
theorem mwSt_changeMap : MW ySt_changeMap bSt_changeMap 5 (some .int) 2 := ⟨w293, w4, ⟨by decide, by decide⟩, by decide +kernel⟩
theorem mwSt_changeSequence : MW ySt_changeSequence bSt_changeSequence 4 (some .int) 3 := ⟨w299, w4, ⟨by decide, by decide⟩, by decide +kernel⟩
theorem mwSt_placeInHeap : MW ySt_placeInHeap bSt_placeInHeap 6 (some .int) 2 := ⟨w303, w4, ⟨by decide, by decide⟩, by decide +kernel⟩
theorem mwSt_insertAt : MW ySt_insertAt bSt_insertAt 8 none 2 := ⟨w307, w4, ⟨by decide, by decide⟩, by decide +kernel⟩
theorem mwSt_removeAt : MW ySt_removeAt bSt_removeAt 8 (some .int) 1 := ⟨w311, w4, ⟨by decide, by decide⟩, by decide +kernel⟩
theorem mwSp_keyBehind : MW ySp_keyBehind bSp_keyBehind 3 (some .int) 2 := ⟨w315, w2, ⟨by decide, by decide⟩, by decide +kernel⟩
theorem mwSp_waysToEnds : MW ySp_waysToEnds bSp_waysToEnds 4 (some .long) 0 := ⟨w319, w2, ⟨by decide, by decide⟩, by decide +kernel⟩
theorem mwSp_isEnd : MW ySp_isEnd bSp_isEnd 2 (some .boolean) 1 := ⟨w323, w2, ⟨by decide, by decide⟩, by decide +kernel⟩
theorem mwSp_statesAtEnds : MW ySp_statesAtEnds bSp_statesAtEnds 3 (some .int) 1 := ⟨w327, w2, ⟨by decide, by decide⟩, by decide +kernel⟩
theorem mwLH_object : MW yLH_object bLH_object 3 (some .int) 1 := ⟨w336, w1, ⟨by decide, by decide⟩, by decide +kernel⟩
theorem mwSu_init : MW ySu_init bSu_init 2 none 0 := ⟨w341, w11, ⟨by decide, by decide⟩, by decide +kernel⟩
theorem mwOp_init : MW yOp_init bOp_init 1 none 0 := ⟨w350, w12, ⟨by decide, by decide⟩, by decide +kernel⟩
theorem mwSu_begin : MW ySu_begin bSu_begin 2 none 1 := ⟨w452, w11, ⟨by decide, by decide⟩, by decide +kernel⟩
theorem mwSu_forget : MW ySu_forget bSu_forget 1 none 0 := ⟨w456, w11, ⟨by decide, by decide⟩, by decide +kernel⟩
theorem mwLH_call : MW yLH_call bLH_call 8 (some .int) 5 := ⟨w464, w1, ⟨by decide, by decide⟩, by decide +kernel⟩
theorem mwLH_checkProcess : MW yLH_checkProcess bLH_checkProcess 2 none 1 := ⟨w468, w1, ⟨by decide, by decide⟩, by decide +kernel⟩
theorem mwSu_operationsOfKind : MW ySu_operationsOfKind bSu_operationsOfKind 1 (some .int) 0 := ⟨w473, w11, ⟨by decide, by decide⟩, by decide +kernel⟩
theorem mwSu_addOperation : MW ySu_addOperation bSu_addOperation 6 none 4 := ⟨w494, w11, ⟨by decide, by decide⟩, by decide +kernel⟩
theorem mwSu_placesOf : MW ySu_placesOf bSu_placesOf 4 (some .int) 1 := ⟨w498, w11, ⟨by decide, by decide⟩, by decide +kernel⟩
theorem mwSu_numberOf : MW ySu_numberOf bSu_numberOf 2 (some .int) 1 := ⟨w502, w11, ⟨by decide, by decide⟩, by decide +kernel⟩
theorem mwSu_nameOf : MW ySu_nameOf bSu_nameOf 3 (some .int) 1 := ⟨w506, w11, ⟨by decide, by decide⟩, by decide +kernel⟩
theorem mwLH_back : MW yLH_back bLH_back 4 none 2 := ⟨w513, w1, ⟨by decide, by decide⟩, by decide +kernel⟩
theorem mwLH_operationOf : MW yLH_operationOf bLH_operationOf 2 (some .int) 1 := ⟨w517, w1, ⟨by decide, by decide⟩, by decide +kernel⟩
theorem mwSu_endOperation : MW ySu_endOperation bSu_endOperation 4 none 3 := ⟨w522, w11, ⟨by decide, by decide⟩, by decide +kernel⟩
theorem mwLH_lose : MW yLH_lose bLH_lose 2 none 1 := ⟨w529, w1, ⟨by decide, by decide⟩, by decide +kernel⟩
theorem mwLH_possibilities : MW yLH_possibilities bLH_possibilities 2 (some .int) 1 := ⟨w536, w1, ⟨by decide, by decide⟩, by decide +kernel⟩
theorem mwLH_learnedSubject : MW yLH_learnedSubject bLH_learnedSubject 3 (some (.object "LinearHistories$Subject")) 1 := ⟨w540, w1, ⟨by decide, by decide⟩, by decide +kernel⟩
theorem mwLH_judge : MW yLH_judge bLH_judge 2 (some .int) 1 := ⟨w547, w1, ⟨by decide, by decide⟩, by decide +kernel⟩
theorem mwLH_judgeOwn : MW yLH_judgeOwn bLH_judgeOwn 3 (some .int) 1 := ⟨w554, w1, ⟨by decide, by decide⟩, by decide +kernel⟩
theorem mwSu_learnOwn : MW ySu_learnOwn bSu_learnOwn 2 none 1 := ⟨w558, w11, ⟨by decide, by decide⟩, by decide +kernel⟩
theorem mwLH_ways : MW yLH_ways bLH_ways 2 (some .long) 1 := ⟨w565, w1, ⟨by decide, by decide⟩, by decide +kernel⟩
theorem mwLH_lasts : MW yLH_lasts bLH_lasts 2 (some .int) 1 := ⟨w572, w1, ⟨by decide, by decide⟩, by decide +kernel⟩
theorem mwLH_broken : MW yLH_broken bLH_broken 3 (some .int) 1 := ⟨w579, w1, ⟨by decide, by decide⟩, by decide +kernel⟩
theorem mwSu_learnBreak : MW ySu_learnBreak bSu_learnBreak 5 none 1 := ⟨w583, w11, ⟨by decide, by decide⟩, by decide +kernel⟩
theorem mwLH_length : MW yLH_length bLH_length 1 (some .int) 0 := ⟨w591, w1, ⟨by decide, by decide⟩, by decide +kernel⟩
theorem mwLH_checkLinear : MW yLH_checkLinear bLH_checkLinear 2 none 1 := ⟨w596, w1, ⟨by decide, by decide⟩, by decide +kernel⟩
theorem mwLH_buildRow : MW yLH_buildRow bLH_buildRow 4 none 0 := ⟨w601, w1, ⟨by decide, by decide⟩, by decide +kernel⟩
theorem mwSp_markHopeful : MW ySp_markHopeful bSp_markHopeful 6 none 1 := ⟨w605, w2, ⟨by decide, by decide⟩, by decide +kernel⟩
theorem mwSp_target : MW ySp_target bSp_target 4 (some .int) 3 := ⟨w609, w2, ⟨by decide, by decide⟩, by decide +kernel⟩
theorem mwTa_find : MW yTa_find bTa_find 4 (some .int) 2 := ⟨w613, w3, ⟨by decide, by decide⟩, by decide +kernel⟩
theorem mwLH_allAtEnds : MW yLH_allAtEnds bLH_allAtEnds 2 (some .boolean) 0 := ⟨w617, w1, ⟨by decide, by decide⟩, by decide +kernel⟩
theorem mwLH_placeNext : MW yLH_placeNext bLH_placeNext 8 (some .int) 1 := ⟨w622, w1, ⟨by decide, by decide⟩, by decide +kernel⟩
theorem mwLH_row : MW yLH_row bLH_row 2 (some .int) 1 := ⟨w632, w1, ⟨by decide, by decide⟩, by decide +kernel⟩
theorem mwLH_checkPlace : MW yLH_checkPlace bLH_checkPlace 2 none 1 := ⟨w636, w1, ⟨by decide, by decide⟩, by decide +kernel⟩
theorem mwLH_result : MW yLH_result bLH_result 2 (some .int) 1 := ⟨w659, w1, ⟨by decide, by decide⟩, by decide +kernel⟩
theorem mwMo_init : MW yMo_init bMo_init 1 none 0 := ⟨w664, w6, ⟨by decide, by decide⟩, by decide +kernel⟩
theorem mwMo_forget : MW yMo_forget bMo_forget 2 none 0 := ⟨w669, w6, ⟨by decide, by decide⟩, by decide +kernel⟩
theorem mwMo_change : MW yMo_change bMo_change 2 none 0 := ⟨w673, w6, ⟨by decide, by decide⟩, by decide +kernel⟩
theorem mwMo_thrown : MW yMo_thrown bMo_thrown 1 (some .int) 0 := ⟨w783, w6, ⟨by decide, by decide⟩, by decide +kernel⟩
theorem mwMo_object : MW yMo_object bMo_object 2 (some .int) 1 := ⟨w787, w6, ⟨by decide, by decide⟩, by decide +kernel⟩
theorem mwMo_call : MW yMo_call bMo_call 8 (some .int) 5 := ⟨w791, w6, ⟨by decide, by decide⟩, by decide +kernel⟩
theorem mwMo_noObject : MW yMo_noObject bMo_noObject 2 (some .boolean) 1 := ⟨w795, w6, ⟨by decide, by decide⟩, by decide +kernel⟩
theorem mwMo_back : MW yMo_back bMo_back 3 none 2 := ⟨w799, w6, ⟨by decide, by decide⟩, by decide +kernel⟩
theorem mwMo_isIdle : MW yMo_isIdle bMo_isIdle 2 (some .boolean) 1 := ⟨w803, w6, ⟨by decide, by decide⟩, by decide +kernel⟩
theorem mwMo_lose : MW yMo_lose bMo_lose 2 none 1 := ⟨w807, w6, ⟨by decide, by decide⟩, by decide +kernel⟩
theorem mwMo_clear : MW yMo_clear bMo_clear 2 (some .int) 0 := ⟨w811, w6, ⟨by decide, by decide⟩, by decide +kernel⟩
theorem mwMo_events : MW yMo_events bMo_events 1 (some .int) 0 := ⟨w815, w6, ⟨by decide, by decide⟩, by decide +kernel⟩
theorem mwMo_possibilities : MW yMo_possibilities bMo_possibilities 2 (some .int) 1 := ⟨w819, w6, ⟨by decide, by decide⟩, by decide +kernel⟩
theorem mwMo_look : MW yMo_look bMo_look 7 none 1 := ⟨w823, w6, ⟨by decide, by decide⟩, by decide +kernel⟩
theorem mwMo_gather : MW yMo_gather bMo_gather 10 (some .int) 4 := ⟨w827, w6, ⟨by decide, by decide⟩, by decide +kernel⟩
theorem mwMo_can : MW yMo_can bMo_can 8 (some .boolean) 5 := ⟨w831, w6, ⟨by decide, by decide⟩, by decide +kernel⟩
theorem mwMo_isBefore : MW yMo_isBefore bMo_isBefore 5 (some .boolean) 4 := ⟨w835, w6, ⟨by decide, by decide⟩, by decide +kernel⟩
theorem mwMo_isBack : MW yMo_isBack bMo_isBack 3 (some .boolean) 2 := ⟨w839, w6, ⟨by decide, by decide⟩, by decide +kernel⟩
theorem mwMo_doIt : MW yMo_doIt bMo_doIt 5 none 3 := ⟨w843, w6, ⟨by decide, by decide⟩, by decide +kernel⟩
theorem mwMo_doRegister : MW yMo_doRegister bMo_doRegister 5 none 3 := ⟨w847, w6, ⟨by decide, by decide⟩, by decide +kernel⟩
theorem mwMo_doSet : MW yMo_doSet bMo_doSet 7 none 3 := ⟨w851, w6, ⟨by decide, by decide⟩, by decide +kernel⟩
theorem mwMo_likeFirst : MW yMo_likeFirst bMo_likeFirst 4 (some .int) 2 := ⟨w855, w6, ⟨by decide, by decide⟩, by decide +kernel⟩
theorem mwMo_doMap : MW yMo_doMap bMo_doMap 7 none 3 := ⟨w860, w6, ⟨by decide, by decide⟩, by decide +kernel⟩
theorem mwMo_likeSecond : MW yMo_likeSecond bMo_likeSecond 4 (some .int) 2 := ⟨w866, w6, ⟨by decide, by decide⟩, by decide +kernel⟩
theorem mwMo_doRow : MW yMo_doRow bMo_doRow 11 none 3 := ⟨w870, w6, ⟨by decide, by decide⟩, by decide +kernel⟩
theorem mwMo_thing : MW yMo_thing bMo_thing 3 (some .int) 2 := ⟨w873, w6, ⟨by decide, by decide⟩, by decide +kernel⟩
theorem mwMo_search : MW yMo_search bMo_search 5 (some .int) 3 := ⟨w879, w6, ⟨by decide, by decide⟩, by decide +kernel⟩
theorem mwMo_judgeOf : MW yMo_judgeOf bMo_judgeOf 6 (some .int) 4 := ⟨w883, w6, ⟨by decide, by decide⟩, by decide +kernel⟩
theorem mwMo_isEnd : MW yMo_isEnd bMo_isEnd 5 (some .boolean) 3 := ⟨w887, w6, ⟨by decide, by decide⟩, by decide +kernel⟩
theorem mwMo_judge : MW yMo_judge bMo_judge 2 (some .int) 1 := ⟨w892, w6, ⟨by decide, by decide⟩, by decide +kernel⟩
theorem mwMo_judgeOwn : MW yMo_judgeOwn bMo_judgeOwn 3 (some .int) 1 := ⟨w896, w6, ⟨by decide, by decide⟩, by decide +kernel⟩
theorem mwMo_ways : MW yMo_ways bMo_ways 2 (some .long) 1 := ⟨w900, w6, ⟨by decide, by decide⟩, by decide +kernel⟩
theorem mwMo_lasts : MW yMo_lasts bMo_lasts 2 (some .int) 1 := ⟨w904, w6, ⟨by decide, by decide⟩, by decide +kernel⟩
theorem mwMo_broken : MW yMo_broken bMo_broken 4 (some .int) 1 := ⟨w908, w6, ⟨by decide, by decide⟩, by decide +kernel⟩
theorem mwMo_isTouched : MW yMo_isTouched bMo_isTouched 5 (some .boolean) 2 := ⟨w912, w6, ⟨by decide, by decide⟩, by decide +kernel⟩
theorem mwMo_linear : MW yMo_linear bMo_linear 1 (some .int) 0 := ⟨w916, w6, ⟨by decide, by decide⟩, by decide +kernel⟩
theorem mwMo_linearity : MW yMo_linearity bMo_linearity 3 (some .int) 0 := ⟨w920, w6, ⟨by decide, by decide⟩, by decide +kernel⟩
theorem mwMo_length : MW yMo_length bMo_length 1 (some .int) 0 := ⟨w924, w6, ⟨by decide, by decide⟩, by decide +kernel⟩
theorem mwMo_lay : MW yMo_lay bMo_lay 2 (some .boolean) 0 := ⟨w928, w6, ⟨by decide, by decide⟩, by decide +kernel⟩
theorem mwMo_enliven : MW yMo_enliven bMo_enliven 6 none 1 := ⟨w932, w6, ⟨by decide, by decide⟩, by decide +kernel⟩
theorem mwMo_isWhole : MW yMo_isWhole bMo_isWhole 2 (some .boolean) 0 := ⟨w936, w6, ⟨by decide, by decide⟩, by decide +kernel⟩
theorem mwMo_goesOn : MW yMo_goesOn bMo_goesOn 6 (some .boolean) 1 := ⟨w940, w6, ⟨by decide, by decide⟩, by decide +kernel⟩
theorem mwMo_isDone : MW yMo_isDone bMo_isDone 4 (some .boolean) 1 := ⟨w944, w6, ⟨by decide, by decide⟩, by decide +kernel⟩
theorem mwMo_row : MW yMo_row bMo_row 2 (some .int) 1 := ⟨w948, w6, ⟨by decide, by decide⟩, by decide +kernel⟩
theorem mwMo_result : MW yMo_result bMo_result 2 (some .int) 1 := ⟨w952, w6, ⟨by decide, by decide⟩, by decide +kernel⟩
/-- a contract that says the end as a function of the start -/
def PF (rv : Option Value) (g : GM) (I1 : MI) (J1 : MJ) : Option Value → GM → MI → MJ → Prop := fun v g2 I2 J2 => v = rv ∧ g2 = g ∧ I2 = I1 ∧ J2 = J1
section VF
variable {x : KX} {cc : ByteArray} {own : String} {nL : Nat} {rm : Room} {g : GM} {cells slots : Nat} {I I1 : MI} {J J1 : MJ} {pc : Nat} {lv : List (Option Value)} {st : List Value}
theorem v_cVv (C : Cx x cc own nL rm) {y : MethodName} {cc2 : ByteArray} {nL2 n idx b ci m2 N : Nat} {ret2 : Option FieldType} {rm2 : Room} {As stk : List Value} {Cn : String} {T : u_T} {ty : Nat → FieldType} (hct : Ct (kl x) y cc2 nL2 ret2 rm2 (kD x) (.ref b :: As) g I J (PF none g I1 J1)) (hm : MW y cc2 nL2 ret2 n) (F : CF ci Cn T N ty) (hb : g.1 b = (ci, m2)) (hi : Cond.instanceMethod y ∈ TB) (hse : Cond.selects Cn y y ∈ TB) (hl : Cond.methodLink own idx y ∈ TB) (hn : As.length = n) (hst : stk = As.reverse ++ .ref b :: st) (hW : (st.map fun v => v.category).sum ≤ 8) (hf : rm2.frames + 1 ≤ rm.frames) (hlo : 8 + (nL2 + 11) + rm2.locals ≤ rm.locals) (hc2 : cells + rm2.cells ≤ rm.cells) (hs2 : slots + rm2.slots ≤ rm.slots) (d : decode cc pc = .ok (.invokevirtual idx, 3)) (k : V x g (cells + rm2.cells) (slots + rm2.slots) I1 J1 (pc + 3) lv (st)) : V x g cells slots I J pc lv stk := v_callV C hct hm F hb hi hse hl hn hst hW hf hlo hc2 hs2 d (fun v g2 I2 J2 h => by obtain ⟨rfl, rfl, rfl, rfl⟩ := h; exact k)
theorem v_cSv (C : Cx x cc own nL rm) {y : MethodName} {cc2 : ByteArray} {nL2 n idx : Nat} {ret2 : Option FieldType} {rm2 : Room} {As stk : List Value} (hct : Ct (kl x) y cc2 nL2 ret2 rm2 (kD x) As g I J (PF none g I1 J1)) (hm : MW y cc2 nL2 ret2 n) (hi : Cond.static y ∈ TB) (hl : Cond.methodLink own idx y ∈ TB) (hn : As.length = n) (hst : stk = As.reverse ++ st) (hW : (st.map fun v => v.category).sum ≤ 8) (hf : rm2.frames + 1 ≤ rm.frames) (hlo : 8 + (nL2 + 11) + rm2.locals ≤ rm.locals) (hc2 : cells + rm2.cells ≤ rm.cells) (hs2 : slots + rm2.slots ≤ rm.slots) (d : decode cc pc = .ok (.invokestatic idx, 3)) (k : V x g (cells + rm2.cells) (slots + rm2.slots) I1 J1 (pc + 3) lv (st)) : V x g cells slots I J pc lv stk := v_callS C hct hm hi hl hn hst hW hf hlo hc2 hs2 d (fun v g2 I2 J2 h => by obtain ⟨rfl, rfl, rfl, rfl⟩ := h; exact k)
theorem v_cVi (C : Cx x cc own nL rm) {z : Int32} {y : MethodName} {cc2 : ByteArray} {nL2 n idx b ci m2 N : Nat} {ret2 : Option FieldType} {rm2 : Room} {As stk : List Value} {Cn : String} {T : u_T} {ty : Nat → FieldType} (hct : Ct (kl x) y cc2 nL2 ret2 rm2 (kD x) (.ref b :: As) g I J (PF (some (.int z)) g I1 J1)) (hm : MW y cc2 nL2 ret2 n) (F : CF ci Cn T N ty) (hb : g.1 b = (ci, m2)) (hi : Cond.instanceMethod y ∈ TB) (hse : Cond.selects Cn y y ∈ TB) (hl : Cond.methodLink own idx y ∈ TB) (hn : As.length = n) (hst : stk = As.reverse ++ .ref b :: st) (hW : (st.map fun v => v.category).sum ≤ 8) (hf : rm2.frames + 1 ≤ rm.frames) (hlo : 8 + (nL2 + 11) + rm2.locals ≤ rm.locals) (hc2 : cells + rm2.cells ≤ rm.cells) (hs2 : slots + rm2.slots ≤ rm.slots) (d : decode cc pc = .ok (.invokevirtual idx, 3)) (k : V x g (cells + rm2.cells) (slots + rm2.slots) I1 J1 (pc + 3) lv (.int z :: st)) : V x g cells slots I J pc lv stk := v_callV C hct hm F hb hi hse hl hn hst hW hf hlo hc2 hs2 d (fun v g2 I2 J2 h => by obtain ⟨rfl, rfl, rfl, rfl⟩ := h; exact k)
theorem v_cSi (C : Cx x cc own nL rm) {z : Int32} {y : MethodName} {cc2 : ByteArray} {nL2 n idx : Nat} {ret2 : Option FieldType} {rm2 : Room} {As stk : List Value} (hct : Ct (kl x) y cc2 nL2 ret2 rm2 (kD x) As g I J (PF (some (.int z)) g I1 J1)) (hm : MW y cc2 nL2 ret2 n) (hi : Cond.static y ∈ TB) (hl : Cond.methodLink own idx y ∈ TB) (hn : As.length = n) (hst : stk = As.reverse ++ st) (hW : (st.map fun v => v.category).sum ≤ 8) (hf : rm2.frames + 1 ≤ rm.frames) (hlo : 8 + (nL2 + 11) + rm2.locals ≤ rm.locals) (hc2 : cells + rm2.cells ≤ rm.cells) (hs2 : slots + rm2.slots ≤ rm.slots) (d : decode cc pc = .ok (.invokestatic idx, 3)) (k : V x g (cells + rm2.cells) (slots + rm2.slots) I1 J1 (pc + 3) lv (.int z :: st)) : V x g cells slots I J pc lv stk := v_callS C hct hm hi hl hn hst hW hf hlo hc2 hs2 d (fun v g2 I2 J2 h => by obtain ⟨rfl, rfl, rfl, rfl⟩ := h; exact k)
theorem v_cVl (C : Cx x cc own nL rm) {z : Int64} {y : MethodName} {cc2 : ByteArray} {nL2 n idx b ci m2 N : Nat} {ret2 : Option FieldType} {rm2 : Room} {As stk : List Value} {Cn : String} {T : u_T} {ty : Nat → FieldType} (hct : Ct (kl x) y cc2 nL2 ret2 rm2 (kD x) (.ref b :: As) g I J (PF (some (.long z)) g I1 J1)) (hm : MW y cc2 nL2 ret2 n) (F : CF ci Cn T N ty) (hb : g.1 b = (ci, m2)) (hi : Cond.instanceMethod y ∈ TB) (hse : Cond.selects Cn y y ∈ TB) (hl : Cond.methodLink own idx y ∈ TB) (hn : As.length = n) (hst : stk = As.reverse ++ .ref b :: st) (hW : (st.map fun v => v.category).sum ≤ 8) (hf : rm2.frames + 1 ≤ rm.frames) (hlo : 8 + (nL2 + 11) + rm2.locals ≤ rm.locals) (hc2 : cells + rm2.cells ≤ rm.cells) (hs2 : slots + rm2.slots ≤ rm.slots) (d : decode cc pc = .ok (.invokevirtual idx, 3)) (k : V x g (cells + rm2.cells) (slots + rm2.slots) I1 J1 (pc + 3) lv (.long z :: st)) : V x g cells slots I J pc lv stk := v_callV C hct hm F hb hi hse hl hn hst hW hf hlo hc2 hs2 d (fun v g2 I2 J2 h => by obtain ⟨rfl, rfl, rfl, rfl⟩ := h; exact k)
theorem v_cSl (C : Cx x cc own nL rm) {z : Int64} {y : MethodName} {cc2 : ByteArray} {nL2 n idx : Nat} {ret2 : Option FieldType} {rm2 : Room} {As stk : List Value} (hct : Ct (kl x) y cc2 nL2 ret2 rm2 (kD x) As g I J (PF (some (.long z)) g I1 J1)) (hm : MW y cc2 nL2 ret2 n) (hi : Cond.static y ∈ TB) (hl : Cond.methodLink own idx y ∈ TB) (hn : As.length = n) (hst : stk = As.reverse ++ st) (hW : (st.map fun v => v.category).sum ≤ 8) (hf : rm2.frames + 1 ≤ rm.frames) (hlo : 8 + (nL2 + 11) + rm2.locals ≤ rm.locals) (hc2 : cells + rm2.cells ≤ rm.cells) (hs2 : slots + rm2.slots ≤ rm.slots) (d : decode cc pc = .ok (.invokestatic idx, 3)) (k : V x g (cells + rm2.cells) (slots + rm2.slots) I1 J1 (pc + 3) lv (.long z :: st)) : V x g cells slots I J pc lv stk := v_callS C hct hm hi hl hn hst hW hf hlo hc2 hs2 d (fun v g2 I2 J2 h => by obtain ⟨rfl, rfl, rfl, rfl⟩ := h; exact k)
theorem v_cVr (C : Cx x cc own nL rm) {z : Nat} {y : MethodName} {cc2 : ByteArray} {nL2 n idx b ci m2 N : Nat} {ret2 : Option FieldType} {rm2 : Room} {As stk : List Value} {Cn : String} {T : u_T} {ty : Nat → FieldType} (hct : Ct (kl x) y cc2 nL2 ret2 rm2 (kD x) (.ref b :: As) g I J (PF (some (.ref z)) g I1 J1)) (hm : MW y cc2 nL2 ret2 n) (F : CF ci Cn T N ty) (hb : g.1 b = (ci, m2)) (hi : Cond.instanceMethod y ∈ TB) (hse : Cond.selects Cn y y ∈ TB) (hl : Cond.methodLink own idx y ∈ TB) (hn : As.length = n) (hst : stk = As.reverse ++ .ref b :: st) (hW : (st.map fun v => v.category).sum ≤ 8) (hf : rm2.frames + 1 ≤ rm.frames) (hlo : 8 + (nL2 + 11) + rm2.locals ≤ rm.locals) (hc2 : cells + rm2.cells ≤ rm.cells) (hs2 : slots + rm2.slots ≤ rm.slots) (d : decode cc pc = .ok (.invokevirtual idx, 3)) (k : V x g (cells + rm2.cells) (slots + rm2.slots) I1 J1 (pc + 3) lv (.ref z :: st)) : V x g cells slots I J pc lv stk := v_callV C hct hm F hb hi hse hl hn hst hW hf hlo hc2 hs2 d (fun v g2 I2 J2 h => by obtain ⟨rfl, rfl, rfl, rfl⟩ := h; exact k)
theorem v_cSr (C : Cx x cc own nL rm) {z : Nat} {y : MethodName} {cc2 : ByteArray} {nL2 n idx : Nat} {ret2 : Option FieldType} {rm2 : Room} {As stk : List Value} (hct : Ct (kl x) y cc2 nL2 ret2 rm2 (kD x) As g I J (PF (some (.ref z)) g I1 J1)) (hm : MW y cc2 nL2 ret2 n) (hi : Cond.static y ∈ TB) (hl : Cond.methodLink own idx y ∈ TB) (hn : As.length = n) (hst : stk = As.reverse ++ st) (hW : (st.map fun v => v.category).sum ≤ 8) (hf : rm2.frames + 1 ≤ rm.frames) (hlo : 8 + (nL2 + 11) + rm2.locals ≤ rm.locals) (hc2 : cells + rm2.cells ≤ rm.cells) (hs2 : slots + rm2.slots ≤ rm.slots) (d : decode cc pc = .ok (.invokestatic idx, 3)) (k : V x g (cells + rm2.cells) (slots + rm2.slots) I1 J1 (pc + 3) lv (.ref z :: st)) : V x g cells slots I J pc lv stk := v_callS C hct hm hi hl hn hst hW hf hlo hc2 hs2 d (fun v g2 I2 J2 h => by obtain ⟨rfl, rfl, rfl, rfl⟩ := h; exact k)
end VF
theorem ble {a b : Nat} (h : Nat.ble a b = true) : a ≤ b := Nat.le_of_ble_eq_true h
