/-! the words of every method, link and field (by wip/whole/gen/tabs.py) -/
theorem w_X0_init : chkW 0 = true := by decide +kernel
set_option maxRecDepth 40000 in
theorem v_X0_init : Cond.code yX0_init cX0_init 1 none ∈ lw_tbl := List.mem_of_getElem? (i := 258) rfl
theorem w_X0_addBook : chkW 1 = true := by decide +kernel
set_option maxRecDepth 40000 in
theorem v_X0_addBook : Cond.code yX0_addBook cX0_addBook 2 (some .int) ∈ lw_tbl := List.mem_of_getElem? (i := 831) rfl
theorem w_X0_addFlown : chkW 2 = true := by decide +kernel
set_option maxRecDepth 40000 in
theorem v_X0_addFlown : Cond.code yX0_addFlown cX0_addFlown 4 (some .int) ∈ lw_tbl := List.mem_of_getElem? (i := 1083) rfl
theorem w_X0_addVoid : chkW 3 = true := by decide +kernel
set_option maxRecDepth 40000 in
theorem v_X0_addVoid : Cond.code yX0_addVoid cX0_addVoid 2 (some .int) ∈ lw_tbl := List.mem_of_getElem? (i := 1095) rfl
theorem w_X0_canBeVoid : chkW 4 = true := by decide +kernel
set_option maxRecDepth 40000 in
theorem v_X0_canBeVoid : Cond.code yX0_canBeVoid cX0_canBeVoid 2 (some .boolean) ∈ lw_tbl := List.mem_of_getElem? (i := 1091) rfl
theorem w_X0_knownAt : chkW 5 = true := by decide +kernel
set_option maxRecDepth 40000 in
theorem v_X0_knownAt : Cond.code yX0_knownAt cX0_knownAt 1 (some .int) ∈ lw_tbl := List.mem_of_getElem? (i := 847) rfl
theorem w_X0_isKnown : chkW 6 = true := by decide +kernel
set_option maxRecDepth 40000 in
theorem v_X0_isKnown : Cond.code yX0_isKnown cX0_isKnown 3 (some .boolean) ∈ lw_tbl := List.mem_of_getElem? (i := 856) rfl
theorem w_X0_isFlownKnown : chkW 7 = true := by decide +kernel
set_option maxRecDepth 40000 in
theorem v_X0_isFlownKnown : Cond.code yX0_isFlownKnown cX0_isFlownKnown 3 (some .boolean) ∈ lw_tbl := List.mem_of_getElem? (i := 1107) rfl
theorem w_X0_countFlown : chkW 8 = true := by decide +kernel
set_option maxRecDepth 40000 in
theorem v_X0_countFlown : Cond.code yX0_countFlown cX0_countFlown 3 (some .int) ∈ lw_tbl := List.mem_of_getElem? (i := 1174) rfl
theorem w_X0_bookAt : chkW 9 = true := by decide +kernel
set_option maxRecDepth 40000 in
theorem v_X0_bookAt : Cond.code yX0_bookAt cX0_bookAt 3 (some (.object "SquadronFlags$Book")) ∈ lw_tbl := List.mem_of_getElem? (i := 851) rfl
theorem w_X1_init : chkW 10 = true := by decide +kernel
set_option maxRecDepth 40000 in
theorem v_X1_init : Cond.code yX1_init cX1_init 8 none ∈ lw_tbl := List.mem_of_getElem? (i := 769) rfl
theorem w_X1_idOf : chkW 11 = true := by decide +kernel
set_option maxRecDepth 40000 in
theorem v_X1_idOf : Cond.code yX1_idOf cX1_idOf 3 (some .int) ∈ lw_tbl := List.mem_of_getElem? (i := 789) rfl
theorem w_X1_testStart : chkW 12 = true := by decide +kernel
set_option maxRecDepth 40000 in
theorem v_X1_testStart : Cond.code yX1_testStart cX1_testStart 2 (some .int) ∈ lw_tbl := List.mem_of_getElem? (i := 884) rfl
theorem w_X2_init : chkW 13 = true := by decide +kernel
set_option maxRecDepth 40000 in
theorem v_X2_init : Cond.code yX2_init cX2_init 2 none ∈ lw_tbl := List.mem_of_getElem? (i := 182) rfl
theorem w_X2_makeBook : chkW 14 = true := by decide +kernel
set_option maxRecDepth 40000 in
theorem v_X2_makeBook : Cond.code yX2_makeBook cX2_makeBook 2 (some (.object "SquadronFlags$Book")) ∈ lw_tbl := List.mem_of_getElem? (i := 635) rfl
theorem w_X2_statement : chkW 15 = true := by decide +kernel
set_option maxRecDepth 40000 in
theorem v_X2_statement : Cond.code yX2_statement cX2_statement 1 (some .boolean) ∈ lw_tbl := List.mem_of_getElem? (i := 699) rfl
theorem w_X2_takeName : chkW 16 = true := by decide +kernel
set_option maxRecDepth 40000 in
theorem v_X2_takeName : Cond.code yX2_takeName cX2_takeName 3 (some .boolean) ∈ lw_tbl := List.mem_of_getElem? (i := 712) rfl
theorem w_X2_takeCode : chkW 17 = true := by decide +kernel
set_option maxRecDepth 40000 in
theorem v_X2_takeCode : Cond.code yX2_takeCode cX2_takeCode 2 (some .boolean) ∈ lw_tbl := List.mem_of_getElem? (i := 722) rfl
theorem w_X2_test : chkW 18 = true := by decide +kernel
set_option maxRecDepth 40000 in
theorem v_X2_test : Cond.code yX2_test cX2_test 3 (some .boolean) ∈ lw_tbl := List.mem_of_getElem? (i := 726) rfl
theorem w_X2_both : chkW 19 = true := by decide +kernel
set_option maxRecDepth 40000 in
theorem v_X2_both : Cond.code yX2_both cX2_both 3 (some .boolean) ∈ lw_tbl := List.mem_of_getElem? (i := 730) rfl
theorem w_X2_fact : chkW 20 = true := by decide +kernel
set_option maxRecDepth 40000 in
theorem v_X2_fact : Cond.code yX2_fact cX2_fact 3 (some .boolean) ∈ lw_tbl := List.mem_of_getElem? (i := 734) rfl
theorem w_X2_comparison : chkW 21 = true := by decide +kernel
set_option maxRecDepth 40000 in
theorem v_X2_comparison : Cond.code yX2_comparison cX2_comparison 3 (some .boolean) ∈ lw_tbl := List.mem_of_getElem? (i := 746) rfl
theorem w_X2_sum : chkW 22 = true := by decide +kernel
set_option maxRecDepth 40000 in
theorem v_X2_sum : Cond.code yX2_sum cX2_sum 4 (some .boolean) ∈ lw_tbl := List.mem_of_getElem? (i := 750) rfl
theorem w_X2_part : chkW 23 = true := by decide +kernel
set_option maxRecDepth 40000 in
theorem v_X2_part : Cond.code yX2_part cX2_part 3 (some .boolean) ∈ lw_tbl := List.mem_of_getElem? (i := 754) rfl
theorem w_X2_figureNamed : chkW 24 = true := by decide +kernel
set_option maxRecDepth 40000 in
theorem v_X2_figureNamed : Cond.code yX2_figureNamed cX2_figureNamed 1 (some .int) ∈ lw_tbl := List.mem_of_getElem? (i := 718) rfl
theorem w_X2_isOwnWord : chkW 25 = true := by decide +kernel
set_option maxRecDepth 40000 in
theorem v_X2_isOwnWord : Cond.code yX2_isOwnWord cX2_isOwnWord 1 (some .boolean) ∈ lw_tbl := List.mem_of_getElem? (i := 715) rfl
theorem w_X2_emit : chkW 26 = true := by decide +kernel
set_option maxRecDepth 40000 in
theorem v_X2_emit : Cond.code yX2_emit cX2_emit 2 none ∈ lw_tbl := List.mem_of_getElem? (i := 738) rfl
theorem w_X2_isWord : chkW 27 = true := by decide +kernel
set_option maxRecDepth 40000 in
theorem v_X2_isWord : Cond.code yX2_isWord cX2_isWord 2 (some .boolean) ∈ lw_tbl := List.mem_of_getElem? (i := 708) rfl
theorem w_X2_isSign : chkW 28 = true := by decide +kernel
set_option maxRecDepth 40000 in
theorem v_X2_isSign : Cond.code yX2_isSign cX2_isSign 2 (some .boolean) ∈ lw_tbl := List.mem_of_getElem? (i := 742) rfl
theorem w_X2_takeWord : chkW 29 = true := by decide +kernel
set_option maxRecDepth 40000 in
theorem v_X2_takeWord : Cond.code yX2_takeWord cX2_takeWord 2 (some .boolean) ∈ lw_tbl := List.mem_of_getElem? (i := 704) rfl
theorem w_X2_takeSign : chkW 30 = true := by decide +kernel
set_option maxRecDepth 40000 in
theorem v_X2_takeSign : Cond.code yX2_takeSign cX2_takeSign 2 (some .boolean) ∈ lw_tbl := List.mem_of_getElem? (i := 758) rfl
theorem w_X2_blame : chkW 31 = true := by decide +kernel
set_option maxRecDepth 40000 in
theorem v_X2_blame : Cond.code yX2_blame cX2_blame 3 (some .boolean) ∈ lw_tbl := List.mem_of_getElem? (i := 695) rfl
theorem w_X2_advance : chkW 32 = true := by decide +kernel
set_option maxRecDepth 40000 in
theorem v_X2_advance : Cond.code yX2_advance cX2_advance 3 none ∈ lw_tbl := List.mem_of_getElem? (i := 689) rfl
theorem w_X3_init : chkW 33 = true := by decide +kernel
set_option maxRecDepth 40000 in
theorem v_X3_init : Cond.code yX3_init cX3_init 1 none ∈ lw_tbl := List.mem_of_getElem? (i := 300) rfl
theorem w_X3_set : chkW 34 = true := by decide +kernel
set_option maxRecDepth 40000 in
theorem v_X3_set : Cond.code yX3_set cX3_set 4 none ∈ lw_tbl := List.mem_of_getElem? (i := 876) rfl
theorem w_X3_testHolds : chkW 35 = true := by decide +kernel
set_option maxRecDepth 40000 in
theorem v_X3_testHolds : Cond.code yX3_testHolds cX3_testHolds 8 (some .boolean) ∈ lw_tbl := List.mem_of_getElem? (i := 880) rfl
theorem w_X3_figure : chkW 36 = true := by decide +kernel
set_option maxRecDepth 40000 in
theorem v_X3_figure : Cond.code yX3_figure cX3_figure 2 (some .int) ∈ lw_tbl := List.mem_of_getElem? (i := 899) rfl
theorem w_X3_joined : chkW 37 = true := by decide +kernel
set_option maxRecDepth 40000 in
theorem v_X3_joined : Cond.code yX3_joined cX3_joined 5 (some .int) ∈ lw_tbl := List.mem_of_getElem? (i := 887) rfl
theorem w_X3_comparing : chkW 38 = true := by decide +kernel
set_option maxRecDepth 40000 in
theorem v_X3_comparing : Cond.code yX3_comparing cX3_comparing 1 (some .int) ∈ lw_tbl := List.mem_of_getElem? (i := 764) rfl
theorem w_X3_joining : chkW 39 = true := by decide +kernel
set_option maxRecDepth 40000 in
theorem v_X3_joining : Cond.code yX3_joining cX3_joining 1 (some .int) ∈ lw_tbl := List.mem_of_getElem? (i := 761) rfl
theorem w_X4_init : chkW 40 = true := by decide +kernel
set_option maxRecDepth 40000 in
theorem v_X4_init : Cond.code yX4_init cX4_init 3 none ∈ lw_tbl := List.mem_of_getElem? (i := 462) rfl
theorem w_X4_understands : chkW 41 = true := by decide +kernel
set_option maxRecDepth 40000 in
theorem v_X4_understands : Cond.code yX4_understands cX4_understands 6 (some .int) ∈ lw_tbl := List.mem_of_getElem? (i := 1111) rfl
theorem w_X4_plainRow : chkW 42 = true := by decide +kernel
set_option maxRecDepth 40000 in
theorem v_X4_plainRow : Cond.code yX4_plainRow cX4_plainRow 3 (some .int) ∈ lw_tbl := List.mem_of_getElem? (i := 1115) rfl
theorem w_X4_sameNames : chkW 43 = true := by decide +kernel
set_option maxRecDepth 40000 in
theorem v_X4_sameNames : Cond.code yX4_sameNames cX4_sameNames 5 (some .boolean) ∈ lw_tbl := List.mem_of_getElem? (i := 1121) rfl
theorem w_X4_nameOf : chkW 44 = true := by decide +kernel
set_option maxRecDepth 40000 in
theorem v_X4_nameOf : Cond.code yX4_nameOf cX4_nameOf 2 (some .int) ∈ lw_tbl := List.mem_of_getElem? (i := 1124) rfl
theorem w_X4_findChange : chkW 45 = true := by decide +kernel
set_option maxRecDepth 40000 in
theorem v_X4_findChange : Cond.code yX4_findChange cX4_findChange 5 (some .int) ∈ lw_tbl := List.mem_of_getElem? (i := 1132) rfl
theorem w_X4_addCuts : chkW 46 = true := by decide +kernel
set_option maxRecDepth 40000 in
theorem v_X4_addCuts : Cond.code yX4_addCuts cX4_addCuts 3 none ∈ lw_tbl := List.mem_of_getElem? (i := 1139) rfl
theorem w_X4_addCut : chkW 47 = true := by decide +kernel
set_option maxRecDepth 40000 in
theorem v_X4_addCut : Cond.code yX4_addCut cX4_addCut 6 (some .boolean) ∈ lw_tbl := List.mem_of_getElem? (i := 1143) rfl
theorem w_X4_search : chkW 48 = true := by decide +kernel
set_option maxRecDepth 40000 in
theorem v_X4_search : Cond.code yX4_search cX4_search 8 (some .boolean) ∈ lw_tbl := List.mem_of_getElem? (i := 1150) rfl
theorem w_X4_canDo : chkW 49 = true := by decide +kernel
set_option maxRecDepth 40000 in
theorem v_X4_canDo : Cond.code yX4_canDo cX4_canDo 12 (some .boolean) ∈ lw_tbl := List.mem_of_getElem? (i := 1154) rfl
theorem w_X5_init : chkW 50 = true := by decide +kernel
set_option maxRecDepth 40000 in
theorem v_X5_init : Cond.code yX5_init cX5_init 2 none ∈ lw_tbl := List.mem_of_getElem? (i := 294) rfl
theorem w_X5_prepare : chkW 51 = true := by decide +kernel
set_option maxRecDepth 40000 in
theorem v_X5_prepare : Cond.code yX5_prepare cX5_prepare 5 none ∈ lw_tbl := List.mem_of_getElem? (i := 871) rfl
theorem w_X5_inForce : chkW 52 = true := by decide +kernel
set_option maxRecDepth 40000 in
theorem v_X5_inForce : Cond.code yX5_inForce cX5_inForce 2 (some .boolean) ∈ lw_tbl := List.mem_of_getElem? (i := 903) rfl
theorem w_X5_begin : chkW 53 = true := by decide +kernel
set_option maxRecDepth 40000 in
theorem v_X5_begin : Cond.code yX5_begin cX5_begin 2 none ∈ lw_tbl := List.mem_of_getElem? (i := 911) rfl
theorem w_X5_gather : chkW 54 = true := by decide +kernel
set_option maxRecDepth 40000 in
theorem v_X5_gather : Cond.code yX5_gather cX5_gather 2 none ∈ lw_tbl := List.mem_of_getElem? (i := 916) rfl
theorem w_X5_gatherSeen : chkW 55 = true := by decide +kernel
set_option maxRecDepth 40000 in
theorem v_X5_gatherSeen : Cond.code yX5_gatherSeen cX5_gatherSeen 6 none ∈ lw_tbl := List.mem_of_getElem? (i := 1006) rfl
theorem w_X5_plainRow : chkW 56 = true := by decide +kernel
set_option maxRecDepth 40000 in
theorem v_X5_plainRow : Cond.code yX5_plainRow cX5_plainRow 2 (some .int) ∈ lw_tbl := List.mem_of_getElem? (i := 989) rfl
theorem w_X5_sensesOf : chkW 57 = true := by decide +kernel
set_option maxRecDepth 40000 in
theorem v_X5_sensesOf : Cond.code yX5_sensesOf cX5_sensesOf 4 (some .long) ∈ lw_tbl := List.mem_of_getElem? (i := 1147) rfl
theorem w_X5_split : chkW 58 = true := by decide +kernel
set_option maxRecDepth 40000 in
theorem v_X5_split : Cond.code yX5_split cX5_split 6 none ∈ lw_tbl := List.mem_of_getElem? (i := 920) rfl
theorem w_X5_markEnds : chkW 59 = true := by decide +kernel
set_option maxRecDepth 40000 in
theorem v_X5_markEnds : Cond.code yX5_markEnds cX5_markEnds 3 none ∈ lw_tbl := List.mem_of_getElem? (i := 929) rfl
theorem w_X5_spell : chkW 60 = true := by decide +kernel
set_option maxRecDepth 40000 in
theorem v_X5_spell : Cond.code yX5_spell cX5_spell 7 none ∈ lw_tbl := List.mem_of_getElem? (i := 932) rfl
theorem w_X5_note : chkW 61 = true := by decide +kernel
set_option maxRecDepth 40000 in
theorem v_X5_note : Cond.code yX5_note cX5_note 3 none ∈ lw_tbl := List.mem_of_getElem? (i := 936) rfl
theorem w_X5_choose : chkW 62 = true := by decide +kernel
set_option maxRecDepth 40000 in
theorem v_X5_choose : Cond.code yX5_choose cX5_choose 7 none ∈ lw_tbl := List.mem_of_getElem? (i := 1011) rfl
theorem w_X5_picked : chkW 63 = true := by decide +kernel
set_option maxRecDepth 40000 in
theorem v_X5_picked : Cond.code yX5_picked cX5_picked 6 (some .int) ∈ lw_tbl := List.mem_of_getElem? (i := 1019) rfl
theorem w_X6_init : chkW 64 = true := by decide +kernel
set_option maxRecDepth 40000 in
theorem v_X6_init : Cond.code yX6_init cX6_init 4 none ∈ lw_tbl := List.mem_of_getElem? (i := 398) rfl
theorem w_X6_start : chkW 65 = true := by decide +kernel
set_option maxRecDepth 40000 in
theorem v_X6_start : Cond.code yX6_start cX6_start 3 none ∈ lw_tbl := List.mem_of_getElem? (i := 1029) rfl
theorem w_X6_pass : chkW 66 = true := by decide +kernel
set_option maxRecDepth 40000 in
theorem v_X6_pass : Cond.code yX6_pass cX6_pass 6 none ∈ lw_tbl := List.mem_of_getElem? (i := 1035) rfl
theorem w_X6_isBusy : chkW 67 = true := by decide +kernel
set_option maxRecDepth 40000 in
theorem v_X6_isBusy : Cond.code yX6_isBusy cX6_isBusy 2 (some .boolean) ∈ lw_tbl := List.mem_of_getElem? (i := 1039) rfl
theorem w_X6_fly : chkW 68 = true := by decide +kernel
set_option maxRecDepth 40000 in
theorem v_X6_fly : Cond.code yX6_fly cX6_fly 4 (some .int) ∈ lw_tbl := List.mem_of_getElem? (i := 1043) rfl
theorem w_X6_bendOn : chkW 69 = true := by decide +kernel
set_option maxRecDepth 40000 in
theorem v_X6_bendOn : Cond.code yX6_bendOn cX6_bendOn 4 none ∈ lw_tbl := List.mem_of_getElem? (i := 1047) rfl
theorem w_X6_lose : chkW 70 = true := by decide +kernel
set_option maxRecDepth 40000 in
theorem v_X6_lose : Cond.code yX6_lose cX6_lose 2 none ∈ lw_tbl := List.mem_of_getElem? (i := 1056) rfl
theorem w_X6_hear : chkW 71 = true := by decide +kernel
set_option maxRecDepth 40000 in
theorem v_X6_hear : Cond.code yX6_hear cX6_hear 6 none ∈ lw_tbl := List.mem_of_getElem? (i := 1060) rfl
theorem w_X6_relayOn : chkW 72 = true := by decide +kernel
set_option maxRecDepth 40000 in
theorem v_X6_relayOn : Cond.code yX6_relayOn cX6_relayOn 4 none ∈ lw_tbl := List.mem_of_getElem? (i := 1066) rfl
theorem w_X7_init : chkW 73 = true := by decide +kernel
set_option maxRecDepth 40000 in
theorem v_X7_init : Cond.code yX7_init cX7_init 3 none ∈ lw_tbl := List.mem_of_getElem? (i := 361) rfl
theorem w_X7_clear : chkW 74 = true := by decide +kernel
set_option maxRecDepth 40000 in
theorem v_X7_clear : Cond.code yX7_clear cX7_clear 1 none ∈ lw_tbl := List.mem_of_getElem? (i := 962) rfl
theorem w_X7_add : chkW 75 = true := by decide +kernel
set_option maxRecDepth 40000 in
theorem v_X7_add : Cond.code yX7_add cX7_add 2 none ∈ lw_tbl := List.mem_of_getElem? (i := 966) rfl
theorem w_X7_plan : chkW 76 = true := by decide +kernel
set_option maxRecDepth 40000 in
theorem v_X7_plan : Cond.code yX7_plan cX7_plan 5 (some .int) ∈ lw_tbl := List.mem_of_getElem? (i := 970) rfl
theorem w_X7_copyHoists : chkW 77 = true := by decide +kernel
set_option maxRecDepth 40000 in
theorem v_X7_copyHoists : Cond.code yX7_copyHoists cX7_copyHoists 6 (some .int) ∈ lw_tbl := List.mem_of_getElem? (i := 994) rfl
theorem w_X7_extend : chkW 78 = true := by decide +kernel
set_option maxRecDepth 40000 in
theorem v_X7_extend : Cond.code yX7_extend cX7_extend 7 none ∈ lw_tbl := List.mem_of_getElem? (i := 975) rfl
theorem w_X7_offer : chkW 79 = true := by decide +kernel
set_option maxRecDepth 40000 in
theorem v_X7_offer : Cond.code yX7_offer cX7_offer 6 none ∈ lw_tbl := List.mem_of_getElem? (i := 980) rfl
theorem w_X7_isBetter : chkW 80 = true := by decide +kernel
set_option maxRecDepth 40000 in
theorem v_X7_isBetter : Cond.code yX7_isBetter cX7_isBetter 7 (some .boolean) ∈ lw_tbl := List.mem_of_getElem? (i := 985) rfl
theorem w_X8_init : chkW 81 = true := by decide +kernel
set_option maxRecDepth 40000 in
theorem v_X8_init : Cond.code yX8_init cX8_init 1 none ∈ lw_tbl := List.mem_of_getElem? (i := 153) rfl
theorem w_X8_makeAlike : chkW 82 = true := by decide +kernel
set_option maxRecDepth 40000 in
theorem v_X8_makeAlike : Cond.code yX8_makeAlike cX8_makeAlike 7 (some .boolean) ∈ lw_tbl := List.mem_of_getElem? (i := 558) rfl
theorem w_X8_countAlike : chkW 83 = true := by decide +kernel
set_option maxRecDepth 40000 in
theorem v_X8_countAlike : Cond.code yX8_countAlike cX8_countAlike 4 (some .int) ∈ lw_tbl := List.mem_of_getElem? (i := 562) rfl
theorem w_X8_alike : chkW 84 = true := by decide +kernel
set_option maxRecDepth 40000 in
theorem v_X8_alike : Cond.code yX8_alike cX8_alike 5 (some .boolean) ∈ lw_tbl := List.mem_of_getElem? (i := 1015) rfl
theorem w_X8_tellHaze : chkW 85 = true := by decide +kernel
set_option maxRecDepth 40000 in
theorem v_X8_tellHaze : Cond.code yX8_tellHaze cX8_tellHaze 4 none ∈ lw_tbl := List.mem_of_getElem? (i := 573) rfl
theorem w_X8_hazeAt : chkW 86 = true := by decide +kernel
set_option maxRecDepth 40000 in
theorem v_X8_hazeAt : Cond.code yX8_hazeAt cX8_hazeAt 2 (some .int) ∈ lw_tbl := List.mem_of_getElem? (i := 592) rfl
theorem w_X8_dimAt : chkW 87 = true := by decide +kernel
set_option maxRecDepth 40000 in
theorem v_X8_dimAt : Cond.code yX8_dimAt cX8_dimAt 3 (some .int) ∈ lw_tbl := List.mem_of_getElem? (i := 588) rfl
theorem w_X8_hoistFor : chkW 88 = true := by decide +kernel
set_option maxRecDepth 40000 in
theorem v_X8_hoistFor : Cond.code yX8_hoistFor cX8_hoistFor 8 (some .int) ∈ lw_tbl := List.mem_of_getElem? (i := 611) rfl
theorem w_X8_repeaterFor : chkW 89 = true := by decide +kernel
set_option maxRecDepth 40000 in
theorem v_X8_repeaterFor : Cond.code yX8_repeaterFor cX8_repeaterFor 7 (some .int) ∈ lw_tbl := List.mem_of_getElem? (i := 617) rfl
theorem w_X9_init : chkW 90 = true := by decide +kernel
set_option maxRecDepth 40000 in
theorem v_X9_init : Cond.code yX9_init cX9_init 1 none ∈ lw_tbl := List.mem_of_getElem? (i := 137) rfl
theorem w_X9_put : chkW 91 = true := by decide +kernel
set_option maxRecDepth 40000 in
theorem v_X9_put : Cond.code yX9_put cX9_put 3 none ∈ lw_tbl := List.mem_of_getElem? (i := 535) rfl
theorem w_X9_at : chkW 92 = true := by decide +kernel
set_option maxRecDepth 40000 in
theorem v_X9_at : Cond.code yX9_at cX9_at 2 (some .int) ∈ lw_tbl := List.mem_of_getElem? (i := 643) rfl
theorem w_X9_letterAt : chkW 93 = true := by decide +kernel
set_option maxRecDepth 40000 in
theorem v_X9_letterAt : Cond.code yX9_letterAt cX9_letterAt 3 (some .boolean) ∈ lw_tbl := List.mem_of_getElem? (i := 658) rfl
theorem w_X9_digitAt : chkW 94 = true := by decide +kernel
set_option maxRecDepth 40000 in
theorem v_X9_digitAt : Cond.code yX9_digitAt cX9_digitAt 3 (some .boolean) ∈ lw_tbl := List.mem_of_getElem? (i := 667) rfl
theorem w_X9_wordEnd : chkW 95 = true := by decide +kernel
set_option maxRecDepth 40000 in
theorem v_X9_wordEnd : Cond.code yX9_wordEnd cX9_wordEnd 4 (some .int) ∈ lw_tbl := List.mem_of_getElem? (i := 654) rfl
theorem w_X9_numberEnd : chkW 96 = true := by decide +kernel
set_option maxRecDepth 40000 in
theorem v_X9_numberEnd : Cond.code yX9_numberEnd cX9_numberEnd 4 (some .int) ∈ lw_tbl := List.mem_of_getElem? (i := 663) rfl
theorem w_X9_word : chkW 97 = true := by decide +kernel
set_option maxRecDepth 40000 in
theorem v_X9_word : Cond.code yX9_word cX9_word 5 (some .int) ∈ lw_tbl := List.mem_of_getElem? (i := 671) rfl
theorem w_X9_number : chkW 98 = true := by decide +kernel
set_option maxRecDepth 40000 in
theorem v_X9_number : Cond.code yX9_number cX9_number 5 (some .int) ∈ lw_tbl := List.mem_of_getElem? (i := 685) rfl
theorem w_X10_init : chkW 99 = true := by decide +kernel
set_option maxRecDepth 40000 in
theorem v_X10_init : Cond.code yX10_init cX10_init 2 none ∈ lw_tbl := List.mem_of_getElem? (i := 188) rfl
theorem w_X10_cut : chkW 100 = true := by decide +kernel
set_option maxRecDepth 40000 in
theorem v_X10_cut : Cond.code yX10_cut cX10_cut 2 none ∈ lw_tbl := List.mem_of_getElem? (i := 639) rfl
theorem w_X10_cutOne : chkW 101 = true := by decide +kernel
set_option maxRecDepth 40000 in
theorem v_X10_cutOne : Cond.code yX10_cutOne cX10_cutOne 5 none ∈ lw_tbl := List.mem_of_getElem? (i := 650) rfl
theorem w_X10_add : chkW 102 = true := by decide +kernel
set_option maxRecDepth 40000 in
theorem v_X10_add : Cond.code yX10_add cX10_add 6 none ∈ lw_tbl := List.mem_of_getElem? (i := 675) rfl
theorem w_X10_isWordy : chkW 103 = true := by decide +kernel
set_option maxRecDepth 40000 in
theorem v_X10_isWordy : Cond.code yX10_isWordy cX10_isWordy 1 (some .boolean) ∈ lw_tbl := List.mem_of_getElem? (i := 678) rfl
theorem w_X11_init : chkW 104 = true := by decide +kernel
set_option maxRecDepth 40000 in
theorem v_X11_init : Cond.code yX11_init cX11_init 1 none ∈ lw_tbl := List.mem_of_getElem? (i := 129) rfl
theorem w_X11_feed : chkW 105 = true := by decide +kernel
set_option maxRecDepth 40000 in
theorem v_X11_feed : Cond.code yX11_feed cX11_feed 6 (some .int) ∈ lw_tbl := List.mem_of_getElem? (i := 531) rfl
theorem w_X11_end : chkW 106 = true := by decide +kernel
set_option maxRecDepth 40000 in
theorem v_X11_end : Cond.code yX11_end cX11_end 2 (some .boolean) ∈ lw_tbl := List.mem_of_getElem? (i := 539) rfl
theorem w_X11_locker : chkW 107 = true := by decide +kernel
set_option maxRecDepth 40000 in
theorem v_X11_locker : Cond.code yX11_locker cX11_locker 4 (some .boolean) ∈ lw_tbl := List.mem_of_getElem? (i := 543) rfl
theorem w_X11_like : chkW 108 = true := by decide +kernel
set_option maxRecDepth 40000 in
theorem v_X11_like : Cond.code yX11_like cX11_like 4 (some .boolean) ∈ lw_tbl := List.mem_of_getElem? (i := 551) rfl
theorem w_X11_haze : chkW 109 = true := by decide +kernel
set_option maxRecDepth 40000 in
theorem v_X11_haze : Cond.code yX11_haze cX11_haze 3 (some .boolean) ∈ lw_tbl := List.mem_of_getElem? (i := 566) rfl
theorem w_X11_far : chkW 110 = true := by decide +kernel
set_option maxRecDepth 40000 in
theorem v_X11_far : Cond.code yX11_far cX11_far 3 (some .boolean) ∈ lw_tbl := List.mem_of_getElem? (i := 577) rfl
theorem w_X11_dim : chkW 111 = true := by decide +kernel
set_option maxRecDepth 40000 in
theorem v_X11_dim : Cond.code yX11_dim cX11_dim 3 (some .int) ∈ lw_tbl := List.mem_of_getElem? (i := 584) rfl
theorem w_X11_hoist : chkW 112 = true := by decide +kernel
set_option maxRecDepth 40000 in
theorem v_X11_hoist : Cond.code yX11_hoist cX11_hoist 3 (some .int) ∈ lw_tbl := List.mem_of_getElem? (i := 596) rfl
theorem w_X11_tells : chkW 113 = true := by decide +kernel
set_option maxRecDepth 40000 in
theorem v_X11_tells : Cond.code yX11_tells cX11_tells 2 (some .int) ∈ lw_tbl := List.mem_of_getElem? (i := 621) rfl
theorem w_X11_book : chkW 114 = true := by decide +kernel
set_option maxRecDepth 40000 in
theorem v_X11_book : Cond.code yX11_book cX11_book 2 (some .int) ∈ lw_tbl := List.mem_of_getElem? (i := 631) rfl
theorem w_X11_fault : chkW 115 = true := by decide +kernel
set_option maxRecDepth 40000 in
theorem v_X11_fault : Cond.code yX11_fault cX11_fault 2 (some .int) ∈ lw_tbl := List.mem_of_getElem? (i := 835) rfl
theorem w_X11_senses : chkW 116 = true := by decide +kernel
set_option maxRecDepth 40000 in
theorem v_X11_senses : Cond.code yX11_senses cX11_senses 2 (some .int) ∈ lw_tbl := List.mem_of_getElem? (i := 839) rfl
theorem w_X11_letter : chkW 117 = true := by decide +kernel
set_option maxRecDepth 40000 in
theorem v_X11_letter : Cond.code yX11_letter cX11_letter 7 (some .int) ∈ lw_tbl := List.mem_of_getElem? (i := 860) rfl
theorem w_X11_holds : chkW 118 = true := by decide +kernel
set_option maxRecDepth 40000 in
theorem v_X11_holds : Cond.code yX11_holds cX11_holds 5 (some .int) ∈ lw_tbl := List.mem_of_getElem? (i := 867) rfl
theorem w_X11_read : chkW 119 = true := by decide +kernel
set_option maxRecDepth 40000 in
theorem v_X11_read : Cond.code yX11_read cX11_read 5 (some .int) ∈ lw_tbl := List.mem_of_getElem? (i := 907) rfl
theorem w_X11_message : chkW 120 = true := by decide +kernel
set_option maxRecDepth 40000 in
theorem v_X11_message : Cond.code yX11_message cX11_message 3 (some .int) ∈ lw_tbl := List.mem_of_getElem? (i := 940) rfl
theorem w_X11_send : chkW 121 = true := by decide +kernel
set_option maxRecDepth 40000 in
theorem v_X11_send : Cond.code yX11_send cX11_send 5 (some .int) ∈ lw_tbl := List.mem_of_getElem? (i := 954) rfl
theorem w_X11_sent : chkW 122 = true := by decide +kernel
set_option maxRecDepth 40000 in
theorem v_X11_sent : Cond.code yX11_sent cX11_sent 2 (some .int) ∈ lw_tbl := List.mem_of_getElem? (i := 998) rfl
theorem w_X11_may : chkW 123 = true := by decide +kernel
set_option maxRecDepth 40000 in
theorem v_X11_may : Cond.code yX11_may cX11_may 6 (some .int) ∈ lw_tbl := List.mem_of_getElem? (i := 1002) rfl
theorem w_X11_line : chkW 124 = true := by decide +kernel
set_option maxRecDepth 40000 in
theorem v_X11_line : Cond.code yX11_line cX11_line 4 (some .int) ∈ lw_tbl := List.mem_of_getElem? (i := 1025) rfl
theorem w_X11_along : chkW 125 = true := by decide +kernel
set_option maxRecDepth 40000 in
theorem v_X11_along : Cond.code yX11_along cX11_along 3 (some .int) ∈ lw_tbl := List.mem_of_getElem? (i := 1071) rfl
theorem w_X11_heard : chkW 126 = true := by decide +kernel
set_option maxRecDepth 40000 in
theorem v_X11_heard : Cond.code yX11_heard cX11_heard 2 (some .int) ∈ lw_tbl := List.mem_of_getElem? (i := 1075) rfl
theorem w_X11_flown : chkW 127 = true := by decide +kernel
set_option maxRecDepth 40000 in
theorem v_X11_flown : Cond.code yX11_flown cX11_flown 4 (some .int) ∈ lw_tbl := List.mem_of_getElem? (i := 1079) rfl
theorem w_X11_annul : chkW 128 = true := by decide +kernel
set_option maxRecDepth 40000 in
theorem v_X11_annul : Cond.code yX11_annul cX11_annul 2 (some .int) ∈ lw_tbl := List.mem_of_getElem? (i := 1087) rfl
theorem w_X11_as : chkW 129 = true := by decide +kernel
set_option maxRecDepth 40000 in
theorem v_X11_as : Cond.code yX11_as cX11_as 2 (some .boolean) ∈ lw_tbl := List.mem_of_getElem? (i := 1099) rfl
theorem w_X11_taken : chkW 130 = true := by decide +kernel
set_option maxRecDepth 40000 in
theorem v_X11_taken : Cond.code yX11_taken cX11_taken 3 (some .int) ∈ lw_tbl := List.mem_of_getElem? (i := 1103) rfl
theorem w_X11_change : chkW 131 = true := by decide +kernel
set_option maxRecDepth 40000 in
theorem v_X11_change : Cond.code yX11_change cX11_change 2 (some .int) ∈ lw_tbl := List.mem_of_getElem? (i := 1128) rfl
theorem w_X11_changed : chkW 132 = true := by decide +kernel
set_option maxRecDepth 40000 in
theorem v_X11_changed : Cond.code yX11_changed cX11_changed 2 (some .int) ∈ lw_tbl := List.mem_of_getElem? (i := 1166) rfl
theorem w_X11_all : chkW 133 = true := by decide +kernel
set_option maxRecDepth 40000 in
theorem v_X11_all : Cond.code yX11_all cX11_all 2 (some .int) ∈ lw_tbl := List.mem_of_getElem? (i := 1170) rfl
theorem w_X11_knownBook : chkW 134 = true := by decide +kernel
set_option maxRecDepth 40000 in
theorem v_X11_knownBook : Cond.code yX11_knownBook cX11_knownBook 1 (some (.object "SquadronFlags$Book")) ∈ lw_tbl := List.mem_of_getElem? (i := 843) rfl
theorem w_X11_scanNames : chkW 135 = true := by decide +kernel
set_option maxRecDepth 40000 in
theorem v_X11_scanNames : Cond.code yX11_scanNames cX11_scanNames 6 (some .int) ∈ lw_tbl := List.mem_of_getElem? (i := 944) rfl
theorem w_X11_addressMessage : chkW 136 = true := by decide +kernel
set_option maxRecDepth 40000 in
theorem v_X11_addressMessage : Cond.code yX11_addressMessage cX11_addressMessage 4 (some .boolean) ∈ lw_tbl := List.mem_of_getElem? (i := 958) rfl
theorem w_X11_isShip : chkW 137 = true := by decide +kernel
set_option maxRecDepth 40000 in
theorem v_X11_isShip : Cond.code yX11_isShip cX11_isShip 1 (some .boolean) ∈ lw_tbl := List.mem_of_getElem? (i := 546) rfl
theorem w_X11_hasNext : chkW 138 = true := by decide +kernel
set_option maxRecDepth 40000 in
theorem v_X11_hasNext : Cond.code yX11_hasNext cX11_hasNext 1 (some .boolean) ∈ lw_tbl := List.mem_of_getElem? (i := 580) rfl
theorem w_X11_isMinute : chkW 139 = true := by decide +kernel
set_option maxRecDepth 40000 in
theorem v_X11_isMinute : Cond.code yX11_isMinute cX11_isMinute 1 (some .boolean) ∈ lw_tbl := List.mem_of_getElem? (i := 569) rfl
theorem w_X11_isFlag : chkW 140 = true := by decide +kernel
set_option maxRecDepth 40000 in
theorem v_X11_isFlag : Cond.code yX11_isFlag cX11_isFlag 1 (some .boolean) ∈ lw_tbl := List.mem_of_getElem? (i := 554) rfl
theorem w_X11_isBlank : chkW 141 = true := by decide +kernel
set_option maxRecDepth 40000 in
theorem v_X11_isBlank : Cond.code yX11_isBlank cX11_isBlank 1 (some .boolean) ∈ lw_tbl := List.mem_of_getElem? (i := 646) rfl
theorem w_X11_wordLength : chkW 142 = true := by decide +kernel
set_option maxRecDepth 40000 in
theorem v_X11_wordLength : Cond.code yX11_wordLength cX11_wordLength 3 (some .int) ∈ lw_tbl := List.mem_of_getElem? (i := 863) rfl
theorem w_X11_rowLength : chkW 143 = true := by decide +kernel
set_option maxRecDepth 40000 in
theorem v_X11_rowLength : Cond.code yX11_rowLength cX11_rowLength 1 (some .int) ∈ lw_tbl := List.mem_of_getElem? (i := 602) rfl
theorem w_X11_signAt : chkW 144 = true := by decide +kernel
set_option maxRecDepth 40000 in
theorem v_X11_signAt : Cond.code yX11_signAt cX11_signAt 3 (some .int) ∈ lw_tbl := List.mem_of_getElem? (i := 607) rfl
theorem w_X11_isLetters : chkW 145 = true := by decide +kernel
set_option maxRecDepth 40000 in
theorem v_X11_isLetters : Cond.code yX11_isLetters cX11_isLetters 4 (some .boolean) ∈ lw_tbl := List.mem_of_getElem? (i := 599) rfl
theorem w_X11_toldBy : chkW 146 = true := by decide +kernel
set_option maxRecDepth 40000 in
theorem v_X11_toldBy : Cond.code yX11_toldBy cX11_toldBy 7 (some .int) ∈ lw_tbl := List.mem_of_getElem? (i := 624) rfl
theorem w_X11_repeated : chkW 147 = true := by decide +kernel
set_option maxRecDepth 40000 in
theorem v_X11_repeated : Cond.code yX11_repeated cX11_repeated 3 (some .int) ∈ lw_tbl := List.mem_of_getElem? (i := 627) rfl
theorem w_X12_init : chkW 148 = true := by decide +kernel
set_option maxRecDepth 40000 in
theorem v_X12_init : Cond.code yX12_init cX12_init 1 none ∈ lw_tbl := List.mem_of_getElem? (i := 1181) rfl
theorem w_X12_isIn : chkW 149 = true := by decide +kernel
set_option maxRecDepth 40000 in
theorem v_X12_isIn : Cond.code yX12_isIn cX12_isIn 6 (some .boolean) ∈ lw_tbl := List.mem_of_getElem? (i := 1547) rfl
theorem w_X12_feed : chkW 150 = true := by decide +kernel
set_option maxRecDepth 40000 in
theorem v_X12_feed : Cond.code yX12_feed cX12_feed 8 (some .int) ∈ lw_tbl := List.mem_of_getElem? (i := 1456) rfl
theorem w_X12_end : chkW 151 = true := by decide +kernel
set_option maxRecDepth 40000 in
theorem v_X12_end : Cond.code yX12_end cX12_end 2 (some .boolean) ∈ lw_tbl := List.mem_of_getElem? (i := 1460) rfl
theorem w_X12_fail : chkW 152 = true := by decide +kernel
set_option maxRecDepth 40000 in
theorem v_X12_fail : Cond.code yX12_fail cX12_fail 3 none ∈ lw_tbl := List.mem_of_getElem? (i := 1476) rfl
theorem w_X12_isLetter : chkW 153 = true := by decide +kernel
set_option maxRecDepth 40000 in
theorem v_X12_isLetter : Cond.code yX12_isLetter cX12_isLetter 1 (some .boolean) ∈ lw_tbl := List.mem_of_getElem? (i := 1491) rfl
theorem w_X12_isDigit : chkW 154 = true := by decide +kernel
set_option maxRecDepth 40000 in
theorem v_X12_isDigit : Cond.code yX12_isDigit cX12_isDigit 1 (some .boolean) ∈ lw_tbl := List.mem_of_getElem? (i := 1544) rfl
theorem w_X12_look : chkW 155 = true := by decide +kernel
set_option maxRecDepth 40000 in
theorem v_X12_look : Cond.code yX12_look cX12_look 1 (some .int) ∈ lw_tbl := List.mem_of_getElem? (i := 1468) rfl
theorem w_X12_isHere : chkW 156 = true := by decide +kernel
set_option maxRecDepth 40000 in
theorem v_X12_isHere : Cond.code yX12_isHere cX12_isHere 4 (some .boolean) ∈ lw_tbl := List.mem_of_getElem? (i := 1488) rfl
theorem w_X12_takes : chkW 157 = true := by decide +kernel
set_option maxRecDepth 40000 in
theorem v_X12_takes : Cond.code yX12_takes cX12_takes 2 (some .boolean) ∈ lw_tbl := List.mem_of_getElem? (i := 1484) rfl
theorem w_X12_asks : chkW 158 = true := by decide +kernel
set_option maxRecDepth 40000 in
theorem v_X12_asks : Cond.code yX12_asks cX12_asks 2 none ∈ lw_tbl := List.mem_of_getElem? (i := 1480) rfl
theorem w_X12_takesSign : chkW 159 = true := by decide +kernel
set_option maxRecDepth 40000 in
theorem v_X12_takesSign : Cond.code yX12_takesSign cX12_takesSign 2 (some .boolean) ∈ lw_tbl := List.mem_of_getElem? (i := 1513) rfl
theorem w_X12_asksSign : chkW 160 = true := by decide +kernel
set_option maxRecDepth 40000 in
theorem v_X12_asksSign : Cond.code yX12_asksSign cX12_asksSign 2 none ∈ lw_tbl := List.mem_of_getElem? (i := 1509) rfl
theorem w_X12_number : chkW 161 = true := by decide +kernel
set_option maxRecDepth 40000 in
theorem v_X12_number : Cond.code yX12_number cX12_number 5 (some .int) ∈ lw_tbl := List.mem_of_getElem? (i := 1541) rfl
theorem w_X12_isOwnHere : chkW 162 = true := by decide +kernel
set_option maxRecDepth 40000 in
theorem v_X12_isOwnHere : Cond.code yX12_isOwnHere cX12_isOwnHere 2 (some .boolean) ∈ lw_tbl := List.mem_of_getElem? (i := 1499) rfl
theorem w_X12_letters : chkW 163 = true := by decide +kernel
set_option maxRecDepth 40000 in
theorem v_X12_letters : Cond.code yX12_letters cX12_letters 5 (some .long) ∈ lw_tbl := List.mem_of_getElem? (i := 1503) rfl
theorem w_X12_name : chkW 164 = true := by decide +kernel
set_option maxRecDepth 40000 in
theorem v_X12_name : Cond.code yX12_name cX12_name 1 (some .long) ∈ lw_tbl := List.mem_of_getElem? (i := 1495) rfl
theorem w_X12_code : chkW 165 = true := by decide +kernel
set_option maxRecDepth 40000 in
theorem v_X12_code : Cond.code yX12_code cX12_code 2 none ∈ lw_tbl := List.mem_of_getElem? (i := 1529) rfl
theorem w_X12_opens : chkW 166 = true := by decide +kernel
set_option maxRecDepth 40000 in
theorem v_X12_opens : Cond.code yX12_opens cX12_opens 3 none ∈ lw_tbl := List.mem_of_getElem? (i := 1521) rfl
theorem w_X12_isOn : chkW 167 = true := by decide +kernel
set_option maxRecDepth 40000 in
theorem v_X12_isOn : Cond.code yX12_isOn cX12_isOn 2 (some .boolean) ∈ lw_tbl := List.mem_of_getElem? (i := 1571) rfl
theorem w_X12_drops : chkW 168 = true := by decide +kernel
set_option maxRecDepth 40000 in
theorem v_X12_drops : Cond.code yX12_drops cX12_drops 1 none ∈ lw_tbl := List.mem_of_getElem? (i := 1567) rfl
theorem w_X12_isMark : chkW 169 = true := by decide +kernel
set_option maxRecDepth 40000 in
theorem v_X12_isMark : Cond.code yX12_isMark cX12_isMark 2 (some .boolean) ∈ lw_tbl := List.mem_of_getElem? (i := 1559) rfl
theorem w_X12_mark : chkW 170 = true := by decide +kernel
set_option maxRecDepth 40000 in
theorem v_X12_mark : Cond.code yX12_mark cX12_mark 2 (some .int) ∈ lw_tbl := List.mem_of_getElem? (i := 1555) rfl
theorem w_X12_dropsToMark : chkW 171 = true := by decide +kernel
set_option maxRecDepth 40000 in
theorem v_X12_dropsToMark : Cond.code yX12_dropsToMark cX12_dropsToMark 1 none ∈ lw_tbl := List.mem_of_getElem? (i := 1563) rfl
theorem w_X12_part : chkW 172 = true := by decide +kernel
set_option maxRecDepth 40000 in
theorem v_X12_part : Cond.code yX12_part cX12_part 1 none ∈ lw_tbl := List.mem_of_getElem? (i := 1537) rfl
theorem w_X12_goesOn : chkW 173 = true := by decide +kernel
set_option maxRecDepth 40000 in
theorem v_X12_goesOn : Cond.code yX12_goesOn cX12_goesOn 2 (some .boolean) ∈ lw_tbl := List.mem_of_getElem? (i := 1551) rfl
theorem w_X12_sums : chkW 174 = true := by decide +kernel
set_option maxRecDepth 40000 in
theorem v_X12_sums : Cond.code yX12_sums cX12_sums 3 none ∈ lw_tbl := List.mem_of_getElem? (i := 1533) rfl
theorem w_X12_fact : chkW 175 = true := by decide +kernel
set_option maxRecDepth 40000 in
theorem v_X12_fact : Cond.code yX12_fact cX12_fact 2 none ∈ lw_tbl := List.mem_of_getElem? (i := 1525) rfl
theorem w_X12_hasSquare : chkW 176 = true := by decide +kernel
set_option maxRecDepth 40000 in
theorem v_X12_hasSquare : Cond.code yX12_hasSquare cX12_hasSquare 2 (some .boolean) ∈ lw_tbl := List.mem_of_getElem? (i := 1583) rfl
theorem w_X12_dropsNots : chkW 177 = true := by decide +kernel
set_option maxRecDepth 40000 in
theorem v_X12_dropsNots : Cond.code yX12_dropsNots cX12_dropsNots 1 none ∈ lw_tbl := List.mem_of_getElem? (i := 1575) rfl
theorem w_X12_test : chkW 178 = true := by decide +kernel
set_option maxRecDepth 40000 in
theorem v_X12_test : Cond.code yX12_test cX12_test 3 none ∈ lw_tbl := List.mem_of_getElem? (i := 1517) rfl
theorem w_X12_goesOnTest : chkW 179 = true := by decide +kernel
set_option maxRecDepth 40000 in
theorem v_X12_goesOnTest : Cond.code yX12_goesOnTest cX12_goesOnTest 1 (some .boolean) ∈ lw_tbl := List.mem_of_getElem? (i := 1579) rfl
theorem w_X12_statement : chkW 180 = true := by decide +kernel
set_option maxRecDepth 40000 in
theorem v_X12_statement : Cond.code yX12_statement cX12_statement 5 none ∈ lw_tbl := List.mem_of_getElem? (i := 1472) rfl
theorem w_X12_book : chkW 181 = true := by decide +kernel
set_option maxRecDepth 40000 in
theorem v_X12_book : Cond.code yX12_book cX12_book 3 (some .int) ∈ lw_tbl := List.mem_of_getElem? (i := 1464) rfl
theorem w_X12_fault : chkW 182 = true := by decide +kernel
set_option maxRecDepth 40000 in
theorem v_X12_fault : Cond.code yX12_fault cX12_fault 2 (some .int) ∈ lw_tbl := List.mem_of_getElem? (i := 1591) rfl
theorem w_X12_isShip : chkW 183 = true := by decide +kernel
set_option maxRecDepth 40000 in
theorem v_X12_isShip : Cond.code yX12_isShip cX12_isShip 1 (some .boolean) ∈ lw_tbl := List.mem_of_getElem? (i := 1598) rfl
theorem w_X12_isMinute : chkW 184 = true := by decide +kernel
set_option maxRecDepth 40000 in
theorem v_X12_isMinute : Cond.code yX12_isMinute cX12_isMinute 1 (some .boolean) ∈ lw_tbl := List.mem_of_getElem? (i := 1621) rfl
theorem w_X12_isFlag : chkW 185 = true := by decide +kernel
set_option maxRecDepth 40000 in
theorem v_X12_isFlag : Cond.code yX12_isFlag cX12_isFlag 1 (some .boolean) ∈ lw_tbl := List.mem_of_getElem? (i := 1608) rfl
theorem w_X12_locker : chkW 186 = true := by decide +kernel
set_option maxRecDepth 40000 in
theorem v_X12_locker : Cond.code yX12_locker cX12_locker 4 (some .boolean) ∈ lw_tbl := List.mem_of_getElem? (i := 1595) rfl
theorem w_X12_likes : chkW 187 = true := by decide +kernel
set_option maxRecDepth 40000 in
theorem v_X12_likes : Cond.code yX12_likes cX12_likes 4 (some .int) ∈ lw_tbl := List.mem_of_getElem? (i := 1614) rfl
theorem w_X12_like : chkW 188 = true := by decide +kernel
set_option maxRecDepth 40000 in
theorem v_X12_like : Cond.code yX12_like cX12_like 4 (some .boolean) ∈ lw_tbl := List.mem_of_getElem? (i := 1605) rfl
theorem w_X12_haze : chkW 189 = true := by decide +kernel
set_option maxRecDepth 40000 in
theorem v_X12_haze : Cond.code yX12_haze cX12_haze 3 (some .boolean) ∈ lw_tbl := List.mem_of_getElem? (i := 1618) rfl
theorem w_X12_far : chkW 190 = true := by decide +kernel
set_option maxRecDepth 40000 in
theorem v_X12_far : Cond.code yX12_far cX12_far 3 (some .boolean) ∈ lw_tbl := List.mem_of_getElem? (i := 1626) rfl
theorem w_X12_hazeAt : chkW 191 = true := by decide +kernel
set_option maxRecDepth 40000 in
theorem v_X12_hazeAt : Cond.code yX12_hazeAt cX12_hazeAt 3 (some .int) ∈ lw_tbl := List.mem_of_getElem? (i := 1635) rfl
theorem w_X12_dim : chkW 192 = true := by decide +kernel
set_option maxRecDepth 40000 in
theorem v_X12_dim : Cond.code yX12_dim cX12_dim 3 (some .int) ∈ lw_tbl := List.mem_of_getElem? (i := 1631) rfl
theorem w_X12_splits : chkW 193 = true := by decide +kernel
set_option maxRecDepth 40000 in
theorem v_X12_splits : Cond.code yX12_splits cX12_splits 5 (some .boolean) ∈ lw_tbl := List.mem_of_getElem? (i := 1647) rfl
theorem w_X12_isHoist : chkW 194 = true := by decide +kernel
set_option maxRecDepth 40000 in
theorem v_X12_isHoist : Cond.code yX12_isHoist cX12_isHoist 4 (some .boolean) ∈ lw_tbl := List.mem_of_getElem? (i := 1643) rfl
theorem w_X12_rowOf : chkW 195 = true := by decide +kernel
set_option maxRecDepth 40000 in
theorem v_X12_rowOf : Cond.code yX12_rowOf cX12_rowOf 4 (some .int) ∈ lw_tbl := List.mem_of_getElem? (i := 1652) rfl
theorem w_X12_tells : chkW 196 = true := by decide +kernel
set_option maxRecDepth 40000 in
theorem v_X12_tells : Cond.code yX12_tells cX12_tells 2 (some .int) ∈ lw_tbl := List.mem_of_getElem? (i := 1639) rfl
theorem w_X12_bends : chkW 197 = true := by decide +kernel
set_option maxRecDepth 40000 in
theorem v_X12_bends : Cond.code yX12_bends cX12_bends 8 (some .int) ∈ lw_tbl := List.mem_of_getElem? (i := 1660) rfl
theorem w_X12_hoist : chkW 198 = true := by decide +kernel
set_option maxRecDepth 40000 in
theorem v_X12_hoist : Cond.code yX12_hoist cX12_hoist 3 (some .int) ∈ lw_tbl := List.mem_of_getElem? (i := 1656) rfl
theorem w_X12_act : chkW 199 = true := by decide +kernel
set_option maxRecDepth 40000 in
theorem v_X12_act : Cond.code yX12_act cX12_act 5 (some .int) ∈ lw_tbl := List.mem_of_getElem? (i := 1587) rfl
theorem w_X12_now : chkW 200 = true := by decide +kernel
set_option maxRecDepth 40000 in
theorem v_X12_now : Cond.code yX12_now cX12_now 1 (some .int) ∈ lw_tbl := List.mem_of_getElem? (i := 1681) rfl
theorem w_X12_isKnown : chkW 201 = true := by decide +kernel
set_option maxRecDepth 40000 in
theorem v_X12_isKnown : Cond.code yX12_isKnown cX12_isKnown 3 (some .boolean) ∈ lw_tbl := List.mem_of_getElem? (i := 1689) rfl
theorem w_X12_bookAt : chkW 202 = true := by decide +kernel
set_option maxRecDepth 40000 in
theorem v_X12_bookAt : Cond.code yX12_bookAt cX12_bookAt 4 (some .int) ∈ lw_tbl := List.mem_of_getElem? (i := 1685) rfl
theorem w_X12_flown : chkW 203 = true := by decide +kernel
set_option maxRecDepth 40000 in
theorem v_X12_flown : Cond.code yX12_flown cX12_flown 4 (some .int) ∈ lw_tbl := List.mem_of_getElem? (i := 1664) rfl
theorem w_X12_annul : chkW 204 = true := by decide +kernel
set_option maxRecDepth 40000 in
theorem v_X12_annul : Cond.code yX12_annul cX12_annul 2 (some .int) ∈ lw_tbl := List.mem_of_getElem? (i := 1668) rfl
theorem w_X12_as : chkW 205 = true := by decide +kernel
set_option maxRecDepth 40000 in
theorem v_X12_as : Cond.code yX12_as cX12_as 2 (some .boolean) ∈ lw_tbl := List.mem_of_getElem? (i := 1672) rfl
theorem w_X12_senses : chkW 206 = true := by decide +kernel
set_option maxRecDepth 40000 in
theorem v_X12_senses : Cond.code yX12_senses cX12_senses 2 (some .int) ∈ lw_tbl := List.mem_of_getElem? (i := 1677) rfl
theorem w_X12_isSense : chkW 207 = true := by decide +kernel
set_option maxRecDepth 40000 in
theorem v_X12_isSense : Cond.code yX12_isSense cX12_isSense 3 (some .boolean) ∈ lw_tbl := List.mem_of_getElem? (i := 1697) rfl
theorem w_X12_letter : chkW 208 = true := by decide +kernel
set_option maxRecDepth 40000 in
theorem v_X12_letter : Cond.code yX12_letter cX12_letter 10 (some .int) ∈ lw_tbl := List.mem_of_getElem? (i := 1693) rfl
theorem w_X12_puts : chkW 209 = true := by decide +kernel
set_option maxRecDepth 40000 in
theorem v_X12_puts : Cond.code yX12_puts cX12_puts 3 none ∈ lw_tbl := List.mem_of_getElem? (i := 1710) rfl
theorem w_X12_clip : chkW 210 = true := by decide +kernel
set_option maxRecDepth 40000 in
theorem v_X12_clip : Cond.code yX12_clip cX12_clip 2 (some .long) ∈ lw_tbl := List.mem_of_getElem? (i := 1717) rfl
theorem w_X12_joins : chkW 211 = true := by decide +kernel
set_option maxRecDepth 40000 in
theorem v_X12_joins : Cond.code yX12_joins cX12_joins 6 none ∈ lw_tbl := List.mem_of_getElem? (i := 1714) rfl
theorem w_X12_holdsTest : chkW 212 = true := by decide +kernel
set_option maxRecDepth 40000 in
theorem v_X12_holdsTest : Cond.code yX12_holdsTest cX12_holdsTest 8 (some .boolean) ∈ lw_tbl := List.mem_of_getElem? (i := 1706) rfl
theorem w_X12_holds : chkW 213 = true := by decide +kernel
set_option maxRecDepth 40000 in
theorem v_X12_holds : Cond.code yX12_holds cX12_holds 4 (some .int) ∈ lw_tbl := List.mem_of_getElem? (i := 1702) rfl
theorem w_X12_opensBook : chkW 214 = true := by decide +kernel
set_option maxRecDepth 40000 in
theorem v_X12_opensBook : Cond.code yX12_opensBook cX12_opensBook 6 none ∈ lw_tbl := List.mem_of_getElem? (i := 1727) rfl
theorem w_X12_sensesOf : chkW 215 = true := by decide +kernel
set_option maxRecDepth 40000 in
theorem v_X12_sensesOf : Cond.code yX12_sensesOf cX12_sensesOf 6 (some .long) ∈ lw_tbl := List.mem_of_getElem? (i := 1743) rfl
theorem w_X12_cuts : chkW 216 = true := by decide +kernel
set_option maxRecDepth 40000 in
theorem v_X12_cuts : Cond.code yX12_cuts cX12_cuts 11 (some .boolean) ∈ lw_tbl := List.mem_of_getElem? (i := 1739) rfl
theorem w_X12_waysOf : chkW 217 = true := by decide +kernel
set_option maxRecDepth 40000 in
theorem v_X12_waysOf : Cond.code yX12_waysOf cX12_waysOf 1 (some .int) ∈ lw_tbl := List.mem_of_getElem? (i := 1734) rfl
theorem w_X12_isAt : chkW 218 = true := by decide +kernel
set_option maxRecDepth 40000 in
theorem v_X12_isAt : Cond.code yX12_isAt cX12_isAt 3 (some .boolean) ∈ lw_tbl := List.mem_of_getElem? (i := 1747) rfl
theorem w_X12_adds : chkW 219 = true := by decide +kernel
set_option maxRecDepth 40000 in
theorem v_X12_adds : Cond.code yX12_adds cX12_adds 6 none ∈ lw_tbl := List.mem_of_getElem? (i := 1751) rfl
theorem w_X12_reads : chkW 220 = true := by decide +kernel
set_option maxRecDepth 40000 in
theorem v_X12_reads : Cond.code yX12_reads cX12_reads 8 none ∈ lw_tbl := List.mem_of_getElem? (i := 1731) rfl
theorem w_X12_read : chkW 221 = true := by decide +kernel
set_option maxRecDepth 40000 in
theorem v_X12_read : Cond.code yX12_read cX12_read 5 (some .int) ∈ lw_tbl := List.mem_of_getElem? (i := 1723) rfl
theorem w_X12_isPlain : chkW 222 = true := by decide +kernel
set_option maxRecDepth 40000 in
theorem v_X12_isPlain : Cond.code yX12_isPlain cX12_isPlain 2 (some .boolean) ∈ lw_tbl := List.mem_of_getElem? (i := 1802) rfl
theorem w_X12_mayBe : chkW 223 = true := by decide +kernel
set_option maxRecDepth 40000 in
theorem v_X12_mayBe : Cond.code yX12_mayBe cX12_mayBe 5 (some .boolean) ∈ lw_tbl := List.mem_of_getElem? (i := 1763) rfl
theorem w_X12_sees : chkW 224 = true := by decide +kernel
set_option maxRecDepth 40000 in
theorem v_X12_sees : Cond.code yX12_sees cX12_sees 11 none ∈ lw_tbl := List.mem_of_getElem? (i := 1759) rfl
theorem w_X12_may : chkW 225 = true := by decide +kernel
set_option maxRecDepth 40000 in
theorem v_X12_may : Cond.code yX12_may cX12_may 6 (some .int) ∈ lw_tbl := List.mem_of_getElem? (i := 1755) rfl
theorem w_X12_isName : chkW 226 = true := by decide +kernel
set_option maxRecDepth 40000 in
theorem v_X12_isName : Cond.code yX12_isName cX12_isName 5 (some .boolean) ∈ lw_tbl := List.mem_of_getElem? (i := 1771) rfl
theorem w_X12_message : chkW 227 = true := by decide +kernel
set_option maxRecDepth 40000 in
theorem v_X12_message : Cond.code yX12_message cX12_message 5 (some .int) ∈ lw_tbl := List.mem_of_getElem? (i := 1767) rfl
theorem w_X12_tries : chkW 228 = true := by decide +kernel
set_option maxRecDepth 40000 in
theorem v_X12_tries : Cond.code yX12_tries cX12_tries 9 none ∈ lw_tbl := List.mem_of_getElem? (i := 1798) rfl
theorem w_X12_codes : chkW 229 = true := by decide +kernel
set_option maxRecDepth 40000 in
theorem v_X12_codes : Cond.code yX12_codes cX12_codes 3 (some .boolean) ∈ lw_tbl := List.mem_of_getElem? (i := 1787) rfl
theorem w_X12_behind : chkW 230 = true := by decide +kernel
set_option maxRecDepth 40000 in
theorem v_X12_behind : Cond.code yX12_behind cX12_behind 8 (some .int) ∈ lw_tbl := List.mem_of_getElem? (i := 1791) rfl
theorem w_X12_sends : chkW 231 = true := by decide +kernel
set_option maxRecDepth 40000 in
theorem v_X12_sends : Cond.code yX12_sends cX12_sends 7 (some .boolean) ∈ lw_tbl := List.mem_of_getElem? (i := 1783) rfl
theorem w_X12_sendsOn : chkW 232 = true := by decide +kernel
set_option maxRecDepth 40000 in
theorem v_X12_sendsOn : Cond.code yX12_sendsOn cX12_sendsOn 8 none ∈ lw_tbl := List.mem_of_getElem? (i := 1806) rfl
theorem w_X12_takesMessage : chkW 233 = true := by decide +kernel
set_option maxRecDepth 40000 in
theorem v_X12_takesMessage : Cond.code yX12_takesMessage cX12_takesMessage 3 (some .boolean) ∈ lw_tbl := List.mem_of_getElem? (i := 1779) rfl
theorem w_X12_send : chkW 234 = true := by decide +kernel
set_option maxRecDepth 40000 in
theorem v_X12_send : Cond.code yX12_send cX12_send 5 (some .int) ∈ lw_tbl := List.mem_of_getElem? (i := 1775) rfl
theorem w_X12_sent : chkW 235 = true := by decide +kernel
set_option maxRecDepth 40000 in
theorem v_X12_sent : Cond.code yX12_sent cX12_sent 2 (some .int) ∈ lw_tbl := List.mem_of_getElem? (i := 1810) rfl
theorem w_X12_queues : chkW 236 = true := by decide +kernel
set_option maxRecDepth 40000 in
theorem v_X12_queues : Cond.code yX12_queues cX12_queues 3 none ∈ lw_tbl := List.mem_of_getElem? (i := 1819) rfl
theorem w_X12_line : chkW 237 = true := by decide +kernel
set_option maxRecDepth 40000 in
theorem v_X12_line : Cond.code yX12_line cX12_line 7 (some .int) ∈ lw_tbl := List.mem_of_getElem? (i := 1814) rfl
theorem w_X12_signsOf : chkW 238 = true := by decide +kernel
set_option maxRecDepth 40000 in
theorem v_X12_signsOf : Cond.code yX12_signsOf cX12_signsOf 1 (some .int) ∈ lw_tbl := List.mem_of_getElem? (i := 1826) rfl
theorem w_X12_passes : chkW 239 = true := by decide +kernel
set_option maxRecDepth 40000 in
theorem v_X12_passes : Cond.code yX12_passes cX12_passes 4 none ∈ lw_tbl := List.mem_of_getElem? (i := 1823) rfl
theorem w_X12_hears : chkW 240 = true := by decide +kernel
set_option maxRecDepth 40000 in
theorem v_X12_hears : Cond.code yX12_hears cX12_hears 5 none ∈ lw_tbl := List.mem_of_getElem? (i := 1831) rfl
theorem w_X12_along : chkW 241 = true := by decide +kernel
set_option maxRecDepth 40000 in
theorem v_X12_along : Cond.code yX12_along cX12_along 3 (some .int) ∈ lw_tbl := List.mem_of_getElem? (i := 1835) rfl
theorem w_X12_heard : chkW 242 = true := by decide +kernel
set_option maxRecDepth 40000 in
theorem v_X12_heard : Cond.code yX12_heard cX12_heard 2 (some .int) ∈ lw_tbl := List.mem_of_getElem? (i := 1839) rfl
theorem w_X12_taken1 : chkW 243 = true := by decide +kernel
set_option maxRecDepth 40000 in
theorem v_X12_taken1 : Cond.code yX12_taken1 cX12_taken1 9 (some .int) ∈ lw_tbl := List.mem_of_getElem? (i := 1851) rfl
theorem w_X12_isFlown : chkW 244 = true := by decide +kernel
set_option maxRecDepth 40000 in
theorem v_X12_isFlown : Cond.code yX12_isFlown cX12_isFlown 2 (some .boolean) ∈ lw_tbl := List.mem_of_getElem? (i := 1847) rfl
theorem w_X12_taken : chkW 245 = true := by decide +kernel
set_option maxRecDepth 40000 in
theorem v_X12_taken : Cond.code yX12_taken cX12_taken 3 (some .int) ∈ lw_tbl := List.mem_of_getElem? (i := 1843) rfl
theorem w_X12_hits : chkW 246 = true := by decide +kernel
set_option maxRecDepth 40000 in
theorem v_X12_hits : Cond.code yX12_hits cX12_hits 6 (some .boolean) ∈ lw_tbl := List.mem_of_getElem? (i := 1866) rfl
theorem w_X12_gathers : chkW 247 = true := by decide +kernel
set_option maxRecDepth 40000 in
theorem v_X12_gathers : Cond.code yX12_gathers cX12_gathers 4 none ∈ lw_tbl := List.mem_of_getElem? (i := 1859) rfl
theorem w_X12_bit : chkW 248 = true := by decide +kernel
set_option maxRecDepth 40000 in
theorem v_X12_bit : Cond.code yX12_bit cX12_bit 2 (some .long) ∈ lw_tbl := List.mem_of_getElem? (i := 1862) rfl
theorem w_X12_change : chkW 249 = true := by decide +kernel
set_option maxRecDepth 40000 in
theorem v_X12_change : Cond.code yX12_change cX12_change 8 (some .int) ∈ lw_tbl := List.mem_of_getElem? (i := 1855) rfl
theorem w_X12_changed : chkW 250 = true := by decide +kernel
set_option maxRecDepth 40000 in
theorem v_X12_changed : Cond.code yX12_changed cX12_changed 2 (some .int) ∈ lw_tbl := List.mem_of_getElem? (i := 1870) rfl
theorem w_X12_all : chkW 251 = true := by decide +kernel
set_option maxRecDepth 40000 in
theorem v_X12_all : Cond.code yX12_all cX12_all 4 (some .int) ∈ lw_tbl := List.mem_of_getElem? (i := 1874) rfl
theorem w_J13_bitCount_95d88 : chkW 252 = true := by decide +kernel
set_option maxRecDepth 40000 in
theorem v_J13_bitCount_95d88 : Cond.code yJ13_bitCount_95d88 cJ13_bitCount_95d88 2 (some .int) ∈ lw_tbl := List.mem_of_getElem? (i := 1158) rfl
theorem w_J7_fill_d0a16 : chkW 253 = true := by decide +kernel
set_option maxRecDepth 40000 in
theorem v_J7_fill_d0a16 : Cond.code yJ7_fill_d0a16 cJ7_fill_d0a16 5 none ∈ lw_tbl := List.mem_of_getElem? (i := 924) rfl
theorem w_J7_fill_53178 : chkW 254 = true := by decide +kernel
set_option maxRecDepth 40000 in
theorem v_J7_fill_53178 : Cond.code yJ7_fill_53178 cJ7_fill_53178 4 none ∈ lw_tbl := List.mem_of_getElem? (i := 157) rfl
theorem w_J7_copyOf_59c91 : chkW 255 = true := by decide +kernel
set_option maxRecDepth 40000 in
theorem v_J7_copyOf_59c91 : Cond.code yJ7_copyOf_59c91 cJ7_copyOf_59c91 3 (some (.array .int)) ∈ lw_tbl := List.mem_of_getElem? (i := 773) rfl
theorem y_0_0 : u_lay RX0 TX0 0 ∈ lw_tbl := List.mem_of_getElem? (i := 275) (by decide +kernel)
theorem y_0_1 : u_lay RX0 TX0 1 ∈ lw_tbl := List.mem_of_getElem? (i := 277) (by decide +kernel)
theorem y_0_2 : u_lay RX0 TX0 2 ∈ lw_tbl := List.mem_of_getElem? (i := 279) (by decide +kernel)
theorem y_0_3 : u_lay RX0 TX0 3 ∈ lw_tbl := List.mem_of_getElem? (i := 281) (by decide +kernel)
theorem y_0_4 : u_lay RX0 TX0 4 ∈ lw_tbl := List.mem_of_getElem? (i := 283) (by decide +kernel)
theorem y_0_5 : u_lay RX0 TX0 5 ∈ lw_tbl := List.mem_of_getElem? (i := 285) (by decide +kernel)
theorem y_0_6 : u_lay RX0 TX0 6 ∈ lw_tbl := List.mem_of_getElem? (i := 287) (by decide +kernel)
theorem y_0 : ∀ w ∈ u_ws RX0 TX0 7, w ∈ lw_tbl := by
  show ∀ w ∈ [u_lay RX0 TX0 0, u_lay RX0 TX0 1, u_lay RX0 TX0 2, u_lay RX0 TX0 3, u_lay RX0 TX0 4, u_lay RX0 TX0 5, u_lay RX0 TX0 6], w ∈ lw_tbl
  exact List.forall_mem_cons.mpr ⟨y_0_0, List.forall_mem_cons.mpr ⟨y_0_1, List.forall_mem_cons.mpr ⟨y_0_2, List.forall_mem_cons.mpr ⟨y_0_3, List.forall_mem_cons.mpr ⟨y_0_4, List.forall_mem_cons.mpr ⟨y_0_5, List.forall_mem_cons.mpr ⟨y_0_6, fun _ h => absurd h List.not_mem_nil⟩⟩⟩⟩⟩⟩⟩
theorem z_0 : Cond.instantiable RX0 7 ∈ lw_tbl := List.mem_of_getElem? (i := 255) (by decide +kernel)
theorem x_0 : Cond.initialized RX0 ∈ lw_tbl := List.mem_of_getElem? (i := 114) (by decide +kernel)
theorem y_1_0 : u_lay RX1 TX1 0 ∈ lw_tbl := List.mem_of_getElem? (i := 813) (by decide +kernel)
theorem y_1_1 : u_lay RX1 TX1 1 ∈ lw_tbl := List.mem_of_getElem? (i := 815) (by decide +kernel)
theorem y_1_2 : u_lay RX1 TX1 2 ∈ lw_tbl := List.mem_of_getElem? (i := 817) (by decide +kernel)
theorem y_1_3 : u_lay RX1 TX1 3 ∈ lw_tbl := List.mem_of_getElem? (i := 819) (by decide +kernel)
theorem y_1_4 : u_lay RX1 TX1 4 ∈ lw_tbl := List.mem_of_getElem? (i := 821) (by decide +kernel)
theorem y_1_5 : u_lay RX1 TX1 5 ∈ lw_tbl := List.mem_of_getElem? (i := 823) (by decide +kernel)
theorem y_1_6 : u_lay RX1 TX1 6 ∈ lw_tbl := List.mem_of_getElem? (i := 825) (by decide +kernel)
theorem y_1 : ∀ w ∈ u_ws RX1 TX1 7, w ∈ lw_tbl := by
  show ∀ w ∈ [u_lay RX1 TX1 0, u_lay RX1 TX1 1, u_lay RX1 TX1 2, u_lay RX1 TX1 3, u_lay RX1 TX1 4, u_lay RX1 TX1 5, u_lay RX1 TX1 6], w ∈ lw_tbl
  exact List.forall_mem_cons.mpr ⟨y_1_0, List.forall_mem_cons.mpr ⟨y_1_1, List.forall_mem_cons.mpr ⟨y_1_2, List.forall_mem_cons.mpr ⟨y_1_3, List.forall_mem_cons.mpr ⟨y_1_4, List.forall_mem_cons.mpr ⟨y_1_5, List.forall_mem_cons.mpr ⟨y_1_6, fun _ h => absurd h List.not_mem_nil⟩⟩⟩⟩⟩⟩⟩
theorem z_1 : Cond.instantiable RX1 7 ∈ lw_tbl := List.mem_of_getElem? (i := 766) (by decide +kernel)
theorem x_1 : Cond.initialized RX1 ∈ lw_tbl := List.mem_of_getElem? (i := 122) (by decide +kernel)
theorem y_2_0 : u_lay RX2 TX2 0 ∈ lw_tbl := List.mem_of_getElem? (i := 225) (by decide +kernel)
theorem y_2_1 : u_lay RX2 TX2 1 ∈ lw_tbl := List.mem_of_getElem? (i := 227) (by decide +kernel)
theorem y_2_2 : u_lay RX2 TX2 2 ∈ lw_tbl := List.mem_of_getElem? (i := 229) (by decide +kernel)
theorem y_2_3 : u_lay RX2 TX2 3 ∈ lw_tbl := List.mem_of_getElem? (i := 231) (by decide +kernel)
theorem y_2_4 : u_lay RX2 TX2 4 ∈ lw_tbl := List.mem_of_getElem? (i := 233) (by decide +kernel)
theorem y_2_5 : u_lay RX2 TX2 5 ∈ lw_tbl := List.mem_of_getElem? (i := 235) (by decide +kernel)
theorem y_2_6 : u_lay RX2 TX2 6 ∈ lw_tbl := List.mem_of_getElem? (i := 237) (by decide +kernel)
theorem y_2_7 : u_lay RX2 TX2 7 ∈ lw_tbl := List.mem_of_getElem? (i := 239) (by decide +kernel)
theorem y_2_8 : u_lay RX2 TX2 8 ∈ lw_tbl := List.mem_of_getElem? (i := 241) (by decide +kernel)
theorem y_2_9 : u_lay RX2 TX2 9 ∈ lw_tbl := List.mem_of_getElem? (i := 243) (by decide +kernel)
theorem y_2_10 : u_lay RX2 TX2 10 ∈ lw_tbl := List.mem_of_getElem? (i := 245) (by decide +kernel)
theorem y_2_11 : u_lay RX2 TX2 11 ∈ lw_tbl := List.mem_of_getElem? (i := 247) (by decide +kernel)
theorem y_2_12 : u_lay RX2 TX2 12 ∈ lw_tbl := List.mem_of_getElem? (i := 249) (by decide +kernel)
theorem y_2_13 : u_lay RX2 TX2 13 ∈ lw_tbl := List.mem_of_getElem? (i := 251) (by decide +kernel)
theorem y_2 : ∀ w ∈ u_ws RX2 TX2 14, w ∈ lw_tbl := by
  show ∀ w ∈ [u_lay RX2 TX2 0, u_lay RX2 TX2 1, u_lay RX2 TX2 2, u_lay RX2 TX2 3, u_lay RX2 TX2 4, u_lay RX2 TX2 5, u_lay RX2 TX2 6, u_lay RX2 TX2 7, u_lay RX2 TX2 8, u_lay RX2 TX2 9, u_lay RX2 TX2 10, u_lay RX2 TX2 11, u_lay RX2 TX2 12, u_lay RX2 TX2 13], w ∈ lw_tbl
  exact List.forall_mem_cons.mpr ⟨y_2_0, List.forall_mem_cons.mpr ⟨y_2_1, List.forall_mem_cons.mpr ⟨y_2_2, List.forall_mem_cons.mpr ⟨y_2_3, List.forall_mem_cons.mpr ⟨y_2_4, List.forall_mem_cons.mpr ⟨y_2_5, List.forall_mem_cons.mpr ⟨y_2_6, List.forall_mem_cons.mpr ⟨y_2_7, List.forall_mem_cons.mpr ⟨y_2_8, List.forall_mem_cons.mpr ⟨y_2_9, List.forall_mem_cons.mpr ⟨y_2_10, List.forall_mem_cons.mpr ⟨y_2_11, List.forall_mem_cons.mpr ⟨y_2_12, List.forall_mem_cons.mpr ⟨y_2_13, fun _ h => absurd h List.not_mem_nil⟩⟩⟩⟩⟩⟩⟩⟩⟩⟩⟩⟩⟩⟩
theorem z_2 : Cond.instantiable RX2 14 ∈ lw_tbl := List.mem_of_getElem? (i := 179) (by decide +kernel)
theorem x_2 : Cond.initialized RX2 ∈ lw_tbl := List.mem_of_getElem? (i := 112) (by decide +kernel)
theorem y_3_0 : u_lay RX3 TX3 0 ∈ lw_tbl := List.mem_of_getElem? (i := 306) (by decide +kernel)
theorem y_3_1 : u_lay RX3 TX3 1 ∈ lw_tbl := List.mem_of_getElem? (i := 308) (by decide +kernel)
theorem y_3_2 : u_lay RX3 TX3 2 ∈ lw_tbl := List.mem_of_getElem? (i := 310) (by decide +kernel)
theorem y_3_3 : u_lay RX3 TX3 3 ∈ lw_tbl := List.mem_of_getElem? (i := 312) (by decide +kernel)
theorem y_3 : ∀ w ∈ u_ws RX3 TX3 4, w ∈ lw_tbl := by
  show ∀ w ∈ [u_lay RX3 TX3 0, u_lay RX3 TX3 1, u_lay RX3 TX3 2, u_lay RX3 TX3 3], w ∈ lw_tbl
  exact List.forall_mem_cons.mpr ⟨y_3_0, List.forall_mem_cons.mpr ⟨y_3_1, List.forall_mem_cons.mpr ⟨y_3_2, List.forall_mem_cons.mpr ⟨y_3_3, fun _ h => absurd h List.not_mem_nil⟩⟩⟩⟩
theorem z_3 : Cond.instantiable RX3 4 ∈ lw_tbl := List.mem_of_getElem? (i := 297) (by decide +kernel)
theorem x_3 : Cond.initialized RX3 ∈ lw_tbl := List.mem_of_getElem? (i := 116) (by decide +kernel)
theorem y_4_0 : u_lay RX4 TX4 0 ∈ lw_tbl := List.mem_of_getElem? (i := 473) (by decide +kernel)
theorem y_4_1 : u_lay RX4 TX4 1 ∈ lw_tbl := List.mem_of_getElem? (i := 475) (by decide +kernel)
theorem y_4_2 : u_lay RX4 TX4 2 ∈ lw_tbl := List.mem_of_getElem? (i := 477) (by decide +kernel)
theorem y_4_3 : u_lay RX4 TX4 3 ∈ lw_tbl := List.mem_of_getElem? (i := 479) (by decide +kernel)
theorem y_4_4 : u_lay RX4 TX4 4 ∈ lw_tbl := List.mem_of_getElem? (i := 481) (by decide +kernel)
theorem y_4_5 : u_lay RX4 TX4 5 ∈ lw_tbl := List.mem_of_getElem? (i := 483) (by decide +kernel)
theorem y_4_6 : u_lay RX4 TX4 6 ∈ lw_tbl := List.mem_of_getElem? (i := 485) (by decide +kernel)
theorem y_4 : ∀ w ∈ u_ws RX4 TX4 7, w ∈ lw_tbl := by
  show ∀ w ∈ [u_lay RX4 TX4 0, u_lay RX4 TX4 1, u_lay RX4 TX4 2, u_lay RX4 TX4 3, u_lay RX4 TX4 4, u_lay RX4 TX4 5, u_lay RX4 TX4 6], w ∈ lw_tbl
  exact List.forall_mem_cons.mpr ⟨y_4_0, List.forall_mem_cons.mpr ⟨y_4_1, List.forall_mem_cons.mpr ⟨y_4_2, List.forall_mem_cons.mpr ⟨y_4_3, List.forall_mem_cons.mpr ⟨y_4_4, List.forall_mem_cons.mpr ⟨y_4_5, List.forall_mem_cons.mpr ⟨y_4_6, fun _ h => absurd h List.not_mem_nil⟩⟩⟩⟩⟩⟩⟩
theorem z_4 : Cond.instantiable RX4 7 ∈ lw_tbl := List.mem_of_getElem? (i := 459) (by decide +kernel)
theorem x_4 : Cond.initialized RX4 ∈ lw_tbl := List.mem_of_getElem? (i := 119) (by decide +kernel)
theorem y_5_0 : u_lay RX5 TX5 0 ∈ lw_tbl := List.mem_of_getElem? (i := 332) (by decide +kernel)
theorem y_5_1 : u_lay RX5 TX5 1 ∈ lw_tbl := List.mem_of_getElem? (i := 334) (by decide +kernel)
theorem y_5_2 : u_lay RX5 TX5 2 ∈ lw_tbl := List.mem_of_getElem? (i := 336) (by decide +kernel)
theorem y_5_3 : u_lay RX5 TX5 3 ∈ lw_tbl := List.mem_of_getElem? (i := 338) (by decide +kernel)
theorem y_5_4 : u_lay RX5 TX5 4 ∈ lw_tbl := List.mem_of_getElem? (i := 340) (by decide +kernel)
theorem y_5_5 : u_lay RX5 TX5 5 ∈ lw_tbl := List.mem_of_getElem? (i := 342) (by decide +kernel)
theorem y_5_6 : u_lay RX5 TX5 6 ∈ lw_tbl := List.mem_of_getElem? (i := 344) (by decide +kernel)
theorem y_5_7 : u_lay RX5 TX5 7 ∈ lw_tbl := List.mem_of_getElem? (i := 346) (by decide +kernel)
theorem y_5_8 : u_lay RX5 TX5 8 ∈ lw_tbl := List.mem_of_getElem? (i := 348) (by decide +kernel)
theorem y_5_9 : u_lay RX5 TX5 9 ∈ lw_tbl := List.mem_of_getElem? (i := 350) (by decide +kernel)
theorem y_5_10 : u_lay RX5 TX5 10 ∈ lw_tbl := List.mem_of_getElem? (i := 352) (by decide +kernel)
theorem y_5_11 : u_lay RX5 TX5 11 ∈ lw_tbl := List.mem_of_getElem? (i := 354) (by decide +kernel)
theorem y_5 : ∀ w ∈ u_ws RX5 TX5 12, w ∈ lw_tbl := by
  show ∀ w ∈ [u_lay RX5 TX5 0, u_lay RX5 TX5 1, u_lay RX5 TX5 2, u_lay RX5 TX5 3, u_lay RX5 TX5 4, u_lay RX5 TX5 5, u_lay RX5 TX5 6, u_lay RX5 TX5 7, u_lay RX5 TX5 8, u_lay RX5 TX5 9, u_lay RX5 TX5 10, u_lay RX5 TX5 11], w ∈ lw_tbl
  exact List.forall_mem_cons.mpr ⟨y_5_0, List.forall_mem_cons.mpr ⟨y_5_1, List.forall_mem_cons.mpr ⟨y_5_2, List.forall_mem_cons.mpr ⟨y_5_3, List.forall_mem_cons.mpr ⟨y_5_4, List.forall_mem_cons.mpr ⟨y_5_5, List.forall_mem_cons.mpr ⟨y_5_6, List.forall_mem_cons.mpr ⟨y_5_7, List.forall_mem_cons.mpr ⟨y_5_8, List.forall_mem_cons.mpr ⟨y_5_9, List.forall_mem_cons.mpr ⟨y_5_10, List.forall_mem_cons.mpr ⟨y_5_11, fun _ h => absurd h List.not_mem_nil⟩⟩⟩⟩⟩⟩⟩⟩⟩⟩⟩⟩
theorem z_5 : Cond.instantiable RX5 12 ∈ lw_tbl := List.mem_of_getElem? (i := 291) (by decide +kernel)
theorem x_5 : Cond.initialized RX5 ∈ lw_tbl := List.mem_of_getElem? (i := 115) (by decide +kernel)
theorem y_6_0 : u_lay RX6 TX6 0 ∈ lw_tbl := List.mem_of_getElem? (i := 425) (by decide +kernel)
theorem y_6_1 : u_lay RX6 TX6 1 ∈ lw_tbl := List.mem_of_getElem? (i := 427) (by decide +kernel)
theorem y_6_2 : u_lay RX6 TX6 2 ∈ lw_tbl := List.mem_of_getElem? (i := 429) (by decide +kernel)
theorem y_6_3 : u_lay RX6 TX6 3 ∈ lw_tbl := List.mem_of_getElem? (i := 431) (by decide +kernel)
theorem y_6_4 : u_lay RX6 TX6 4 ∈ lw_tbl := List.mem_of_getElem? (i := 433) (by decide +kernel)
theorem y_6_5 : u_lay RX6 TX6 5 ∈ lw_tbl := List.mem_of_getElem? (i := 435) (by decide +kernel)
theorem y_6_6 : u_lay RX6 TX6 6 ∈ lw_tbl := List.mem_of_getElem? (i := 437) (by decide +kernel)
theorem y_6_7 : u_lay RX6 TX6 7 ∈ lw_tbl := List.mem_of_getElem? (i := 439) (by decide +kernel)
theorem y_6_8 : u_lay RX6 TX6 8 ∈ lw_tbl := List.mem_of_getElem? (i := 441) (by decide +kernel)
theorem y_6_9 : u_lay RX6 TX6 9 ∈ lw_tbl := List.mem_of_getElem? (i := 443) (by decide +kernel)
theorem y_6_10 : u_lay RX6 TX6 10 ∈ lw_tbl := List.mem_of_getElem? (i := 445) (by decide +kernel)
theorem y_6_11 : u_lay RX6 TX6 11 ∈ lw_tbl := List.mem_of_getElem? (i := 447) (by decide +kernel)
theorem y_6_12 : u_lay RX6 TX6 12 ∈ lw_tbl := List.mem_of_getElem? (i := 449) (by decide +kernel)
theorem y_6_13 : u_lay RX6 TX6 13 ∈ lw_tbl := List.mem_of_getElem? (i := 451) (by decide +kernel)
theorem y_6_14 : u_lay RX6 TX6 14 ∈ lw_tbl := List.mem_of_getElem? (i := 453) (by decide +kernel)
theorem y_6_15 : u_lay RX6 TX6 15 ∈ lw_tbl := List.mem_of_getElem? (i := 455) (by decide +kernel)
theorem y_6 : ∀ w ∈ u_ws RX6 TX6 16, w ∈ lw_tbl := by
  show ∀ w ∈ [u_lay RX6 TX6 0, u_lay RX6 TX6 1, u_lay RX6 TX6 2, u_lay RX6 TX6 3, u_lay RX6 TX6 4, u_lay RX6 TX6 5, u_lay RX6 TX6 6, u_lay RX6 TX6 7, u_lay RX6 TX6 8, u_lay RX6 TX6 9, u_lay RX6 TX6 10, u_lay RX6 TX6 11, u_lay RX6 TX6 12, u_lay RX6 TX6 13, u_lay RX6 TX6 14, u_lay RX6 TX6 15], w ∈ lw_tbl
  exact List.forall_mem_cons.mpr ⟨y_6_0, List.forall_mem_cons.mpr ⟨y_6_1, List.forall_mem_cons.mpr ⟨y_6_2, List.forall_mem_cons.mpr ⟨y_6_3, List.forall_mem_cons.mpr ⟨y_6_4, List.forall_mem_cons.mpr ⟨y_6_5, List.forall_mem_cons.mpr ⟨y_6_6, List.forall_mem_cons.mpr ⟨y_6_7, List.forall_mem_cons.mpr ⟨y_6_8, List.forall_mem_cons.mpr ⟨y_6_9, List.forall_mem_cons.mpr ⟨y_6_10, List.forall_mem_cons.mpr ⟨y_6_11, List.forall_mem_cons.mpr ⟨y_6_12, List.forall_mem_cons.mpr ⟨y_6_13, List.forall_mem_cons.mpr ⟨y_6_14, List.forall_mem_cons.mpr ⟨y_6_15, fun _ h => absurd h List.not_mem_nil⟩⟩⟩⟩⟩⟩⟩⟩⟩⟩⟩⟩⟩⟩⟩⟩
theorem z_6 : Cond.instantiable RX6 16 ∈ lw_tbl := List.mem_of_getElem? (i := 395) (by decide +kernel)
theorem x_6 : Cond.initialized RX6 ∈ lw_tbl := List.mem_of_getElem? (i := 118) (by decide +kernel)
theorem y_7_0 : u_lay RX7 TX7 0 ∈ lw_tbl := List.mem_of_getElem? (i := 373) (by decide +kernel)
theorem y_7_1 : u_lay RX7 TX7 1 ∈ lw_tbl := List.mem_of_getElem? (i := 375) (by decide +kernel)
theorem y_7_2 : u_lay RX7 TX7 2 ∈ lw_tbl := List.mem_of_getElem? (i := 377) (by decide +kernel)
theorem y_7_3 : u_lay RX7 TX7 3 ∈ lw_tbl := List.mem_of_getElem? (i := 379) (by decide +kernel)
theorem y_7_4 : u_lay RX7 TX7 4 ∈ lw_tbl := List.mem_of_getElem? (i := 381) (by decide +kernel)
theorem y_7_5 : u_lay RX7 TX7 5 ∈ lw_tbl := List.mem_of_getElem? (i := 383) (by decide +kernel)
theorem y_7_6 : u_lay RX7 TX7 6 ∈ lw_tbl := List.mem_of_getElem? (i := 385) (by decide +kernel)
theorem y_7_7 : u_lay RX7 TX7 7 ∈ lw_tbl := List.mem_of_getElem? (i := 387) (by decide +kernel)
theorem y_7_8 : u_lay RX7 TX7 8 ∈ lw_tbl := List.mem_of_getElem? (i := 389) (by decide +kernel)
theorem y_7_9 : u_lay RX7 TX7 9 ∈ lw_tbl := List.mem_of_getElem? (i := 391) (by decide +kernel)
theorem y_7 : ∀ w ∈ u_ws RX7 TX7 10, w ∈ lw_tbl := by
  show ∀ w ∈ [u_lay RX7 TX7 0, u_lay RX7 TX7 1, u_lay RX7 TX7 2, u_lay RX7 TX7 3, u_lay RX7 TX7 4, u_lay RX7 TX7 5, u_lay RX7 TX7 6, u_lay RX7 TX7 7, u_lay RX7 TX7 8, u_lay RX7 TX7 9], w ∈ lw_tbl
  exact List.forall_mem_cons.mpr ⟨y_7_0, List.forall_mem_cons.mpr ⟨y_7_1, List.forall_mem_cons.mpr ⟨y_7_2, List.forall_mem_cons.mpr ⟨y_7_3, List.forall_mem_cons.mpr ⟨y_7_4, List.forall_mem_cons.mpr ⟨y_7_5, List.forall_mem_cons.mpr ⟨y_7_6, List.forall_mem_cons.mpr ⟨y_7_7, List.forall_mem_cons.mpr ⟨y_7_8, List.forall_mem_cons.mpr ⟨y_7_9, fun _ h => absurd h List.not_mem_nil⟩⟩⟩⟩⟩⟩⟩⟩⟩⟩
theorem z_7 : Cond.instantiable RX7 10 ∈ lw_tbl := List.mem_of_getElem? (i := 358) (by decide +kernel)
theorem x_7 : Cond.initialized RX7 ∈ lw_tbl := List.mem_of_getElem? (i := 117) (by decide +kernel)
theorem y_8_0 : u_lay RX8 TX8 0 ∈ lw_tbl := List.mem_of_getElem? (i := 166) (by decide +kernel)
theorem y_8_1 : u_lay RX8 TX8 1 ∈ lw_tbl := List.mem_of_getElem? (i := 168) (by decide +kernel)
theorem y_8_2 : u_lay RX8 TX8 2 ∈ lw_tbl := List.mem_of_getElem? (i := 170) (by decide +kernel)
theorem y_8_3 : u_lay RX8 TX8 3 ∈ lw_tbl := List.mem_of_getElem? (i := 172) (by decide +kernel)
theorem y_8_4 : u_lay RX8 TX8 4 ∈ lw_tbl := List.mem_of_getElem? (i := 174) (by decide +kernel)
theorem y_8 : ∀ w ∈ u_ws RX8 TX8 5, w ∈ lw_tbl := by
  show ∀ w ∈ [u_lay RX8 TX8 0, u_lay RX8 TX8 1, u_lay RX8 TX8 2, u_lay RX8 TX8 3, u_lay RX8 TX8 4], w ∈ lw_tbl
  exact List.forall_mem_cons.mpr ⟨y_8_0, List.forall_mem_cons.mpr ⟨y_8_1, List.forall_mem_cons.mpr ⟨y_8_2, List.forall_mem_cons.mpr ⟨y_8_3, List.forall_mem_cons.mpr ⟨y_8_4, fun _ h => absurd h List.not_mem_nil⟩⟩⟩⟩⟩
theorem z_8 : Cond.instantiable RX8 5 ∈ lw_tbl := List.mem_of_getElem? (i := 150) (by decide +kernel)
theorem x_8 : Cond.initialized RX8 ∈ lw_tbl := List.mem_of_getElem? (i := 110) (by decide +kernel)
theorem y_9_0 : u_lay RX9 TX9 0 ∈ lw_tbl := List.mem_of_getElem? (i := 143) (by decide +kernel)
theorem y_9_1 : u_lay RX9 TX9 1 ∈ lw_tbl := List.mem_of_getElem? (i := 145) (by decide +kernel)
theorem y_9 : ∀ w ∈ u_ws RX9 TX9 2, w ∈ lw_tbl := by
  show ∀ w ∈ [u_lay RX9 TX9 0, u_lay RX9 TX9 1], w ∈ lw_tbl
  exact List.forall_mem_cons.mpr ⟨y_9_0, List.forall_mem_cons.mpr ⟨y_9_1, fun _ h => absurd h List.not_mem_nil⟩⟩
theorem z_9 : Cond.instantiable RX9 2 ∈ lw_tbl := List.mem_of_getElem? (i := 134) (by decide +kernel)
theorem x_9 : Cond.initialized RX9 ∈ lw_tbl := List.mem_of_getElem? (i := 109) (by decide +kernel)
theorem y_10_0 : u_lay RX10 TX10 0 ∈ lw_tbl := List.mem_of_getElem? (i := 197) (by decide +kernel)
theorem y_10_1 : u_lay RX10 TX10 1 ∈ lw_tbl := List.mem_of_getElem? (i := 199) (by decide +kernel)
theorem y_10_2 : u_lay RX10 TX10 2 ∈ lw_tbl := List.mem_of_getElem? (i := 201) (by decide +kernel)
theorem y_10_3 : u_lay RX10 TX10 3 ∈ lw_tbl := List.mem_of_getElem? (i := 203) (by decide +kernel)
theorem y_10_4 : u_lay RX10 TX10 4 ∈ lw_tbl := List.mem_of_getElem? (i := 205) (by decide +kernel)
theorem y_10 : ∀ w ∈ u_ws RX10 TX10 5, w ∈ lw_tbl := by
  show ∀ w ∈ [u_lay RX10 TX10 0, u_lay RX10 TX10 1, u_lay RX10 TX10 2, u_lay RX10 TX10 3, u_lay RX10 TX10 4], w ∈ lw_tbl
  exact List.forall_mem_cons.mpr ⟨y_10_0, List.forall_mem_cons.mpr ⟨y_10_1, List.forall_mem_cons.mpr ⟨y_10_2, List.forall_mem_cons.mpr ⟨y_10_3, List.forall_mem_cons.mpr ⟨y_10_4, fun _ h => absurd h List.not_mem_nil⟩⟩⟩⟩⟩
theorem z_10 : Cond.instantiable RX10 5 ∈ lw_tbl := List.mem_of_getElem? (i := 185) (by decide +kernel)
theorem x_10 : Cond.initialized RX10 ∈ lw_tbl := List.mem_of_getElem? (i := 113) (by decide +kernel)
theorem y_11_0 : u_lay RX11 TX11 0 ∈ lw_tbl := List.mem_of_getElem? (i := 501) (by decide +kernel)
theorem y_11_1 : u_lay RX11 TX11 1 ∈ lw_tbl := List.mem_of_getElem? (i := 503) (by decide +kernel)
theorem y_11_2 : u_lay RX11 TX11 2 ∈ lw_tbl := List.mem_of_getElem? (i := 505) (by decide +kernel)
theorem y_11_3 : u_lay RX11 TX11 3 ∈ lw_tbl := List.mem_of_getElem? (i := 507) (by decide +kernel)
theorem y_11_4 : u_lay RX11 TX11 4 ∈ lw_tbl := List.mem_of_getElem? (i := 509) (by decide +kernel)
theorem y_11_5 : u_lay RX11 TX11 5 ∈ lw_tbl := List.mem_of_getElem? (i := 511) (by decide +kernel)
theorem y_11_6 : u_lay RX11 TX11 6 ∈ lw_tbl := List.mem_of_getElem? (i := 513) (by decide +kernel)
theorem y_11_7 : u_lay RX11 TX11 7 ∈ lw_tbl := List.mem_of_getElem? (i := 515) (by decide +kernel)
theorem y_11_8 : u_lay RX11 TX11 8 ∈ lw_tbl := List.mem_of_getElem? (i := 517) (by decide +kernel)
theorem y_11_9 : u_lay RX11 TX11 9 ∈ lw_tbl := List.mem_of_getElem? (i := 519) (by decide +kernel)
theorem y_11_10 : u_lay RX11 TX11 10 ∈ lw_tbl := List.mem_of_getElem? (i := 521) (by decide +kernel)
theorem y_11_11 : u_lay RX11 TX11 11 ∈ lw_tbl := List.mem_of_getElem? (i := 523) (by decide +kernel)
theorem y_11_12 : u_lay RX11 TX11 12 ∈ lw_tbl := List.mem_of_getElem? (i := 525) (by decide +kernel)
theorem y_11 : ∀ w ∈ u_ws RX11 TX11 13, w ∈ lw_tbl := by
  show ∀ w ∈ [u_lay RX11 TX11 0, u_lay RX11 TX11 1, u_lay RX11 TX11 2, u_lay RX11 TX11 3, u_lay RX11 TX11 4, u_lay RX11 TX11 5, u_lay RX11 TX11 6, u_lay RX11 TX11 7, u_lay RX11 TX11 8, u_lay RX11 TX11 9, u_lay RX11 TX11 10, u_lay RX11 TX11 11, u_lay RX11 TX11 12], w ∈ lw_tbl
  exact List.forall_mem_cons.mpr ⟨y_11_0, List.forall_mem_cons.mpr ⟨y_11_1, List.forall_mem_cons.mpr ⟨y_11_2, List.forall_mem_cons.mpr ⟨y_11_3, List.forall_mem_cons.mpr ⟨y_11_4, List.forall_mem_cons.mpr ⟨y_11_5, List.forall_mem_cons.mpr ⟨y_11_6, List.forall_mem_cons.mpr ⟨y_11_7, List.forall_mem_cons.mpr ⟨y_11_8, List.forall_mem_cons.mpr ⟨y_11_9, List.forall_mem_cons.mpr ⟨y_11_10, List.forall_mem_cons.mpr ⟨y_11_11, List.forall_mem_cons.mpr ⟨y_11_12, fun _ h => absurd h List.not_mem_nil⟩⟩⟩⟩⟩⟩⟩⟩⟩⟩⟩⟩⟩
theorem z_11 : Cond.instantiable RX11 13 ∈ lw_tbl := List.mem_of_getElem? (i := 126) (by decide +kernel)
theorem x_11 : Cond.initialized RX11 ∈ lw_tbl := List.mem_of_getElem? (i := 108) (by decide +kernel)
theorem y_12_0 : u_lay RX12 TX12 0 ∈ lw_tbl := List.mem_of_getElem? (i := 1273) (by decide +kernel)
theorem y_12_1 : u_lay RX12 TX12 1 ∈ lw_tbl := List.mem_of_getElem? (i := 1275) (by decide +kernel)
theorem y_12_2 : u_lay RX12 TX12 2 ∈ lw_tbl := List.mem_of_getElem? (i := 1277) (by decide +kernel)
theorem y_12_3 : u_lay RX12 TX12 3 ∈ lw_tbl := List.mem_of_getElem? (i := 1279) (by decide +kernel)
theorem y_12_4 : u_lay RX12 TX12 4 ∈ lw_tbl := List.mem_of_getElem? (i := 1281) (by decide +kernel)
theorem y_12_5 : u_lay RX12 TX12 5 ∈ lw_tbl := List.mem_of_getElem? (i := 1283) (by decide +kernel)
theorem y_12_6 : u_lay RX12 TX12 6 ∈ lw_tbl := List.mem_of_getElem? (i := 1285) (by decide +kernel)
theorem y_12_7 : u_lay RX12 TX12 7 ∈ lw_tbl := List.mem_of_getElem? (i := 1287) (by decide +kernel)
theorem y_12_8 : u_lay RX12 TX12 8 ∈ lw_tbl := List.mem_of_getElem? (i := 1289) (by decide +kernel)
theorem y_12_9 : u_lay RX12 TX12 9 ∈ lw_tbl := List.mem_of_getElem? (i := 1291) (by decide +kernel)
theorem y_12_10 : u_lay RX12 TX12 10 ∈ lw_tbl := List.mem_of_getElem? (i := 1293) (by decide +kernel)
theorem y_12_11 : u_lay RX12 TX12 11 ∈ lw_tbl := List.mem_of_getElem? (i := 1295) (by decide +kernel)
theorem y_12_12 : u_lay RX12 TX12 12 ∈ lw_tbl := List.mem_of_getElem? (i := 1297) (by decide +kernel)
theorem y_12_13 : u_lay RX12 TX12 13 ∈ lw_tbl := List.mem_of_getElem? (i := 1299) (by decide +kernel)
theorem y_12_14 : u_lay RX12 TX12 14 ∈ lw_tbl := List.mem_of_getElem? (i := 1301) (by decide +kernel)
theorem y_12_15 : u_lay RX12 TX12 15 ∈ lw_tbl := List.mem_of_getElem? (i := 1303) (by decide +kernel)
theorem y_12_16 : u_lay RX12 TX12 16 ∈ lw_tbl := List.mem_of_getElem? (i := 1305) (by decide +kernel)
theorem y_12_17 : u_lay RX12 TX12 17 ∈ lw_tbl := List.mem_of_getElem? (i := 1307) (by decide +kernel)
theorem y_12_18 : u_lay RX12 TX12 18 ∈ lw_tbl := List.mem_of_getElem? (i := 1309) (by decide +kernel)
theorem y_12_19 : u_lay RX12 TX12 19 ∈ lw_tbl := List.mem_of_getElem? (i := 1311) (by decide +kernel)
theorem y_12_20 : u_lay RX12 TX12 20 ∈ lw_tbl := List.mem_of_getElem? (i := 1313) (by decide +kernel)
theorem y_12_21 : u_lay RX12 TX12 21 ∈ lw_tbl := List.mem_of_getElem? (i := 1315) (by decide +kernel)
theorem y_12_22 : u_lay RX12 TX12 22 ∈ lw_tbl := List.mem_of_getElem? (i := 1317) (by decide +kernel)
theorem y_12_23 : u_lay RX12 TX12 23 ∈ lw_tbl := List.mem_of_getElem? (i := 1319) (by decide +kernel)
theorem y_12_24 : u_lay RX12 TX12 24 ∈ lw_tbl := List.mem_of_getElem? (i := 1321) (by decide +kernel)
theorem y_12_25 : u_lay RX12 TX12 25 ∈ lw_tbl := List.mem_of_getElem? (i := 1323) (by decide +kernel)
theorem y_12_26 : u_lay RX12 TX12 26 ∈ lw_tbl := List.mem_of_getElem? (i := 1325) (by decide +kernel)
theorem y_12_27 : u_lay RX12 TX12 27 ∈ lw_tbl := List.mem_of_getElem? (i := 1327) (by decide +kernel)
theorem y_12_28 : u_lay RX12 TX12 28 ∈ lw_tbl := List.mem_of_getElem? (i := 1329) (by decide +kernel)
theorem y_12_29 : u_lay RX12 TX12 29 ∈ lw_tbl := List.mem_of_getElem? (i := 1331) (by decide +kernel)
theorem y_12_30 : u_lay RX12 TX12 30 ∈ lw_tbl := List.mem_of_getElem? (i := 1333) (by decide +kernel)
theorem y_12_31 : u_lay RX12 TX12 31 ∈ lw_tbl := List.mem_of_getElem? (i := 1335) (by decide +kernel)
theorem y_12_32 : u_lay RX12 TX12 32 ∈ lw_tbl := List.mem_of_getElem? (i := 1337) (by decide +kernel)
theorem y_12_33 : u_lay RX12 TX12 33 ∈ lw_tbl := List.mem_of_getElem? (i := 1339) (by decide +kernel)
theorem y_12_34 : u_lay RX12 TX12 34 ∈ lw_tbl := List.mem_of_getElem? (i := 1341) (by decide +kernel)
theorem y_12_35 : u_lay RX12 TX12 35 ∈ lw_tbl := List.mem_of_getElem? (i := 1343) (by decide +kernel)
theorem y_12_36 : u_lay RX12 TX12 36 ∈ lw_tbl := List.mem_of_getElem? (i := 1345) (by decide +kernel)
theorem y_12_37 : u_lay RX12 TX12 37 ∈ lw_tbl := List.mem_of_getElem? (i := 1347) (by decide +kernel)
theorem y_12_38 : u_lay RX12 TX12 38 ∈ lw_tbl := List.mem_of_getElem? (i := 1349) (by decide +kernel)
theorem y_12_39 : u_lay RX12 TX12 39 ∈ lw_tbl := List.mem_of_getElem? (i := 1351) (by decide +kernel)
theorem y_12_40 : u_lay RX12 TX12 40 ∈ lw_tbl := List.mem_of_getElem? (i := 1353) (by decide +kernel)
theorem y_12_41 : u_lay RX12 TX12 41 ∈ lw_tbl := List.mem_of_getElem? (i := 1355) (by decide +kernel)
theorem y_12_42 : u_lay RX12 TX12 42 ∈ lw_tbl := List.mem_of_getElem? (i := 1357) (by decide +kernel)
theorem y_12_43 : u_lay RX12 TX12 43 ∈ lw_tbl := List.mem_of_getElem? (i := 1359) (by decide +kernel)
theorem y_12_44 : u_lay RX12 TX12 44 ∈ lw_tbl := List.mem_of_getElem? (i := 1361) (by decide +kernel)
theorem y_12_45 : u_lay RX12 TX12 45 ∈ lw_tbl := List.mem_of_getElem? (i := 1363) (by decide +kernel)
theorem y_12_46 : u_lay RX12 TX12 46 ∈ lw_tbl := List.mem_of_getElem? (i := 1365) (by decide +kernel)
theorem y_12_47 : u_lay RX12 TX12 47 ∈ lw_tbl := List.mem_of_getElem? (i := 1367) (by decide +kernel)
theorem y_12_48 : u_lay RX12 TX12 48 ∈ lw_tbl := List.mem_of_getElem? (i := 1369) (by decide +kernel)
theorem y_12_49 : u_lay RX12 TX12 49 ∈ lw_tbl := List.mem_of_getElem? (i := 1371) (by decide +kernel)
theorem y_12_50 : u_lay RX12 TX12 50 ∈ lw_tbl := List.mem_of_getElem? (i := 1373) (by decide +kernel)
theorem y_12_51 : u_lay RX12 TX12 51 ∈ lw_tbl := List.mem_of_getElem? (i := 1375) (by decide +kernel)
theorem y_12_52 : u_lay RX12 TX12 52 ∈ lw_tbl := List.mem_of_getElem? (i := 1377) (by decide +kernel)
theorem y_12_53 : u_lay RX12 TX12 53 ∈ lw_tbl := List.mem_of_getElem? (i := 1379) (by decide +kernel)
theorem y_12_54 : u_lay RX12 TX12 54 ∈ lw_tbl := List.mem_of_getElem? (i := 1381) (by decide +kernel)
theorem y_12_55 : u_lay RX12 TX12 55 ∈ lw_tbl := List.mem_of_getElem? (i := 1383) (by decide +kernel)
theorem y_12_56 : u_lay RX12 TX12 56 ∈ lw_tbl := List.mem_of_getElem? (i := 1385) (by decide +kernel)
theorem y_12_57 : u_lay RX12 TX12 57 ∈ lw_tbl := List.mem_of_getElem? (i := 1387) (by decide +kernel)
theorem y_12_58 : u_lay RX12 TX12 58 ∈ lw_tbl := List.mem_of_getElem? (i := 1389) (by decide +kernel)
theorem y_12_59 : u_lay RX12 TX12 59 ∈ lw_tbl := List.mem_of_getElem? (i := 1391) (by decide +kernel)
theorem y_12_60 : u_lay RX12 TX12 60 ∈ lw_tbl := List.mem_of_getElem? (i := 1393) (by decide +kernel)
theorem y_12_61 : u_lay RX12 TX12 61 ∈ lw_tbl := List.mem_of_getElem? (i := 1395) (by decide +kernel)
theorem y_12_62 : u_lay RX12 TX12 62 ∈ lw_tbl := List.mem_of_getElem? (i := 1397) (by decide +kernel)
theorem y_12_63 : u_lay RX12 TX12 63 ∈ lw_tbl := List.mem_of_getElem? (i := 1399) (by decide +kernel)
theorem y_12_64 : u_lay RX12 TX12 64 ∈ lw_tbl := List.mem_of_getElem? (i := 1401) (by decide +kernel)
theorem y_12_65 : u_lay RX12 TX12 65 ∈ lw_tbl := List.mem_of_getElem? (i := 1403) (by decide +kernel)
theorem y_12_66 : u_lay RX12 TX12 66 ∈ lw_tbl := List.mem_of_getElem? (i := 1405) (by decide +kernel)
theorem y_12_67 : u_lay RX12 TX12 67 ∈ lw_tbl := List.mem_of_getElem? (i := 1407) (by decide +kernel)
theorem y_12_68 : u_lay RX12 TX12 68 ∈ lw_tbl := List.mem_of_getElem? (i := 1409) (by decide +kernel)
theorem y_12_69 : u_lay RX12 TX12 69 ∈ lw_tbl := List.mem_of_getElem? (i := 1411) (by decide +kernel)
theorem y_12_70 : u_lay RX12 TX12 70 ∈ lw_tbl := List.mem_of_getElem? (i := 1413) (by decide +kernel)
theorem y_12_71 : u_lay RX12 TX12 71 ∈ lw_tbl := List.mem_of_getElem? (i := 1415) (by decide +kernel)
theorem y_12_72 : u_lay RX12 TX12 72 ∈ lw_tbl := List.mem_of_getElem? (i := 1417) (by decide +kernel)
theorem y_12_73 : u_lay RX12 TX12 73 ∈ lw_tbl := List.mem_of_getElem? (i := 1419) (by decide +kernel)
theorem y_12_74 : u_lay RX12 TX12 74 ∈ lw_tbl := List.mem_of_getElem? (i := 1421) (by decide +kernel)
theorem y_12_75 : u_lay RX12 TX12 75 ∈ lw_tbl := List.mem_of_getElem? (i := 1423) (by decide +kernel)
theorem y_12_76 : u_lay RX12 TX12 76 ∈ lw_tbl := List.mem_of_getElem? (i := 1425) (by decide +kernel)
theorem y_12_77 : u_lay RX12 TX12 77 ∈ lw_tbl := List.mem_of_getElem? (i := 1427) (by decide +kernel)
theorem y_12_78 : u_lay RX12 TX12 78 ∈ lw_tbl := List.mem_of_getElem? (i := 1429) (by decide +kernel)
theorem y_12_79 : u_lay RX12 TX12 79 ∈ lw_tbl := List.mem_of_getElem? (i := 1431) (by decide +kernel)
theorem y_12_80 : u_lay RX12 TX12 80 ∈ lw_tbl := List.mem_of_getElem? (i := 1433) (by decide +kernel)
theorem y_12_81 : u_lay RX12 TX12 81 ∈ lw_tbl := List.mem_of_getElem? (i := 1435) (by decide +kernel)
theorem y_12_82 : u_lay RX12 TX12 82 ∈ lw_tbl := List.mem_of_getElem? (i := 1437) (by decide +kernel)
theorem y_12_83 : u_lay RX12 TX12 83 ∈ lw_tbl := List.mem_of_getElem? (i := 1439) (by decide +kernel)
theorem y_12_84 : u_lay RX12 TX12 84 ∈ lw_tbl := List.mem_of_getElem? (i := 1441) (by decide +kernel)
theorem y_12_85 : u_lay RX12 TX12 85 ∈ lw_tbl := List.mem_of_getElem? (i := 1443) (by decide +kernel)
theorem y_12_86 : u_lay RX12 TX12 86 ∈ lw_tbl := List.mem_of_getElem? (i := 1445) (by decide +kernel)
theorem y_12_87 : u_lay RX12 TX12 87 ∈ lw_tbl := List.mem_of_getElem? (i := 1447) (by decide +kernel)
theorem y_12_88 : u_lay RX12 TX12 88 ∈ lw_tbl := List.mem_of_getElem? (i := 1449) (by decide +kernel)
theorem y_12 : ∀ w ∈ u_ws RX12 TX12 89, w ∈ lw_tbl := by
  show ∀ w ∈ [u_lay RX12 TX12 0, u_lay RX12 TX12 1, u_lay RX12 TX12 2, u_lay RX12 TX12 3, u_lay RX12 TX12 4, u_lay RX12 TX12 5, u_lay RX12 TX12 6, u_lay RX12 TX12 7, u_lay RX12 TX12 8, u_lay RX12 TX12 9, u_lay RX12 TX12 10, u_lay RX12 TX12 11, u_lay RX12 TX12 12, u_lay RX12 TX12 13, u_lay RX12 TX12 14, u_lay RX12 TX12 15, u_lay RX12 TX12 16, u_lay RX12 TX12 17, u_lay RX12 TX12 18, u_lay RX12 TX12 19, u_lay RX12 TX12 20, u_lay RX12 TX12 21, u_lay RX12 TX12 22, u_lay RX12 TX12 23, u_lay RX12 TX12 24, u_lay RX12 TX12 25, u_lay RX12 TX12 26, u_lay RX12 TX12 27, u_lay RX12 TX12 28, u_lay RX12 TX12 29, u_lay RX12 TX12 30, u_lay RX12 TX12 31, u_lay RX12 TX12 32, u_lay RX12 TX12 33, u_lay RX12 TX12 34, u_lay RX12 TX12 35, u_lay RX12 TX12 36, u_lay RX12 TX12 37, u_lay RX12 TX12 38, u_lay RX12 TX12 39, u_lay RX12 TX12 40, u_lay RX12 TX12 41, u_lay RX12 TX12 42, u_lay RX12 TX12 43, u_lay RX12 TX12 44, u_lay RX12 TX12 45, u_lay RX12 TX12 46, u_lay RX12 TX12 47, u_lay RX12 TX12 48, u_lay RX12 TX12 49, u_lay RX12 TX12 50, u_lay RX12 TX12 51, u_lay RX12 TX12 52, u_lay RX12 TX12 53, u_lay RX12 TX12 54, u_lay RX12 TX12 55, u_lay RX12 TX12 56, u_lay RX12 TX12 57, u_lay RX12 TX12 58, u_lay RX12 TX12 59, u_lay RX12 TX12 60, u_lay RX12 TX12 61, u_lay RX12 TX12 62, u_lay RX12 TX12 63, u_lay RX12 TX12 64, u_lay RX12 TX12 65, u_lay RX12 TX12 66, u_lay RX12 TX12 67, u_lay RX12 TX12 68, u_lay RX12 TX12 69, u_lay RX12 TX12 70, u_lay RX12 TX12 71, u_lay RX12 TX12 72, u_lay RX12 TX12 73, u_lay RX12 TX12 74, u_lay RX12 TX12 75, u_lay RX12 TX12 76, u_lay RX12 TX12 77, u_lay RX12 TX12 78, u_lay RX12 TX12 79, u_lay RX12 TX12 80, u_lay RX12 TX12 81, u_lay RX12 TX12 82, u_lay RX12 TX12 83, u_lay RX12 TX12 84, u_lay RX12 TX12 85, u_lay RX12 TX12 86, u_lay RX12 TX12 87, u_lay RX12 TX12 88], w ∈ lw_tbl
  exact List.forall_mem_cons.mpr ⟨y_12_0, List.forall_mem_cons.mpr ⟨y_12_1, List.forall_mem_cons.mpr ⟨y_12_2, List.forall_mem_cons.mpr ⟨y_12_3, List.forall_mem_cons.mpr ⟨y_12_4, List.forall_mem_cons.mpr ⟨y_12_5, List.forall_mem_cons.mpr ⟨y_12_6, List.forall_mem_cons.mpr ⟨y_12_7, List.forall_mem_cons.mpr ⟨y_12_8, List.forall_mem_cons.mpr ⟨y_12_9, List.forall_mem_cons.mpr ⟨y_12_10, List.forall_mem_cons.mpr ⟨y_12_11, List.forall_mem_cons.mpr ⟨y_12_12, List.forall_mem_cons.mpr ⟨y_12_13, List.forall_mem_cons.mpr ⟨y_12_14, List.forall_mem_cons.mpr ⟨y_12_15, List.forall_mem_cons.mpr ⟨y_12_16, List.forall_mem_cons.mpr ⟨y_12_17, List.forall_mem_cons.mpr ⟨y_12_18, List.forall_mem_cons.mpr ⟨y_12_19, List.forall_mem_cons.mpr ⟨y_12_20, List.forall_mem_cons.mpr ⟨y_12_21, List.forall_mem_cons.mpr ⟨y_12_22, List.forall_mem_cons.mpr ⟨y_12_23, List.forall_mem_cons.mpr ⟨y_12_24, List.forall_mem_cons.mpr ⟨y_12_25, List.forall_mem_cons.mpr ⟨y_12_26, List.forall_mem_cons.mpr ⟨y_12_27, List.forall_mem_cons.mpr ⟨y_12_28, List.forall_mem_cons.mpr ⟨y_12_29, List.forall_mem_cons.mpr ⟨y_12_30, List.forall_mem_cons.mpr ⟨y_12_31, List.forall_mem_cons.mpr ⟨y_12_32, List.forall_mem_cons.mpr ⟨y_12_33, List.forall_mem_cons.mpr ⟨y_12_34, List.forall_mem_cons.mpr ⟨y_12_35, List.forall_mem_cons.mpr ⟨y_12_36, List.forall_mem_cons.mpr ⟨y_12_37, List.forall_mem_cons.mpr ⟨y_12_38, List.forall_mem_cons.mpr ⟨y_12_39, List.forall_mem_cons.mpr ⟨y_12_40, List.forall_mem_cons.mpr ⟨y_12_41, List.forall_mem_cons.mpr ⟨y_12_42, List.forall_mem_cons.mpr ⟨y_12_43, List.forall_mem_cons.mpr ⟨y_12_44, List.forall_mem_cons.mpr ⟨y_12_45, List.forall_mem_cons.mpr ⟨y_12_46, List.forall_mem_cons.mpr ⟨y_12_47, List.forall_mem_cons.mpr ⟨y_12_48, List.forall_mem_cons.mpr ⟨y_12_49, List.forall_mem_cons.mpr ⟨y_12_50, List.forall_mem_cons.mpr ⟨y_12_51, List.forall_mem_cons.mpr ⟨y_12_52, List.forall_mem_cons.mpr ⟨y_12_53, List.forall_mem_cons.mpr ⟨y_12_54, List.forall_mem_cons.mpr ⟨y_12_55, List.forall_mem_cons.mpr ⟨y_12_56, List.forall_mem_cons.mpr ⟨y_12_57, List.forall_mem_cons.mpr ⟨y_12_58, List.forall_mem_cons.mpr ⟨y_12_59, List.forall_mem_cons.mpr ⟨y_12_60, List.forall_mem_cons.mpr ⟨y_12_61, List.forall_mem_cons.mpr ⟨y_12_62, List.forall_mem_cons.mpr ⟨y_12_63, List.forall_mem_cons.mpr ⟨y_12_64, List.forall_mem_cons.mpr ⟨y_12_65, List.forall_mem_cons.mpr ⟨y_12_66, List.forall_mem_cons.mpr ⟨y_12_67, List.forall_mem_cons.mpr ⟨y_12_68, List.forall_mem_cons.mpr ⟨y_12_69, List.forall_mem_cons.mpr ⟨y_12_70, List.forall_mem_cons.mpr ⟨y_12_71, List.forall_mem_cons.mpr ⟨y_12_72, List.forall_mem_cons.mpr ⟨y_12_73, List.forall_mem_cons.mpr ⟨y_12_74, List.forall_mem_cons.mpr ⟨y_12_75, List.forall_mem_cons.mpr ⟨y_12_76, List.forall_mem_cons.mpr ⟨y_12_77, List.forall_mem_cons.mpr ⟨y_12_78, List.forall_mem_cons.mpr ⟨y_12_79, List.forall_mem_cons.mpr ⟨y_12_80, List.forall_mem_cons.mpr ⟨y_12_81, List.forall_mem_cons.mpr ⟨y_12_82, List.forall_mem_cons.mpr ⟨y_12_83, List.forall_mem_cons.mpr ⟨y_12_84, List.forall_mem_cons.mpr ⟨y_12_85, List.forall_mem_cons.mpr ⟨y_12_86, List.forall_mem_cons.mpr ⟨y_12_87, List.forall_mem_cons.mpr ⟨y_12_88, fun _ h => absurd h List.not_mem_nil⟩⟩⟩⟩⟩⟩⟩⟩⟩⟩⟩⟩⟩⟩⟩⟩⟩⟩⟩⟩⟩⟩⟩⟩⟩⟩⟩⟩⟩⟩⟩⟩⟩⟩⟩⟩⟩⟩⟩⟩⟩⟩⟩⟩⟩⟩⟩⟩⟩⟩⟩⟩⟩⟩⟩⟩⟩⟩⟩⟩⟩⟩⟩⟩⟩⟩⟩⟩⟩⟩⟩⟩⟩⟩⟩⟩⟩⟩⟩⟩⟩⟩⟩⟩⟩⟩⟩⟩⟩
theorem z_12 : Cond.instantiable RX12 89 ∈ lw_tbl := List.mem_of_getElem? (i := 1178) (by decide +kernel)
theorem x_12 : Cond.initialized RX12 ∈ lw_tbl := List.mem_of_getElem? (i := 120) (by decide +kernel)
theorem t_a_byte : Cond.arrayClass .byte ∈ lw_tbl := List.mem_of_getElem? (i := 148) (by decide +kernel)
theorem t_a_int : Cond.arrayClass .int ∈ lw_tbl := List.mem_of_getElem? (i := 177) (by decide +kernel)
theorem t_a_long : Cond.arrayClass .long ∈ lw_tbl := List.mem_of_getElem? (i := 208) (by decide +kernel)
theorem t_a_boolean : Cond.arrayClass .boolean ∈ lw_tbl := List.mem_of_getElem? (i := 315) (by decide +kernel)
theorem t_a_char : Cond.arrayClass .char ∈ lw_tbl := List.mem_of_getElem? (i := 1452) (by decide +kernel)
theorem t_over : Cond.arrayOver (.object "SquadronFlags$Book") ∈ lw_tbl := List.mem_of_getElem? (i := 261) (by decide +kernel)
theorem t_over2 : Cond.arrayOver (.array .int) ∈ lw_tbl := List.mem_of_getElem? (i := 401) (by decide +kernel)
theorem t_nclone : Cond.native ⟨"java/lang/Object", "clone", "()Ljava/lang/Object;"⟩ ∈ lw_tbl := List.mem_of_getElem? (i := 776) (by decide +kernel)
theorem t_ncopy : Cond.native arraycopyName ∈ lw_tbl := List.mem_of_getElem? (i := 784) (by decide +kernel)
theorem t_scopy : Cond.static arraycopyName ∈ lw_tbl := List.mem_of_getElem? (i := 783) (by decide +kernel)
theorem t_isys : Cond.initialized "java/lang/System" ∈ lw_tbl := List.mem_of_getElem? (i := 123) (by decide +kernel)
theorem t_same : Cond.sameMethod "[I" "java/lang/Object" "clone" "()Ljava/lang/Object;" ∈ lw_tbl := List.mem_of_getElem? (i := 775) (by decide +kernel)
theorem t_iclone : Cond.instanceMethod ⟨"java/lang/Object", "clone", "()Ljava/lang/Object;"⟩ ∈ lw_tbl := List.mem_of_getElem? (i := 777) (by decide +kernel)
theorem t_cast : Cond.castable "[I" "java/lang/Cloneable" ∈ lw_tbl := List.mem_of_getElem? (i := 779) (by decide +kernel)
theorem t_obj : Cond.code Lib.objectInit ⟨#[0xb1]⟩ 1 none ∈ lw_tbl := List.mem_of_getElem? (i := 132) (by decide +kernel)
theorem t_obji : Cond.instanceMethod Lib.objectInit ∈ lw_tbl := List.mem_of_getElem? (i := 131) (by decide +kernel)
theorem t_smi : Cond.static Lib.Math.min.name ∈ lw_tbl := List.mem_of_getElem? (i := 680) (by decide +kernel)
theorem t_cmi : Cond.code Lib.Math.min.name Lib.Math.min.code 2 (some .int) ∈ lw_tbl := List.mem_of_getElem? (i := 681) (by decide +kernel)
theorem t_sxl : Cond.static Lib.MathLoose.max_long.x ∈ lw_tbl := List.mem_of_getElem? (i := 891) (by decide +kernel)
theorem t_cxl : Cond.code Lib.MathLoose.max_long.x Lib.MathLoose.max_long.code 4 (some .long) ∈ lw_tbl := List.mem_of_getElem? (i := 892) (by decide +kernel)
theorem t_sml : Cond.static Lib.MathLoose.min_long.x ∈ lw_tbl := List.mem_of_getElem? (i := 894) (by decide +kernel)
theorem t_cml : Cond.code Lib.MathLoose.min_long.x Lib.MathLoose.min_long.code 4 (some .long) ∈ lw_tbl := List.mem_of_getElem? (i := 895) (by decide +kernel)
theorem t_imath : Cond.initialized "java/lang/Math" ∈ lw_tbl := List.mem_of_getElem? (i := 121) (by decide +kernel)
theorem t_sel : Cond.selects "[I" ⟨"[I", "clone", "()Ljava/lang/Object;"⟩ ⟨"java/lang/Object", "clone", "()Ljava/lang/Object;"⟩ ∈ lw_tbl := List.mem_of_getElem? (i := 778) (by decide +kernel)
