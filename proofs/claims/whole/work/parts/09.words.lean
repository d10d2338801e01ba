/-! the words of every method, link and field (by wip/whole/gen/tabs.py) -/
theorem w_X0_init : chkW 0 = true := by decide +kernel
theorem w_X0_addBook : chkW 1 = true := by decide +kernel
theorem w_X0_addFlown : chkW 2 = true := by decide +kernel
theorem w_X0_addVoid : chkW 3 = true := by decide +kernel
theorem w_X0_canBeVoid : chkW 4 = true := by decide +kernel
theorem w_X0_knownAt : chkW 5 = true := by decide +kernel
theorem w_X0_isKnown : chkW 6 = true := by decide +kernel
theorem w_X0_isFlownKnown : chkW 7 = true := by decide +kernel
theorem w_X0_countFlown : chkW 8 = true := by decide +kernel
theorem w_X0_bookAt : chkW 9 = true := by decide +kernel
theorem w_X1_init : chkW 10 = true := by decide +kernel
theorem w_X1_idOf : chkW 11 = true := by decide +kernel
theorem w_X1_testStart : chkW 12 = true := by decide +kernel
theorem w_X2_init : chkW 13 = true := by decide +kernel
theorem w_X2_makeBook : chkW 14 = true := by decide +kernel
theorem w_X2_statement : chkW 15 = true := by decide +kernel
theorem w_X2_takeName : chkW 16 = true := by decide +kernel
theorem w_X2_takeCode : chkW 17 = true := by decide +kernel
theorem w_X2_test : chkW 18 = true := by decide +kernel
theorem w_X2_both : chkW 19 = true := by decide +kernel
theorem w_X2_fact : chkW 20 = true := by decide +kernel
theorem w_X2_comparison : chkW 21 = true := by decide +kernel
theorem w_X2_sum : chkW 22 = true := by decide +kernel
theorem w_X2_part : chkW 23 = true := by decide +kernel
theorem w_X2_figureNamed : chkW 24 = true := by decide +kernel
theorem w_X2_isOwnWord : chkW 25 = true := by decide +kernel
theorem w_X2_emit : chkW 26 = true := by decide +kernel
theorem w_X2_isWord : chkW 27 = true := by decide +kernel
theorem w_X2_isSign : chkW 28 = true := by decide +kernel
theorem w_X2_takeWord : chkW 29 = true := by decide +kernel
theorem w_X2_takeSign : chkW 30 = true := by decide +kernel
theorem w_X2_blame : chkW 31 = true := by decide +kernel
theorem w_X2_advance : chkW 32 = true := by decide +kernel
theorem w_X3_init : chkW 33 = true := by decide +kernel
theorem w_X3_set : chkW 34 = true := by decide +kernel
theorem w_X3_testHolds : chkW 35 = true := by decide +kernel
theorem w_X3_figure : chkW 36 = true := by decide +kernel
theorem w_X3_joined : chkW 37 = true := by decide +kernel
theorem w_X3_comparing : chkW 38 = true := by decide +kernel
theorem w_X3_joining : chkW 39 = true := by decide +kernel
theorem w_X4_init : chkW 40 = true := by decide +kernel
theorem w_X4_understands : chkW 41 = true := by decide +kernel
theorem w_X4_plainRow : chkW 42 = true := by decide +kernel
theorem w_X4_sameNames : chkW 43 = true := by decide +kernel
theorem w_X4_nameOf : chkW 44 = true := by decide +kernel
theorem w_X4_findChange : chkW 45 = true := by decide +kernel
theorem w_X4_addCuts : chkW 46 = true := by decide +kernel
theorem w_X4_addCut : chkW 47 = true := by decide +kernel
theorem w_X4_search : chkW 48 = true := by decide +kernel
theorem w_X4_canDo : chkW 49 = true := by decide +kernel
theorem w_X5_init : chkW 50 = true := by decide +kernel
theorem w_X5_prepare : chkW 51 = true := by decide +kernel
theorem w_X5_inForce : chkW 52 = true := by decide +kernel
theorem w_X5_begin : chkW 53 = true := by decide +kernel
theorem w_X5_gather : chkW 54 = true := by decide +kernel
theorem w_X5_gatherSeen : chkW 55 = true := by decide +kernel
theorem w_X5_plainRow : chkW 56 = true := by decide +kernel
theorem w_X5_sensesOf : chkW 57 = true := by decide +kernel
theorem w_X5_split : chkW 58 = true := by decide +kernel
theorem w_X5_markEnds : chkW 59 = true := by decide +kernel
theorem w_X5_spell : chkW 60 = true := by decide +kernel
theorem w_X5_note : chkW 61 = true := by decide +kernel
theorem w_X5_choose : chkW 62 = true := by decide +kernel
theorem w_X5_picked : chkW 63 = true := by decide +kernel
theorem w_X6_init : chkW 64 = true := by decide +kernel
theorem w_X6_start : chkW 65 = true := by decide +kernel
theorem w_X6_pass : chkW 66 = true := by decide +kernel
theorem w_X6_isBusy : chkW 67 = true := by decide +kernel
theorem w_X6_fly : chkW 68 = true := by decide +kernel
theorem w_X6_bendOn : chkW 69 = true := by decide +kernel
theorem w_X6_lose : chkW 70 = true := by decide +kernel
theorem w_X6_hear : chkW 71 = true := by decide +kernel
theorem w_X6_relayOn : chkW 72 = true := by decide +kernel
theorem w_X7_init : chkW 73 = true := by decide +kernel
theorem w_X7_clear : chkW 74 = true := by decide +kernel
theorem w_X7_add : chkW 75 = true := by decide +kernel
theorem w_X7_plan : chkW 76 = true := by decide +kernel
theorem w_X7_copyHoists : chkW 77 = true := by decide +kernel
theorem w_X7_extend : chkW 78 = true := by decide +kernel
theorem w_X7_offer : chkW 79 = true := by decide +kernel
theorem w_X7_isBetter : chkW 80 = true := by decide +kernel
theorem w_X8_init : chkW 81 = true := by decide +kernel
theorem w_X8_makeAlike : chkW 82 = true := by decide +kernel
theorem w_X8_countAlike : chkW 83 = true := by decide +kernel
theorem w_X8_alike : chkW 84 = true := by decide +kernel
theorem w_X8_tellHaze : chkW 85 = true := by decide +kernel
theorem w_X8_hazeAt : chkW 86 = true := by decide +kernel
theorem w_X8_dimAt : chkW 87 = true := by decide +kernel
theorem w_X8_hoistFor : chkW 88 = true := by decide +kernel
theorem w_X8_repeaterFor : chkW 89 = true := by decide +kernel
theorem w_X9_init : chkW 90 = true := by decide +kernel
theorem w_X9_put : chkW 91 = true := by decide +kernel
theorem w_X9_at : chkW 92 = true := by decide +kernel
theorem w_X9_letterAt : chkW 93 = true := by decide +kernel
theorem w_X9_digitAt : chkW 94 = true := by decide +kernel
theorem w_X9_wordEnd : chkW 95 = true := by decide +kernel
theorem w_X9_numberEnd : chkW 96 = true := by decide +kernel
theorem w_X9_word : chkW 97 = true := by decide +kernel
theorem w_X9_number : chkW 98 = true := by decide +kernel
theorem w_X10_init : chkW 99 = true := by decide +kernel
theorem w_X10_cut : chkW 100 = true := by decide +kernel
theorem w_X10_cutOne : chkW 101 = true := by decide +kernel
theorem w_X10_add : chkW 102 = true := by decide +kernel
theorem w_X10_isWordy : chkW 103 = true := by decide +kernel
theorem w_X11_init : chkW 104 = true := by decide +kernel
theorem w_X11_feed : chkW 105 = true := by decide +kernel
theorem w_X11_end : chkW 106 = true := by decide +kernel
theorem w_X11_locker : chkW 107 = true := by decide +kernel
theorem w_X11_like : chkW 108 = true := by decide +kernel
theorem w_X11_haze : chkW 109 = true := by decide +kernel
theorem w_X11_far : chkW 110 = true := by decide +kernel
theorem w_X11_dim : chkW 111 = true := by decide +kernel
theorem w_X11_hoist : chkW 112 = true := by decide +kernel
theorem w_X11_tells : chkW 113 = true := by decide +kernel
theorem w_X11_book : chkW 114 = true := by decide +kernel
theorem w_X11_fault : chkW 115 = true := by decide +kernel
theorem w_X11_senses : chkW 116 = true := by decide +kernel
theorem w_X11_letter : chkW 117 = true := by decide +kernel
theorem w_X11_holds : chkW 118 = true := by decide +kernel
theorem w_X11_read : chkW 119 = true := by decide +kernel
theorem w_X11_message : chkW 120 = true := by decide +kernel
theorem w_X11_send : chkW 121 = true := by decide +kernel
theorem w_X11_sent : chkW 122 = true := by decide +kernel
theorem w_X11_may : chkW 123 = true := by decide +kernel
theorem w_X11_line : chkW 124 = true := by decide +kernel
theorem w_X11_along : chkW 125 = true := by decide +kernel
theorem w_X11_heard : chkW 126 = true := by decide +kernel
theorem w_X11_flown : chkW 127 = true := by decide +kernel
theorem w_X11_annul : chkW 128 = true := by decide +kernel
theorem w_X11_as : chkW 129 = true := by decide +kernel
theorem w_X11_taken : chkW 130 = true := by decide +kernel
theorem w_X11_change : chkW 131 = true := by decide +kernel
theorem w_X11_changed : chkW 132 = true := by decide +kernel
theorem w_X11_all : chkW 133 = true := by decide +kernel
theorem w_X11_knownBook : chkW 134 = true := by decide +kernel
theorem w_X11_scanNames : chkW 135 = true := by decide +kernel
theorem w_X11_addressMessage : chkW 136 = true := by decide +kernel
theorem w_X11_isShip : chkW 137 = true := by decide +kernel
theorem w_X11_hasNext : chkW 138 = true := by decide +kernel
theorem w_X11_isMinute : chkW 139 = true := by decide +kernel
theorem w_X11_isFlag : chkW 140 = true := by decide +kernel
theorem w_X11_isBlank : chkW 141 = true := by decide +kernel
theorem w_X11_wordLength : chkW 142 = true := by decide +kernel
theorem w_X11_rowLength : chkW 143 = true := by decide +kernel
theorem w_X11_signAt : chkW 144 = true := by decide +kernel
theorem w_X11_isLetters : chkW 145 = true := by decide +kernel
theorem w_X11_toldBy : chkW 146 = true := by decide +kernel
theorem w_X11_repeated : chkW 147 = true := by decide +kernel
theorem w_X12_init : chkW 148 = true := by decide +kernel
theorem w_X12_isIn : chkW 149 = true := by decide +kernel
theorem w_X12_feed : chkW 150 = true := by decide +kernel
theorem w_X12_end : chkW 151 = true := by decide +kernel
theorem w_X12_fail : chkW 152 = true := by decide +kernel
theorem w_X12_isLetter : chkW 153 = true := by decide +kernel
theorem w_X12_isDigit : chkW 154 = true := by decide +kernel
theorem w_X12_look : chkW 155 = true := by decide +kernel
theorem w_X12_isHere : chkW 156 = true := by decide +kernel
theorem w_X12_takes : chkW 157 = true := by decide +kernel
theorem w_X12_asks : chkW 158 = true := by decide +kernel
theorem w_X12_takesSign : chkW 159 = true := by decide +kernel
theorem w_X12_asksSign : chkW 160 = true := by decide +kernel
theorem w_X12_number : chkW 161 = true := by decide +kernel
theorem w_X12_isOwnHere : chkW 162 = true := by decide +kernel
theorem w_X12_letters : chkW 163 = true := by decide +kernel
theorem w_X12_name : chkW 164 = true := by decide +kernel
theorem w_X12_code : chkW 165 = true := by decide +kernel
theorem w_X12_opens : chkW 166 = true := by decide +kernel
theorem w_X12_isOn : chkW 167 = true := by decide +kernel
theorem w_X12_drops : chkW 168 = true := by decide +kernel
theorem w_X12_isMark : chkW 169 = true := by decide +kernel
theorem w_X12_mark : chkW 170 = true := by decide +kernel
theorem w_X12_dropsToMark : chkW 171 = true := by decide +kernel
theorem w_X12_part : chkW 172 = true := by decide +kernel
theorem w_X12_goesOn : chkW 173 = true := by decide +kernel
theorem w_X12_sums : chkW 174 = true := by decide +kernel
theorem w_X12_fact : chkW 175 = true := by decide +kernel
theorem w_X12_hasSquare : chkW 176 = true := by decide +kernel
theorem w_X12_dropsNots : chkW 177 = true := by decide +kernel
theorem w_X12_test : chkW 178 = true := by decide +kernel
theorem w_X12_goesOnTest : chkW 179 = true := by decide +kernel
theorem w_X12_statement : chkW 180 = true := by decide +kernel
theorem w_X12_book : chkW 181 = true := by decide +kernel
theorem w_X12_fault : chkW 182 = true := by decide +kernel
theorem w_X12_isShip : chkW 183 = true := by decide +kernel
theorem w_X12_isMinute : chkW 184 = true := by decide +kernel
theorem w_X12_isFlag : chkW 185 = true := by decide +kernel
theorem w_X12_locker : chkW 186 = true := by decide +kernel
theorem w_X12_likes : chkW 187 = true := by decide +kernel
theorem w_X12_like : chkW 188 = true := by decide +kernel
theorem w_X12_haze : chkW 189 = true := by decide +kernel
theorem w_X12_far : chkW 190 = true := by decide +kernel
theorem w_X12_hazeAt : chkW 191 = true := by decide +kernel
theorem w_X12_dim : chkW 192 = true := by decide +kernel
theorem w_X12_splits : chkW 193 = true := by decide +kernel
theorem w_X12_isHoist : chkW 194 = true := by decide +kernel
theorem w_X12_rowOf : chkW 195 = true := by decide +kernel
theorem w_X12_tells : chkW 196 = true := by decide +kernel
theorem w_X12_bends : chkW 197 = true := by decide +kernel
theorem w_X12_hoist : chkW 198 = true := by decide +kernel
theorem w_X12_act : chkW 199 = true := by decide +kernel
theorem w_X12_now : chkW 200 = true := by decide +kernel
theorem w_X12_isKnown : chkW 201 = true := by decide +kernel
theorem w_X12_bookAt : chkW 202 = true := by decide +kernel
theorem w_X12_flown : chkW 203 = true := by decide +kernel
theorem w_X12_annul : chkW 204 = true := by decide +kernel
theorem w_X12_as : chkW 205 = true := by decide +kernel
theorem w_X12_senses : chkW 206 = true := by decide +kernel
theorem w_X12_isSense : chkW 207 = true := by decide +kernel
theorem w_X12_letter : chkW 208 = true := by decide +kernel
theorem w_X12_puts : chkW 209 = true := by decide +kernel
theorem w_X12_clip : chkW 210 = true := by decide +kernel
theorem w_X12_joins : chkW 211 = true := by decide +kernel
theorem w_X12_holdsTest : chkW 212 = true := by decide +kernel
theorem w_X12_holds : chkW 213 = true := by decide +kernel
theorem w_X12_opensBook : chkW 214 = true := by decide +kernel
theorem w_X12_sensesOf : chkW 215 = true := by decide +kernel
theorem w_X12_cuts : chkW 216 = true := by decide +kernel
theorem w_X12_waysOf : chkW 217 = true := by decide +kernel
theorem w_X12_isAt : chkW 218 = true := by decide +kernel
theorem w_X12_adds : chkW 219 = true := by decide +kernel
theorem w_X12_reads : chkW 220 = true := by decide +kernel
theorem w_X12_read : chkW 221 = true := by decide +kernel
theorem w_X12_isPlain : chkW 222 = true := by decide +kernel
theorem w_X12_mayBe : chkW 223 = true := by decide +kernel
theorem w_X12_sees : chkW 224 = true := by decide +kernel
theorem w_X12_may : chkW 225 = true := by decide +kernel
theorem w_X12_isName : chkW 226 = true := by decide +kernel
theorem w_X12_message : chkW 227 = true := by decide +kernel
theorem w_X12_tries : chkW 228 = true := by decide +kernel
theorem w_X12_codes : chkW 229 = true := by decide +kernel
theorem w_X12_behind : chkW 230 = true := by decide +kernel
theorem w_X12_sends : chkW 231 = true := by decide +kernel
theorem w_X12_sendsOn : chkW 232 = true := by decide +kernel
theorem w_X12_takesMessage : chkW 233 = true := by decide +kernel
theorem w_X12_send : chkW 234 = true := by decide +kernel
theorem w_X12_sent : chkW 235 = true := by decide +kernel
theorem w_X12_queues : chkW 236 = true := by decide +kernel
theorem w_X12_line : chkW 237 = true := by decide +kernel
theorem w_X12_signsOf : chkW 238 = true := by decide +kernel
theorem w_X12_passes : chkW 239 = true := by decide +kernel
theorem w_X12_hears : chkW 240 = true := by decide +kernel
theorem w_X12_along : chkW 241 = true := by decide +kernel
theorem w_X12_heard : chkW 242 = true := by decide +kernel
theorem w_X12_taken1 : chkW 243 = true := by decide +kernel
theorem w_X12_isFlown : chkW 244 = true := by decide +kernel
theorem w_X12_taken : chkW 245 = true := by decide +kernel
theorem w_X12_hits : chkW 246 = true := by decide +kernel
theorem w_X12_gathers : chkW 247 = true := by decide +kernel
theorem w_X12_bit : chkW 248 = true := by decide +kernel
theorem w_X12_change : chkW 249 = true := by decide +kernel
theorem w_X12_changed : chkW 250 = true := by decide +kernel
theorem w_X12_all : chkW 251 = true := by decide +kernel
theorem w_J13_bitCount_95d88 : chkW 252 = true := by decide +kernel
theorem w_J9_max_f86c9 : chkW 253 = true := by decide +kernel
theorem w_J9_min_7cf53 : chkW 254 = true := by decide +kernel
theorem w_J9_min_f86c9 : chkW 255 = true := by decide +kernel
theorem w_J7_fill_d0a16 : chkW 256 = true := by decide +kernel
theorem w_J7_fill_53178 : chkW 257 = true := by decide +kernel
theorem w_J7_copyOf_59c91 : chkW 258 = true := by decide +kernel
theorem chk_words_l : ∀ m ∈ List.range 259, chkW m = true := by
  rw [show List.range 259 = [0, 1, 2, 3, 4, 5, 6, 7, 8, 9, 10, 11, 12, 13, 14, 15, 16, 17, 18, 19, 20, 21, 22, 23, 24, 25, 26, 27, 28, 29, 30, 31, 32, 33, 34, 35, 36, 37, 38, 39, 40, 41, 42, 43, 44, 45, 46, 47, 48, 49, 50, 51, 52, 53, 54, 55, 56, 57, 58, 59, 60, 61, 62, 63, 64, 65, 66, 67, 68, 69, 70, 71, 72, 73, 74, 75, 76, 77, 78, 79, 80, 81, 82, 83, 84, 85, 86, 87, 88, 89, 90, 91, 92, 93, 94, 95, 96, 97, 98, 99, 100, 101, 102, 103, 104, 105, 106, 107, 108, 109, 110, 111, 112, 113, 114, 115, 116, 117, 118, 119, 120, 121, 122, 123, 124, 125, 126, 127, 128, 129, 130, 131, 132, 133, 134, 135, 136, 137, 138, 139, 140, 141, 142, 143, 144, 145, 146, 147, 148, 149, 150, 151, 152, 153, 154, 155, 156, 157, 158, 159, 160, 161, 162, 163, 164, 165, 166, 167, 168, 169, 170, 171, 172, 173, 174, 175, 176, 177, 178, 179, 180, 181, 182, 183, 184, 185, 186, 187, 188, 189, 190, 191, 192, 193, 194, 195, 196, 197, 198, 199, 200, 201, 202, 203, 204, 205, 206, 207, 208, 209, 210, 211, 212, 213, 214, 215, 216, 217, 218, 219, 220, 221, 222, 223, 224, 225, 226, 227, 228, 229, 230, 231, 232, 233, 234, 235, 236, 237, 238, 239, 240, 241, 242, 243, 244, 245, 246, 247, 248, 249, 250, 251, 252, 253, 254, 255, 256, 257, 258] by decide +kernel]
  exact List.forall_mem_cons.mpr ⟨w_X0_init, List.forall_mem_cons.mpr ⟨w_X0_addBook, List.forall_mem_cons.mpr ⟨w_X0_addFlown, List.forall_mem_cons.mpr ⟨w_X0_addVoid, List.forall_mem_cons.mpr ⟨w_X0_canBeVoid, List.forall_mem_cons.mpr ⟨w_X0_knownAt, List.forall_mem_cons.mpr ⟨w_X0_isKnown, List.forall_mem_cons.mpr ⟨w_X0_isFlownKnown, List.forall_mem_cons.mpr ⟨w_X0_countFlown, List.forall_mem_cons.mpr ⟨w_X0_bookAt, List.forall_mem_cons.mpr ⟨w_X1_init, List.forall_mem_cons.mpr ⟨w_X1_idOf, List.forall_mem_cons.mpr ⟨w_X1_testStart, List.forall_mem_cons.mpr ⟨w_X2_init, List.forall_mem_cons.mpr ⟨w_X2_makeBook, List.forall_mem_cons.mpr ⟨w_X2_statement, List.forall_mem_cons.mpr ⟨w_X2_takeName, List.forall_mem_cons.mpr ⟨w_X2_takeCode, List.forall_mem_cons.mpr ⟨w_X2_test, List.forall_mem_cons.mpr ⟨w_X2_both, List.forall_mem_cons.mpr ⟨w_X2_fact, List.forall_mem_cons.mpr ⟨w_X2_comparison, List.forall_mem_cons.mpr ⟨w_X2_sum, List.forall_mem_cons.mpr ⟨w_X2_part, List.forall_mem_cons.mpr ⟨w_X2_figureNamed, List.forall_mem_cons.mpr ⟨w_X2_isOwnWord, List.forall_mem_cons.mpr ⟨w_X2_emit, List.forall_mem_cons.mpr ⟨w_X2_isWord, List.forall_mem_cons.mpr ⟨w_X2_isSign, List.forall_mem_cons.mpr ⟨w_X2_takeWord, List.forall_mem_cons.mpr ⟨w_X2_takeSign, List.forall_mem_cons.mpr ⟨w_X2_blame, List.forall_mem_cons.mpr ⟨w_X2_advance, List.forall_mem_cons.mpr ⟨w_X3_init, List.forall_mem_cons.mpr ⟨w_X3_set, List.forall_mem_cons.mpr ⟨w_X3_testHolds, List.forall_mem_cons.mpr ⟨w_X3_figure, List.forall_mem_cons.mpr ⟨w_X3_joined, List.forall_mem_cons.mpr ⟨w_X3_comparing, List.forall_mem_cons.mpr ⟨w_X3_joining, List.forall_mem_cons.mpr ⟨w_X4_init, List.forall_mem_cons.mpr ⟨w_X4_understands, List.forall_mem_cons.mpr ⟨w_X4_plainRow, List.forall_mem_cons.mpr ⟨w_X4_sameNames, List.forall_mem_cons.mpr ⟨w_X4_nameOf, List.forall_mem_cons.mpr ⟨w_X4_findChange, List.forall_mem_cons.mpr ⟨w_X4_addCuts, List.forall_mem_cons.mpr ⟨w_X4_addCut, List.forall_mem_cons.mpr ⟨w_X4_search, List.forall_mem_cons.mpr ⟨w_X4_canDo, List.forall_mem_cons.mpr ⟨w_X5_init, List.forall_mem_cons.mpr ⟨w_X5_prepare, List.forall_mem_cons.mpr ⟨w_X5_inForce, List.forall_mem_cons.mpr ⟨w_X5_begin, List.forall_mem_cons.mpr ⟨w_X5_gather, List.forall_mem_cons.mpr ⟨w_X5_gatherSeen, List.forall_mem_cons.mpr ⟨w_X5_plainRow, List.forall_mem_cons.mpr ⟨w_X5_sensesOf, List.forall_mem_cons.mpr ⟨w_X5_split, List.forall_mem_cons.mpr ⟨w_X5_markEnds, List.forall_mem_cons.mpr ⟨w_X5_spell, List.forall_mem_cons.mpr ⟨w_X5_note, List.forall_mem_cons.mpr ⟨w_X5_choose, List.forall_mem_cons.mpr ⟨w_X5_picked, List.forall_mem_cons.mpr ⟨w_X6_init, List.forall_mem_cons.mpr ⟨w_X6_start, List.forall_mem_cons.mpr ⟨w_X6_pass, List.forall_mem_cons.mpr ⟨w_X6_isBusy, List.forall_mem_cons.mpr ⟨w_X6_fly, List.forall_mem_cons.mpr ⟨w_X6_bendOn, List.forall_mem_cons.mpr ⟨w_X6_lose, List.forall_mem_cons.mpr ⟨w_X6_hear, List.forall_mem_cons.mpr ⟨w_X6_relayOn, List.forall_mem_cons.mpr ⟨w_X7_init, List.forall_mem_cons.mpr ⟨w_X7_clear, List.forall_mem_cons.mpr ⟨w_X7_add, List.forall_mem_cons.mpr ⟨w_X7_plan, List.forall_mem_cons.mpr ⟨w_X7_copyHoists, List.forall_mem_cons.mpr ⟨w_X7_extend, List.forall_mem_cons.mpr ⟨w_X7_offer, List.forall_mem_cons.mpr ⟨w_X7_isBetter, List.forall_mem_cons.mpr ⟨w_X8_init, List.forall_mem_cons.mpr ⟨w_X8_makeAlike, List.forall_mem_cons.mpr ⟨w_X8_countAlike, List.forall_mem_cons.mpr ⟨w_X8_alike, List.forall_mem_cons.mpr ⟨w_X8_tellHaze, List.forall_mem_cons.mpr ⟨w_X8_hazeAt, List.forall_mem_cons.mpr ⟨w_X8_dimAt, List.forall_mem_cons.mpr ⟨w_X8_hoistFor, List.forall_mem_cons.mpr ⟨w_X8_repeaterFor, List.forall_mem_cons.mpr ⟨w_X9_init, List.forall_mem_cons.mpr ⟨w_X9_put, List.forall_mem_cons.mpr ⟨w_X9_at, List.forall_mem_cons.mpr ⟨w_X9_letterAt, List.forall_mem_cons.mpr ⟨w_X9_digitAt, List.forall_mem_cons.mpr ⟨w_X9_wordEnd, List.forall_mem_cons.mpr ⟨w_X9_numberEnd, List.forall_mem_cons.mpr ⟨w_X9_word, List.forall_mem_cons.mpr ⟨w_X9_number, List.forall_mem_cons.mpr ⟨w_X10_init, List.forall_mem_cons.mpr ⟨w_X10_cut, List.forall_mem_cons.mpr ⟨w_X10_cutOne, List.forall_mem_cons.mpr ⟨w_X10_add, List.forall_mem_cons.mpr ⟨w_X10_isWordy, List.forall_mem_cons.mpr ⟨w_X11_init, List.forall_mem_cons.mpr ⟨w_X11_feed, List.forall_mem_cons.mpr ⟨w_X11_end, List.forall_mem_cons.mpr ⟨w_X11_locker, List.forall_mem_cons.mpr ⟨w_X11_like, List.forall_mem_cons.mpr ⟨w_X11_haze, List.forall_mem_cons.mpr ⟨w_X11_far, List.forall_mem_cons.mpr ⟨w_X11_dim, List.forall_mem_cons.mpr ⟨w_X11_hoist, List.forall_mem_cons.mpr ⟨w_X11_tells, List.forall_mem_cons.mpr ⟨w_X11_book, List.forall_mem_cons.mpr ⟨w_X11_fault, List.forall_mem_cons.mpr ⟨w_X11_senses, List.forall_mem_cons.mpr ⟨w_X11_letter, List.forall_mem_cons.mpr ⟨w_X11_holds, List.forall_mem_cons.mpr ⟨w_X11_read, List.forall_mem_cons.mpr ⟨w_X11_message, List.forall_mem_cons.mpr ⟨w_X11_send, List.forall_mem_cons.mpr ⟨w_X11_sent, List.forall_mem_cons.mpr ⟨w_X11_may, List.forall_mem_cons.mpr ⟨w_X11_line, List.forall_mem_cons.mpr ⟨w_X11_along, List.forall_mem_cons.mpr ⟨w_X11_heard, List.forall_mem_cons.mpr ⟨w_X11_flown, List.forall_mem_cons.mpr ⟨w_X11_annul, List.forall_mem_cons.mpr ⟨w_X11_as, List.forall_mem_cons.mpr ⟨w_X11_taken, List.forall_mem_cons.mpr ⟨w_X11_change, List.forall_mem_cons.mpr ⟨w_X11_changed, List.forall_mem_cons.mpr ⟨w_X11_all, List.forall_mem_cons.mpr ⟨w_X11_knownBook, List.forall_mem_cons.mpr ⟨w_X11_scanNames, List.forall_mem_cons.mpr ⟨w_X11_addressMessage, List.forall_mem_cons.mpr ⟨w_X11_isShip, List.forall_mem_cons.mpr ⟨w_X11_hasNext, List.forall_mem_cons.mpr ⟨w_X11_isMinute, List.forall_mem_cons.mpr ⟨w_X11_isFlag, List.forall_mem_cons.mpr ⟨w_X11_isBlank, List.forall_mem_cons.mpr ⟨w_X11_wordLength, List.forall_mem_cons.mpr ⟨w_X11_rowLength, List.forall_mem_cons.mpr ⟨w_X11_signAt, List.forall_mem_cons.mpr ⟨w_X11_isLetters, List.forall_mem_cons.mpr ⟨w_X11_toldBy, List.forall_mem_cons.mpr ⟨w_X11_repeated, List.forall_mem_cons.mpr ⟨w_X12_init, List.forall_mem_cons.mpr ⟨w_X12_isIn, List.forall_mem_cons.mpr ⟨w_X12_feed, List.forall_mem_cons.mpr ⟨w_X12_end, List.forall_mem_cons.mpr ⟨w_X12_fail, List.forall_mem_cons.mpr ⟨w_X12_isLetter, List.forall_mem_cons.mpr ⟨w_X12_isDigit, List.forall_mem_cons.mpr ⟨w_X12_look, List.forall_mem_cons.mpr ⟨w_X12_isHere, List.forall_mem_cons.mpr ⟨w_X12_takes, List.forall_mem_cons.mpr ⟨w_X12_asks, List.forall_mem_cons.mpr ⟨w_X12_takesSign, List.forall_mem_cons.mpr ⟨w_X12_asksSign, List.forall_mem_cons.mpr ⟨w_X12_number, List.forall_mem_cons.mpr ⟨w_X12_isOwnHere, List.forall_mem_cons.mpr ⟨w_X12_letters, List.forall_mem_cons.mpr ⟨w_X12_name, List.forall_mem_cons.mpr ⟨w_X12_code, List.forall_mem_cons.mpr ⟨w_X12_opens, List.forall_mem_cons.mpr ⟨w_X12_isOn, List.forall_mem_cons.mpr ⟨w_X12_drops, List.forall_mem_cons.mpr ⟨w_X12_isMark, List.forall_mem_cons.mpr ⟨w_X12_mark, List.forall_mem_cons.mpr ⟨w_X12_dropsToMark, List.forall_mem_cons.mpr ⟨w_X12_part, List.forall_mem_cons.mpr ⟨w_X12_goesOn, List.forall_mem_cons.mpr ⟨w_X12_sums, List.forall_mem_cons.mpr ⟨w_X12_fact, List.forall_mem_cons.mpr ⟨w_X12_hasSquare, List.forall_mem_cons.mpr ⟨w_X12_dropsNots, List.forall_mem_cons.mpr ⟨w_X12_test, List.forall_mem_cons.mpr ⟨w_X12_goesOnTest, List.forall_mem_cons.mpr ⟨w_X12_statement, List.forall_mem_cons.mpr ⟨w_X12_book, List.forall_mem_cons.mpr ⟨w_X12_fault, List.forall_mem_cons.mpr ⟨w_X12_isShip, List.forall_mem_cons.mpr ⟨w_X12_isMinute, List.forall_mem_cons.mpr ⟨w_X12_isFlag, List.forall_mem_cons.mpr ⟨w_X12_locker, List.forall_mem_cons.mpr ⟨w_X12_likes, List.forall_mem_cons.mpr ⟨w_X12_like, List.forall_mem_cons.mpr ⟨w_X12_haze, List.forall_mem_cons.mpr ⟨w_X12_far, List.forall_mem_cons.mpr ⟨w_X12_hazeAt, List.forall_mem_cons.mpr ⟨w_X12_dim, List.forall_mem_cons.mpr ⟨w_X12_splits, List.forall_mem_cons.mpr ⟨w_X12_isHoist, List.forall_mem_cons.mpr ⟨w_X12_rowOf, List.forall_mem_cons.mpr ⟨w_X12_tells, List.forall_mem_cons.mpr ⟨w_X12_bends, List.forall_mem_cons.mpr ⟨w_X12_hoist, List.forall_mem_cons.mpr ⟨w_X12_act, List.forall_mem_cons.mpr ⟨w_X12_now, List.forall_mem_cons.mpr ⟨w_X12_isKnown, List.forall_mem_cons.mpr ⟨w_X12_bookAt, List.forall_mem_cons.mpr ⟨w_X12_flown, List.forall_mem_cons.mpr ⟨w_X12_annul, List.forall_mem_cons.mpr ⟨w_X12_as, List.forall_mem_cons.mpr ⟨w_X12_senses, List.forall_mem_cons.mpr ⟨w_X12_isSense, List.forall_mem_cons.mpr ⟨w_X12_letter, List.forall_mem_cons.mpr ⟨w_X12_puts, List.forall_mem_cons.mpr ⟨w_X12_clip, List.forall_mem_cons.mpr ⟨w_X12_joins, List.forall_mem_cons.mpr ⟨w_X12_holdsTest, List.forall_mem_cons.mpr ⟨w_X12_holds, List.forall_mem_cons.mpr ⟨w_X12_opensBook, List.forall_mem_cons.mpr ⟨w_X12_sensesOf, List.forall_mem_cons.mpr ⟨w_X12_cuts, List.forall_mem_cons.mpr ⟨w_X12_waysOf, List.forall_mem_cons.mpr ⟨w_X12_isAt, List.forall_mem_cons.mpr ⟨w_X12_adds, List.forall_mem_cons.mpr ⟨w_X12_reads, List.forall_mem_cons.mpr ⟨w_X12_read, List.forall_mem_cons.mpr ⟨w_X12_isPlain, List.forall_mem_cons.mpr ⟨w_X12_mayBe, List.forall_mem_cons.mpr ⟨w_X12_sees, List.forall_mem_cons.mpr ⟨w_X12_may, List.forall_mem_cons.mpr ⟨w_X12_isName, List.forall_mem_cons.mpr ⟨w_X12_message, List.forall_mem_cons.mpr ⟨w_X12_tries, List.forall_mem_cons.mpr ⟨w_X12_codes, List.forall_mem_cons.mpr ⟨w_X12_behind, List.forall_mem_cons.mpr ⟨w_X12_sends, List.forall_mem_cons.mpr ⟨w_X12_sendsOn, List.forall_mem_cons.mpr ⟨w_X12_takesMessage, List.forall_mem_cons.mpr ⟨w_X12_send, List.forall_mem_cons.mpr ⟨w_X12_sent, List.forall_mem_cons.mpr ⟨w_X12_queues, List.forall_mem_cons.mpr ⟨w_X12_line, List.forall_mem_cons.mpr ⟨w_X12_signsOf, List.forall_mem_cons.mpr ⟨w_X12_passes, List.forall_mem_cons.mpr ⟨w_X12_hears, List.forall_mem_cons.mpr ⟨w_X12_along, List.forall_mem_cons.mpr ⟨w_X12_heard, List.forall_mem_cons.mpr ⟨w_X12_taken1, List.forall_mem_cons.mpr ⟨w_X12_isFlown, List.forall_mem_cons.mpr ⟨w_X12_taken, List.forall_mem_cons.mpr ⟨w_X12_hits, List.forall_mem_cons.mpr ⟨w_X12_gathers, List.forall_mem_cons.mpr ⟨w_X12_bit, List.forall_mem_cons.mpr ⟨w_X12_change, List.forall_mem_cons.mpr ⟨w_X12_changed, List.forall_mem_cons.mpr ⟨w_X12_all, List.forall_mem_cons.mpr ⟨w_J13_bitCount_95d88, List.forall_mem_cons.mpr ⟨w_J9_max_f86c9, List.forall_mem_cons.mpr ⟨w_J9_min_7cf53, List.forall_mem_cons.mpr ⟨w_J9_min_f86c9, List.forall_mem_cons.mpr ⟨w_J7_fill_d0a16, List.forall_mem_cons.mpr ⟨w_J7_fill_53178, List.forall_mem_cons.mpr ⟨w_J7_copyOf_59c91, fun _ h => absurd h List.not_mem_nil⟩⟩⟩⟩⟩⟩⟩⟩⟩⟩⟩⟩⟩⟩⟩⟩⟩⟩⟩⟩⟩⟩⟩⟩⟩⟩⟩⟩⟩⟩⟩⟩⟩⟩⟩⟩⟩⟩⟩⟩⟩⟩⟩⟩⟩⟩⟩⟩⟩⟩⟩⟩⟩⟩⟩⟩⟩⟩⟩⟩⟩⟩⟩⟩⟩⟩⟩⟩⟩⟩⟩⟩⟩⟩⟩⟩⟩⟩⟩⟩⟩⟩⟩⟩⟩⟩⟩⟩⟩⟩⟩⟩⟩⟩⟩⟩⟩⟩⟩⟩⟩⟩⟩⟩⟩⟩⟩⟩⟩⟩⟩⟩⟩⟩⟩⟩⟩⟩⟩⟩⟩⟩⟩⟩⟩⟩⟩⟩⟩⟩⟩⟩⟩⟩⟩⟩⟩⟩⟩⟩⟩⟩⟩⟩⟩⟩⟩⟩⟩⟩⟩⟩⟩⟩⟩⟩⟩⟩⟩⟩⟩⟩⟩⟩⟩⟩⟩⟩⟩⟩⟩⟩⟩⟩⟩⟩⟩⟩⟩⟩⟩⟩⟩⟩⟩⟩⟩⟩⟩⟩⟩⟩⟩⟩⟩⟩⟩⟩⟩⟩⟩⟩⟩⟩⟩⟩⟩⟩⟩⟩⟩⟩⟩⟩⟩⟩⟩⟩⟩⟩⟩⟩⟩⟩⟩⟩⟩⟩⟩⟩⟩⟩⟩⟩⟩⟩⟩⟩⟩⟩⟩⟩⟩⟩⟩⟩⟩⟩⟩⟩⟩⟩⟩⟩⟩⟩⟩⟩⟩
theorem chk_words (m : Nat) (h : m < 259) : chkW m = true := chk_words_l m (List.mem_range.mpr h)
theorem chk_all_l : ∀ m ∈ List.range 260, chkM m = true := by
  rw [show List.range 260 = [0, 1, 2, 3, 4, 5, 6, 7, 8, 9, 10, 11, 12, 13, 14, 15, 16, 17, 18, 19, 20, 21, 22, 23, 24, 25, 26, 27, 28, 29, 30, 31, 32, 33, 34, 35, 36, 37, 38, 39, 40, 41, 42, 43, 44, 45, 46, 47, 48, 49, 50, 51, 52, 53, 54, 55, 56, 57, 58, 59, 60, 61, 62, 63, 64, 65, 66, 67, 68, 69, 70, 71, 72, 73, 74, 75, 76, 77, 78, 79, 80, 81, 82, 83, 84, 85, 86, 87, 88, 89, 90, 91, 92, 93, 94, 95, 96, 97, 98, 99, 100, 101, 102, 103, 104, 105, 106, 107, 108, 109, 110, 111, 112, 113, 114, 115, 116, 117, 118, 119, 120, 121, 122, 123, 124, 125, 126, 127, 128, 129, 130, 131, 132, 133, 134, 135, 136, 137, 138, 139, 140, 141, 142, 143, 144, 145, 146, 147, 148, 149, 150, 151, 152, 153, 154, 155, 156, 157, 158, 159, 160, 161, 162, 163, 164, 165, 166, 167, 168, 169, 170, 171, 172, 173, 174, 175, 176, 177, 178, 179, 180, 181, 182, 183, 184, 185, 186, 187, 188, 189, 190, 191, 192, 193, 194, 195, 196, 197, 198, 199, 200, 201, 202, 203, 204, 205, 206, 207, 208, 209, 210, 211, 212, 213, 214, 215, 216, 217, 218, 219, 220, 221, 222, 223, 224, 225, 226, 227, 228, 229, 230, 231, 232, 233, 234, 235, 236, 237, 238, 239, 240, 241, 242, 243, 244, 245, 246, 247, 248, 249, 250, 251, 252, 253, 254, 255, 256, 257, 258, 259] by decide +kernel]
  exact List.forall_mem_cons.mpr ⟨h_X0_init, List.forall_mem_cons.mpr ⟨h_X0_addBook, List.forall_mem_cons.mpr ⟨h_X0_addFlown, List.forall_mem_cons.mpr ⟨h_X0_addVoid, List.forall_mem_cons.mpr ⟨h_X0_canBeVoid, List.forall_mem_cons.mpr ⟨h_X0_knownAt, List.forall_mem_cons.mpr ⟨h_X0_isKnown, List.forall_mem_cons.mpr ⟨h_X0_isFlownKnown, List.forall_mem_cons.mpr ⟨h_X0_countFlown, List.forall_mem_cons.mpr ⟨h_X0_bookAt, List.forall_mem_cons.mpr ⟨h_X1_init, List.forall_mem_cons.mpr ⟨h_X1_idOf, List.forall_mem_cons.mpr ⟨h_X1_testStart, List.forall_mem_cons.mpr ⟨h_X2_init, List.forall_mem_cons.mpr ⟨h_X2_makeBook, List.forall_mem_cons.mpr ⟨h_X2_statement, List.forall_mem_cons.mpr ⟨h_X2_takeName, List.forall_mem_cons.mpr ⟨h_X2_takeCode, List.forall_mem_cons.mpr ⟨h_X2_test, List.forall_mem_cons.mpr ⟨h_X2_both, List.forall_mem_cons.mpr ⟨h_X2_fact, List.forall_mem_cons.mpr ⟨h_X2_comparison, List.forall_mem_cons.mpr ⟨h_X2_sum, List.forall_mem_cons.mpr ⟨h_X2_part, List.forall_mem_cons.mpr ⟨h_X2_figureNamed, List.forall_mem_cons.mpr ⟨h_X2_isOwnWord, List.forall_mem_cons.mpr ⟨h_X2_emit, List.forall_mem_cons.mpr ⟨h_X2_isWord, List.forall_mem_cons.mpr ⟨h_X2_isSign, List.forall_mem_cons.mpr ⟨h_X2_takeWord, List.forall_mem_cons.mpr ⟨h_X2_takeSign, List.forall_mem_cons.mpr ⟨h_X2_blame, List.forall_mem_cons.mpr ⟨h_X2_advance, List.forall_mem_cons.mpr ⟨h_X3_init, List.forall_mem_cons.mpr ⟨h_X3_set, List.forall_mem_cons.mpr ⟨h_X3_testHolds, List.forall_mem_cons.mpr ⟨h_X3_figure, List.forall_mem_cons.mpr ⟨h_X3_joined, List.forall_mem_cons.mpr ⟨h_X3_comparing, List.forall_mem_cons.mpr ⟨h_X3_joining, List.forall_mem_cons.mpr ⟨h_X4_init, List.forall_mem_cons.mpr ⟨h_X4_understands, List.forall_mem_cons.mpr ⟨h_X4_plainRow, List.forall_mem_cons.mpr ⟨h_X4_sameNames, List.forall_mem_cons.mpr ⟨h_X4_nameOf, List.forall_mem_cons.mpr ⟨h_X4_findChange, List.forall_mem_cons.mpr ⟨h_X4_addCuts, List.forall_mem_cons.mpr ⟨h_X4_addCut, List.forall_mem_cons.mpr ⟨h_X4_search, List.forall_mem_cons.mpr ⟨h_X4_canDo, List.forall_mem_cons.mpr ⟨h_X5_init, List.forall_mem_cons.mpr ⟨h_X5_prepare, List.forall_mem_cons.mpr ⟨h_X5_inForce, List.forall_mem_cons.mpr ⟨h_X5_begin, List.forall_mem_cons.mpr ⟨h_X5_gather, List.forall_mem_cons.mpr ⟨h_X5_gatherSeen, List.forall_mem_cons.mpr ⟨h_X5_plainRow, List.forall_mem_cons.mpr ⟨h_X5_sensesOf, List.forall_mem_cons.mpr ⟨h_X5_split, List.forall_mem_cons.mpr ⟨h_X5_markEnds, List.forall_mem_cons.mpr ⟨h_X5_spell, List.forall_mem_cons.mpr ⟨h_X5_note, List.forall_mem_cons.mpr ⟨h_X5_choose, List.forall_mem_cons.mpr ⟨h_X5_picked, List.forall_mem_cons.mpr ⟨h_X6_init, List.forall_mem_cons.mpr ⟨h_X6_start, List.forall_mem_cons.mpr ⟨h_X6_pass, List.forall_mem_cons.mpr ⟨h_X6_isBusy, List.forall_mem_cons.mpr ⟨h_X6_fly, List.forall_mem_cons.mpr ⟨h_X6_bendOn, List.forall_mem_cons.mpr ⟨h_X6_lose, List.forall_mem_cons.mpr ⟨h_X6_hear, List.forall_mem_cons.mpr ⟨h_X6_relayOn, List.forall_mem_cons.mpr ⟨h_X7_init, List.forall_mem_cons.mpr ⟨h_X7_clear, List.forall_mem_cons.mpr ⟨h_X7_add, List.forall_mem_cons.mpr ⟨h_X7_plan, List.forall_mem_cons.mpr ⟨h_X7_copyHoists, List.forall_mem_cons.mpr ⟨h_X7_extend, List.forall_mem_cons.mpr ⟨h_X7_offer, List.forall_mem_cons.mpr ⟨h_X7_isBetter, List.forall_mem_cons.mpr ⟨h_X8_init, List.forall_mem_cons.mpr ⟨h_X8_makeAlike, List.forall_mem_cons.mpr ⟨h_X8_countAlike, List.forall_mem_cons.mpr ⟨h_X8_alike, List.forall_mem_cons.mpr ⟨h_X8_tellHaze, List.forall_mem_cons.mpr ⟨h_X8_hazeAt, List.forall_mem_cons.mpr ⟨h_X8_dimAt, List.forall_mem_cons.mpr ⟨h_X8_hoistFor, List.forall_mem_cons.mpr ⟨h_X8_repeaterFor, List.forall_mem_cons.mpr ⟨h_X9_init, List.forall_mem_cons.mpr ⟨h_X9_put, List.forall_mem_cons.mpr ⟨h_X9_at, List.forall_mem_cons.mpr ⟨h_X9_letterAt, List.forall_mem_cons.mpr ⟨h_X9_digitAt, List.forall_mem_cons.mpr ⟨h_X9_wordEnd, List.forall_mem_cons.mpr ⟨h_X9_numberEnd, List.forall_mem_cons.mpr ⟨h_X9_word, List.forall_mem_cons.mpr ⟨h_X9_number, List.forall_mem_cons.mpr ⟨h_X10_init, List.forall_mem_cons.mpr ⟨h_X10_cut, List.forall_mem_cons.mpr ⟨h_X10_cutOne, List.forall_mem_cons.mpr ⟨h_X10_add, List.forall_mem_cons.mpr ⟨h_X10_isWordy, List.forall_mem_cons.mpr ⟨h_X11_init, List.forall_mem_cons.mpr ⟨h_X11_feed, List.forall_mem_cons.mpr ⟨h_X11_end, List.forall_mem_cons.mpr ⟨h_X11_locker, List.forall_mem_cons.mpr ⟨h_X11_like, List.forall_mem_cons.mpr ⟨h_X11_haze, List.forall_mem_cons.mpr ⟨h_X11_far, List.forall_mem_cons.mpr ⟨h_X11_dim, List.forall_mem_cons.mpr ⟨h_X11_hoist, List.forall_mem_cons.mpr ⟨h_X11_tells, List.forall_mem_cons.mpr ⟨h_X11_book, List.forall_mem_cons.mpr ⟨h_X11_fault, List.forall_mem_cons.mpr ⟨h_X11_senses, List.forall_mem_cons.mpr ⟨h_X11_letter, List.forall_mem_cons.mpr ⟨h_X11_holds, List.forall_mem_cons.mpr ⟨h_X11_read, List.forall_mem_cons.mpr ⟨h_X11_message, List.forall_mem_cons.mpr ⟨h_X11_send, List.forall_mem_cons.mpr ⟨h_X11_sent, List.forall_mem_cons.mpr ⟨h_X11_may, List.forall_mem_cons.mpr ⟨h_X11_line, List.forall_mem_cons.mpr ⟨h_X11_along, List.forall_mem_cons.mpr ⟨h_X11_heard, List.forall_mem_cons.mpr ⟨h_X11_flown, List.forall_mem_cons.mpr ⟨h_X11_annul, List.forall_mem_cons.mpr ⟨h_X11_as, List.forall_mem_cons.mpr ⟨h_X11_taken, List.forall_mem_cons.mpr ⟨h_X11_change, List.forall_mem_cons.mpr ⟨h_X11_changed, List.forall_mem_cons.mpr ⟨h_X11_all, List.forall_mem_cons.mpr ⟨h_X11_knownBook, List.forall_mem_cons.mpr ⟨h_X11_scanNames, List.forall_mem_cons.mpr ⟨h_X11_addressMessage, List.forall_mem_cons.mpr ⟨h_X11_isShip, List.forall_mem_cons.mpr ⟨h_X11_hasNext, List.forall_mem_cons.mpr ⟨h_X11_isMinute, List.forall_mem_cons.mpr ⟨h_X11_isFlag, List.forall_mem_cons.mpr ⟨h_X11_isBlank, List.forall_mem_cons.mpr ⟨h_X11_wordLength, List.forall_mem_cons.mpr ⟨h_X11_rowLength, List.forall_mem_cons.mpr ⟨h_X11_signAt, List.forall_mem_cons.mpr ⟨h_X11_isLetters, List.forall_mem_cons.mpr ⟨h_X11_toldBy, List.forall_mem_cons.mpr ⟨h_X11_repeated, List.forall_mem_cons.mpr ⟨h_X12_init, List.forall_mem_cons.mpr ⟨h_X12_isIn, List.forall_mem_cons.mpr ⟨h_X12_feed, List.forall_mem_cons.mpr ⟨h_X12_end, List.forall_mem_cons.mpr ⟨h_X12_fail, List.forall_mem_cons.mpr ⟨h_X12_isLetter, List.forall_mem_cons.mpr ⟨h_X12_isDigit, List.forall_mem_cons.mpr ⟨h_X12_look, List.forall_mem_cons.mpr ⟨h_X12_isHere, List.forall_mem_cons.mpr ⟨h_X12_takes, List.forall_mem_cons.mpr ⟨h_X12_asks, List.forall_mem_cons.mpr ⟨h_X12_takesSign, List.forall_mem_cons.mpr ⟨h_X12_asksSign, List.forall_mem_cons.mpr ⟨h_X12_number, List.forall_mem_cons.mpr ⟨h_X12_isOwnHere, List.forall_mem_cons.mpr ⟨h_X12_letters, List.forall_mem_cons.mpr ⟨h_X12_name, List.forall_mem_cons.mpr ⟨h_X12_code, List.forall_mem_cons.mpr ⟨h_X12_opens, List.forall_mem_cons.mpr ⟨h_X12_isOn, List.forall_mem_cons.mpr ⟨h_X12_drops, List.forall_mem_cons.mpr ⟨h_X12_isMark, List.forall_mem_cons.mpr ⟨h_X12_mark, List.forall_mem_cons.mpr ⟨h_X12_dropsToMark, List.forall_mem_cons.mpr ⟨h_X12_part, List.forall_mem_cons.mpr ⟨h_X12_goesOn, List.forall_mem_cons.mpr ⟨h_X12_sums, List.forall_mem_cons.mpr ⟨h_X12_fact, List.forall_mem_cons.mpr ⟨h_X12_hasSquare, List.forall_mem_cons.mpr ⟨h_X12_dropsNots, List.forall_mem_cons.mpr ⟨h_X12_test, List.forall_mem_cons.mpr ⟨h_X12_goesOnTest, List.forall_mem_cons.mpr ⟨h_X12_statement, List.forall_mem_cons.mpr ⟨h_X12_book, List.forall_mem_cons.mpr ⟨h_X12_fault, List.forall_mem_cons.mpr ⟨h_X12_isShip, List.forall_mem_cons.mpr ⟨h_X12_isMinute, List.forall_mem_cons.mpr ⟨h_X12_isFlag, List.forall_mem_cons.mpr ⟨h_X12_locker, List.forall_mem_cons.mpr ⟨h_X12_likes, List.forall_mem_cons.mpr ⟨h_X12_like, List.forall_mem_cons.mpr ⟨h_X12_haze, List.forall_mem_cons.mpr ⟨h_X12_far, List.forall_mem_cons.mpr ⟨h_X12_hazeAt, List.forall_mem_cons.mpr ⟨h_X12_dim, List.forall_mem_cons.mpr ⟨h_X12_splits, List.forall_mem_cons.mpr ⟨h_X12_isHoist, List.forall_mem_cons.mpr ⟨h_X12_rowOf, List.forall_mem_cons.mpr ⟨h_X12_tells, List.forall_mem_cons.mpr ⟨h_X12_bends, List.forall_mem_cons.mpr ⟨h_X12_hoist, List.forall_mem_cons.mpr ⟨h_X12_act, List.forall_mem_cons.mpr ⟨h_X12_now, List.forall_mem_cons.mpr ⟨h_X12_isKnown, List.forall_mem_cons.mpr ⟨h_X12_bookAt, List.forall_mem_cons.mpr ⟨h_X12_flown, List.forall_mem_cons.mpr ⟨h_X12_annul, List.forall_mem_cons.mpr ⟨h_X12_as, List.forall_mem_cons.mpr ⟨h_X12_senses, List.forall_mem_cons.mpr ⟨h_X12_isSense, List.forall_mem_cons.mpr ⟨h_X12_letter, List.forall_mem_cons.mpr ⟨h_X12_puts, List.forall_mem_cons.mpr ⟨h_X12_clip, List.forall_mem_cons.mpr ⟨h_X12_joins, List.forall_mem_cons.mpr ⟨h_X12_holdsTest, List.forall_mem_cons.mpr ⟨h_X12_holds, List.forall_mem_cons.mpr ⟨h_X12_opensBook, List.forall_mem_cons.mpr ⟨h_X12_sensesOf, List.forall_mem_cons.mpr ⟨h_X12_cuts, List.forall_mem_cons.mpr ⟨h_X12_waysOf, List.forall_mem_cons.mpr ⟨h_X12_isAt, List.forall_mem_cons.mpr ⟨h_X12_adds, List.forall_mem_cons.mpr ⟨h_X12_reads, List.forall_mem_cons.mpr ⟨h_X12_read, List.forall_mem_cons.mpr ⟨h_X12_isPlain, List.forall_mem_cons.mpr ⟨h_X12_mayBe, List.forall_mem_cons.mpr ⟨h_X12_sees, List.forall_mem_cons.mpr ⟨h_X12_may, List.forall_mem_cons.mpr ⟨h_X12_isName, List.forall_mem_cons.mpr ⟨h_X12_message, List.forall_mem_cons.mpr ⟨h_X12_tries, List.forall_mem_cons.mpr ⟨h_X12_codes, List.forall_mem_cons.mpr ⟨h_X12_behind, List.forall_mem_cons.mpr ⟨h_X12_sends, List.forall_mem_cons.mpr ⟨h_X12_sendsOn, List.forall_mem_cons.mpr ⟨h_X12_takesMessage, List.forall_mem_cons.mpr ⟨h_X12_send, List.forall_mem_cons.mpr ⟨h_X12_sent, List.forall_mem_cons.mpr ⟨h_X12_queues, List.forall_mem_cons.mpr ⟨h_X12_line, List.forall_mem_cons.mpr ⟨h_X12_signsOf, List.forall_mem_cons.mpr ⟨h_X12_passes, List.forall_mem_cons.mpr ⟨h_X12_hears, List.forall_mem_cons.mpr ⟨h_X12_along, List.forall_mem_cons.mpr ⟨h_X12_heard, List.forall_mem_cons.mpr ⟨h_X12_taken1, List.forall_mem_cons.mpr ⟨h_X12_isFlown, List.forall_mem_cons.mpr ⟨h_X12_taken, List.forall_mem_cons.mpr ⟨h_X12_hits, List.forall_mem_cons.mpr ⟨h_X12_gathers, List.forall_mem_cons.mpr ⟨h_X12_bit, List.forall_mem_cons.mpr ⟨h_X12_change, List.forall_mem_cons.mpr ⟨h_X12_changed, List.forall_mem_cons.mpr ⟨h_X12_all, List.forall_mem_cons.mpr ⟨h_J13_bitCount_95d88, List.forall_mem_cons.mpr ⟨h_J9_max_f86c9, List.forall_mem_cons.mpr ⟨h_J9_min_7cf53, List.forall_mem_cons.mpr ⟨h_J9_min_f86c9, List.forall_mem_cons.mpr ⟨h_J7_fill_d0a16, List.forall_mem_cons.mpr ⟨h_J7_fill_53178, List.forall_mem_cons.mpr ⟨h_J7_copyOf_59c91, List.forall_mem_cons.mpr ⟨h_L_law, fun _ h => absurd h List.not_mem_nil⟩⟩⟩⟩⟩⟩⟩⟩⟩⟩⟩⟩⟩⟩⟩⟩⟩⟩⟩⟩⟩⟩⟩⟩⟩⟩⟩⟩⟩⟩⟩⟩⟩⟩⟩⟩⟩⟩⟩⟩⟩⟩⟩⟩⟩⟩⟩⟩⟩⟩⟩⟩⟩⟩⟩⟩⟩⟩⟩⟩⟩⟩⟩⟩⟩⟩⟩⟩⟩⟩⟩⟩⟩⟩⟩⟩⟩⟩⟩⟩⟩⟩⟩⟩⟩⟩⟩⟩⟩⟩⟩⟩⟩⟩⟩⟩⟩⟩⟩⟩⟩⟩⟩⟩⟩⟩⟩⟩⟩⟩⟩⟩⟩⟩⟩⟩⟩⟩⟩⟩⟩⟩⟩⟩⟩⟩⟩⟩⟩⟩⟩⟩⟩⟩⟩⟩⟩⟩⟩⟩⟩⟩⟩⟩⟩⟩⟩⟩⟩⟩⟩⟩⟩⟩⟩⟩⟩⟩⟩⟩⟩⟩⟩⟩⟩⟩⟩⟩⟩⟩⟩⟩⟩⟩⟩⟩⟩⟩⟩⟩⟩⟩⟩⟩⟩⟩⟩⟩⟩⟩⟩⟩⟩⟩⟩⟩⟩⟩⟩⟩⟩⟩⟩⟩⟩⟩⟩⟩⟩⟩⟩⟩⟩⟩⟩⟩⟩⟩⟩⟩⟩⟩⟩⟩⟩⟩⟩⟩⟩⟩⟩⟩⟩⟩⟩⟩⟩⟩⟩⟩⟩⟩⟩⟩⟩⟩⟩⟩⟩⟩⟩⟩⟩⟩⟩⟩⟩⟩⟩⟩
/-- every row of every method's code is what its bytes say -/
theorem chk_all (m : Nat) (h : m < 260) : chkM m = true := chk_all_l m (List.mem_range.mpr h)
theorem y_0_0 : u_lay RX0 TX0 0 ∈ lw_tbl := List.mem_of_getElem? (i := 275) (by decide +kernel)
theorem y_0_1 : u_lay RX0 TX0 1 ∈ lw_tbl := List.mem_of_getElem? (i := 277) (by decide +kernel)
theorem y_0_2 : u_lay RX0 TX0 2 ∈ lw_tbl := List.mem_of_getElem? (i := 279) (by decide +kernel)
theorem y_0_3 : u_lay RX0 TX0 3 ∈ lw_tbl := List.mem_of_getElem? (i := 281) (by decide +kernel)
theorem y_0_4 : u_lay RX0 TX0 4 ∈ lw_tbl := List.mem_of_getElem? (i := 283) (by decide +kernel)
theorem y_0_5 : u_lay RX0 TX0 5 ∈ lw_tbl := List.mem_of_getElem? (i := 285) (by decide +kernel)
theorem y_0_6 : u_lay RX0 TX0 6 ∈ lw_tbl := List.mem_of_getElem? (i := 287) (by decide +kernel)
theorem y_0 : ∀ w ∈ u_ws RX0 TX0 7, w ∈ lw_tbl := by
  show ∀ w ∈ [u_lay RX0 TX0 0, u_lay RX0 TX0 1, u_lay RX0 TX0 2, u_lay RX0 TX0 3, u_lay RX0 TX0 4, u_lay RX0 TX0 5, u_lay RX0 TX0 6], w ∈ lw_tbl
  exact List.forall_mem_cons.mpr ⟨y_0_0, List.forall_mem_cons.mpr ⟨y_0_1, List.forall_mem_cons.mpr ⟨y_0_2, List.forall_mem_cons.mpr ⟨y_0_3, List.forall_mem_cons.mpr ⟨y_0_4, List.forall_mem_cons.mpr ⟨y_0_5, List.forall_mem_cons.mpr ⟨y_0_6, fun _ h => absurd h List.not_mem_nil⟩⟩⟩⟩⟩⟩⟩
theorem z_0 : Cond.instantiable RX0 7 ∈ lw_tbl := List.mem_of_getElem? (i := 255) (by decide +kernel)
theorem x_0 : Cond.initialized RX0 ∈ lw_tbl := List.mem_of_getElem? (i := 114) (by decide +kernel)
theorem y_1_0 : u_lay RX1 TX1 0 ∈ lw_tbl := List.mem_of_getElem? (i := 813) (by decide +kernel)
theorem y_1_1 : u_lay RX1 TX1 1 ∈ lw_tbl := List.mem_of_getElem? (i := 815) (by decide +kernel)
theorem y_1_2 : u_lay RX1 TX1 2 ∈ lw_tbl := List.mem_of_getElem? (i := 817) (by decide +kernel)
theorem y_1_3 : u_lay RX1 TX1 3 ∈ lw_tbl := List.mem_of_getElem? (i := 819) (by decide +kernel)
theorem y_1_4 : u_lay RX1 TX1 4 ∈ lw_tbl := List.mem_of_getElem? (i := 821) (by decide +kernel)
theorem y_1_5 : u_lay RX1 TX1 5 ∈ lw_tbl := List.mem_of_getElem? (i := 823) (by decide +kernel)
theorem y_1_6 : u_lay RX1 TX1 6 ∈ lw_tbl := List.mem_of_getElem? (i := 825) (by decide +kernel)
theorem y_1 : ∀ w ∈ u_ws RX1 TX1 7, w ∈ lw_tbl := by
  show ∀ w ∈ [u_lay RX1 TX1 0, u_lay RX1 TX1 1, u_lay RX1 TX1 2, u_lay RX1 TX1 3, u_lay RX1 TX1 4, u_lay RX1 TX1 5, u_lay RX1 TX1 6], w ∈ lw_tbl
  exact List.forall_mem_cons.mpr ⟨y_1_0, List.forall_mem_cons.mpr ⟨y_1_1, List.forall_mem_cons.mpr ⟨y_1_2, List.forall_mem_cons.mpr ⟨y_1_3, List.forall_mem_cons.mpr ⟨y_1_4, List.forall_mem_cons.mpr ⟨y_1_5, List.forall_mem_cons.mpr ⟨y_1_6, fun _ h => absurd h List.not_mem_nil⟩⟩⟩⟩⟩⟩⟩
theorem z_1 : Cond.instantiable RX1 7 ∈ lw_tbl := List.mem_of_getElem? (i := 766) (by decide +kernel)
theorem x_1 : Cond.initialized RX1 ∈ lw_tbl := List.mem_of_getElem? (i := 122) (by decide +kernel)
theorem y_2_0 : u_lay RX2 TX2 0 ∈ lw_tbl := List.mem_of_getElem? (i := 225) (by decide +kernel)
theorem y_2_1 : u_lay RX2 TX2 1 ∈ lw_tbl := List.mem_of_getElem? (i := 227) (by decide +kernel)
theorem y_2_2 : u_lay RX2 TX2 2 ∈ lw_tbl := List.mem_of_getElem? (i := 229) (by decide +kernel)
theorem y_2_3 : u_lay RX2 TX2 3 ∈ lw_tbl := List.mem_of_getElem? (i := 231) (by decide +kernel)
theorem y_2_4 : u_lay RX2 TX2 4 ∈ lw_tbl := List.mem_of_getElem? (i := 233) (by decide +kernel)
theorem y_2_5 : u_lay RX2 TX2 5 ∈ lw_tbl := List.mem_of_getElem? (i := 235) (by decide +kernel)
theorem y_2_6 : u_lay RX2 TX2 6 ∈ lw_tbl := List.mem_of_getElem? (i := 237) (by decide +kernel)
theorem y_2_7 : u_lay RX2 TX2 7 ∈ lw_tbl := List.mem_of_getElem? (i := 239) (by decide +kernel)
theorem y_2_8 : u_lay RX2 TX2 8 ∈ lw_tbl := List.mem_of_getElem? (i := 241) (by decide +kernel)
theorem y_2_9 : u_lay RX2 TX2 9 ∈ lw_tbl := List.mem_of_getElem? (i := 243) (by decide +kernel)
theorem y_2_10 : u_lay RX2 TX2 10 ∈ lw_tbl := List.mem_of_getElem? (i := 245) (by decide +kernel)
theorem y_2_11 : u_lay RX2 TX2 11 ∈ lw_tbl := List.mem_of_getElem? (i := 247) (by decide +kernel)
theorem y_2_12 : u_lay RX2 TX2 12 ∈ lw_tbl := List.mem_of_getElem? (i := 249) (by decide +kernel)
theorem y_2_13 : u_lay RX2 TX2 13 ∈ lw_tbl := List.mem_of_getElem? (i := 251) (by decide +kernel)
theorem y_2 : ∀ w ∈ u_ws RX2 TX2 14, w ∈ lw_tbl := by
  show ∀ w ∈ [u_lay RX2 TX2 0, u_lay RX2 TX2 1, u_lay RX2 TX2 2, u_lay RX2 TX2 3, u_lay RX2 TX2 4, u_lay RX2 TX2 5, u_lay RX2 TX2 6, u_lay RX2 TX2 7, u_lay RX2 TX2 8, u_lay RX2 TX2 9, u_lay RX2 TX2 10, u_lay RX2 TX2 11, u_lay RX2 TX2 12, u_lay RX2 TX2 13], w ∈ lw_tbl
  exact List.forall_mem_cons.mpr ⟨y_2_0, List.forall_mem_cons.mpr ⟨y_2_1, List.forall_mem_cons.mpr ⟨y_2_2, List.forall_mem_cons.mpr ⟨y_2_3, List.forall_mem_cons.mpr ⟨y_2_4, List.forall_mem_cons.mpr ⟨y_2_5, List.forall_mem_cons.mpr ⟨y_2_6, List.forall_mem_cons.mpr ⟨y_2_7, List.forall_mem_cons.mpr ⟨y_2_8, List.forall_mem_cons.mpr ⟨y_2_9, List.forall_mem_cons.mpr ⟨y_2_10, List.forall_mem_cons.mpr ⟨y_2_11, List.forall_mem_cons.mpr ⟨y_2_12, List.forall_mem_cons.mpr ⟨y_2_13, fun _ h => absurd h List.not_mem_nil⟩⟩⟩⟩⟩⟩⟩⟩⟩⟩⟩⟩⟩⟩
theorem z_2 : Cond.instantiable RX2 14 ∈ lw_tbl := List.mem_of_getElem? (i := 179) (by decide +kernel)
theorem x_2 : Cond.initialized RX2 ∈ lw_tbl := List.mem_of_getElem? (i := 112) (by decide +kernel)
theorem y_3_0 : u_lay RX3 TX3 0 ∈ lw_tbl := List.mem_of_getElem? (i := 306) (by decide +kernel)
theorem y_3_1 : u_lay RX3 TX3 1 ∈ lw_tbl := List.mem_of_getElem? (i := 308) (by decide +kernel)
theorem y_3_2 : u_lay RX3 TX3 2 ∈ lw_tbl := List.mem_of_getElem? (i := 310) (by decide +kernel)
theorem y_3_3 : u_lay RX3 TX3 3 ∈ lw_tbl := List.mem_of_getElem? (i := 312) (by decide +kernel)
theorem y_3 : ∀ w ∈ u_ws RX3 TX3 4, w ∈ lw_tbl := by
  show ∀ w ∈ [u_lay RX3 TX3 0, u_lay RX3 TX3 1, u_lay RX3 TX3 2, u_lay RX3 TX3 3], w ∈ lw_tbl
  exact List.forall_mem_cons.mpr ⟨y_3_0, List.forall_mem_cons.mpr ⟨y_3_1, List.forall_mem_cons.mpr ⟨y_3_2, List.forall_mem_cons.mpr ⟨y_3_3, fun _ h => absurd h List.not_mem_nil⟩⟩⟩⟩
theorem z_3 : Cond.instantiable RX3 4 ∈ lw_tbl := List.mem_of_getElem? (i := 297) (by decide +kernel)
theorem x_3 : Cond.initialized RX3 ∈ lw_tbl := List.mem_of_getElem? (i := 116) (by decide +kernel)
theorem y_4_0 : u_lay RX4 TX4 0 ∈ lw_tbl := List.mem_of_getElem? (i := 473) (by decide +kernel)
theorem y_4_1 : u_lay RX4 TX4 1 ∈ lw_tbl := List.mem_of_getElem? (i := 475) (by decide +kernel)
theorem y_4_2 : u_lay RX4 TX4 2 ∈ lw_tbl := List.mem_of_getElem? (i := 477) (by decide +kernel)
theorem y_4_3 : u_lay RX4 TX4 3 ∈ lw_tbl := List.mem_of_getElem? (i := 479) (by decide +kernel)
theorem y_4_4 : u_lay RX4 TX4 4 ∈ lw_tbl := List.mem_of_getElem? (i := 481) (by decide +kernel)
theorem y_4_5 : u_lay RX4 TX4 5 ∈ lw_tbl := List.mem_of_getElem? (i := 483) (by decide +kernel)
theorem y_4_6 : u_lay RX4 TX4 6 ∈ lw_tbl := List.mem_of_getElem? (i := 485) (by decide +kernel)
theorem y_4 : ∀ w ∈ u_ws RX4 TX4 7, w ∈ lw_tbl := by
  show ∀ w ∈ [u_lay RX4 TX4 0, u_lay RX4 TX4 1, u_lay RX4 TX4 2, u_lay RX4 TX4 3, u_lay RX4 TX4 4, u_lay RX4 TX4 5, u_lay RX4 TX4 6], w ∈ lw_tbl
  exact List.forall_mem_cons.mpr ⟨y_4_0, List.forall_mem_cons.mpr ⟨y_4_1, List.forall_mem_cons.mpr ⟨y_4_2, List.forall_mem_cons.mpr ⟨y_4_3, List.forall_mem_cons.mpr ⟨y_4_4, List.forall_mem_cons.mpr ⟨y_4_5, List.forall_mem_cons.mpr ⟨y_4_6, fun _ h => absurd h List.not_mem_nil⟩⟩⟩⟩⟩⟩⟩
theorem z_4 : Cond.instantiable RX4 7 ∈ lw_tbl := List.mem_of_getElem? (i := 459) (by decide +kernel)
theorem x_4 : Cond.initialized RX4 ∈ lw_tbl := List.mem_of_getElem? (i := 119) (by decide +kernel)
theorem y_5_0 : u_lay RX5 TX5 0 ∈ lw_tbl := List.mem_of_getElem? (i := 332) (by decide +kernel)
theorem y_5_1 : u_lay RX5 TX5 1 ∈ lw_tbl := List.mem_of_getElem? (i := 334) (by decide +kernel)
theorem y_5_2 : u_lay RX5 TX5 2 ∈ lw_tbl := List.mem_of_getElem? (i := 336) (by decide +kernel)
theorem y_5_3 : u_lay RX5 TX5 3 ∈ lw_tbl := List.mem_of_getElem? (i := 338) (by decide +kernel)
theorem y_5_4 : u_lay RX5 TX5 4 ∈ lw_tbl := List.mem_of_getElem? (i := 340) (by decide +kernel)
theorem y_5_5 : u_lay RX5 TX5 5 ∈ lw_tbl := List.mem_of_getElem? (i := 342) (by decide +kernel)
theorem y_5_6 : u_lay RX5 TX5 6 ∈ lw_tbl := List.mem_of_getElem? (i := 344) (by decide +kernel)
theorem y_5_7 : u_lay RX5 TX5 7 ∈ lw_tbl := List.mem_of_getElem? (i := 346) (by decide +kernel)
theorem y_5_8 : u_lay RX5 TX5 8 ∈ lw_tbl := List.mem_of_getElem? (i := 348) (by decide +kernel)
theorem y_5_9 : u_lay RX5 TX5 9 ∈ lw_tbl := List.mem_of_getElem? (i := 350) (by decide +kernel)
theorem y_5_10 : u_lay RX5 TX5 10 ∈ lw_tbl := List.mem_of_getElem? (i := 352) (by decide +kernel)
theorem y_5_11 : u_lay RX5 TX5 11 ∈ lw_tbl := List.mem_of_getElem? (i := 354) (by decide +kernel)
theorem y_5 : ∀ w ∈ u_ws RX5 TX5 12, w ∈ lw_tbl := by
  show ∀ w ∈ [u_lay RX5 TX5 0, u_lay RX5 TX5 1, u_lay RX5 TX5 2, u_lay RX5 TX5 3, u_lay RX5 TX5 4, u_lay RX5 TX5 5, u_lay RX5 TX5 6, u_lay RX5 TX5 7, u_lay RX5 TX5 8, u_lay RX5 TX5 9, u_lay RX5 TX5 10, u_lay RX5 TX5 11], w ∈ lw_tbl
  exact List.forall_mem_cons.mpr ⟨y_5_0, List.forall_mem_cons.mpr ⟨y_5_1, List.forall_mem_cons.mpr ⟨y_5_2, List.forall_mem_cons.mpr ⟨y_5_3, List.forall_mem_cons.mpr ⟨y_5_4, List.forall_mem_cons.mpr ⟨y_5_5, List.forall_mem_cons.mpr ⟨y_5_6, List.forall_mem_cons.mpr ⟨y_5_7, List.forall_mem_cons.mpr ⟨y_5_8, List.forall_mem_cons.mpr ⟨y_5_9, List.forall_mem_cons.mpr ⟨y_5_10, List.forall_mem_cons.mpr ⟨y_5_11, fun _ h => absurd h List.not_mem_nil⟩⟩⟩⟩⟩⟩⟩⟩⟩⟩⟩⟩
theorem z_5 : Cond.instantiable RX5 12 ∈ lw_tbl := List.mem_of_getElem? (i := 291) (by decide +kernel)
theorem x_5 : Cond.initialized RX5 ∈ lw_tbl := List.mem_of_getElem? (i := 115) (by decide +kernel)
theorem y_6_0 : u_lay RX6 TX6 0 ∈ lw_tbl := List.mem_of_getElem? (i := 425) (by decide +kernel)
theorem y_6_1 : u_lay RX6 TX6 1 ∈ lw_tbl := List.mem_of_getElem? (i := 427) (by decide +kernel)
theorem y_6_2 : u_lay RX6 TX6 2 ∈ lw_tbl := List.mem_of_getElem? (i := 429) (by decide +kernel)
theorem y_6_3 : u_lay RX6 TX6 3 ∈ lw_tbl := List.mem_of_getElem? (i := 431) (by decide +kernel)
theorem y_6_4 : u_lay RX6 TX6 4 ∈ lw_tbl := List.mem_of_getElem? (i := 433) (by decide +kernel)
theorem y_6_5 : u_lay RX6 TX6 5 ∈ lw_tbl := List.mem_of_getElem? (i := 435) (by decide +kernel)
theorem y_6_6 : u_lay RX6 TX6 6 ∈ lw_tbl := List.mem_of_getElem? (i := 437) (by decide +kernel)
theorem y_6_7 : u_lay RX6 TX6 7 ∈ lw_tbl := List.mem_of_getElem? (i := 439) (by decide +kernel)
theorem y_6_8 : u_lay RX6 TX6 8 ∈ lw_tbl := List.mem_of_getElem? (i := 441) (by decide +kernel)
theorem y_6_9 : u_lay RX6 TX6 9 ∈ lw_tbl := List.mem_of_getElem? (i := 443) (by decide +kernel)
theorem y_6_10 : u_lay RX6 TX6 10 ∈ lw_tbl := List.mem_of_getElem? (i := 445) (by decide +kernel)
theorem y_6_11 : u_lay RX6 TX6 11 ∈ lw_tbl := List.mem_of_getElem? (i := 447) (by decide +kernel)
theorem y_6_12 : u_lay RX6 TX6 12 ∈ lw_tbl := List.mem_of_getElem? (i := 449) (by decide +kernel)
theorem y_6_13 : u_lay RX6 TX6 13 ∈ lw_tbl := List.mem_of_getElem? (i := 451) (by decide +kernel)
theorem y_6_14 : u_lay RX6 TX6 14 ∈ lw_tbl := List.mem_of_getElem? (i := 453) (by decide +kernel)
theorem y_6_15 : u_lay RX6 TX6 15 ∈ lw_tbl := List.mem_of_getElem? (i := 455) (by decide +kernel)
theorem y_6 : ∀ w ∈ u_ws RX6 TX6 16, w ∈ lw_tbl := by
  show ∀ w ∈ [u_lay RX6 TX6 0, u_lay RX6 TX6 1, u_lay RX6 TX6 2, u_lay RX6 TX6 3, u_lay RX6 TX6 4, u_lay RX6 TX6 5, u_lay RX6 TX6 6, u_lay RX6 TX6 7, u_lay RX6 TX6 8, u_lay RX6 TX6 9, u_lay RX6 TX6 10, u_lay RX6 TX6 11, u_lay RX6 TX6 12, u_lay RX6 TX6 13, u_lay RX6 TX6 14, u_lay RX6 TX6 15], w ∈ lw_tbl
  exact List.forall_mem_cons.mpr ⟨y_6_0, List.forall_mem_cons.mpr ⟨y_6_1, List.forall_mem_cons.mpr ⟨y_6_2, List.forall_mem_cons.mpr ⟨y_6_3, List.forall_mem_cons.mpr ⟨y_6_4, List.forall_mem_cons.mpr ⟨y_6_5, List.forall_mem_cons.mpr ⟨y_6_6, List.forall_mem_cons.mpr ⟨y_6_7, List.forall_mem_cons.mpr ⟨y_6_8, List.forall_mem_cons.mpr ⟨y_6_9, List.forall_mem_cons.mpr ⟨y_6_10, List.forall_mem_cons.mpr ⟨y_6_11, List.forall_mem_cons.mpr ⟨y_6_12, List.forall_mem_cons.mpr ⟨y_6_13, List.forall_mem_cons.mpr ⟨y_6_14, List.forall_mem_cons.mpr ⟨y_6_15, fun _ h => absurd h List.not_mem_nil⟩⟩⟩⟩⟩⟩⟩⟩⟩⟩⟩⟩⟩⟩⟩⟩
theorem z_6 : Cond.instantiable RX6 16 ∈ lw_tbl := List.mem_of_getElem? (i := 395) (by decide +kernel)
theorem x_6 : Cond.initialized RX6 ∈ lw_tbl := List.mem_of_getElem? (i := 118) (by decide +kernel)
theorem y_7_0 : u_lay RX7 TX7 0 ∈ lw_tbl := List.mem_of_getElem? (i := 373) (by decide +kernel)
theorem y_7_1 : u_lay RX7 TX7 1 ∈ lw_tbl := List.mem_of_getElem? (i := 375) (by decide +kernel)
theorem y_7_2 : u_lay RX7 TX7 2 ∈ lw_tbl := List.mem_of_getElem? (i := 377) (by decide +kernel)
theorem y_7_3 : u_lay RX7 TX7 3 ∈ lw_tbl := List.mem_of_getElem? (i := 379) (by decide +kernel)
theorem y_7_4 : u_lay RX7 TX7 4 ∈ lw_tbl := List.mem_of_getElem? (i := 381) (by decide +kernel)
theorem y_7_5 : u_lay RX7 TX7 5 ∈ lw_tbl := List.mem_of_getElem? (i := 383) (by decide +kernel)
theorem y_7_6 : u_lay RX7 TX7 6 ∈ lw_tbl := List.mem_of_getElem? (i := 385) (by decide +kernel)
theorem y_7_7 : u_lay RX7 TX7 7 ∈ lw_tbl := List.mem_of_getElem? (i := 387) (by decide +kernel)
theorem y_7_8 : u_lay RX7 TX7 8 ∈ lw_tbl := List.mem_of_getElem? (i := 389) (by decide +kernel)
theorem y_7_9 : u_lay RX7 TX7 9 ∈ lw_tbl := List.mem_of_getElem? (i := 391) (by decide +kernel)
theorem y_7 : ∀ w ∈ u_ws RX7 TX7 10, w ∈ lw_tbl := by
  show ∀ w ∈ [u_lay RX7 TX7 0, u_lay RX7 TX7 1, u_lay RX7 TX7 2, u_lay RX7 TX7 3, u_lay RX7 TX7 4, u_lay RX7 TX7 5, u_lay RX7 TX7 6, u_lay RX7 TX7 7, u_lay RX7 TX7 8, u_lay RX7 TX7 9], w ∈ lw_tbl
  exact List.forall_mem_cons.mpr ⟨y_7_0, List.forall_mem_cons.mpr ⟨y_7_1, List.forall_mem_cons.mpr ⟨y_7_2, List.forall_mem_cons.mpr ⟨y_7_3, List.forall_mem_cons.mpr ⟨y_7_4, List.forall_mem_cons.mpr ⟨y_7_5, List.forall_mem_cons.mpr ⟨y_7_6, List.forall_mem_cons.mpr ⟨y_7_7, List.forall_mem_cons.mpr ⟨y_7_8, List.forall_mem_cons.mpr ⟨y_7_9, fun _ h => absurd h List.not_mem_nil⟩⟩⟩⟩⟩⟩⟩⟩⟩⟩
theorem z_7 : Cond.instantiable RX7 10 ∈ lw_tbl := List.mem_of_getElem? (i := 358) (by decide +kernel)
theorem x_7 : Cond.initialized RX7 ∈ lw_tbl := List.mem_of_getElem? (i := 117) (by decide +kernel)
theorem y_8_0 : u_lay RX8 TX8 0 ∈ lw_tbl := List.mem_of_getElem? (i := 166) (by decide +kernel)
theorem y_8_1 : u_lay RX8 TX8 1 ∈ lw_tbl := List.mem_of_getElem? (i := 168) (by decide +kernel)
theorem y_8_2 : u_lay RX8 TX8 2 ∈ lw_tbl := List.mem_of_getElem? (i := 170) (by decide +kernel)
theorem y_8_3 : u_lay RX8 TX8 3 ∈ lw_tbl := List.mem_of_getElem? (i := 172) (by decide +kernel)
theorem y_8_4 : u_lay RX8 TX8 4 ∈ lw_tbl := List.mem_of_getElem? (i := 174) (by decide +kernel)
theorem y_8 : ∀ w ∈ u_ws RX8 TX8 5, w ∈ lw_tbl := by
  show ∀ w ∈ [u_lay RX8 TX8 0, u_lay RX8 TX8 1, u_lay RX8 TX8 2, u_lay RX8 TX8 3, u_lay RX8 TX8 4], w ∈ lw_tbl
  exact List.forall_mem_cons.mpr ⟨y_8_0, List.forall_mem_cons.mpr ⟨y_8_1, List.forall_mem_cons.mpr ⟨y_8_2, List.forall_mem_cons.mpr ⟨y_8_3, List.forall_mem_cons.mpr ⟨y_8_4, fun _ h => absurd h List.not_mem_nil⟩⟩⟩⟩⟩
theorem z_8 : Cond.instantiable RX8 5 ∈ lw_tbl := List.mem_of_getElem? (i := 150) (by decide +kernel)
theorem x_8 : Cond.initialized RX8 ∈ lw_tbl := List.mem_of_getElem? (i := 110) (by decide +kernel)
theorem y_9_0 : u_lay RX9 TX9 0 ∈ lw_tbl := List.mem_of_getElem? (i := 143) (by decide +kernel)
theorem y_9_1 : u_lay RX9 TX9 1 ∈ lw_tbl := List.mem_of_getElem? (i := 145) (by decide +kernel)
theorem y_9 : ∀ w ∈ u_ws RX9 TX9 2, w ∈ lw_tbl := by
  show ∀ w ∈ [u_lay RX9 TX9 0, u_lay RX9 TX9 1], w ∈ lw_tbl
  exact List.forall_mem_cons.mpr ⟨y_9_0, List.forall_mem_cons.mpr ⟨y_9_1, fun _ h => absurd h List.not_mem_nil⟩⟩
theorem z_9 : Cond.instantiable RX9 2 ∈ lw_tbl := List.mem_of_getElem? (i := 134) (by decide +kernel)
theorem x_9 : Cond.initialized RX9 ∈ lw_tbl := List.mem_of_getElem? (i := 109) (by decide +kernel)
theorem y_10_0 : u_lay RX10 TX10 0 ∈ lw_tbl := List.mem_of_getElem? (i := 197) (by decide +kernel)
theorem y_10_1 : u_lay RX10 TX10 1 ∈ lw_tbl := List.mem_of_getElem? (i := 199) (by decide +kernel)
theorem y_10_2 : u_lay RX10 TX10 2 ∈ lw_tbl := List.mem_of_getElem? (i := 201) (by decide +kernel)
theorem y_10_3 : u_lay RX10 TX10 3 ∈ lw_tbl := List.mem_of_getElem? (i := 203) (by decide +kernel)
theorem y_10_4 : u_lay RX10 TX10 4 ∈ lw_tbl := List.mem_of_getElem? (i := 205) (by decide +kernel)
theorem y_10 : ∀ w ∈ u_ws RX10 TX10 5, w ∈ lw_tbl := by
  show ∀ w ∈ [u_lay RX10 TX10 0, u_lay RX10 TX10 1, u_lay RX10 TX10 2, u_lay RX10 TX10 3, u_lay RX10 TX10 4], w ∈ lw_tbl
  exact List.forall_mem_cons.mpr ⟨y_10_0, List.forall_mem_cons.mpr ⟨y_10_1, List.forall_mem_cons.mpr ⟨y_10_2, List.forall_mem_cons.mpr ⟨y_10_3, List.forall_mem_cons.mpr ⟨y_10_4, fun _ h => absurd h List.not_mem_nil⟩⟩⟩⟩⟩
theorem z_10 : Cond.instantiable RX10 5 ∈ lw_tbl := List.mem_of_getElem? (i := 185) (by decide +kernel)
theorem x_10 : Cond.initialized RX10 ∈ lw_tbl := List.mem_of_getElem? (i := 113) (by decide +kernel)
theorem y_11_0 : u_lay RX11 TX11 0 ∈ lw_tbl := List.mem_of_getElem? (i := 501) (by decide +kernel)
theorem y_11_1 : u_lay RX11 TX11 1 ∈ lw_tbl := List.mem_of_getElem? (i := 503) (by decide +kernel)
theorem y_11_2 : u_lay RX11 TX11 2 ∈ lw_tbl := List.mem_of_getElem? (i := 505) (by decide +kernel)
theorem y_11_3 : u_lay RX11 TX11 3 ∈ lw_tbl := List.mem_of_getElem? (i := 507) (by decide +kernel)
theorem y_11_4 : u_lay RX11 TX11 4 ∈ lw_tbl := List.mem_of_getElem? (i := 509) (by decide +kernel)
theorem y_11_5 : u_lay RX11 TX11 5 ∈ lw_tbl := List.mem_of_getElem? (i := 511) (by decide +kernel)
theorem y_11_6 : u_lay RX11 TX11 6 ∈ lw_tbl := List.mem_of_getElem? (i := 513) (by decide +kernel)
theorem y_11_7 : u_lay RX11 TX11 7 ∈ lw_tbl := List.mem_of_getElem? (i := 515) (by decide +kernel)
theorem y_11_8 : u_lay RX11 TX11 8 ∈ lw_tbl := List.mem_of_getElem? (i := 517) (by decide +kernel)
theorem y_11_9 : u_lay RX11 TX11 9 ∈ lw_tbl := List.mem_of_getElem? (i := 519) (by decide +kernel)
theorem y_11_10 : u_lay RX11 TX11 10 ∈ lw_tbl := List.mem_of_getElem? (i := 521) (by decide +kernel)
theorem y_11_11 : u_lay RX11 TX11 11 ∈ lw_tbl := List.mem_of_getElem? (i := 523) (by decide +kernel)
theorem y_11_12 : u_lay RX11 TX11 12 ∈ lw_tbl := List.mem_of_getElem? (i := 525) (by decide +kernel)
theorem y_11 : ∀ w ∈ u_ws RX11 TX11 13, w ∈ lw_tbl := by
  show ∀ w ∈ [u_lay RX11 TX11 0, u_lay RX11 TX11 1, u_lay RX11 TX11 2, u_lay RX11 TX11 3, u_lay RX11 TX11 4, u_lay RX11 TX11 5, u_lay RX11 TX11 6, u_lay RX11 TX11 7, u_lay RX11 TX11 8, u_lay RX11 TX11 9, u_lay RX11 TX11 10, u_lay RX11 TX11 11, u_lay RX11 TX11 12], w ∈ lw_tbl
  exact List.forall_mem_cons.mpr ⟨y_11_0, List.forall_mem_cons.mpr ⟨y_11_1, List.forall_mem_cons.mpr ⟨y_11_2, List.forall_mem_cons.mpr ⟨y_11_3, List.forall_mem_cons.mpr ⟨y_11_4, List.forall_mem_cons.mpr ⟨y_11_5, List.forall_mem_cons.mpr ⟨y_11_6, List.forall_mem_cons.mpr ⟨y_11_7, List.forall_mem_cons.mpr ⟨y_11_8, List.forall_mem_cons.mpr ⟨y_11_9, List.forall_mem_cons.mpr ⟨y_11_10, List.forall_mem_cons.mpr ⟨y_11_11, List.forall_mem_cons.mpr ⟨y_11_12, fun _ h => absurd h List.not_mem_nil⟩⟩⟩⟩⟩⟩⟩⟩⟩⟩⟩⟩⟩
theorem z_11 : Cond.instantiable RX11 13 ∈ lw_tbl := List.mem_of_getElem? (i := 126) (by decide +kernel)
theorem x_11 : Cond.initialized RX11 ∈ lw_tbl := List.mem_of_getElem? (i := 108) (by decide +kernel)
theorem y_12_0 : u_lay RX12 TX12 0 ∈ lw_tbl := List.mem_of_getElem? (i := 1273) (by decide +kernel)
theorem y_12_1 : u_lay RX12 TX12 1 ∈ lw_tbl := List.mem_of_getElem? (i := 1275) (by decide +kernel)
theorem y_12_2 : u_lay RX12 TX12 2 ∈ lw_tbl := List.mem_of_getElem? (i := 1277) (by decide +kernel)
theorem y_12_3 : u_lay RX12 TX12 3 ∈ lw_tbl := List.mem_of_getElem? (i := 1279) (by decide +kernel)
theorem y_12_4 : u_lay RX12 TX12 4 ∈ lw_tbl := List.mem_of_getElem? (i := 1281) (by decide +kernel)
theorem y_12_5 : u_lay RX12 TX12 5 ∈ lw_tbl := List.mem_of_getElem? (i := 1283) (by decide +kernel)
theorem y_12_6 : u_lay RX12 TX12 6 ∈ lw_tbl := List.mem_of_getElem? (i := 1285) (by decide +kernel)
theorem y_12_7 : u_lay RX12 TX12 7 ∈ lw_tbl := List.mem_of_getElem? (i := 1287) (by decide +kernel)
theorem y_12_8 : u_lay RX12 TX12 8 ∈ lw_tbl := List.mem_of_getElem? (i := 1289) (by decide +kernel)
theorem y_12_9 : u_lay RX12 TX12 9 ∈ lw_tbl := List.mem_of_getElem? (i := 1291) (by decide +kernel)
theorem y_12_10 : u_lay RX12 TX12 10 ∈ lw_tbl := List.mem_of_getElem? (i := 1293) (by decide +kernel)
theorem y_12_11 : u_lay RX12 TX12 11 ∈ lw_tbl := List.mem_of_getElem? (i := 1295) (by decide +kernel)
theorem y_12_12 : u_lay RX12 TX12 12 ∈ lw_tbl := List.mem_of_getElem? (i := 1297) (by decide +kernel)
theorem y_12_13 : u_lay RX12 TX12 13 ∈ lw_tbl := List.mem_of_getElem? (i := 1299) (by decide +kernel)
theorem y_12_14 : u_lay RX12 TX12 14 ∈ lw_tbl := List.mem_of_getElem? (i := 1301) (by decide +kernel)
theorem y_12_15 : u_lay RX12 TX12 15 ∈ lw_tbl := List.mem_of_getElem? (i := 1303) (by decide +kernel)
theorem y_12_16 : u_lay RX12 TX12 16 ∈ lw_tbl := List.mem_of_getElem? (i := 1305) (by decide +kernel)
theorem y_12_17 : u_lay RX12 TX12 17 ∈ lw_tbl := List.mem_of_getElem? (i := 1307) (by decide +kernel)
theorem y_12_18 : u_lay RX12 TX12 18 ∈ lw_tbl := List.mem_of_getElem? (i := 1309) (by decide +kernel)
theorem y_12_19 : u_lay RX12 TX12 19 ∈ lw_tbl := List.mem_of_getElem? (i := 1311) (by decide +kernel)
theorem y_12_20 : u_lay RX12 TX12 20 ∈ lw_tbl := List.mem_of_getElem? (i := 1313) (by decide +kernel)
theorem y_12_21 : u_lay RX12 TX12 21 ∈ lw_tbl := List.mem_of_getElem? (i := 1315) (by decide +kernel)
theorem y_12_22 : u_lay RX12 TX12 22 ∈ lw_tbl := List.mem_of_getElem? (i := 1317) (by decide +kernel)
theorem y_12_23 : u_lay RX12 TX12 23 ∈ lw_tbl := List.mem_of_getElem? (i := 1319) (by decide +kernel)
theorem y_12_24 : u_lay RX12 TX12 24 ∈ lw_tbl := List.mem_of_getElem? (i := 1321) (by decide +kernel)
theorem y_12_25 : u_lay RX12 TX12 25 ∈ lw_tbl := List.mem_of_getElem? (i := 1323) (by decide +kernel)
theorem y_12_26 : u_lay RX12 TX12 26 ∈ lw_tbl := List.mem_of_getElem? (i := 1325) (by decide +kernel)
theorem y_12_27 : u_lay RX12 TX12 27 ∈ lw_tbl := List.mem_of_getElem? (i := 1327) (by decide +kernel)
theorem y_12_28 : u_lay RX12 TX12 28 ∈ lw_tbl := List.mem_of_getElem? (i := 1329) (by decide +kernel)
theorem y_12_29 : u_lay RX12 TX12 29 ∈ lw_tbl := List.mem_of_getElem? (i := 1331) (by decide +kernel)
theorem y_12_30 : u_lay RX12 TX12 30 ∈ lw_tbl := List.mem_of_getElem? (i := 1333) (by decide +kernel)
theorem y_12_31 : u_lay RX12 TX12 31 ∈ lw_tbl := List.mem_of_getElem? (i := 1335) (by decide +kernel)
theorem y_12_32 : u_lay RX12 TX12 32 ∈ lw_tbl := List.mem_of_getElem? (i := 1337) (by decide +kernel)
theorem y_12_33 : u_lay RX12 TX12 33 ∈ lw_tbl := List.mem_of_getElem? (i := 1339) (by decide +kernel)
theorem y_12_34 : u_lay RX12 TX12 34 ∈ lw_tbl := List.mem_of_getElem? (i := 1341) (by decide +kernel)
theorem y_12_35 : u_lay RX12 TX12 35 ∈ lw_tbl := List.mem_of_getElem? (i := 1343) (by decide +kernel)
theorem y_12_36 : u_lay RX12 TX12 36 ∈ lw_tbl := List.mem_of_getElem? (i := 1345) (by decide +kernel)
theorem y_12_37 : u_lay RX12 TX12 37 ∈ lw_tbl := List.mem_of_getElem? (i := 1347) (by decide +kernel)
theorem y_12_38 : u_lay RX12 TX12 38 ∈ lw_tbl := List.mem_of_getElem? (i := 1349) (by decide +kernel)
theorem y_12_39 : u_lay RX12 TX12 39 ∈ lw_tbl := List.mem_of_getElem? (i := 1351) (by decide +kernel)
theorem y_12_40 : u_lay RX12 TX12 40 ∈ lw_tbl := List.mem_of_getElem? (i := 1353) (by decide +kernel)
theorem y_12_41 : u_lay RX12 TX12 41 ∈ lw_tbl := List.mem_of_getElem? (i := 1355) (by decide +kernel)
theorem y_12_42 : u_lay RX12 TX12 42 ∈ lw_tbl := List.mem_of_getElem? (i := 1357) (by decide +kernel)
theorem y_12_43 : u_lay RX12 TX12 43 ∈ lw_tbl := List.mem_of_getElem? (i := 1359) (by decide +kernel)
theorem y_12_44 : u_lay RX12 TX12 44 ∈ lw_tbl := List.mem_of_getElem? (i := 1361) (by decide +kernel)
theorem y_12_45 : u_lay RX12 TX12 45 ∈ lw_tbl := List.mem_of_getElem? (i := 1363) (by decide +kernel)
theorem y_12_46 : u_lay RX12 TX12 46 ∈ lw_tbl := List.mem_of_getElem? (i := 1365) (by decide +kernel)
theorem y_12_47 : u_lay RX12 TX12 47 ∈ lw_tbl := List.mem_of_getElem? (i := 1367) (by decide +kernel)
theorem y_12_48 : u_lay RX12 TX12 48 ∈ lw_tbl := List.mem_of_getElem? (i := 1369) (by decide +kernel)
theorem y_12_49 : u_lay RX12 TX12 49 ∈ lw_tbl := List.mem_of_getElem? (i := 1371) (by decide +kernel)
theorem y_12_50 : u_lay RX12 TX12 50 ∈ lw_tbl := List.mem_of_getElem? (i := 1373) (by decide +kernel)
theorem y_12_51 : u_lay RX12 TX12 51 ∈ lw_tbl := List.mem_of_getElem? (i := 1375) (by decide +kernel)
theorem y_12_52 : u_lay RX12 TX12 52 ∈ lw_tbl := List.mem_of_getElem? (i := 1377) (by decide +kernel)
theorem y_12_53 : u_lay RX12 TX12 53 ∈ lw_tbl := List.mem_of_getElem? (i := 1379) (by decide +kernel)
theorem y_12_54 : u_lay RX12 TX12 54 ∈ lw_tbl := List.mem_of_getElem? (i := 1381) (by decide +kernel)
theorem y_12_55 : u_lay RX12 TX12 55 ∈ lw_tbl := List.mem_of_getElem? (i := 1383) (by decide +kernel)
theorem y_12_56 : u_lay RX12 TX12 56 ∈ lw_tbl := List.mem_of_getElem? (i := 1385) (by decide +kernel)
theorem y_12_57 : u_lay RX12 TX12 57 ∈ lw_tbl := List.mem_of_getElem? (i := 1387) (by decide +kernel)
theorem y_12_58 : u_lay RX12 TX12 58 ∈ lw_tbl := List.mem_of_getElem? (i := 1389) (by decide +kernel)
theorem y_12_59 : u_lay RX12 TX12 59 ∈ lw_tbl := List.mem_of_getElem? (i := 1391) (by decide +kernel)
theorem y_12_60 : u_lay RX12 TX12 60 ∈ lw_tbl := List.mem_of_getElem? (i := 1393) (by decide +kernel)
theorem y_12_61 : u_lay RX12 TX12 61 ∈ lw_tbl := List.mem_of_getElem? (i := 1395) (by decide +kernel)
theorem y_12_62 : u_lay RX12 TX12 62 ∈ lw_tbl := List.mem_of_getElem? (i := 1397) (by decide +kernel)
theorem y_12_63 : u_lay RX12 TX12 63 ∈ lw_tbl := List.mem_of_getElem? (i := 1399) (by decide +kernel)
theorem y_12_64 : u_lay RX12 TX12 64 ∈ lw_tbl := List.mem_of_getElem? (i := 1401) (by decide +kernel)
theorem y_12_65 : u_lay RX12 TX12 65 ∈ lw_tbl := List.mem_of_getElem? (i := 1403) (by decide +kernel)
theorem y_12_66 : u_lay RX12 TX12 66 ∈ lw_tbl := List.mem_of_getElem? (i := 1405) (by decide +kernel)
theorem y_12_67 : u_lay RX12 TX12 67 ∈ lw_tbl := List.mem_of_getElem? (i := 1407) (by decide +kernel)
theorem y_12_68 : u_lay RX12 TX12 68 ∈ lw_tbl := List.mem_of_getElem? (i := 1409) (by decide +kernel)
theorem y_12_69 : u_lay RX12 TX12 69 ∈ lw_tbl := List.mem_of_getElem? (i := 1411) (by decide +kernel)
theorem y_12_70 : u_lay RX12 TX12 70 ∈ lw_tbl := List.mem_of_getElem? (i := 1413) (by decide +kernel)
theorem y_12_71 : u_lay RX12 TX12 71 ∈ lw_tbl := List.mem_of_getElem? (i := 1415) (by decide +kernel)
theorem y_12_72 : u_lay RX12 TX12 72 ∈ lw_tbl := List.mem_of_getElem? (i := 1417) (by decide +kernel)
theorem y_12_73 : u_lay RX12 TX12 73 ∈ lw_tbl := List.mem_of_getElem? (i := 1419) (by decide +kernel)
theorem y_12_74 : u_lay RX12 TX12 74 ∈ lw_tbl := List.mem_of_getElem? (i := 1421) (by decide +kernel)
theorem y_12_75 : u_lay RX12 TX12 75 ∈ lw_tbl := List.mem_of_getElem? (i := 1423) (by decide +kernel)
theorem y_12_76 : u_lay RX12 TX12 76 ∈ lw_tbl := List.mem_of_getElem? (i := 1425) (by decide +kernel)
theorem y_12_77 : u_lay RX12 TX12 77 ∈ lw_tbl := List.mem_of_getElem? (i := 1427) (by decide +kernel)
theorem y_12_78 : u_lay RX12 TX12 78 ∈ lw_tbl := List.mem_of_getElem? (i := 1429) (by decide +kernel)
theorem y_12_79 : u_lay RX12 TX12 79 ∈ lw_tbl := List.mem_of_getElem? (i := 1431) (by decide +kernel)
theorem y_12_80 : u_lay RX12 TX12 80 ∈ lw_tbl := List.mem_of_getElem? (i := 1433) (by decide +kernel)
theorem y_12_81 : u_lay RX12 TX12 81 ∈ lw_tbl := List.mem_of_getElem? (i := 1435) (by decide +kernel)
theorem y_12_82 : u_lay RX12 TX12 82 ∈ lw_tbl := List.mem_of_getElem? (i := 1437) (by decide +kernel)
theorem y_12_83 : u_lay RX12 TX12 83 ∈ lw_tbl := List.mem_of_getElem? (i := 1439) (by decide +kernel)
theorem y_12_84 : u_lay RX12 TX12 84 ∈ lw_tbl := List.mem_of_getElem? (i := 1441) (by decide +kernel)
theorem y_12_85 : u_lay RX12 TX12 85 ∈ lw_tbl := List.mem_of_getElem? (i := 1443) (by decide +kernel)
theorem y_12_86 : u_lay RX12 TX12 86 ∈ lw_tbl := List.mem_of_getElem? (i := 1445) (by decide +kernel)
theorem y_12_87 : u_lay RX12 TX12 87 ∈ lw_tbl := List.mem_of_getElem? (i := 1447) (by decide +kernel)
theorem y_12_88 : u_lay RX12 TX12 88 ∈ lw_tbl := List.mem_of_getElem? (i := 1449) (by decide +kernel)
theorem y_12 : ∀ w ∈ u_ws RX12 TX12 89, w ∈ lw_tbl := by
  show ∀ w ∈ [u_lay RX12 TX12 0, u_lay RX12 TX12 1, u_lay RX12 TX12 2, u_lay RX12 TX12 3, u_lay RX12 TX12 4, u_lay RX12 TX12 5, u_lay RX12 TX12 6, u_lay RX12 TX12 7, u_lay RX12 TX12 8, u_lay RX12 TX12 9, u_lay RX12 TX12 10, u_lay RX12 TX12 11, u_lay RX12 TX12 12, u_lay RX12 TX12 13, u_lay RX12 TX12 14, u_lay RX12 TX12 15, u_lay RX12 TX12 16, u_lay RX12 TX12 17, u_lay RX12 TX12 18, u_lay RX12 TX12 19, u_lay RX12 TX12 20, u_lay RX12 TX12 21, u_lay RX12 TX12 22, u_lay RX12 TX12 23, u_lay RX12 TX12 24, u_lay RX12 TX12 25, u_lay RX12 TX12 26, u_lay RX12 TX12 27, u_lay RX12 TX12 28, u_lay RX12 TX12 29, u_lay RX12 TX12 30, u_lay RX12 TX12 31, u_lay RX12 TX12 32, u_lay RX12 TX12 33, u_lay RX12 TX12 34, u_lay RX12 TX12 35, u_lay RX12 TX12 36, u_lay RX12 TX12 37, u_lay RX12 TX12 38, u_lay RX12 TX12 39, u_lay RX12 TX12 40, u_lay RX12 TX12 41, u_lay RX12 TX12 42, u_lay RX12 TX12 43, u_lay RX12 TX12 44, u_lay RX12 TX12 45, u_lay RX12 TX12 46, u_lay RX12 TX12 47, u_lay RX12 TX12 48, u_lay RX12 TX12 49, u_lay RX12 TX12 50, u_lay RX12 TX12 51, u_lay RX12 TX12 52, u_lay RX12 TX12 53, u_lay RX12 TX12 54, u_lay RX12 TX12 55, u_lay RX12 TX12 56, u_lay RX12 TX12 57, u_lay RX12 TX12 58, u_lay RX12 TX12 59, u_lay RX12 TX12 60, u_lay RX12 TX12 61, u_lay RX12 TX12 62, u_lay RX12 TX12 63, u_lay RX12 TX12 64, u_lay RX12 TX12 65, u_lay RX12 TX12 66, u_lay RX12 TX12 67, u_lay RX12 TX12 68, u_lay RX12 TX12 69, u_lay RX12 TX12 70, u_lay RX12 TX12 71, u_lay RX12 TX12 72, u_lay RX12 TX12 73, u_lay RX12 TX12 74, u_lay RX12 TX12 75, u_lay RX12 TX12 76, u_lay RX12 TX12 77, u_lay RX12 TX12 78, u_lay RX12 TX12 79, u_lay RX12 TX12 80, u_lay RX12 TX12 81, u_lay RX12 TX12 82, u_lay RX12 TX12 83, u_lay RX12 TX12 84, u_lay RX12 TX12 85, u_lay RX12 TX12 86, u_lay RX12 TX12 87, u_lay RX12 TX12 88], w ∈ lw_tbl
  exact List.forall_mem_cons.mpr ⟨y_12_0, List.forall_mem_cons.mpr ⟨y_12_1, List.forall_mem_cons.mpr ⟨y_12_2, List.forall_mem_cons.mpr ⟨y_12_3, List.forall_mem_cons.mpr ⟨y_12_4, List.forall_mem_cons.mpr ⟨y_12_5, List.forall_mem_cons.mpr ⟨y_12_6, List.forall_mem_cons.mpr ⟨y_12_7, List.forall_mem_cons.mpr ⟨y_12_8, List.forall_mem_cons.mpr ⟨y_12_9, List.forall_mem_cons.mpr ⟨y_12_10, List.forall_mem_cons.mpr ⟨y_12_11, List.forall_mem_cons.mpr ⟨y_12_12, List.forall_mem_cons.mpr ⟨y_12_13, List.forall_mem_cons.mpr ⟨y_12_14, List.forall_mem_cons.mpr ⟨y_12_15, List.forall_mem_cons.mpr ⟨y_12_16, List.forall_mem_cons.mpr ⟨y_12_17, List.forall_mem_cons.mpr ⟨y_12_18, List.forall_mem_cons.mpr ⟨y_12_19, List.forall_mem_cons.mpr ⟨y_12_20, List.forall_mem_cons.mpr ⟨y_12_21, List.forall_mem_cons.mpr ⟨y_12_22, List.forall_mem_cons.mpr ⟨y_12_23, List.forall_mem_cons.mpr ⟨y_12_24, List.forall_mem_cons.mpr ⟨y_12_25, List.forall_mem_cons.mpr ⟨y_12_26, List.forall_mem_cons.mpr ⟨y_12_27, List.forall_mem_cons.mpr ⟨y_12_28, List.forall_mem_cons.mpr ⟨y_12_29, List.forall_mem_cons.mpr ⟨y_12_30, List.forall_mem_cons.mpr ⟨y_12_31, List.forall_mem_cons.mpr ⟨y_12_32, List.forall_mem_cons.mpr ⟨y_12_33, List.forall_mem_cons.mpr ⟨y_12_34, List.forall_mem_cons.mpr ⟨y_12_35, List.forall_mem_cons.mpr ⟨y_12_36, List.forall_mem_cons.mpr ⟨y_12_37, List.forall_mem_cons.mpr ⟨y_12_38, List.forall_mem_cons.mpr ⟨y_12_39, List.forall_mem_cons.mpr ⟨y_12_40, List.forall_mem_cons.mpr ⟨y_12_41, List.forall_mem_cons.mpr ⟨y_12_42, List.forall_mem_cons.mpr ⟨y_12_43, List.forall_mem_cons.mpr ⟨y_12_44, List.forall_mem_cons.mpr ⟨y_12_45, List.forall_mem_cons.mpr ⟨y_12_46, List.forall_mem_cons.mpr ⟨y_12_47, List.forall_mem_cons.mpr ⟨y_12_48, List.forall_mem_cons.mpr ⟨y_12_49, List.forall_mem_cons.mpr ⟨y_12_50, List.forall_mem_cons.mpr ⟨y_12_51, List.forall_mem_cons.mpr ⟨y_12_52, List.forall_mem_cons.mpr ⟨y_12_53, List.forall_mem_cons.mpr ⟨y_12_54, List.forall_mem_cons.mpr ⟨y_12_55, List.forall_mem_cons.mpr ⟨y_12_56, List.forall_mem_cons.mpr ⟨y_12_57, List.forall_mem_cons.mpr ⟨y_12_58, List.forall_mem_cons.mpr ⟨y_12_59, List.forall_mem_cons.mpr ⟨y_12_60, List.forall_mem_cons.mpr ⟨y_12_61, List.forall_mem_cons.mpr ⟨y_12_62, List.forall_mem_cons.mpr ⟨y_12_63, List.forall_mem_cons.mpr ⟨y_12_64, List.forall_mem_cons.mpr ⟨y_12_65, List.forall_mem_cons.mpr ⟨y_12_66, List.forall_mem_cons.mpr ⟨y_12_67, List.forall_mem_cons.mpr ⟨y_12_68, List.forall_mem_cons.mpr ⟨y_12_69, List.forall_mem_cons.mpr ⟨y_12_70, List.forall_mem_cons.mpr ⟨y_12_71, List.forall_mem_cons.mpr ⟨y_12_72, List.forall_mem_cons.mpr ⟨y_12_73, List.forall_mem_cons.mpr ⟨y_12_74, List.forall_mem_cons.mpr ⟨y_12_75, List.forall_mem_cons.mpr ⟨y_12_76, List.forall_mem_cons.mpr ⟨y_12_77, List.forall_mem_cons.mpr ⟨y_12_78, List.forall_mem_cons.mpr ⟨y_12_79, List.forall_mem_cons.mpr ⟨y_12_80, List.forall_mem_cons.mpr ⟨y_12_81, List.forall_mem_cons.mpr ⟨y_12_82, List.forall_mem_cons.mpr ⟨y_12_83, List.forall_mem_cons.mpr ⟨y_12_84, List.forall_mem_cons.mpr ⟨y_12_85, List.forall_mem_cons.mpr ⟨y_12_86, List.forall_mem_cons.mpr ⟨y_12_87, List.forall_mem_cons.mpr ⟨y_12_88, fun _ h => absurd h List.not_mem_nil⟩⟩⟩⟩⟩⟩⟩⟩⟩⟩⟩⟩⟩⟩⟩⟩⟩⟩⟩⟩⟩⟩⟩⟩⟩⟩⟩⟩⟩⟩⟩⟩⟩⟩⟩⟩⟩⟩⟩⟩⟩⟩⟩⟩⟩⟩⟩⟩⟩⟩⟩⟩⟩⟩⟩⟩⟩⟩⟩⟩⟩⟩⟩⟩⟩⟩⟩⟩⟩⟩⟩⟩⟩⟩⟩⟩⟩⟩⟩⟩⟩⟩⟩⟩⟩⟩⟩⟩⟩
theorem z_12 : Cond.instantiable RX12 89 ∈ lw_tbl := List.mem_of_getElem? (i := 1178) (by decide +kernel)
theorem x_12 : Cond.initialized RX12 ∈ lw_tbl := List.mem_of_getElem? (i := 120) (by decide +kernel)
theorem t_a_byte : Cond.arrayClass .byte ∈ lw_tbl := List.mem_of_getElem? (i := 148) (by decide +kernel)
theorem t_a_int : Cond.arrayClass .int ∈ lw_tbl := List.mem_of_getElem? (i := 177) (by decide +kernel)
theorem t_a_long : Cond.arrayClass .long ∈ lw_tbl := List.mem_of_getElem? (i := 208) (by decide +kernel)
theorem t_a_boolean : Cond.arrayClass .boolean ∈ lw_tbl := List.mem_of_getElem? (i := 315) (by decide +kernel)
theorem t_a_char : Cond.arrayClass .char ∈ lw_tbl := List.mem_of_getElem? (i := 1452) (by decide +kernel)
theorem t_over : Cond.arrayOver (.object "SquadronFlags$Book") ∈ lw_tbl := List.mem_of_getElem? (i := 261) (by decide +kernel)
theorem t_over2 : Cond.arrayOver (.array .int) ∈ lw_tbl := List.mem_of_getElem? (i := 401) (by decide +kernel)
theorem t_nclone : Cond.native ⟨"java/lang/Object", "clone", "()Ljava/lang/Object;"⟩ ∈ lw_tbl := List.mem_of_getElem? (i := 776) (by decide +kernel)
theorem t_ncopy : Cond.native arraycopyName ∈ lw_tbl := List.mem_of_getElem? (i := 784) (by decide +kernel)
theorem t_scopy : Cond.static arraycopyName ∈ lw_tbl := List.mem_of_getElem? (i := 783) (by decide +kernel)
theorem t_isys : Cond.initialized "java/lang/System" ∈ lw_tbl := List.mem_of_getElem? (i := 123) (by decide +kernel)
theorem t_same : Cond.sameMethod "[I" "java/lang/Object" "clone" "()Ljava/lang/Object;" ∈ lw_tbl := List.mem_of_getElem? (i := 775) (by decide +kernel)
theorem t_iclone : Cond.instanceMethod ⟨"java/lang/Object", "clone", "()Ljava/lang/Object;"⟩ ∈ lw_tbl := List.mem_of_getElem? (i := 777) (by decide +kernel)
theorem t_cast : Cond.castable "[I" "java/lang/Cloneable" ∈ lw_tbl := List.mem_of_getElem? (i := 779) (by decide +kernel)
theorem t_obj : Cond.code Lib.objectInit ⟨#[0xb1]⟩ 1 none ∈ lw_tbl := List.mem_of_getElem? (i := 132) (by decide +kernel)
theorem t_obji : Cond.instanceMethod Lib.objectInit ∈ lw_tbl := List.mem_of_getElem? (i := 131) (by decide +kernel)
theorem t_sel : Cond.selects "[I" ⟨"[I", "clone", "()Ljava/lang/Object;"⟩ ⟨"java/lang/Object", "clone", "()Ljava/lang/Object;"⟩ ∈ lw_tbl := List.mem_of_getElem? (i := 778) (by decide +kernel)
