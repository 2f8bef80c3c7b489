theorem gw_J7_fill_d0a16 : wsJ7_fill_d0a16.all goodWord = true := by decide +kernel
theorem gw_X0_step : wsX0_step.all goodWord = true := by decide +kernel
theorem gw_X0_setLowest : wsX0_setLowest.all goodWord = true := by decide +kernel
theorem gw_X1_breathBehind : wsX1_breathBehind.all goodWord = true := by decide +kernel
theorem gw_X1_lasts : wsX1_lasts.all goodWord = true := by decide +kernel
theorem gw_X2_set : wsX2_set.all goodWord = true := by decide +kernel
theorem gw_X3_extend : wsX3_extend.all goodWord = true := by decide +kernel
theorem gw_X3_keepRow : wsX3_keepRow.all goodWord = true := by decide +kernel
theorem gw_X4_leftBehind : wsX4_leftBehind.all goodWord = true := by decide +kernel
theorem gw_X2_init : wsX2_init.all goodWord = true := by decide +kernel
theorem gw_X2_copy : wsX2_copy.all goodWord = true := by decide +kernel
theorem gw_X1_cost : wsX1_cost.all goodWord = true := by decide +kernel
theorem gw_X4_dropOldest : wsX4_dropOldest.all goodWord = true := by decide +kernel
theorem gw_X2_readOnce : wsX2_readOnce.all goodWord = true := by decide +kernel
theorem gw_X4_stuckAt : wsX4_stuckAt.all goodWord = true := by decide +kernel
theorem gw_X1_ends : wsX1_ends.all goodWord = true := by decide +kernel
theorem gw_X4_lastIsEnded : wsX4_lastIsEnded.all goodWord = true := by decide +kernel
theorem gw_J7_fill_53178 : wsJ7_fill_53178.all goodWord = true := by decide +kernel
theorem gw_X5_choose : wsX5_choose.all goodWord = true := by decide +kernel
theorem gw_X4_costOf : wsX4_costOf.all goodWord = true := by decide +kernel
theorem gw_X5_spread : wsX5_spread.all goodWord = true := by decide +kernel
theorem gw_X6_next : wsX6_next.all goodWord = true := by decide +kernel
theorem gw_X6_mayBegin : wsX6_mayBegin.all goodWord = true := by decide +kernel
theorem gw_X6_takeItem : wsX6_takeItem.all goodWord = true := by decide +kernel
theorem gw_X6_runEnd : wsX6_runEnd.all goodWord = true := by decide +kernel
theorem gw_X6_wordHere : wsX6_wordHere.all goodWord = true := by decide +kernel
theorem gw_X6_numberHere : wsX6_numberHere.all goodWord = true := by decide +kernel
theorem gw_X6_isHere : wsX6_isHere.all goodWord = true := by decide +kernel
theorem gw_J0_length_8abf5 : wsJ0_length_8abf5.all goodWord = true := by decide +kernel
theorem gw_J0_charAt_5068e : wsJ0_charAt_5068e.all goodWord = true := by decide +kernel
theorem gw_X4_init : wsX4_init.all goodWord = true := by decide +kernel
theorem gw_X6_init : wsX6_init.all goodWord = true := by decide +kernel
theorem gw_X5_init : wsX5_init.all goodWord = true := by decide +kernel
theorem gw_X3_init : wsX3_init.all goodWord = true := by decide +kernel
theorem gw_X0_init : wsX0_init.all goodWord = true := by decide +kernel
theorem gw_X7_isBreath : wsX7_isBreath.all goodWord = true := by decide +kernel
theorem gw_X7_isPrice : wsX7_isPrice.all goodWord = true := by decide +kernel
theorem gw_X7_bad : wsX7_bad.all goodWord = true := by decide +kernel
theorem gw_X4_begin : wsX4_begin.all goodWord = true := by decide +kernel
theorem gw_X7_isLength : wsX7_isLength.all goodWord = true := by decide +kernel
theorem gw_X4_hasRoom : wsX4_hasRoom.all goodWord = true := by decide +kernel
theorem gw_X7_full : wsX7_full.all goodWord = true := by decide +kernel
theorem gw_X4_addWord : wsX4_addWord.all goodWord = true := by decide +kernel
theorem gw_X7_isWithin : wsX7_isWithin.all goodWord = true := by decide +kernel
theorem gw_X4_has : wsX4_has.all goodWord = true := by decide +kernel
theorem gw_X1_isOne : wsX1_isOne.all goodWord = true := by decide +kernel
theorem gw_X4_setMark : wsX4_setMark.all goodWord = true := by decide +kernel
theorem gw_X6_add : wsX6_add.all goodWord = true := by decide +kernel
theorem gw_X6_findFault : wsX6_findFault.all goodWord = true := by decide +kernel
theorem gw_X7_tellItem : wsX7_tellItem.all goodWord = true := by decide +kernel
theorem gw_X4_copy : wsX4_copy.all goodWord = true := by decide +kernel
theorem gw_X7_no : wsX7_no.all goodWord = true := by decide +kernel
theorem gw_X4_remember : wsX4_remember.all goodWord = true := by decide +kernel
theorem gw_X4_say : wsX4_say.all goodWord = true := by decide +kernel
theorem gw_X4_goBack : wsX4_goBack.all goodWord = true := by decide +kernel
theorem gw_X4_howManySentences : wsX4_howManySentences.all goodWord = true := by decide +kernel
theorem gw_X4_longestSentence : wsX4_longestSentence.all goodWord = true := by decide +kernel
theorem gw_X5_make : wsX5_make.all goodWord = true := by decide +kernel
theorem gw_X5_isThere : wsX5_isThere.all goodWord = true := by decide +kernel
theorem gw_X5_cost : wsX5_cost.all goodWord = true := by decide +kernel
theorem gw_X5_kindBehind : wsX5_kindBehind.all goodWord = true := by decide +kernel
theorem gw_X5_reachFor : wsX5_reachFor.all goodWord = true := by decide +kernel
theorem gw_X3_search : wsX3_search.all goodWord = true := by decide +kernel
theorem gw_X4_breathsStuckAt : wsX4_breathsStuckAt.all goodWord = true := by decide +kernel
theorem gw_X4_addHeard : wsX4_addHeard.all goodWord = true := by decide +kernel
theorem gw_X4_breathsHeard : wsX4_breathsHeard.all goodWord = true := by decide +kernel
theorem gw_X7_mostAlike : wsX7_mostAlike.all goodWord = true := by decide +kernel
theorem gw_X7_isBest : wsX7_isBest.all goodWord = true := by decide +kernel
theorem gw_X0_reckon : wsX0_reckon.all goodWord = true := by decide +kernel
theorem gw_X7_countOf : wsX7_countOf.all goodWord = true := by decide +kernel
theorem gw_X4_howManyMarks : wsX4_howManyMarks.all goodWord = true := by decide +kernel
theorem gw_X7_gain : wsX7_gain.all goodWord = true := by decide +kernel
theorem gw_X8_begin : wsX8_begin.all goodWord = true := by decide +kernel
theorem gw_X8_in : wsX8_in.all goodWord = true := by decide +kernel
theorem gw_X8_isPage : wsX8_isPage.all goodWord = true := by decide +kernel
theorem gw_X8_bad : wsX8_bad.all goodWord = true := by decide +kernel
theorem gw_X8_full : wsX8_full.all goodWord = true := by decide +kernel
theorem gw_X8_add : wsX8_add.all goodWord = true := by decide +kernel
theorem gw_X8_isPiece : wsX8_isPiece.all goodWord = true := by decide +kernel
theorem gw_X8_isKind : wsX8_isKind.all goodWord = true := by decide +kernel
theorem gw_X8_ten : wsX8_ten.all goodWord = true := by decide +kernel
theorem gw_X8_mark : wsX8_mark.all goodWord = true := by decide +kernel
theorem gw_X8_here : wsX8_here.all goodWord = true := by decide +kernel
theorem gw_X8_isLetter : wsX8_isLetter.all goodWord = true := by decide +kernel
theorem gw_X8_wordSize : wsX8_wordSize.all goodWord = true := by decide +kernel
theorem gw_X8_letter : wsX8_letter.all goodWord = true := by decide +kernel
theorem gw_X8_skip : wsX8_skip.all goodWord = true := by decide +kernel
theorem gw_X8_isFigure : wsX8_isFigure.all goodWord = true := by decide +kernel
theorem gw_X8_wordHere : wsX8_wordHere.all goodWord = true := by decide +kernel
theorem gw_X8_number : wsX8_number.all goodWord = true := by decide +kernel
theorem gw_X8_readsItem : wsX8_readsItem.all goodWord = true := by decide +kernel
theorem gw_X8_readsPage : wsX8_readsPage.all goodWord = true := by decide +kernel
theorem gw_X8_refusedItem : wsX8_refusedItem.all goodWord = true := by decide +kernel
theorem gw_X8_lesser : wsX8_lesser.all goodWord = true := by decide +kernel
theorem gw_X8_greater : wsX8_greater.all goodWord = true := by decide +kernel
theorem gw_X8_costOf : wsX8_costOf.all goodWord = true := by decide +kernel
theorem gw_X8_no : wsX8_no.all goodWord = true := by decide +kernel
theorem gw_X8_notes : wsX8_notes.all goodWord = true := by decide +kernel
theorem gw_X8_givenBy : wsX8_givenBy.all goodWord = true := by decide +kernel
theorem gw_X8_dries : wsX8_dries.all goodWord = true := by decide +kernel
theorem gw_X8_stuckBy : wsX8_stuckBy.all goodWord = true := by decide +kernel
theorem gw_X8_ends : wsX8_ends.all goodWord = true := by decide +kernel
theorem gw_X8_cellOf : wsX8_cellOf.all goodWord = true := by decide +kernel
theorem gw_X8_optionsAt : wsX8_optionsAt.all goodWord = true := by decide +kernel
theorem gw_X8_costBy : wsX8_costBy.all goodWord = true := by decide +kernel
theorem gw_X8_setLeast : wsX8_setLeast.all goodWord = true := by decide +kernel
theorem gw_X8_twenty : wsX8_twenty.all goodWord = true := by decide +kernel
theorem gw_X8_readBy : wsX8_readBy.all goodWord = true := by decide +kernel
theorem gw_X8_nextLine : wsX8_nextLine.all goodWord = true := by decide +kernel
theorem gw_X8_breathSet : wsX8_breathSet.all goodWord = true := by decide +kernel
theorem gw_X8_alike : wsX8_alike.all goodWord = true := by decide +kernel
theorem gw_X8_gain : wsX8_gain.all goodWord = true := by decide +kernel
theorem gw_X8_rests : wsX8_rests.all goodWord = true := by decide +kernel
theorem gw_X8_lay : wsX8_lay.all goodWord = true := by decide +kernel
theorem gw_X8_countOf : wsX8_countOf.all goodWord = true := by decide +kernel
theorem gw_X8_mix : wsX8_mix.all goodWord = true := by decide +kernel
theorem gw_J0_coder_7d493 : wsJ0_coder_7d493.all goodWord = true := by decide +kernel
theorem gw_J0_isLatin1_aae02 : wsJ0_isLatin1_aae02.all goodWord = true := by decide +kernel
theorem gw_J1_charAt_3b067 : wsJ1_charAt_3b067.all goodWord = true := by decide +kernel
theorem gw_J2_charAt_3b067 : wsJ2_charAt_3b067.all goodWord = true := by decide +kernel
theorem gw_J3_checkIndex_8e157 : wsJ3_checkIndex_8e157.all goodWord = true := by decide +kernel
theorem gw_J0_checkIndex_df160 : wsJ0_checkIndex_df160.all goodWord = true := by decide +kernel
theorem gw_J2_length_9d52b : wsJ2_length_9d52b.all goodWord = true := by decide +kernel
theorem gw_J2_checkIndex_2214a : wsJ2_checkIndex_2214a.all goodWord = true := by decide +kernel
theorem gw_J2_getChar_3b067 : wsJ2_getChar_3b067.all goodWord = true := by decide +kernel
theorem gw_X7_init : wsX7_init.all goodWord = true := by decide +kernel
theorem gw_X8_init : wsX8_init.all goodWord = true := by decide +kernel
theorem gw_X7_page : wsX7_page.all goodWord = true := by decide +kernel
theorem gw_X8_page : wsX8_page.all goodWord = true := by decide +kernel
theorem gw_X7_word : wsX7_word.all goodWord = true := by decide +kernel
theorem gw_X8_word : wsX8_word.all goodWord = true := by decide +kernel
theorem gw_X7_breath : wsX7_breath.all goodWord = true := by decide +kernel
theorem gw_X8_breath : wsX8_breath.all goodWord = true := by decide +kernel
theorem gw_X7_price : wsX7_price.all goodWord = true := by decide +kernel
theorem gw_X8_price : wsX8_price.all goodWord = true := by decide +kernel
theorem gw_X7_purse : wsX7_purse.all goodWord = true := by decide +kernel
theorem gw_X8_purse : wsX8_purse.all goodWord = true := by decide +kernel
theorem gw_X7_put : wsX7_put.all goodWord = true := by decide +kernel
theorem gw_X8_put : wsX8_put.all goodWord = true := by decide +kernel
theorem gw_X7_type : wsX7_type.all goodWord = true := by decide +kernel
theorem gw_X8_type : wsX8_type.all goodWord = true := by decide +kernel
theorem gw_X7_clear : wsX7_clear.all goodWord = true := by decide +kernel
theorem gw_X8_clear : wsX8_clear.all goodWord = true := by decide +kernel
theorem gw_X7_read : wsX7_read.all goodWord = true := by decide +kernel
theorem gw_X8_read : wsX8_read.all goodWord = true := by decide +kernel
theorem gw_X7_buy : wsX7_buy.all goodWord = true := by decide +kernel
theorem gw_X8_buy : wsX8_buy.all goodWord = true := by decide +kernel
theorem gw_X7_sell : wsX7_sell.all goodWord = true := by decide +kernel
theorem gw_X8_sell : wsX8_sell.all goodWord = true := by decide +kernel
theorem gw_X7_readOut : wsX7_readOut.all goodWord = true := by decide +kernel
theorem gw_X8_readOut : wsX8_readOut.all goodWord = true := by decide +kernel
theorem gw_X7_week : wsX7_week.all goodWord = true := by decide +kernel
theorem gw_X8_week : wsX8_week.all goodWord = true := by decide +kernel
theorem gw_X7_undo : wsX7_undo.all goodWord = true := by decide +kernel
theorem gw_X8_undo : wsX8_undo.all goodWord = true := by decide +kernel
theorem gw_X7_of : wsX7_of.all goodWord = true := by decide +kernel
theorem gw_X8_of : wsX8_of.all goodWord = true := by decide +kernel
theorem gw_X7_costs : wsX7_costs.all goodWord = true := by decide +kernel
theorem gw_X8_costs : wsX8_costs.all goodWord = true := by decide +kernel
theorem gw_X7_gives : wsX7_gives.all goodWord = true := by decide +kernel
theorem gw_X8_gives : wsX8_gives.all goodWord = true := by decide +kernel
theorem gw_X7_stuck : wsX7_stuck.all goodWord = true := by decide +kernel
theorem gw_X8_stuck : wsX8_stuck.all goodWord = true := by decide +kernel
theorem gw_X7_sentences : wsX7_sentences.all goodWord = true := by decide +kernel
theorem gw_X8_sentences : wsX8_sentences.all goodWord = true := by decide +kernel
theorem gw_X7_cheapest : wsX7_cheapest.all goodWord = true := by decide +kernel
theorem gw_X8_cheapest : wsX8_cheapest.all goodWord = true := by decide +kernel
theorem gw_X7_reach : wsX7_reach.all goodWord = true := by decide +kernel
theorem gw_X8_reach : wsX8_reach.all goodWord = true := by decide +kernel
theorem gw_X7_order : wsX7_order.all goodWord = true := by decide +kernel
theorem gw_X8_order : wsX8_order.all goodWord = true := by decide +kernel
theorem gw_X7_heard : wsX7_heard.all goodWord = true := by decide +kernel
theorem gw_X8_heard : wsX8_heard.all goodWord = true := by decide +kernel
theorem gw_X7_forget : wsX7_forget.all goodWord = true := by decide +kernel
theorem gw_X8_forget : wsX8_forget.all goodWord = true := by decide +kernel
theorem gw_X7_breaths : wsX7_breaths.all goodWord = true := by decide +kernel
theorem gw_X8_breaths : wsX8_breaths.all goodWord = true := by decide +kernel
theorem gw_X7_shorter : wsX7_shorter.all goodWord = true := by decide +kernel
theorem gw_X8_shorter : wsX8_shorter.all goodWord = true := by decide +kernel
theorem gw_X7_bid : wsX7_bid.all goodWord = true := by decide +kernel
theorem gw_X8_bid : wsX8_bid.all goodWord = true := by decide +kernel
theorem gw_X7_odds : wsX7_odds.all goodWord = true := by decide +kernel
theorem gw_X8_odds : wsX8_odds.all goodWord = true := by decide +kernel
theorem gw_X7_drawn : wsX7_drawn.all goodWord = true := by decide +kernel
theorem gw_X8_drawn : wsX8_drawn.all goodWord = true := by decide +kernel
theorem gw_X7_part : wsX7_part.all goodWord = true := by decide +kernel
theorem gw_X8_part : wsX8_part.all goodWord = true := by decide +kernel
theorem gw_X7_image : wsX7_image.all goodWord = true := by decide +kernel
theorem gw_X8_image : wsX8_image.all goodWord = true := by decide +kernel
theorem gw_X7_from : wsX7_from.all goodWord = true := by decide +kernel
theorem gw_X8_from : wsX8_from.all goodWord = true := by decide +kernel
theorem gw_X7_status : wsX7_status.all goodWord = true := by decide +kernel
theorem gw_X8_status : wsX8_status.all goodWord = true := by decide +kernel
theorem gw_X7_count : wsX7_count.all goodWord = true := by decide +kernel
theorem gw_X8_count : wsX8_count.all goodWord = true := by decide +kernel
theorem gw_X7_digest : wsX7_digest.all goodWord = true := by decide +kernel
theorem gw_X8_digest : wsX8_digest.all goodWord = true := by decide +kernel
set_option maxRecDepth 20000 in
theorem ggX0_reckon_J7_fill_d0a16 : GoodIn wsX0_reckon wsJ7_fill_d0a16 := goodIn_r _ [10] rfl gw_J7_fill_d0a16
set_option maxRecDepth 20000 in
theorem gX0_reckon_J7_fill_d0a16 : GoodIn wsX0_reckon (va_wsS RX0 25 yJ7_fill_d0a16 wsJ7_fill_d0a16) := goodIn_app (goodIn_r _ [7, 8, 9] rfl (by decide +kernel)) ggX0_reckon_J7_fill_d0a16
set_option maxRecDepth 20000 in
theorem ggX0_reckon_X0_step : GoodIn wsX0_reckon wsX0_step := goodIn_r _ [15, 16, 17, 2, 4, 5, 1, 18, 19, 20, 21, 7, 8, 9, 10, 22, 23, 24, 25, 26, 27, 28, 29, 30, 31, 32, 39, 40, 41, 42, 43, 44, 45, 46, 47, 48, 49, 50, 51, 52, 53, 54, 55] rfl gw_X0_step
set_option maxRecDepth 20000 in
theorem gX0_reckon_X0_step : GoodIn wsX0_reckon (wsV RX0 50 RX0 yX0_step wsX0_step) := goodIn_app (goodIn_r _ [11, 12, 13, 14] rfl (by decide +kernel)) ggX0_reckon_X0_step
set_option maxRecDepth 20000 in
theorem ggX0_reckon_X0_setLowest : GoodIn wsX0_reckon wsX0_setLowest := goodIn_r _ [36, 37, 38, 39, 40, 41, 42] rfl gw_X0_setLowest
set_option maxRecDepth 20000 in
theorem gX0_reckon_X0_setLowest : GoodIn wsX0_reckon (wsV RX0 56 RX0 yX0_setLowest wsX0_setLowest) := goodIn_app (goodIn_r _ [33, 34, 35, 14] rfl (by decide +kernel)) ggX0_reckon_X0_setLowest
set_option maxRecDepth 20000 in
theorem ggX0_step_J7_fill_d0a16 : GoodIn wsX0_step wsJ7_fill_d0a16 := goodIn_r _ [14] rfl gw_J7_fill_d0a16
set_option maxRecDepth 20000 in
theorem gX0_step_J7_fill_d0a16 : GoodIn wsX0_step (va_wsS RX0 25 yJ7_fill_d0a16 wsJ7_fill_d0a16) := goodIn_app (goodIn_r _ [11, 12, 13] rfl (by decide +kernel)) ggX0_step_J7_fill_d0a16
set_option maxRecDepth 20000 in
theorem ggX0_step_X1_breathBehind : GoodIn wsX0_step wsX1_breathBehind := goodIn_r _ [18, 19, 20, 21, 22, 23, 24, 25] rfl gw_X1_breathBehind
set_option maxRecDepth 20000 in
theorem gX0_step_X1_breathBehind : GoodIn wsX0_step (va_wsS RX0 63 yX1_breathBehind wsX1_breathBehind) := goodIn_app (goodIn_r _ [15, 16, 17] rfl (by decide +kernel)) ggX0_step_X1_breathBehind
set_option maxRecDepth 20000 in
theorem ggX2_readOnce_X1_lasts : GoodIn wsX2_readOnce wsX1_lasts := goodIn_r _ [6] rfl gw_X1_lasts
set_option maxRecDepth 20000 in
theorem gX2_readOnce_X1_lasts : GoodIn wsX2_readOnce (va_wsS RX2 18 yX1_lasts wsX1_lasts) := goodIn_app (goodIn_r _ [3, 4, 5] rfl (by decide +kernel)) ggX2_readOnce_X1_lasts
set_option maxRecDepth 20000 in
theorem ggX2_readOnce_X2_set : GoodIn wsX2_readOnce wsX2_set := goodIn_r _ [11, 1, 2, 12, 13, 14, 15] rfl gw_X2_set
set_option maxRecDepth 20000 in
theorem gX2_readOnce_X2_set : GoodIn wsX2_readOnce (wsV RX2 24 RX2 yX2_set wsX2_set) := goodIn_app (goodIn_r _ [7, 8, 9, 10] rfl (by decide +kernel)) ggX2_readOnce_X2_set
set_option maxRecDepth 20000 in
theorem ggX3_search_X3_extend : GoodIn wsX3_search wsX3_extend := goodIn_r _ [8, 1, 9, 10, 4, 3, 11, 12, 13, 14, 7, 15, 2, 16, 17, 18, 19, 20, 21, 22, 23, 24, 25, 26, 27, 28, 29, 30, 31, 32, 33, 34, 35, 36, 37, 5, 6, 38, 39, 40, 41, 42, 43, 44, 45, 46, 47, 48, 49, 50, 51, 52, 53, 54] rfl gw_X3_extend
set_option maxRecDepth 20000 in
theorem gX3_search_X3_extend : GoodIn wsX3_search (va_wsS RX3 31 yX3_extend wsX3_extend) := goodIn_app (goodIn_r _ [5, 6, 7] rfl (by decide +kernel)) ggX3_search_X3_extend
set_option maxRecDepth 20000 in
theorem ggX3_extend_X3_keepRow : GoodIn wsX3_extend wsX3_keepRow := goodIn_r _ [11, 1, 6, 12, 13, 14, 15, 16, 5, 37, 38, 39, 40] rfl gw_X3_keepRow
set_option maxRecDepth 20000 in
theorem gX3_extend_X3_keepRow : GoodIn wsX3_extend (wsV RX3 38 RX3 yX3_keepRow wsX3_keepRow) := goodIn_app (goodIn_r _ [7, 8, 9, 10] rfl (by decide +kernel)) ggX3_extend_X3_keepRow
set_option maxRecDepth 20000 in
theorem ggX3_extend_X4_leftBehind : GoodIn wsX3_extend wsX4_leftBehind := goodIn_r _ [21, 22, 23, 24, 25, 26, 27, 28, 29, 30, 31, 32, 33, 34, 41, 42, 43, 44, 45, 46, 47, 48, 49, 50, 51, 52, 53] rfl gw_X4_leftBehind
set_option maxRecDepth 20000 in
theorem gX3_extend_X4_leftBehind : GoodIn wsX3_extend (wsV RX3 45 RX4 yX4_leftBehind wsX4_leftBehind) := goodIn_app (goodIn_r _ [17, 18, 19, 20] rfl (by decide +kernel)) ggX3_extend_X4_leftBehind
set_option maxRecDepth 20000 in
theorem ggX3_extend_X3_extend : GoodIn wsX3_extend wsX3_extend := goodIn_r _ [0, 1, 2, 3, 4, 5, 6, 7, 8, 9, 10, 11, 12, 13, 14, 15, 16, 17, 18, 19, 20, 21, 22, 23, 24, 25, 26, 27, 28, 29, 30, 31, 32, 33, 34, 35, 36, 37, 38, 39, 40, 41, 42, 43, 44, 45, 46, 47, 48, 49, 50, 51, 52, 53] rfl gw_X3_extend
set_option maxRecDepth 20000 in
theorem gX3_extend_X3_extend : GoodIn wsX3_extend (va_wsS RX3 31 yX3_extend wsX3_extend) := goodIn_app (goodIn_r _ [35, 36, 10] rfl (by decide +kernel)) ggX3_extend_X3_extend
set_option maxRecDepth 20000 in
theorem ggX4_init_X2_init : GoodIn wsX4_init wsX2_init := goodIn_r _ [15, 16, 2, 3, 6, 17, 18, 28, 29, 30, 31] rfl gw_X2_init
set_option maxRecDepth 20000 in
theorem gX4_init_X2_init_n24 : GoodIn wsX4_init (wsX2_init) := ggX4_init_X2_init
set_option maxRecDepth 20000 in
theorem ggX4_copy_X2_copy : GoodIn wsX4_copy wsX2_copy := goodIn_r _ [18, 19, 20, 21, 22, 8, 9, 10, 23, 33, 34, 35, 36] rfl gw_X2_copy
set_option maxRecDepth 20000 in
theorem gX4_copy_X2_copy : GoodIn wsX4_copy (wsV RX4 57 RX2 yX2_copy wsX2_copy) := goodIn_app (goodIn_r _ [14, 15, 16, 17] rfl (by decide +kernel)) ggX4_copy_X2_copy
set_option maxRecDepth 20000 in
theorem ggX4_addWord_X2_set : GoodIn wsX4_addWord wsX2_set := goodIn_r _ [9, 10, 11, 21, 22, 23, 24] rfl gw_X2_set
set_option maxRecDepth 20000 in
theorem gX4_addWord_X2_set : GoodIn wsX4_addWord (wsV RX4 61 RX2 yX2_set wsX2_set) := goodIn_app (goodIn_r _ [5, 6, 7, 8] rfl (by decide +kernel)) ggX4_addWord_X2_set
set_option maxRecDepth 20000 in
theorem ggX4_setMark_X2_set : GoodIn wsX4_setMark wsX2_set := goodIn_r _ [7, 8, 9, 19, 20, 21, 22] rfl gw_X2_set
set_option maxRecDepth 20000 in
theorem gX4_setMark_X2_set : GoodIn wsX4_setMark (wsV RX4 61 RX2 yX2_set wsX2_set) := goodIn_app (goodIn_r _ [3, 4, 5, 6] rfl (by decide +kernel)) ggX4_setMark_X2_set
set_option maxRecDepth 20000 in
theorem ggX4_costOf_X1_cost : GoodIn wsX4_costOf wsX1_cost := goodIn_r _ [7] rfl gw_X1_cost
set_option maxRecDepth 20000 in
theorem gX4_costOf_X1_cost : GoodIn wsX4_costOf (va_wsS RX4 65 yX1_cost wsX1_cost) := goodIn_app (goodIn_r _ [4, 5, 6] rfl (by decide +kernel)) ggX4_costOf_X1_cost
set_option maxRecDepth 20000 in
theorem ggX4_remember_X4_dropOldest : GoodIn wsX4_remember wsX4_dropOldest := goodIn_r _ [8, 2, 1, 22, 23, 24, 25, 26, 27, 28, 29, 30] rfl gw_X4_dropOldest
set_option maxRecDepth 20000 in
theorem gX4_remember_X4_dropOldest : GoodIn wsX4_remember (wsV RX4 74 RX4 yX4_dropOldest wsX4_dropOldest) := goodIn_app (goodIn_r _ [4, 5, 6, 7] rfl (by decide +kernel)) ggX4_remember_X4_dropOldest
set_option maxRecDepth 20000 in
theorem ggX4_remember_X2_copy : GoodIn wsX4_remember wsX2_copy := goodIn_r _ [13, 14, 15, 16, 17, 18, 19, 20, 21, 31, 32, 33, 34] rfl gw_X2_copy
set_option maxRecDepth 20000 in
theorem gX4_remember_X2_copy : GoodIn wsX4_remember (wsV RX4 57 RX2 yX2_copy wsX2_copy) := goodIn_app (goodIn_r _ [9, 10, 11, 12] rfl (by decide +kernel)) ggX4_remember_X2_copy
set_option maxRecDepth 20000 in
theorem ggX4_goBack_X2_copy : GoodIn wsX4_goBack wsX2_copy := goodIn_r _ [8, 9, 10, 11, 12, 13, 14, 15, 16, 26, 27, 28, 29] rfl gw_X2_copy
set_option maxRecDepth 20000 in
theorem gX4_goBack_X2_copy : GoodIn wsX4_goBack (wsV RX4 57 RX2 yX2_copy wsX2_copy) := goodIn_app (goodIn_r _ [4, 5, 6, 7] rfl (by decide +kernel)) ggX4_goBack_X2_copy
set_option maxRecDepth 20000 in
theorem ggX4_leftBehind_X1_breathBehind : GoodIn wsX4_leftBehind wsX1_breathBehind := goodIn_r _ [6, 7, 8, 9, 10, 11, 12, 13] rfl gw_X1_breathBehind
set_option maxRecDepth 20000 in
theorem gX4_leftBehind_X1_breathBehind : GoodIn wsX4_leftBehind (va_wsS RX4 77 yX1_breathBehind wsX1_breathBehind) := goodIn_app (goodIn_r _ [3, 4, 5] rfl (by decide +kernel)) ggX4_leftBehind_X1_breathBehind
set_option maxRecDepth 20000 in
theorem ggX4_say_X4_leftBehind : GoodIn wsX4_say wsX4_leftBehind := goodIn_r _ [9, 4, 10, 11, 12, 13, 14, 15, 16, 17, 18, 19, 20, 21, 36, 37, 38, 39, 40, 41, 42, 43, 44, 45, 46, 47, 48] rfl gw_X4_leftBehind
set_option maxRecDepth 20000 in
theorem gX4_say_X4_leftBehind : GoodIn wsX4_say (wsV RX4 80 RX4 yX4_leftBehind wsX4_leftBehind) := goodIn_app (goodIn_r _ [5, 6, 7, 8] rfl (by decide +kernel)) ggX4_say_X4_leftBehind
set_option maxRecDepth 20000 in
theorem ggX4_say_X2_readOnce : GoodIn wsX4_say wsX2_readOnce := goodIn_r _ [26, 27, 28, 29, 30, 13, 31, 32, 33, 34, 25, 35, 45, 46, 47, 48] rfl gw_X2_readOnce
set_option maxRecDepth 20000 in
theorem gX4_say_X2_readOnce : GoodIn wsX4_say (wsV RX4 84 RX2 yX2_readOnce wsX2_readOnce) := goodIn_app (goodIn_r _ [22, 23, 24, 25] rfl (by decide +kernel)) ggX4_say_X2_readOnce
set_option maxRecDepth 20000 in
theorem ggX4_stuckAt_X4_leftBehind : GoodIn wsX4_stuckAt wsX4_leftBehind := goodIn_r _ [7, 8, 9, 10, 11, 12, 13, 14, 15, 16, 17, 18, 19, 20, 21, 22, 23, 24, 25, 26, 27, 28, 29, 30, 31, 32, 33] rfl gw_X4_leftBehind
set_option maxRecDepth 20000 in
theorem gX4_stuckAt_X4_leftBehind : GoodIn wsX4_stuckAt (wsV RX4 80 RX4 yX4_leftBehind wsX4_leftBehind) := goodIn_app (goodIn_r _ [3, 4, 5, 6] rfl (by decide +kernel)) ggX4_stuckAt_X4_leftBehind
set_option maxRecDepth 20000 in
theorem ggX4_breathsStuckAt_X4_stuckAt : GoodIn wsX4_breathsStuckAt wsX4_stuckAt := goodIn_r _ [5, 6, 7, 8, 9, 10, 4, 11, 12, 13, 14, 15, 16, 17, 18, 19, 20, 21, 22, 23, 24, 25, 26, 27, 28, 29, 30, 31, 32, 33, 34, 35, 36, 37] rfl gw_X4_stuckAt
set_option maxRecDepth 20000 in
theorem gX4_breathsStuckAt_X4_stuckAt : GoodIn wsX4_breathsStuckAt (wsV RX4 88 RX4 yX4_stuckAt wsX4_stuckAt) := goodIn_app (goodIn_r _ [1, 2, 3, 4] rfl (by decide +kernel)) ggX4_breathsStuckAt_X4_stuckAt
set_option maxRecDepth 20000 in
theorem ggX4_lastIsEnded_X1_ends : GoodIn wsX4_lastIsEnded wsX1_ends := goodIn_r _ [7] rfl gw_X1_ends
set_option maxRecDepth 20000 in
theorem gX4_lastIsEnded_X1_ends : GoodIn wsX4_lastIsEnded (va_wsS RX4 93 yX1_ends wsX1_ends) := goodIn_app (goodIn_r _ [4, 5, 6] rfl (by decide +kernel)) ggX4_lastIsEnded_X1_ends
set_option maxRecDepth 20000 in
theorem ggX4_howManySentences_X1_ends : GoodIn wsX4_howManySentences wsX1_ends := goodIn_r _ [7] rfl gw_X1_ends
set_option maxRecDepth 20000 in
theorem gX4_howManySentences_X1_ends : GoodIn wsX4_howManySentences (va_wsS RX4 93 yX1_ends wsX1_ends) := goodIn_app (goodIn_r _ [4, 5, 6] rfl (by decide +kernel)) ggX4_howManySentences_X1_ends
set_option maxRecDepth 20000 in
theorem ggX4_howManySentences_X4_lastIsEnded : GoodIn wsX4_howManySentences wsX4_lastIsEnded := goodIn_r _ [12, 1, 2, 3, 4, 5, 6, 7, 13, 14, 15, 16, 17, 18, 19, 20, 21, 22, 23, 24, 25] rfl gw_X4_lastIsEnded
set_option maxRecDepth 20000 in
theorem gX4_howManySentences_X4_lastIsEnded : GoodIn wsX4_howManySentences (wsV RX4 97 RX4 yX4_lastIsEnded wsX4_lastIsEnded) := goodIn_app (goodIn_r _ [8, 9, 10, 11] rfl (by decide +kernel)) ggX4_howManySentences_X4_lastIsEnded
set_option maxRecDepth 20000 in
theorem ggX4_longestSentence_X1_ends : GoodIn wsX4_longestSentence wsX1_ends := goodIn_r _ [7] rfl gw_X1_ends
set_option maxRecDepth 20000 in
theorem gX4_longestSentence_X1_ends : GoodIn wsX4_longestSentence (va_wsS RX4 93 yX1_ends wsX1_ends) := goodIn_app (goodIn_r _ [4, 5, 6] rfl (by decide +kernel)) ggX4_longestSentence_X1_ends
set_option maxRecDepth 20000 in
theorem ggX5_make_J7_fill_53178 : GoodIn wsX5_make wsJ7_fill_53178 := goodIn_r _ [10] rfl gw_J7_fill_53178
set_option maxRecDepth 20000 in
theorem gX5_make_J7_fill_53178 : GoodIn wsX5_make (va_wsS RX5 35 yJ7_fill_53178 wsJ7_fill_53178) := goodIn_app (goodIn_r _ [7, 8, 9] rfl (by decide +kernel)) ggX5_make_J7_fill_53178
set_option maxRecDepth 20000 in
theorem ggX5_make_X5_choose : GoodIn wsX5_make wsX5_choose := goodIn_r _ [15, 16, 17, 6, 2, 3, 4, 5, 18, 19, 20, 21, 22, 23, 24, 25, 26, 27, 28, 29, 30, 31, 32, 33, 34, 35, 36, 37, 38, 39, 40, 41, 42, 43, 44, 45, 46, 47, 48, 49, 50, 51, 57, 58, 59, 60, 52, 53, 54, 55, 56] rfl gw_X5_choose
set_option maxRecDepth 20000 in
theorem gX5_make_X5_choose : GoodIn wsX5_make (wsV RX5 45 RX5 yX5_choose wsX5_choose) := goodIn_app (goodIn_r _ [11, 12, 13, 14] rfl (by decide +kernel)) ggX5_make_X5_choose
set_option maxRecDepth 20000 in
theorem ggX5_choose_X1_breathBehind : GoodIn wsX5_choose wsX1_breathBehind := goodIn_r _ [11, 12, 13, 14, 15, 16, 17, 18] rfl gw_X1_breathBehind
set_option maxRecDepth 20000 in
theorem gX5_choose_X1_breathBehind : GoodIn wsX5_choose (va_wsS RX5 60 yX1_breathBehind wsX1_breathBehind) := goodIn_app (goodIn_r _ [8, 9, 10] rfl (by decide +kernel)) ggX5_choose_X1_breathBehind
set_option maxRecDepth 20000 in
theorem ggX5_choose_X4_costOf : GoodIn wsX5_choose wsX4_costOf := goodIn_r _ [23, 24, 25, 26, 27, 28, 10, 29, 33, 34, 35, 36, 37, 38, 39, 40, 41, 42, 43, 44, 45] rfl gw_X4_costOf
set_option maxRecDepth 20000 in
theorem gX5_choose_X4_costOf : GoodIn wsX5_choose (wsV RX5 64 RX4 yX4_costOf wsX4_costOf) := goodIn_app (goodIn_r _ [19, 20, 21, 22] rfl (by decide +kernel)) ggX5_choose_X4_costOf
set_option maxRecDepth 20000 in
theorem ggX5_choose_X1_ends : GoodIn wsX5_choose wsX1_ends := goodIn_r _ [32] rfl gw_X1_ends
set_option maxRecDepth 20000 in
theorem gX5_choose_X1_ends : GoodIn wsX5_choose (va_wsS RX5 68 yX1_ends wsX1_ends) := goodIn_app (goodIn_r _ [30, 31, 10] rfl (by decide +kernel)) ggX5_choose_X1_ends
set_option maxRecDepth 20000 in
theorem ggX5_kindBehind_X1_breathBehind : GoodIn wsX5_kindBehind wsX1_breathBehind := goodIn_r _ [8, 9, 10, 11, 12, 13, 14, 15] rfl gw_X1_breathBehind
set_option maxRecDepth 20000 in
theorem gX5_kindBehind_X1_breathBehind : GoodIn wsX5_kindBehind (va_wsS RX5 60 yX1_breathBehind wsX1_breathBehind) := goodIn_app (goodIn_r _ [5, 6, 7] rfl (by decide +kernel)) ggX5_kindBehind_X1_breathBehind
set_option maxRecDepth 20000 in
theorem ggX5_reachFor_J7_fill_53178 : GoodIn wsX5_reachFor wsJ7_fill_53178 := goodIn_r _ [14] rfl gw_J7_fill_53178
set_option maxRecDepth 20000 in
theorem gX5_reachFor_J7_fill_53178 : GoodIn wsX5_reachFor (va_wsS RX5 35 yJ7_fill_53178 wsJ7_fill_53178) := goodIn_app (goodIn_r _ [11, 12, 13] rfl (by decide +kernel)) ggX5_reachFor_J7_fill_53178
set_option maxRecDepth 20000 in
theorem ggX5_reachFor_X5_spread : GoodIn wsX5_reachFor wsX5_spread := goodIn_r _ [19, 20, 21, 6, 3, 5, 1, 22, 23, 24, 25, 26, 27, 28, 29, 30, 31, 32, 33, 34, 35, 36, 37, 38, 39, 40, 41, 42, 43, 44, 50, 51, 52, 53, 54, 55, 56, 57, 58, 59, 60, 61, 62, 45, 46, 47, 48, 49] rfl gw_X5_spread
set_option maxRecDepth 20000 in
theorem gX5_reachFor_X5_spread : GoodIn wsX5_reachFor (wsV RX5 75 RX5 yX5_spread wsX5_spread) := goodIn_app (goodIn_r _ [15, 16, 17, 18] rfl (by decide +kernel)) ggX5_reachFor_X5_spread
set_option maxRecDepth 20000 in
theorem ggX5_spread_X1_breathBehind : GoodIn wsX5_spread wsX1_breathBehind := goodIn_r _ [14, 15, 8, 9, 10, 16, 17, 18] rfl gw_X1_breathBehind
set_option maxRecDepth 20000 in
theorem gX5_spread_X1_breathBehind : GoodIn wsX5_spread (va_wsS RX5 60 yX1_breathBehind wsX1_breathBehind) := goodIn_app (goodIn_r _ [11, 12, 13] rfl (by decide +kernel)) ggX5_spread_X1_breathBehind
set_option maxRecDepth 20000 in
theorem ggX5_spread_X4_costOf : GoodIn wsX5_spread wsX4_costOf := goodIn_r _ [23, 24, 25, 26, 27, 28, 13, 29, 30, 31, 32, 33, 34, 35, 36, 37, 38, 39, 40, 41, 42] rfl gw_X4_costOf
set_option maxRecDepth 20000 in
theorem gX5_spread_X4_costOf : GoodIn wsX5_spread (wsV RX5 64 RX4 yX4_costOf wsX4_costOf) := goodIn_app (goodIn_r _ [19, 20, 21, 22] rfl (by decide +kernel)) ggX5_spread_X4_costOf
set_option maxRecDepth 20000 in
theorem ggX6_findFault_X6_next : GoodIn wsX6_findFault wsX6_next := goodIn_r _ [10, 1, 4, 5, 3, 11, 12, 13, 14, 9, 15, 16, 17, 18, 19, 20, 21, 22, 23, 24, 25, 26, 27, 28, 29, 30, 31, 32, 33, 34, 35, 36, 37, 38, 39, 40, 41, 42, 43, 44, 45, 46, 47, 48, 49, 50, 51, 52, 53, 54, 55, 56, 57, 58, 59, 60, 61, 62, 63, 64, 65, 66, 67, 68, 69, 70, 71, 72, 73, 74, 75, 76, 77, 89, 90, 91, 92, 93, 94, 95, 96, 97, 98] rfl gw_X6_next
set_option maxRecDepth 20000 in
theorem gX6_findFault_X6_next : GoodIn wsX6_findFault (wsV RX6 31 RX6 yX6_next wsX6_next) := goodIn_app (goodIn_r _ [6, 7, 8, 9] rfl (by decide +kernel)) ggX6_findFault_X6_next
set_option maxRecDepth 20000 in
theorem ggX6_findFault_X6_mayBegin : GoodIn wsX6_findFault wsX6_mayBegin := goodIn_r _ [81, 2, 3, 89, 90, 91, 92, 93, 94, 95, 96, 97, 98] rfl gw_X6_mayBegin
set_option maxRecDepth 20000 in
theorem gX6_findFault_X6_mayBegin : GoodIn wsX6_findFault (wsV RX6 40 RX6 yX6_mayBegin wsX6_mayBegin) := goodIn_app (goodIn_r _ [78, 79, 80, 9] rfl (by decide +kernel)) ggX6_findFault_X6_mayBegin
set_option maxRecDepth 20000 in
theorem ggX6_findFault_X6_takeItem : GoodIn wsX6_findFault wsX6_takeItem := goodIn_r _ [85, 86, 2, 3, 87, 77, 88, 6, 7, 8, 9, 10, 1, 4, 5, 11, 12, 13, 14, 15, 16, 17, 18, 19, 20, 21, 22, 23, 24, 25, 26, 27, 28, 29, 30, 31, 32, 33, 34, 35, 36, 37, 38, 39, 40, 41, 42, 43, 44, 45, 46, 47, 48, 49, 50, 51, 52, 53, 54, 55, 56, 57, 58, 59, 60, 61, 62, 63, 64, 65, 66, 67, 68, 69, 70, 71, 72, 73, 74, 75, 76, 89, 90, 91, 92, 93, 94, 95, 96, 97, 98] rfl gw_X6_takeItem
set_option maxRecDepth 20000 in
theorem gX6_findFault_X6_takeItem : GoodIn wsX6_findFault (wsV RX6 44 RX6 yX6_takeItem wsX6_takeItem) := goodIn_app (goodIn_r _ [82, 83, 84, 9] rfl (by decide +kernel)) ggX6_findFault_X6_takeItem
set_option maxRecDepth 20000 in
theorem ggX6_takeItem_X6_next : GoodIn wsX6_takeItem wsX6_next := goodIn_r _ [11, 12, 13, 14, 3, 15, 16, 17, 18, 10, 19, 20, 21, 22, 23, 24, 25, 26, 27, 28, 29, 30, 31, 32, 33, 34, 35, 36, 37, 38, 39, 40, 41, 42, 43, 44, 45, 46, 47, 48, 49, 50, 51, 52, 53, 54, 55, 56, 57, 58, 59, 60, 61, 62, 63, 64, 65, 66, 67, 68, 69, 70, 71, 72, 73, 74, 75, 76, 77, 78, 79, 80, 5, 81, 82, 83, 84, 85, 86, 87, 88, 89, 90] rfl gw_X6_next
set_option maxRecDepth 20000 in
theorem gX6_takeItem_X6_next : GoodIn wsX6_takeItem (wsV RX6 31 RX6 yX6_next wsX6_next) := goodIn_app (goodIn_r _ [7, 8, 9, 10] rfl (by decide +kernel)) ggX6_takeItem_X6_next
set_option maxRecDepth 20000 in
theorem ggX6_next_X6_runEnd : GoodIn wsX6_next wsX6_runEnd := goodIn_r _ [10, 3, 5, 73, 74, 75, 76, 77, 78, 79, 80, 81, 82] rfl gw_X6_runEnd
set_option maxRecDepth 20000 in
theorem gX6_next_X6_runEnd : GoodIn wsX6_next (wsV RX6 53 RX6 yX6_runEnd wsX6_runEnd) := goodIn_app (goodIn_r _ [6, 7, 8, 9] rfl (by decide +kernel)) ggX6_next_X6_runEnd
set_option maxRecDepth 20000 in
theorem ggX6_next_X6_wordHere : GoodIn wsX6_next wsX6_wordHere := goodIn_r _ [14, 15, 16, 17, 9, 18, 1, 2, 5, 19, 20, 21, 22, 23, 24, 25, 26, 27, 28, 29, 30, 31, 32, 33, 34, 35, 36, 37, 38, 39, 40, 41, 42, 43, 44, 45, 46, 47, 48, 49, 50, 51, 52, 53, 54, 55, 56, 57, 58, 59, 60, 61, 62, 63, 64, 65, 66, 67, 73, 74, 75, 76, 77, 78, 79, 80, 81, 82] rfl gw_X6_wordHere
set_option maxRecDepth 20000 in
theorem gX6_next_X6_wordHere : GoodIn wsX6_next (wsV RX6 57 RX6 yX6_wordHere wsX6_wordHere) := goodIn_app (goodIn_r _ [11, 12, 13, 9] rfl (by decide +kernel)) ggX6_next_X6_wordHere
set_option maxRecDepth 20000 in
theorem ggX6_next_X6_numberHere : GoodIn wsX6_next wsX6_numberHere := goodIn_r _ [71, 1, 2, 72, 5, 73, 74, 75, 76, 77, 78, 79, 80, 81, 82] rfl gw_X6_numberHere
set_option maxRecDepth 20000 in
theorem gX6_next_X6_numberHere : GoodIn wsX6_next (wsV RX6 61 RX6 yX6_numberHere wsX6_numberHere) := goodIn_app (goodIn_r _ [68, 69, 70, 9] rfl (by decide +kernel)) ggX6_next_X6_numberHere
set_option maxRecDepth 20000 in
theorem ggX6_wordHere_X6_isHere : GoodIn wsX6_wordHere wsX6_isHere := goodIn_r _ [5, 6, 7, 8, 9, 10, 11, 12, 13, 14, 15, 16, 17, 18, 19, 20, 21, 22, 23, 24, 25, 26, 27, 28, 29, 30, 31, 32, 33, 34, 35, 36, 37, 38, 39, 40, 41, 42, 43, 44, 45, 46, 47, 48, 49, 50, 51, 52, 53, 54, 55, 56, 57, 58, 59, 60, 61, 62, 63, 64, 65, 66, 67] rfl gw_X6_isHere
set_option maxRecDepth 20000 in
theorem gX6_wordHere_X6_isHere : GoodIn wsX6_wordHere (wsV RX6 66 RX6 yX6_isHere wsX6_isHere) := goodIn_app (goodIn_r _ [1, 2, 3, 4] rfl (by decide +kernel)) ggX6_wordHere_X6_isHere
set_option maxRecDepth 20000 in
theorem ggX6_isHere_J0_length_8abf5 : GoodIn wsX6_isHere wsJ0_length_8abf5 := goodIn_r _ [8, 9, 10, 11, 12, 7, 13, 14, 15] rfl gw_J0_length_8abf5
set_option maxRecDepth 20000 in
theorem gX6_isHere_J0_length_8abf5 : GoodIn wsX6_isHere (wsV RX6 74 RJ0 yJ0_length_8abf5 wsJ0_length_8abf5) := goodIn_app (goodIn_r _ [4, 5, 6, 7] rfl (by decide +kernel)) ggX6_isHere_J0_length_8abf5
set_option maxRecDepth 20000 in
theorem ggX6_isHere_J0_charAt_5068e : GoodIn wsX6_isHere wsJ0_charAt_5068e := goodIn_r _ [19, 9, 20, 21, 22, 7, 23, 14, 15, 24, 25, 26, 27, 28, 29, 30, 31, 32, 33, 34, 35, 36, 37, 38, 39, 40, 41, 42, 43, 44, 45, 46, 47, 48, 49, 50, 51, 52] rfl gw_J0_charAt_5068e
set_option maxRecDepth 20000 in
theorem gX6_isHere_J0_charAt_5068e : GoodIn wsX6_isHere (wsV RX6 79 RJ0 yJ0_charAt_5068e wsJ0_charAt_5068e) := goodIn_app (goodIn_r _ [16, 17, 18, 7] rfl (by decide +kernel)) ggX6_isHere_J0_charAt_5068e
set_option maxRecDepth 20000 in
theorem ggX7_init_X4_init : GoodIn wsX7_init wsX4_init := goodIn_r _ [32, 33, 2, 3, 34, 35, 28, 36, 37, 38, 39, 40, 41, 42, 43, 44, 45, 46, 47, 78, 79, 80, 81, 82, 83, 84, 85, 86, 122, 123, 124, 125] rfl gw_X4_init
set_option maxRecDepth 20000 in
theorem gX7_init_X4_init : GoodIn wsX7_init (wsX4_init) := ggX7_init_X4_init
set_option maxRecDepth 20000 in
theorem ggX7_init_X6_init : GoodIn wsX7_init wsX6_init := goodIn_r _ [49, 50, 2, 3, 28, 51, 52, 53, 54, 99, 100, 101, 102, 103, 104, 105, 106, 107, 108] rfl gw_X6_init
set_option maxRecDepth 20000 in
theorem gX7_init_X6_init_n29 : GoodIn wsX7_init (wsX6_init) := ggX7_init_X6_init
set_option maxRecDepth 20000 in
theorem ggX7_init_X5_init : GoodIn wsX7_init wsX5_init := goodIn_r _ [56, 57, 2, 3, 58, 28, 59, 60, 61, 62, 63, 109, 110, 111, 112, 113] rfl gw_X5_init
set_option maxRecDepth 20000 in
theorem gX7_init_X5_init_n36 : GoodIn wsX7_init (wsX5_init) := ggX7_init_X5_init
set_option maxRecDepth 20000 in
theorem ggX7_init_X3_init : GoodIn wsX7_init wsX3_init := goodIn_r _ [65, 66, 2, 3, 28, 67, 68, 10, 69, 114, 115, 116, 117] rfl gw_X3_init
set_option maxRecDepth 20000 in
theorem gX7_init_X3_init_n43 : GoodIn wsX7_init (wsX3_init) := ggX7_init_X3_init
set_option maxRecDepth 20000 in
theorem ggX7_init_X0_init : GoodIn wsX7_init wsX0_init := goodIn_r _ [71, 72, 2, 3, 73, 74, 75, 76, 77, 118, 119, 120, 121] rfl gw_X0_init
set_option maxRecDepth 20000 in
theorem gX7_init_X0_init_n50 : GoodIn wsX7_init (wsX0_init) := ggX7_init_X0_init
set_option maxRecDepth 20000 in
theorem ggX7_page_X7_isBreath : GoodIn wsX7_page wsX7_isBreath := goodIn_r _ [6, 7, 8, 5, 9] rfl gw_X7_isBreath
set_option maxRecDepth 20000 in
theorem gX7_page_X7_isBreath : GoodIn wsX7_page (va_wsS RX7 59 yX7_isBreath wsX7_isBreath) := goodIn_app (goodIn_r _ [3, 4, 5] rfl (by decide +kernel)) ggX7_page_X7_isBreath
set_option maxRecDepth 20000 in
theorem ggX7_page_X7_isPrice : GoodIn wsX7_page wsX7_isPrice := goodIn_r _ [12, 7, 8, 5, 9] rfl gw_X7_isPrice
set_option maxRecDepth 20000 in
theorem gX7_page_X7_isPrice : GoodIn wsX7_page (va_wsS RX7 63 yX7_isPrice wsX7_isPrice) := goodIn_app (goodIn_r _ [10, 11, 5] rfl (by decide +kernel)) ggX7_page_X7_isPrice
set_option maxRecDepth 20000 in
theorem ggX7_page_X7_bad : GoodIn wsX7_page wsX7_bad := goodIn_r _ [16, 17, 31, 32, 33, 34, 35, 36, 37, 38, 39, 40, 41, 42] rfl gw_X7_bad
set_option maxRecDepth 20000 in
theorem gX7_page_X7_bad : GoodIn wsX7_page (wsV RX7 66 RX7 yX7_bad wsX7_bad) := goodIn_app (goodIn_r _ [13, 14, 15, 5] rfl (by decide +kernel)) ggX7_page_X7_bad
set_option maxRecDepth 20000 in
theorem ggX7_page_X4_begin : GoodIn wsX7_page wsX4_begin := goodIn_r _ [22, 23, 24, 25, 26, 27, 28, 29, 30, 43, 44, 45, 46, 47, 48, 49, 50, 51, 52, 53, 54, 55] rfl gw_X4_begin
set_option maxRecDepth 20000 in
theorem gX7_page_X4_begin : GoodIn wsX7_page (wsV RX7 74 RX4 yX4_begin wsX4_begin) := goodIn_app (goodIn_r _ [18, 19, 20, 21] rfl (by decide +kernel)) ggX7_page_X4_begin
set_option maxRecDepth 20000 in
theorem ggX7_word_X7_isLength : GoodIn wsX7_word wsX7_isLength := goodIn_r _ [6, 7, 8, 5, 9] rfl gw_X7_isLength
set_option maxRecDepth 20000 in
theorem gX7_word_X7_isLength : GoodIn wsX7_word (va_wsS RX7 78 yX7_isLength wsX7_isLength) := goodIn_app (goodIn_r _ [3, 4, 5] rfl (by decide +kernel)) ggX7_word_X7_isLength
set_option maxRecDepth 20000 in
theorem ggX7_word_X7_bad : GoodIn wsX7_word wsX7_bad := goodIn_r _ [13, 14, 40, 41, 42, 43, 44, 45, 46, 47, 48, 49, 50, 51] rfl gw_X7_bad
set_option maxRecDepth 20000 in
theorem gX7_word_X7_bad : GoodIn wsX7_word (wsV RX7 66 RX7 yX7_bad wsX7_bad) := goodIn_app (goodIn_r _ [10, 11, 12, 5] rfl (by decide +kernel)) ggX7_word_X7_bad
set_option maxRecDepth 20000 in
theorem ggX7_word_X4_hasRoom : GoodIn wsX7_word wsX4_hasRoom := goodIn_r _ [19, 20, 52, 53, 54, 55, 56, 57, 58, 59, 60] rfl gw_X4_hasRoom
set_option maxRecDepth 20000 in
theorem gX7_word_X4_hasRoom : GoodIn wsX7_word (wsV RX7 81 RX4 yX4_hasRoom wsX4_hasRoom) := goodIn_app (goodIn_r _ [15, 16, 17, 18] rfl (by decide +kernel)) ggX7_word_X4_hasRoom
set_option maxRecDepth 20000 in
theorem ggX7_word_X7_full : GoodIn wsX7_word wsX7_full := goodIn_r _ [24, 25, 40, 41, 42, 43, 44, 45, 46, 47, 48, 49, 50, 51] rfl gw_X7_full
set_option maxRecDepth 20000 in
theorem gX7_word_X7_full : GoodIn wsX7_word (wsV RX7 85 RX7 yX7_full wsX7_full) := goodIn_app (goodIn_r _ [21, 22, 23, 5] rfl (by decide +kernel)) ggX7_word_X7_full
set_option maxRecDepth 20000 in
theorem ggX7_word_X4_addWord : GoodIn wsX7_word wsX4_addWord := goodIn_r _ [29, 30, 20, 31, 32, 33, 34, 35, 36, 37, 38, 39, 52, 53, 54, 55, 56, 57, 58, 59, 60, 61, 62, 63, 64] rfl gw_X4_addWord
set_option maxRecDepth 20000 in
theorem gX7_word_X4_addWord : GoodIn wsX7_word (wsV RX7 88 RX4 yX4_addWord wsX4_addWord) := goodIn_app (goodIn_r _ [26, 27, 28, 18] rfl (by decide +kernel)) ggX7_word_X4_addWord
set_option maxRecDepth 20000 in
theorem ggX7_breath_X7_isBreath : GoodIn wsX7_breath wsX7_isBreath := goodIn_r _ [6, 7, 8, 5, 9] rfl gw_X7_isBreath
set_option maxRecDepth 20000 in
theorem gX7_breath_X7_isBreath : GoodIn wsX7_breath (va_wsS RX7 59 yX7_isBreath wsX7_isBreath) := goodIn_app (goodIn_r _ [3, 4, 5] rfl (by decide +kernel)) ggX7_breath_X7_isBreath
set_option maxRecDepth 20000 in
theorem ggX7_breath_X7_bad : GoodIn wsX7_breath wsX7_bad := goodIn_r _ [13, 14, 15, 16, 17, 18, 19, 20, 21, 22, 23, 24, 25, 26] rfl gw_X7_bad
set_option maxRecDepth 20000 in
theorem gX7_breath_X7_bad : GoodIn wsX7_breath (wsV RX7 66 RX7 yX7_bad wsX7_bad) := goodIn_app (goodIn_r _ [10, 11, 12, 5] rfl (by decide +kernel)) ggX7_breath_X7_bad
set_option maxRecDepth 20000 in
theorem ggX7_price_X7_isPrice : GoodIn wsX7_price wsX7_isPrice := goodIn_r _ [6, 7, 8, 5, 9] rfl gw_X7_isPrice
set_option maxRecDepth 20000 in
theorem gX7_price_X7_isPrice : GoodIn wsX7_price (va_wsS RX7 63 yX7_isPrice wsX7_isPrice) := goodIn_app (goodIn_r _ [3, 4, 5] rfl (by decide +kernel)) ggX7_price_X7_isPrice
set_option maxRecDepth 20000 in
theorem ggX7_price_X7_bad : GoodIn wsX7_price wsX7_bad := goodIn_r _ [13, 14, 15, 16, 17, 18, 19, 20, 21, 22, 23, 24, 25, 26] rfl gw_X7_bad
set_option maxRecDepth 20000 in
theorem gX7_price_X7_bad : GoodIn wsX7_price (wsV RX7 66 RX7 yX7_bad wsX7_bad) := goodIn_app (goodIn_r _ [10, 11, 12, 5] rfl (by decide +kernel)) ggX7_price_X7_bad
set_option maxRecDepth 20000 in
theorem ggX7_purse_X7_isWithin : GoodIn wsX7_purse wsX7_isWithin := goodIn_r _ [7] rfl gw_X7_isWithin
set_option maxRecDepth 20000 in
theorem gX7_purse_X7_isWithin : GoodIn wsX7_purse (va_wsS RX7 98 yX7_isWithin wsX7_isWithin) := goodIn_app (goodIn_r _ [4, 5, 6] rfl (by decide +kernel)) ggX7_purse_X7_isWithin
set_option maxRecDepth 20000 in
theorem ggX7_purse_X7_bad : GoodIn wsX7_purse wsX7_bad := goodIn_r _ [11, 12, 13, 14, 15, 16, 17, 18, 19, 20, 21, 22, 23, 24] rfl gw_X7_bad
set_option maxRecDepth 20000 in
theorem gX7_purse_X7_bad : GoodIn wsX7_purse (wsV RX7 66 RX7 yX7_bad wsX7_bad) := goodIn_app (goodIn_r _ [8, 9, 10, 6] rfl (by decide +kernel)) ggX7_purse_X7_bad
set_option maxRecDepth 20000 in
theorem ggX7_put_X4_has : GoodIn wsX7_put wsX4_has := goodIn_r _ [8, 9, 45, 46, 47, 48, 49, 50, 51, 52, 53] rfl gw_X4_has
set_option maxRecDepth 20000 in
theorem gX7_put_X4_has : GoodIn wsX7_put (wsV RX7 111 RX4 yX4_has wsX4_has) := goodIn_app (goodIn_r _ [4, 5, 6, 7] rfl (by decide +kernel)) ggX7_put_X4_has
set_option maxRecDepth 20000 in
theorem ggX7_put_X1_isOne : GoodIn wsX7_put wsX1_isOne := goodIn_r _ [13] rfl gw_X1_isOne
set_option maxRecDepth 20000 in
theorem gX7_put_X1_isOne : GoodIn wsX7_put (va_wsS RX7 114 yX1_isOne wsX1_isOne) := goodIn_app (goodIn_r _ [10, 11, 12] rfl (by decide +kernel)) ggX7_put_X1_isOne
set_option maxRecDepth 20000 in
theorem ggX7_put_X7_bad : GoodIn wsX7_put wsX7_bad := goodIn_r _ [18, 19, 33, 34, 35, 36, 37, 38, 39, 40, 41, 42, 43, 44] rfl gw_X7_bad
set_option maxRecDepth 20000 in
theorem gX7_put_X7_bad : GoodIn wsX7_put (wsV RX7 66 RX7 yX7_bad wsX7_bad) := goodIn_app (goodIn_r _ [14, 15, 16, 17] rfl (by decide +kernel)) ggX7_put_X7_bad
set_option maxRecDepth 20000 in
theorem ggX7_put_X4_setMark : GoodIn wsX7_put wsX4_setMark := goodIn_r _ [23, 24, 25, 26, 27, 28, 29, 30, 31, 32, 45, 46, 47, 48, 49, 50, 51, 52, 53, 54, 55, 56, 57] rfl gw_X4_setMark
set_option maxRecDepth 20000 in
theorem gX7_put_X4_setMark : GoodIn wsX7_put (wsV RX7 122 RX4 yX4_setMark wsX4_setMark) := goodIn_app (goodIn_r _ [20, 21, 22, 7] rfl (by decide +kernel)) ggX7_put_X4_setMark
set_option maxRecDepth 20000 in
theorem ggX7_type_X7_isWithin : GoodIn wsX7_type wsX7_isWithin := goodIn_r _ [6] rfl gw_X7_isWithin
set_option maxRecDepth 20000 in
theorem gX7_type_X7_isWithin : GoodIn wsX7_type (va_wsS RX7 98 yX7_isWithin wsX7_isWithin) := goodIn_app (goodIn_r _ [3, 4, 5] rfl (by decide +kernel)) ggX7_type_X7_isWithin
set_option maxRecDepth 20000 in
theorem ggX7_type_X7_bad : GoodIn wsX7_type wsX7_bad := goodIn_r _ [10, 11, 24, 25, 26, 27, 28, 29, 30, 31, 32, 33, 34, 35] rfl gw_X7_bad
set_option maxRecDepth 20000 in
theorem gX7_type_X7_bad : GoodIn wsX7_type (wsV RX7 66 RX7 yX7_bad wsX7_bad) := goodIn_app (goodIn_r _ [7, 8, 9, 5] rfl (by decide +kernel)) ggX7_type_X7_bad
set_option maxRecDepth 20000 in
theorem ggX7_type_X7_full : GoodIn wsX7_type wsX7_full := goodIn_r _ [15, 16, 24, 25, 26, 27, 28, 29, 30, 31, 32, 33, 34, 35] rfl gw_X7_full
set_option maxRecDepth 20000 in
theorem gX7_type_X7_full : GoodIn wsX7_type (wsV RX7 85 RX7 yX7_full wsX7_full) := goodIn_app (goodIn_r _ [12, 13, 14, 5] rfl (by decide +kernel)) ggX7_type_X7_full
set_option maxRecDepth 20000 in
theorem ggX7_type_X6_add : GoodIn wsX7_type wsX6_add := goodIn_r _ [21, 22, 23, 36, 37, 38, 39, 40, 41, 42, 43, 44, 45] rfl gw_X6_add
set_option maxRecDepth 20000 in
theorem gX7_type_X6_add : GoodIn wsX7_type (wsV RX7 128 RX6 yX6_add wsX6_add) := goodIn_app (goodIn_r _ [17, 18, 19, 20] rfl (by decide +kernel)) ggX7_type_X6_add
set_option maxRecDepth 20000 in
theorem ggX7_read_X6_findFault : GoodIn wsX7_read wsX6_findFault := goodIn_r _ [9, 10, 11, 12, 13, 14, 15, 16, 17, 8, 18, 19, 20, 21, 22, 23, 24, 25, 26, 27, 28, 29, 30, 31, 32, 33, 34, 35, 36, 37, 38, 39, 40, 41, 42, 43, 44, 45, 46, 47, 48, 49, 50, 51, 52, 53, 54, 55, 56, 57, 58, 59, 60, 61, 62, 63, 64, 65, 66, 67, 68, 69, 70, 71, 72, 73, 74, 75, 76, 77, 78, 79, 80, 81, 82, 83, 84, 85, 86, 87, 88, 89, 90, 91, 92, 93, 94, 95, 96, 187, 188, 189, 190, 191, 192, 193, 194, 195, 196] rfl gw_X6_findFault
set_option maxRecDepth 20000 in
theorem gX7_read_X6_findFault : GoodIn wsX7_read (wsV RX7 131 RX6 yX6_findFault wsX6_findFault) := goodIn_app (goodIn_r _ [5, 6, 7, 8] rfl (by decide +kernel)) ggX7_read_X6_findFault
set_option maxRecDepth 20000 in
theorem ggX7_read_X7_tellItem : GoodIn wsX7_read wsX7_tellItem := goodIn_r _ [101, 1, 102, 103, 104, 4, 105, 106, 100, 107, 108, 109, 110, 111, 112, 113, 114, 115, 116, 117, 118, 119, 120, 121, 122, 123, 124, 125, 126, 127, 128, 129, 130, 131, 132, 133, 134, 135, 136, 137, 138, 139, 140, 141, 142, 143, 144, 145, 146, 147, 148, 149, 150, 151, 152, 153, 154, 155, 156, 157, 175, 176, 177, 178, 179, 180, 181, 182, 183, 184, 185, 186, 187, 188, 189, 190, 191, 192, 193, 194, 195, 196, 197, 198, 199, 200, 201, 202, 203, 204, 205, 206, 207, 208, 209] rfl gw_X7_tellItem
set_option maxRecDepth 20000 in
theorem gX7_read_X7_tellItem : GoodIn wsX7_read (wsV RX7 138 RX7 yX7_tellItem wsX7_tellItem) := goodIn_app (goodIn_r _ [97, 98, 99, 100] rfl (by decide +kernel)) ggX7_read_X7_tellItem
set_option maxRecDepth 20000 in
theorem ggX7_read_X4_copy : GoodIn wsX7_read wsX4_copy := goodIn_r _ [161, 119, 120, 124, 125, 126, 138, 162, 163, 164, 165, 166, 121, 167, 168, 169, 170, 142, 171, 172, 173, 144, 174, 145, 197, 198, 199, 200, 201, 202, 203, 204, 205, 206, 207, 208, 209] rfl gw_X4_copy
set_option maxRecDepth 20000 in
theorem gX7_read_X4_copy : GoodIn wsX7_read (wsV RX7 141 RX4 yX4_copy wsX4_copy) := goodIn_app (goodIn_r _ [158, 159, 160, 117] rfl (by decide +kernel)) ggX7_read_X4_copy
set_option maxRecDepth 20000 in
theorem ggX7_buy_X4_has : GoodIn wsX7_buy wsX4_has := goodIn_r _ [9, 10, 75, 76, 77, 78, 79, 80, 81, 82, 83] rfl gw_X4_has
set_option maxRecDepth 20000 in
theorem gX7_buy_X4_has : GoodIn wsX7_buy (wsV RX7 111 RX4 yX4_has wsX4_has) := goodIn_app (goodIn_r _ [5, 6, 7, 8] rfl (by decide +kernel)) ggX7_buy_X4_has
set_option maxRecDepth 20000 in
theorem ggX7_buy_X1_isOne : GoodIn wsX7_buy wsX1_isOne := goodIn_r _ [14] rfl gw_X1_isOne
set_option maxRecDepth 20000 in
theorem gX7_buy_X1_isOne : GoodIn wsX7_buy (va_wsS RX7 114 yX1_isOne wsX1_isOne) := goodIn_app (goodIn_r _ [11, 12, 13] rfl (by decide +kernel)) ggX7_buy_X1_isOne
set_option maxRecDepth 20000 in
theorem ggX7_buy_X7_bad : GoodIn wsX7_buy wsX7_bad := goodIn_r _ [19, 20, 63, 64, 65, 66, 67, 68, 69, 70, 71, 72, 73, 74] rfl gw_X7_bad
set_option maxRecDepth 20000 in
theorem gX7_buy_X7_bad : GoodIn wsX7_buy (wsV RX7 66 RX7 yX7_bad wsX7_bad) := goodIn_app (goodIn_r _ [15, 16, 17, 18] rfl (by decide +kernel)) ggX7_buy_X7_bad
set_option maxRecDepth 20000 in
theorem ggX7_buy_X4_costOf : GoodIn wsX7_buy wsX4_costOf := goodIn_r _ [24, 25, 26, 27, 28, 29, 13, 30, 75, 76, 77, 78, 79, 80, 81, 82, 83, 84, 85, 86, 87] rfl gw_X4_costOf
set_option maxRecDepth 20000 in
theorem gX7_buy_X4_costOf : GoodIn wsX7_buy (wsV RX7 145 RX4 yX4_costOf wsX4_costOf) := goodIn_app (goodIn_r _ [21, 22, 23, 8] rfl (by decide +kernel)) ggX7_buy_X4_costOf
set_option maxRecDepth 20000 in
theorem ggX7_buy_X7_no : GoodIn wsX7_buy wsX7_no := goodIn_r _ [34, 35, 63, 64, 65, 66, 67, 68, 69, 70, 71, 72, 73, 74] rfl gw_X7_no
set_option maxRecDepth 20000 in
theorem gX7_buy_X7_no : GoodIn wsX7_buy (wsV RX7 148 RX7 yX7_no wsX7_no) := goodIn_app (goodIn_r _ [31, 32, 33, 18] rfl (by decide +kernel)) ggX7_buy_X7_no
set_option maxRecDepth 20000 in
theorem ggX7_buy_X4_remember : GoodIn wsX7_buy wsX4_remember := goodIn_r _ [39, 40, 41, 26, 42, 43, 44, 8, 45, 46, 47, 48, 49, 50, 51, 52, 53, 54, 55, 56, 57, 58, 75, 76, 77, 78, 79, 80, 81, 82, 83, 84, 85, 86, 87] rfl gw_X4_remember
set_option maxRecDepth 20000 in
theorem gX7_buy_X4_remember : GoodIn wsX7_buy (wsV RX7 151 RX4 yX4_remember wsX4_remember) := goodIn_app (goodIn_r _ [36, 37, 38, 8] rfl (by decide +kernel)) ggX7_buy_X4_remember
set_option maxRecDepth 20000 in
theorem ggX7_buy_X2_set : GoodIn wsX7_buy wsX2_set := goodIn_r _ [62, 53, 58, 84, 85, 86, 87] rfl gw_X2_set
set_option maxRecDepth 20000 in
theorem gX7_buy_X2_set : GoodIn wsX7_buy (wsV RX7 154 RX2 yX2_set wsX2_set) := goodIn_app (goodIn_r _ [59, 60, 61, 49] rfl (by decide +kernel)) ggX7_buy_X2_set
set_option maxRecDepth 20000 in
theorem ggX7_sell_X4_has : GoodIn wsX7_sell wsX4_has := goodIn_r _ [13, 14, 76, 77, 78, 79, 80, 81, 82, 83, 84] rfl gw_X4_has
set_option maxRecDepth 20000 in
theorem gX7_sell_X4_has : GoodIn wsX7_sell (wsV RX7 111 RX4 yX4_has wsX4_has) := goodIn_app (goodIn_r _ [9, 10, 11, 12] rfl (by decide +kernel)) ggX7_sell_X4_has
set_option maxRecDepth 20000 in
theorem ggX7_sell_X7_bad : GoodIn wsX7_sell wsX7_bad := goodIn_r _ [19, 20, 64, 65, 66, 67, 68, 69, 70, 71, 72, 73, 74, 75] rfl gw_X7_bad
set_option maxRecDepth 20000 in
theorem gX7_sell_X7_bad : GoodIn wsX7_sell (wsV RX7 66 RX7 yX7_bad wsX7_bad) := goodIn_app (goodIn_r _ [15, 16, 17, 18] rfl (by decide +kernel)) ggX7_sell_X7_bad
set_option maxRecDepth 20000 in
theorem ggX7_sell_X7_no : GoodIn wsX7_sell wsX7_no := goodIn_r _ [24, 25, 64, 65, 66, 67, 68, 69, 70, 71, 72, 73, 74, 75] rfl gw_X7_no
set_option maxRecDepth 20000 in
theorem gX7_sell_X7_no : GoodIn wsX7_sell (wsV RX7 148 RX7 yX7_no wsX7_no) := goodIn_app (goodIn_r _ [21, 22, 23, 18] rfl (by decide +kernel)) ggX7_sell_X7_no
set_option maxRecDepth 20000 in
theorem ggX7_sell_X4_costOf : GoodIn wsX7_sell wsX4_costOf := goodIn_r _ [29, 30, 31, 32, 33, 34, 35, 36, 76, 77, 78, 79, 80, 81, 82, 83, 84, 85, 86, 87, 88] rfl gw_X4_costOf
set_option maxRecDepth 20000 in
theorem gX7_sell_X4_costOf : GoodIn wsX7_sell (wsV RX7 145 RX4 yX4_costOf wsX4_costOf) := goodIn_app (goodIn_r _ [26, 27, 28, 12] rfl (by decide +kernel)) ggX7_sell_X4_costOf
set_option maxRecDepth 20000 in
theorem ggX7_sell_X4_remember : GoodIn wsX7_sell wsX4_remember := goodIn_r _ [40, 41, 42, 31, 43, 44, 45, 12, 46, 47, 48, 49, 50, 51, 52, 53, 54, 55, 56, 57, 58, 59, 76, 77, 78, 79, 80, 81, 82, 83, 84, 85, 86, 87, 88] rfl gw_X4_remember
set_option maxRecDepth 20000 in
theorem gX7_sell_X4_remember : GoodIn wsX7_sell (wsV RX7 151 RX4 yX4_remember wsX4_remember) := goodIn_app (goodIn_r _ [37, 38, 39, 12] rfl (by decide +kernel)) ggX7_sell_X4_remember
set_option maxRecDepth 20000 in
theorem ggX7_sell_X2_set : GoodIn wsX7_sell wsX2_set := goodIn_r _ [63, 54, 59, 85, 86, 87, 88] rfl gw_X2_set
set_option maxRecDepth 20000 in
theorem gX7_sell_X2_set : GoodIn wsX7_sell (wsV RX7 154 RX2 yX2_set wsX2_set) := goodIn_app (goodIn_r _ [60, 61, 62, 50] rfl (by decide +kernel)) ggX7_sell_X2_set
set_option maxRecDepth 20000 in
theorem ggX7_readOut_X4_remember : GoodIn wsX7_readOut wsX4_remember := goodIn_r _ [6, 7, 8, 9, 10, 11, 12, 5, 13, 14, 15, 16, 17, 18, 19, 20, 21, 22, 23, 24, 25, 26, 73, 74, 75, 76, 77, 78, 79, 80, 81, 82, 83, 84, 85] rfl gw_X4_remember
set_option maxRecDepth 20000 in
theorem gX7_readOut_X4_remember : GoodIn wsX7_readOut (wsV RX7 151 RX4 yX4_remember wsX4_remember) := goodIn_app (goodIn_r _ [2, 3, 4, 5] rfl (by decide +kernel)) ggX7_readOut_X4_remember
set_option maxRecDepth 20000 in
theorem ggX7_readOut_X4_say : GoodIn wsX7_readOut wsX4_say := goodIn_r _ [30, 31, 32, 33, 9, 34, 35, 36, 5, 37, 38, 39, 40, 41, 42, 43, 44, 45, 46, 47, 48, 49, 50, 51, 52, 17, 53, 21, 26, 54, 55, 56, 57, 58, 59, 60, 73, 74, 75, 76, 77, 78, 79, 80, 81, 82, 83, 84, 85] rfl gw_X4_say
set_option maxRecDepth 20000 in
theorem gX7_readOut_X4_say : GoodIn wsX7_readOut (wsV RX7 163 RX4 yX4_say wsX4_say) := goodIn_app (goodIn_r _ [27, 28, 29, 5] rfl (by decide +kernel)) ggX7_readOut_X4_say
set_option maxRecDepth 20000 in
theorem ggX7_week_X7_isWithin : GoodIn wsX7_week wsX7_isWithin := goodIn_r _ [7] rfl gw_X7_isWithin
set_option maxRecDepth 20000 in
theorem gX7_week_X7_isWithin : GoodIn wsX7_week (va_wsS RX7 98 yX7_isWithin wsX7_isWithin) := goodIn_app (goodIn_r _ [4, 5, 6] rfl (by decide +kernel)) ggX7_week_X7_isWithin
set_option maxRecDepth 20000 in
theorem ggX7_week_X7_bad : GoodIn wsX7_week wsX7_bad := goodIn_r _ [11, 12, 38, 39, 40, 41, 42, 43, 44, 45, 46, 47, 48, 49] rfl gw_X7_bad
set_option maxRecDepth 20000 in
theorem gX7_week_X7_bad : GoodIn wsX7_week (wsV RX7 66 RX7 yX7_bad wsX7_bad) := goodIn_app (goodIn_r _ [8, 9, 10, 6] rfl (by decide +kernel)) ggX7_week_X7_bad
set_option maxRecDepth 20000 in
theorem ggX7_week_X4_remember : GoodIn wsX7_week wsX4_remember := goodIn_r _ [17, 18, 19, 20, 21, 22, 23, 16, 24, 25, 26, 27, 28, 29, 30, 31, 32, 33, 34, 35, 36, 37, 50, 51, 52, 53, 54, 55, 56, 57, 58, 59, 60, 61, 62] rfl gw_X4_remember
set_option maxRecDepth 20000 in
theorem gX7_week_X4_remember : GoodIn wsX7_week (wsV RX7 151 RX4 yX4_remember wsX4_remember) := goodIn_app (goodIn_r _ [13, 14, 15, 16] rfl (by decide +kernel)) ggX7_week_X4_remember
set_option maxRecDepth 20000 in
theorem ggX7_undo_X7_no : GoodIn wsX7_undo wsX7_no := goodIn_r _ [9, 10, 32, 33, 34, 35, 36, 37, 38, 39, 40, 41, 42, 43] rfl gw_X7_no
set_option maxRecDepth 20000 in
theorem gX7_undo_X7_no : GoodIn wsX7_undo (wsV RX7 148 RX7 yX7_no wsX7_no) := goodIn_app (goodIn_r _ [5, 6, 7, 8] rfl (by decide +kernel)) ggX7_undo_X7_no
set_option maxRecDepth 20000 in
theorem ggX7_undo_X4_goBack : GoodIn wsX7_undo wsX4_goBack := goodIn_r _ [15, 16, 17, 18, 19, 20, 21, 22, 23, 24, 25, 26, 27, 28, 29, 30, 31, 44, 45, 46, 47, 48, 49, 50, 51, 52, 53, 54, 55, 56] rfl gw_X4_goBack
set_option maxRecDepth 20000 in
theorem gX7_undo_X4_goBack : GoodIn wsX7_undo (wsV RX7 172 RX4 yX4_goBack wsX4_goBack) := goodIn_app (goodIn_r _ [11, 12, 13, 14] rfl (by decide +kernel)) ggX7_undo_X4_goBack
set_option maxRecDepth 20000 in
theorem ggX7_of_X4_has : GoodIn wsX7_of wsX4_has := goodIn_r _ [10, 11, 41, 42, 43, 44, 45, 46, 47, 48, 49] rfl gw_X4_has
set_option maxRecDepth 20000 in
theorem gX7_of_X4_has : GoodIn wsX7_of (wsV RX7 111 RX4 yX4_has wsX4_has) := goodIn_app (goodIn_r _ [6, 7, 8, 9] rfl (by decide +kernel)) ggX7_of_X4_has
set_option maxRecDepth 20000 in
theorem ggX7_of_X7_bad : GoodIn wsX7_of wsX7_bad := goodIn_r _ [16, 17, 29, 30, 31, 32, 33, 34, 35, 36, 37, 38, 39, 40] rfl gw_X7_bad
set_option maxRecDepth 20000 in
theorem gX7_of_X7_bad : GoodIn wsX7_of (wsV RX7 66 RX7 yX7_bad wsX7_bad) := goodIn_app (goodIn_r _ [12, 13, 14, 15] rfl (by decide +kernel)) ggX7_of_X7_bad
set_option maxRecDepth 20000 in
theorem ggX7_of_X4_costOf : GoodIn wsX7_of wsX4_costOf := goodIn_r _ [21, 22, 23, 24, 25, 26, 27, 28, 41, 42, 43, 44, 45, 46, 47, 48, 49, 50, 51, 52, 53] rfl gw_X4_costOf
set_option maxRecDepth 20000 in
theorem gX7_of_X4_costOf : GoodIn wsX7_of (wsV RX7 145 RX4 yX4_costOf wsX4_costOf) := goodIn_app (goodIn_r _ [18, 19, 20, 9] rfl (by decide +kernel)) ggX7_of_X4_costOf
set_option maxRecDepth 20000 in
theorem ggX7_costs_X1_isOne : GoodIn wsX7_costs wsX1_isOne := goodIn_r _ [5] rfl gw_X1_isOne
set_option maxRecDepth 20000 in
theorem gX7_costs_X1_isOne : GoodIn wsX7_costs (va_wsS RX7 114 yX1_isOne wsX1_isOne) := goodIn_app (goodIn_r _ [2, 3, 4] rfl (by decide +kernel)) ggX7_costs_X1_isOne
set_option maxRecDepth 20000 in
theorem ggX7_costs_X4_costOf : GoodIn wsX7_costs wsX4_costOf := goodIn_r _ [10, 11, 12, 13, 14, 15, 4, 16, 35, 36, 37, 38, 39, 40, 41, 42, 43, 44, 45, 46, 47] rfl gw_X4_costOf
set_option maxRecDepth 20000 in
theorem gX7_costs_X4_costOf : GoodIn wsX7_costs (wsV RX7 145 RX4 yX4_costOf wsX4_costOf) := goodIn_app (goodIn_r _ [6, 7, 8, 9] rfl (by decide +kernel)) ggX7_costs_X4_costOf
set_option maxRecDepth 20000 in
theorem ggX7_costs_X7_bad : GoodIn wsX7_costs wsX7_bad := goodIn_r _ [21, 22, 23, 24, 25, 26, 27, 28, 29, 30, 31, 32, 33, 34] rfl gw_X7_bad
set_option maxRecDepth 20000 in
theorem gX7_costs_X7_bad : GoodIn wsX7_costs (wsV RX7 66 RX7 yX7_bad wsX7_bad) := goodIn_app (goodIn_r _ [17, 18, 19, 20] rfl (by decide +kernel)) ggX7_costs_X7_bad
set_option maxRecDepth 20000 in
theorem ggX7_gives_X1_isOne : GoodIn wsX7_gives wsX1_isOne := goodIn_r _ [6] rfl gw_X1_isOne
set_option maxRecDepth 20000 in
theorem gX7_gives_X1_isOne : GoodIn wsX7_gives (va_wsS RX7 114 yX1_isOne wsX1_isOne) := goodIn_app (goodIn_r _ [3, 4, 5] rfl (by decide +kernel)) ggX7_gives_X1_isOne
set_option maxRecDepth 20000 in
theorem ggX7_gives_X7_isWithin : GoodIn wsX7_gives wsX7_isWithin := goodIn_r _ [10] rfl gw_X7_isWithin
set_option maxRecDepth 20000 in
theorem gX7_gives_X7_isWithin : GoodIn wsX7_gives (va_wsS RX7 98 yX7_isWithin wsX7_isWithin) := goodIn_app (goodIn_r _ [7, 8, 9] rfl (by decide +kernel)) ggX7_gives_X7_isWithin
set_option maxRecDepth 20000 in
theorem ggX7_gives_X7_bad : GoodIn wsX7_gives wsX7_bad := goodIn_r _ [14, 15, 26, 27, 28, 29, 30, 31, 32, 33, 34, 35, 36, 37] rfl gw_X7_bad
set_option maxRecDepth 20000 in
theorem gX7_gives_X7_bad : GoodIn wsX7_gives (wsV RX7 66 RX7 yX7_bad wsX7_bad) := goodIn_app (goodIn_r _ [11, 12, 13, 9] rfl (by decide +kernel)) ggX7_gives_X7_bad
set_option maxRecDepth 20000 in
theorem ggX7_gives_X1_breathBehind : GoodIn wsX7_gives wsX1_breathBehind := goodIn_r _ [18, 19, 20, 21, 22, 23, 24, 25] rfl gw_X1_breathBehind
set_option maxRecDepth 20000 in
theorem gX7_gives_X1_breathBehind : GoodIn wsX7_gives (va_wsS RX7 181 yX1_breathBehind wsX1_breathBehind) := goodIn_app (goodIn_r _ [16, 17, 5] rfl (by decide +kernel)) ggX7_gives_X1_breathBehind
set_option maxRecDepth 20000 in
theorem ggX7_stuck_X4_stuckAt : GoodIn wsX7_stuck wsX4_stuckAt := goodIn_r _ [7, 8, 9, 10, 11, 12, 6, 13, 14, 15, 16, 17, 18, 19, 20, 21, 22, 23, 24, 25, 26, 39, 40, 41, 42, 43, 44, 45, 46, 47, 48, 49, 50, 51] rfl gw_X4_stuckAt
set_option maxRecDepth 20000 in
theorem gX7_stuck_X4_stuckAt : GoodIn wsX7_stuck (wsV RX7 185 RX4 yX4_stuckAt wsX4_stuckAt) := goodIn_app (goodIn_r _ [3, 4, 5, 6] rfl (by decide +kernel)) ggX7_stuck_X4_stuckAt
set_option maxRecDepth 20000 in
theorem ggX7_sentences_X4_howManySentences : GoodIn wsX7_sentences wsX4_howManySentences := goodIn_r _ [6, 7, 8, 9, 10, 11, 12, 13, 14, 15, 16, 5, 17, 41, 42, 43, 44, 45, 46, 47, 48, 49, 50, 51, 52, 53] rfl gw_X4_howManySentences
set_option maxRecDepth 20000 in
theorem gX7_sentences_X4_howManySentences : GoodIn wsX7_sentences (wsV RX7 188 RX4 yX4_howManySentences wsX4_howManySentences) := goodIn_app (goodIn_r _ [2, 3, 4, 5] rfl (by decide +kernel)) ggX7_sentences_X4_howManySentences
set_option maxRecDepth 20000 in
theorem ggX7_sentences_X4_lastIsEnded : GoodIn wsX7_sentences wsX4_lastIsEnded := goodIn_r _ [17, 7, 8, 9, 10, 11, 12, 13, 41, 42, 43, 44, 45, 46, 47, 48, 49, 50, 51, 52, 53] rfl gw_X4_lastIsEnded
set_option maxRecDepth 20000 in
theorem gX7_sentences_X4_lastIsEnded : GoodIn wsX7_sentences (wsV RX7 191 RX4 yX4_lastIsEnded wsX4_lastIsEnded) := goodIn_app (goodIn_r _ [18, 15, 16, 5] rfl (by decide +kernel)) ggX7_sentences_X4_lastIsEnded
set_option maxRecDepth 20000 in
theorem ggX7_sentences_X4_longestSentence : GoodIn wsX7_sentences wsX4_longestSentence := goodIn_r _ [22, 7, 8, 9, 10, 11, 12, 13, 41, 42, 43, 44, 45, 46, 47, 48, 49, 50, 51, 52, 53] rfl gw_X4_longestSentence
set_option maxRecDepth 20000 in
theorem gX7_sentences_X4_longestSentence : GoodIn wsX7_sentences (wsV RX7 194 RX4 yX4_longestSentence wsX4_longestSentence) := goodIn_app (goodIn_r _ [19, 20, 21, 5] rfl (by decide +kernel)) ggX7_sentences_X4_longestSentence
set_option maxRecDepth 20000 in
theorem ggX7_sentences_X7_bad : GoodIn wsX7_sentences wsX7_bad := goodIn_r _ [27, 28, 29, 30, 31, 32, 33, 34, 35, 36, 37, 38, 39, 40] rfl gw_X7_bad
set_option maxRecDepth 20000 in
theorem gX7_sentences_X7_bad : GoodIn wsX7_sentences (wsV RX7 66 RX7 yX7_bad wsX7_bad) := goodIn_app (goodIn_r _ [23, 24, 25, 26] rfl (by decide +kernel)) ggX7_sentences_X7_bad
set_option maxRecDepth 20000 in
theorem ggX7_cheapest_X7_isBreath : GoodIn wsX7_cheapest wsX7_isBreath := goodIn_r _ [7, 8, 9, 6, 10] rfl gw_X7_isBreath
set_option maxRecDepth 20000 in
theorem gX7_cheapest_X7_isBreath : GoodIn wsX7_cheapest (va_wsS RX7 59 yX7_isBreath wsX7_isBreath) := goodIn_app (goodIn_r _ [4, 5, 6] rfl (by decide +kernel)) ggX7_cheapest_X7_isBreath
set_option maxRecDepth 20000 in
theorem ggX7_cheapest_X7_isWithin : GoodIn wsX7_cheapest wsX7_isWithin := goodIn_r _ [10] rfl gw_X7_isWithin
set_option maxRecDepth 20000 in
theorem gX7_cheapest_X7_isWithin : GoodIn wsX7_cheapest (va_wsS RX7 98 yX7_isWithin wsX7_isWithin) := goodIn_app (goodIn_r _ [8, 9, 6] rfl (by decide +kernel)) ggX7_cheapest_X7_isWithin
set_option maxRecDepth 20000 in
theorem ggX7_cheapest_X7_bad : GoodIn wsX7_cheapest wsX7_bad := goodIn_r _ [14, 15, 74, 75, 76, 77, 78, 79, 80, 81, 82, 83, 84, 85] rfl gw_X7_bad
set_option maxRecDepth 20000 in
theorem gX7_cheapest_X7_bad : GoodIn wsX7_cheapest (wsV RX7 66 RX7 yX7_bad wsX7_bad) := goodIn_app (goodIn_r _ [11, 12, 13, 6] rfl (by decide +kernel)) ggX7_cheapest_X7_bad
set_option maxRecDepth 20000 in
theorem ggX7_cheapest_X5_make : GoodIn wsX7_cheapest wsX5_make := goodIn_r _ [20, 21, 22, 23, 24, 25, 26, 27, 28, 29, 30, 31, 32, 33, 19, 34, 35, 36, 37, 38, 39, 40, 41, 42, 43, 44, 45, 46, 47, 48, 49, 50, 51, 52, 53, 54, 55, 56, 57, 58, 59, 60, 61, 86, 87, 88, 89, 90, 91, 92, 93, 94, 95, 96, 97, 98, 99, 100, 101, 102, 103] rfl gw_X5_make
set_option maxRecDepth 20000 in
theorem gX7_cheapest_X5_make : GoodIn wsX7_cheapest (wsV RX7 198 RX5 yX5_make wsX5_make) := goodIn_app (goodIn_r _ [16, 17, 18, 19] rfl (by decide +kernel)) ggX7_cheapest_X5_make
set_option maxRecDepth 20000 in
theorem ggX7_cheapest_X5_isThere : GoodIn wsX7_cheapest wsX5_isThere := goodIn_r _ [65, 22, 24, 95, 96, 97, 98, 99] rfl gw_X5_isThere
set_option maxRecDepth 20000 in
theorem gX7_cheapest_X5_isThere : GoodIn wsX7_cheapest (wsV RX7 202 RX5 yX5_isThere wsX5_isThere) := goodIn_app (goodIn_r _ [62, 63, 64, 19] rfl (by decide +kernel)) ggX7_cheapest_X5_isThere
set_option maxRecDepth 20000 in
theorem ggX7_cheapest_X5_cost : GoodIn wsX7_cheapest wsX5_cost := goodIn_r _ [69, 22, 95, 96, 97, 98, 99] rfl gw_X5_cost
set_option maxRecDepth 20000 in
theorem gX7_cheapest_X5_cost : GoodIn wsX7_cheapest (wsV RX7 205 RX5 yX5_cost wsX5_cost) := goodIn_app (goodIn_r _ [66, 67, 68, 19] rfl (by decide +kernel)) ggX7_cheapest_X5_cost
set_option maxRecDepth 20000 in
theorem ggX7_cheapest_X5_kindBehind : GoodIn wsX7_cheapest wsX5_kindBehind := goodIn_r _ [73, 35, 36, 25, 26, 37, 38, 39, 40, 41, 42, 43, 44, 45, 46, 47, 86, 87, 88, 89, 90, 91, 92, 93, 94, 100, 101, 102, 103, 95, 96, 97, 98, 99] rfl gw_X5_kindBehind
set_option maxRecDepth 20000 in
theorem gX7_cheapest_X5_kindBehind : GoodIn wsX7_cheapest (wsV RX7 208 RX5 yX5_kindBehind wsX5_kindBehind) := goodIn_app (goodIn_r _ [70, 71, 72, 19] rfl (by decide +kernel)) ggX7_cheapest_X5_kindBehind
set_option maxRecDepth 20000 in
theorem ggX7_reach_X7_isWithin : GoodIn wsX7_reach wsX7_isWithin := goodIn_r _ [6] rfl gw_X7_isWithin
set_option maxRecDepth 20000 in
theorem gX7_reach_X7_isWithin : GoodIn wsX7_reach (va_wsS RX7 98 yX7_isWithin wsX7_isWithin) := goodIn_app (goodIn_r _ [3, 4, 5] rfl (by decide +kernel)) ggX7_reach_X7_isWithin
set_option maxRecDepth 20000 in
theorem ggX7_reach_X5_reachFor : GoodIn wsX7_reach wsX5_reachFor := goodIn_r _ [11, 12, 13, 14, 15, 16, 17, 18, 19, 20, 21, 22, 23, 24, 25, 26, 27, 28, 10, 29, 30, 31, 32, 33, 34, 35, 36, 37, 38, 39, 40, 41, 42, 43, 44, 45, 46, 47, 48, 49, 50, 51, 52, 53, 54, 72, 73, 74, 75, 76, 77, 78, 79, 80, 81, 82, 83, 84, 85, 86, 87, 88, 89] rfl gw_X5_reachFor
set_option maxRecDepth 20000 in
theorem gX7_reach_X5_reachFor : GoodIn wsX7_reach (wsV RX7 212 RX5 yX5_reachFor wsX5_reachFor) := goodIn_app (goodIn_r _ [7, 8, 9, 10] rfl (by decide +kernel)) ggX7_reach_X5_reachFor
set_option maxRecDepth 20000 in
theorem ggX7_reach_X7_bad : GoodIn wsX7_reach wsX7_bad := goodIn_r _ [58, 59, 60, 61, 62, 63, 64, 65, 66, 67, 68, 69, 70, 71] rfl gw_X7_bad
set_option maxRecDepth 20000 in
theorem gX7_reach_X7_bad : GoodIn wsX7_reach (wsV RX7 66 RX7 yX7_bad wsX7_bad) := goodIn_app (goodIn_r _ [55, 56, 57, 5] rfl (by decide +kernel)) ggX7_reach_X7_bad
set_option maxRecDepth 20000 in
theorem ggX7_order_X7_bad : GoodIn wsX7_order wsX7_bad := goodIn_r _ [10, 11, 58, 59, 60, 61, 62, 63, 64, 65, 66, 67, 68, 69] rfl gw_X7_bad
set_option maxRecDepth 20000 in
theorem gX7_order_X7_bad : GoodIn wsX7_order (wsV RX7 66 RX7 yX7_bad wsX7_bad) := goodIn_app (goodIn_r _ [6, 7, 8, 9] rfl (by decide +kernel)) ggX7_order_X7_bad
set_option maxRecDepth 20000 in
theorem ggX7_order_X7_no : GoodIn wsX7_order wsX7_no := goodIn_r _ [15, 16, 58, 59, 60, 61, 62, 63, 64, 65, 66, 67, 68, 69] rfl gw_X7_no
set_option maxRecDepth 20000 in
theorem gX7_order_X7_no : GoodIn wsX7_order (wsV RX7 148 RX7 yX7_no wsX7_no) := goodIn_app (goodIn_r _ [12, 13, 14, 9] rfl (by decide +kernel)) ggX7_order_X7_no
set_option maxRecDepth 20000 in
theorem ggX7_order_X3_search : GoodIn wsX7_order wsX3_search := goodIn_r _ [21, 22, 23, 24, 25, 26, 27, 20, 28, 29, 30, 31, 32, 33, 34, 35, 36, 37, 38, 39, 40, 41, 42, 43, 44, 45, 46, 47, 48, 49, 50, 51, 52, 53, 54, 55, 56, 57, 79, 80, 81, 82, 70, 71, 72, 73, 74, 75, 76, 77, 78, 83, 84, 85, 86] rfl gw_X3_search
set_option maxRecDepth 20000 in
theorem gX7_order_X3_search : GoodIn wsX7_order (wsV RX7 216 RX3 yX3_search wsX3_search) := goodIn_app (goodIn_r _ [17, 18, 19, 20] rfl (by decide +kernel)) ggX7_order_X3_search
set_option maxRecDepth 20000 in
theorem ggX7_heard_X4_has : GoodIn wsX7_heard wsX4_has := goodIn_r _ [7, 8, 64, 65, 66, 67, 68, 69, 70, 71, 72] rfl gw_X4_has
set_option maxRecDepth 20000 in
theorem gX7_heard_X4_has : GoodIn wsX7_heard (wsV RX7 111 RX4 yX4_has wsX4_has) := goodIn_app (goodIn_r _ [3, 4, 5, 6] rfl (by decide +kernel)) ggX7_heard_X4_has
set_option maxRecDepth 20000 in
theorem ggX7_heard_X7_bad : GoodIn wsX7_heard wsX7_bad := goodIn_r _ [13, 14, 52, 53, 54, 55, 56, 57, 58, 59, 60, 61, 62, 63] rfl gw_X7_bad
set_option maxRecDepth 20000 in
theorem gX7_heard_X7_bad : GoodIn wsX7_heard (wsV RX7 66 RX7 yX7_bad wsX7_bad) := goodIn_app (goodIn_r _ [9, 10, 11, 12] rfl (by decide +kernel)) ggX7_heard_X7_bad
set_option maxRecDepth 20000 in
theorem ggX7_heard_X7_full : GoodIn wsX7_heard wsX7_full := goodIn_r _ [18, 19, 52, 53, 54, 55, 56, 57, 58, 59, 60, 61, 62, 63] rfl gw_X7_full
set_option maxRecDepth 20000 in
theorem gX7_heard_X7_full : GoodIn wsX7_heard (wsV RX7 85 RX7 yX7_full wsX7_full) := goodIn_app (goodIn_r _ [15, 16, 17, 12] rfl (by decide +kernel)) ggX7_heard_X7_full
set_option maxRecDepth 20000 in
theorem ggX7_heard_X4_breathsStuckAt : GoodIn wsX7_heard wsX4_breathsStuckAt := goodIn_r _ [23, 24, 25, 26, 6, 27, 8, 28, 29, 30, 31, 32, 33, 34, 35, 36, 37, 38, 39, 40, 41, 42, 43, 44, 45, 64, 65, 66, 67, 68, 69, 70, 71, 72, 73, 74, 75, 76] rfl gw_X4_breathsStuckAt
set_option maxRecDepth 20000 in
theorem gX7_heard_X4_breathsStuckAt : GoodIn wsX7_heard (wsV RX7 228 RX4 yX4_breathsStuckAt wsX4_breathsStuckAt) := goodIn_app (goodIn_r _ [20, 21, 22, 6] rfl (by decide +kernel)) ggX7_heard_X4_breathsStuckAt
set_option maxRecDepth 20000 in
theorem ggX7_heard_X4_addHeard : GoodIn wsX7_heard wsX4_addHeard := goodIn_r _ [49, 50, 51, 64, 65, 66, 67, 68, 69, 70, 71, 72] rfl gw_X4_addHeard
set_option maxRecDepth 20000 in
theorem gX7_heard_X4_addHeard : GoodIn wsX7_heard (wsV RX7 231 RX4 yX4_addHeard wsX4_addHeard) := goodIn_app (goodIn_r _ [46, 47, 48, 6] rfl (by decide +kernel)) ggX7_heard_X4_addHeard
set_option maxRecDepth 20000 in
theorem ggX7_breaths_X4_breathsHeard : GoodIn wsX7_breaths wsX4_breathsHeard := goodIn_r _ [6, 7, 8, 9, 22, 23, 24, 25, 26, 27, 28, 29, 30] rfl gw_X4_breathsHeard
set_option maxRecDepth 20000 in
theorem gX7_breaths_X4_breathsHeard : GoodIn wsX7_breaths (wsV RX7 234 RX4 yX4_breathsHeard wsX4_breathsHeard) := goodIn_app (goodIn_r _ [2, 3, 4, 5] rfl (by decide +kernel)) ggX7_breaths_X4_breathsHeard
set_option maxRecDepth 20000 in
theorem ggX7_shorter_X4_breathsHeard : GoodIn wsX7_shorter wsX4_breathsHeard := goodIn_r _ [7, 8, 9, 10, 57, 58, 59, 60, 61, 62, 63, 64, 65] rfl gw_X4_breathsHeard
set_option maxRecDepth 20000 in
theorem gX7_shorter_X4_breathsHeard : GoodIn wsX7_shorter (wsV RX7 234 RX4 yX4_breathsHeard wsX4_breathsHeard) := goodIn_app (goodIn_r _ [3, 4, 5, 6] rfl (by decide +kernel)) ggX7_shorter_X4_breathsHeard
set_option maxRecDepth 20000 in
theorem ggX7_shorter_X7_mostAlike : GoodIn wsX7_shorter wsX7_mostAlike := goodIn_r _ [15, 16, 1, 17, 18, 19, 20, 21, 22, 23, 24, 25, 26, 27, 6, 28, 29, 30, 31, 32, 33, 34, 35, 36, 37, 38, 39, 40, 41, 42, 43, 44, 45, 46, 47, 48, 49, 50, 51, 52, 53, 54, 55, 56, 57, 58, 59, 60, 61, 62, 63, 64, 65, 66, 67, 68, 69] rfl gw_X7_mostAlike
set_option maxRecDepth 20000 in
theorem gX7_shorter_X7_mostAlike : GoodIn wsX7_shorter (wsV RX7 237 RX7 yX7_mostAlike wsX7_mostAlike) := goodIn_app (goodIn_r _ [11, 12, 13, 14] rfl (by decide +kernel)) ggX7_shorter_X7_mostAlike
set_option maxRecDepth 20000 in
theorem ggX7_bid_X7_isWithin : GoodIn wsX7_bid wsX7_isWithin := goodIn_r _ [5] rfl gw_X7_isWithin
set_option maxRecDepth 20000 in
theorem gX7_bid_X7_isWithin : GoodIn wsX7_bid (va_wsS RX7 98 yX7_isWithin wsX7_isWithin) := goodIn_app (goodIn_r _ [2, 3, 4] rfl (by decide +kernel)) ggX7_bid_X7_isWithin
set_option maxRecDepth 20000 in
theorem ggX7_bid_X1_isOne : GoodIn wsX7_bid wsX1_isOne := goodIn_r _ [9] rfl gw_X1_isOne
set_option maxRecDepth 20000 in
theorem gX7_bid_X1_isOne : GoodIn wsX7_bid (va_wsS RX7 114 yX1_isOne wsX1_isOne) := goodIn_app (goodIn_r _ [6, 7, 8] rfl (by decide +kernel)) ggX7_bid_X1_isOne
set_option maxRecDepth 20000 in
theorem ggX7_bid_X7_bad : GoodIn wsX7_bid wsX7_bad := goodIn_r _ [13, 14, 32, 33, 34, 35, 36, 37, 38, 39, 40, 41, 42, 43] rfl gw_X7_bad
set_option maxRecDepth 20000 in
theorem gX7_bid_X7_bad : GoodIn wsX7_bid (wsV RX7 66 RX7 yX7_bad wsX7_bad) := goodIn_app (goodIn_r _ [10, 11, 12, 4] rfl (by decide +kernel)) ggX7_bid_X7_bad
set_option maxRecDepth 20000 in
theorem ggX7_bid_X4_costOf : GoodIn wsX7_bid wsX4_costOf := goodIn_r _ [19, 20, 21, 22, 23, 24, 8, 25, 44, 45, 46, 47, 48, 49, 50, 51, 52, 53, 54, 55, 56] rfl gw_X4_costOf
set_option maxRecDepth 20000 in
theorem gX7_bid_X4_costOf : GoodIn wsX7_bid (wsV RX7 145 RX4 yX4_costOf wsX4_costOf) := goodIn_app (goodIn_r _ [15, 16, 17, 18] rfl (by decide +kernel)) ggX7_bid_X4_costOf
set_option maxRecDepth 20000 in
theorem ggX7_bid_X7_isBest : GoodIn wsX7_bid wsX7_isBest := goodIn_r _ [28, 29, 30, 4, 31] rfl gw_X7_isBest
set_option maxRecDepth 20000 in
theorem gX7_bid_X7_isBest : GoodIn wsX7_bid (va_wsS RX7 240 yX7_isBest wsX7_isBest) := goodIn_app (goodIn_r _ [26, 27, 4] rfl (by decide +kernel)) ggX7_bid_X7_isBest
set_option maxRecDepth 20000 in
theorem ggX7_odds_X7_isWithin : GoodIn wsX7_odds wsX7_isWithin := goodIn_r _ [6] rfl gw_X7_isWithin
set_option maxRecDepth 20000 in
theorem gX7_odds_X7_isWithin : GoodIn wsX7_odds (va_wsS RX7 98 yX7_isWithin wsX7_isWithin) := goodIn_app (goodIn_r _ [3, 4, 5] rfl (by decide +kernel)) ggX7_odds_X7_isWithin
set_option maxRecDepth 20000 in
theorem ggX7_odds_X7_bad : GoodIn wsX7_odds wsX7_bad := goodIn_r _ [10, 11, 54, 55, 56, 57, 58, 59, 60, 61, 62, 63, 64, 65] rfl gw_X7_bad
set_option maxRecDepth 20000 in
theorem gX7_odds_X7_bad : GoodIn wsX7_odds (wsV RX7 66 RX7 yX7_bad wsX7_bad) := goodIn_app (goodIn_r _ [7, 8, 9, 5] rfl (by decide +kernel)) ggX7_odds_X7_bad
set_option maxRecDepth 20000 in
theorem ggX7_odds_X0_reckon : GoodIn wsX7_odds wsX0_reckon := goodIn_r _ [16, 17, 18, 19, 20, 21, 22, 23, 24, 25, 26, 27, 28, 29, 15, 30, 31, 32, 33, 34, 35, 36, 37, 38, 39, 40, 41, 42, 43, 44, 45, 46, 47, 48, 49, 50, 51, 52, 53, 66, 67, 68, 69, 70, 71, 72, 73, 74, 75, 76, 77, 78, 79, 80, 81, 82] rfl gw_X0_reckon
set_option maxRecDepth 20000 in
theorem gX7_odds_X0_reckon : GoodIn wsX7_odds (wsV RX7 244 RX0 yX0_reckon wsX0_reckon) := goodIn_app (goodIn_r _ [12, 13, 14, 15] rfl (by decide +kernel)) ggX7_odds_X0_reckon
set_option maxRecDepth 20000 in
theorem ggX7_drawn_X7_isWithin : GoodIn wsX7_drawn wsX7_isWithin := goodIn_r _ [13] rfl gw_X7_isWithin
set_option maxRecDepth 20000 in
theorem gX7_drawn_X7_isWithin : GoodIn wsX7_drawn (va_wsS RX7 98 yX7_isWithin wsX7_isWithin) := goodIn_app (goodIn_r _ [10, 11, 12] rfl (by decide +kernel)) ggX7_drawn_X7_isWithin
set_option maxRecDepth 20000 in
theorem ggX7_drawn_X7_bad : GoodIn wsX7_drawn wsX7_bad := goodIn_r _ [17, 18, 37, 38, 39, 40, 41, 42, 43, 44, 45, 46, 47, 48] rfl gw_X7_bad
set_option maxRecDepth 20000 in
theorem gX7_drawn_X7_bad : GoodIn wsX7_drawn (wsV RX7 66 RX7 yX7_bad wsX7_bad) := goodIn_app (goodIn_r _ [14, 15, 16, 12] rfl (by decide +kernel)) ggX7_drawn_X7_bad
set_option maxRecDepth 20000 in
theorem ggX7_drawn_X4_leftBehind : GoodIn wsX7_drawn wsX4_leftBehind := goodIn_r _ [23, 24, 25, 26, 27, 28, 29, 30, 31, 32, 33, 34, 35, 36, 49, 50, 51, 52, 53, 54, 55, 56, 57, 58, 59, 60, 61] rfl gw_X4_leftBehind
set_option maxRecDepth 20000 in
theorem gX7_drawn_X4_leftBehind : GoodIn wsX7_drawn (wsV RX7 259 RX4 yX4_leftBehind wsX4_leftBehind) := goodIn_app (goodIn_r _ [19, 20, 21, 22] rfl (by decide +kernel)) ggX7_drawn_X4_leftBehind
set_option maxRecDepth 20000 in
theorem ggX7_part_X7_isWithin : GoodIn wsX7_part wsX7_isWithin := goodIn_r _ [7] rfl gw_X7_isWithin
set_option maxRecDepth 20000 in
theorem gX7_part_X7_isWithin : GoodIn wsX7_part (va_wsS RX7 98 yX7_isWithin wsX7_isWithin) := goodIn_app (goodIn_r _ [4, 5, 6] rfl (by decide +kernel)) ggX7_part_X7_isWithin
set_option maxRecDepth 20000 in
theorem ggX7_part_X7_bad : GoodIn wsX7_part wsX7_bad := goodIn_r _ [11, 12, 13, 14, 15, 16, 17, 18, 19, 20, 21, 22, 23, 24] rfl gw_X7_bad
set_option maxRecDepth 20000 in
theorem gX7_part_X7_bad : GoodIn wsX7_part (wsV RX7 66 RX7 yX7_bad wsX7_bad) := goodIn_app (goodIn_r _ [8, 9, 10, 6] rfl (by decide +kernel)) ggX7_part_X7_bad
set_option maxRecDepth 20000 in
theorem ggX7_image_X7_isWithin : GoodIn wsX7_image wsX7_isWithin := goodIn_r _ [7] rfl gw_X7_isWithin
set_option maxRecDepth 20000 in
theorem gX7_image_X7_isWithin : GoodIn wsX7_image (va_wsS RX7 98 yX7_isWithin wsX7_isWithin) := goodIn_app (goodIn_r _ [4, 5, 6] rfl (by decide +kernel)) ggX7_image_X7_isWithin
set_option maxRecDepth 20000 in
theorem ggX7_image_X7_bad : GoodIn wsX7_image wsX7_bad := goodIn_r _ [11, 12, 41, 42, 43, 44, 45, 46, 47, 48, 49, 50, 51, 52] rfl gw_X7_bad
set_option maxRecDepth 20000 in
theorem gX7_image_X7_bad : GoodIn wsX7_image (wsV RX7 66 RX7 yX7_bad wsX7_bad) := goodIn_app (goodIn_r _ [8, 9, 10, 6] rfl (by decide +kernel)) ggX7_image_X7_bad
set_option maxRecDepth 20000 in
theorem ggX7_image_X4_copy : GoodIn wsX7_image wsX4_copy := goodIn_r _ [17, 18, 19, 20, 21, 22, 23, 24, 25, 26, 27, 28, 29, 30, 31, 32, 33, 34, 35, 36, 37, 38, 39, 40, 53, 54, 55, 56, 57, 58, 59, 60, 61, 62, 63, 64, 65] rfl gw_X4_copy
set_option maxRecDepth 20000 in
theorem gX7_image_X4_copy : GoodIn wsX7_image (wsV RX7 141 RX4 yX4_copy wsX4_copy) := goodIn_app (goodIn_r _ [13, 14, 15, 16] rfl (by decide +kernel)) ggX7_image_X4_copy
set_option maxRecDepth 20000 in
theorem ggX7_from_X7_isWithin : GoodIn wsX7_from wsX7_isWithin := goodIn_r _ [7] rfl gw_X7_isWithin
set_option maxRecDepth 20000 in
theorem gX7_from_X7_isWithin : GoodIn wsX7_from (va_wsS RX7 98 yX7_isWithin wsX7_isWithin) := goodIn_app (goodIn_r _ [4, 5, 6] rfl (by decide +kernel)) ggX7_from_X7_isWithin
set_option maxRecDepth 20000 in
theorem ggX7_from_X7_bad : GoodIn wsX7_from wsX7_bad := goodIn_r _ [11, 12, 46, 47, 48, 49, 50, 51, 52, 53, 54, 55, 56, 57] rfl gw_X7_bad
set_option maxRecDepth 20000 in
theorem gX7_from_X7_bad : GoodIn wsX7_from (wsV RX7 66 RX7 yX7_bad wsX7_bad) := goodIn_app (goodIn_r _ [8, 9, 10, 6] rfl (by decide +kernel)) ggX7_from_X7_bad
set_option maxRecDepth 20000 in
theorem ggX7_from_X7_no : GoodIn wsX7_from wsX7_no := goodIn_r _ [16, 17, 46, 47, 48, 49, 50, 51, 52, 53, 54, 55, 56, 57] rfl gw_X7_no
set_option maxRecDepth 20000 in
theorem gX7_from_X7_no : GoodIn wsX7_from (wsV RX7 148 RX7 yX7_no wsX7_no) := goodIn_app (goodIn_r _ [13, 14, 15, 6] rfl (by decide +kernel)) ggX7_from_X7_no
set_option maxRecDepth 20000 in
theorem ggX7_from_X4_copy : GoodIn wsX7_from wsX4_copy := goodIn_r _ [22, 23, 24, 25, 26, 27, 28, 29, 30, 31, 32, 33, 34, 35, 36, 37, 38, 39, 40, 41, 42, 43, 44, 45, 58, 59, 60, 61, 62, 63, 64, 65, 66, 67, 68, 69, 70] rfl gw_X4_copy
set_option maxRecDepth 20000 in
theorem gX7_from_X4_copy : GoodIn wsX7_from (wsV RX7 141 RX4 yX4_copy wsX4_copy) := goodIn_app (goodIn_r _ [18, 19, 20, 21] rfl (by decide +kernel)) ggX7_from_X4_copy
set_option maxRecDepth 20000 in
theorem ggX7_status_X7_bad : GoodIn wsX7_status wsX7_bad := goodIn_r _ [8, 1, 9, 10, 11, 12, 13, 14, 15, 16, 17, 18, 19, 20] rfl gw_X7_bad
set_option maxRecDepth 20000 in
theorem gX7_status_X7_bad : GoodIn wsX7_status (wsV RX7 66 RX7 yX7_bad wsX7_bad) := goodIn_app (goodIn_r _ [4, 5, 6, 7] rfl (by decide +kernel)) ggX7_status_X7_bad
set_option maxRecDepth 20000 in
theorem ggX7_count_X7_isWithin : GoodIn wsX7_count wsX7_isWithin := goodIn_r _ [4] rfl gw_X7_isWithin
set_option maxRecDepth 20000 in
theorem gX7_count_X7_isWithin : GoodIn wsX7_count (va_wsS RX7 98 yX7_isWithin wsX7_isWithin) := goodIn_app (goodIn_r _ [1, 2, 3] rfl (by decide +kernel)) ggX7_count_X7_isWithin
set_option maxRecDepth 20000 in
theorem ggX7_count_X7_countOf : GoodIn wsX7_count wsX7_countOf := goodIn_r _ [8, 9, 10, 11, 12, 13, 14, 15, 16, 17, 18, 19, 20, 21, 22, 23, 24, 25, 26, 27, 33, 34, 35, 36, 37, 38, 39, 40, 41, 42, 43, 44, 45, 46, 47, 48, 49, 50, 51, 52, 53, 54, 55, 56, 57, 58, 59, 60, 61, 62, 63, 64, 65, 66, 67] rfl gw_X7_countOf
set_option maxRecDepth 20000 in
theorem gX7_count_X7_countOf : GoodIn wsX7_count (wsV RX7 279 RX7 yX7_countOf wsX7_countOf) := goodIn_app (goodIn_r _ [5, 6, 7, 3] rfl (by decide +kernel)) ggX7_count_X7_countOf
set_option maxRecDepth 20000 in
theorem ggX7_count_X7_bad : GoodIn wsX7_count wsX7_bad := goodIn_r _ [31, 32, 33, 34, 35, 36, 37, 38, 39, 40, 41, 42, 43, 44] rfl gw_X7_bad
set_option maxRecDepth 20000 in
theorem gX7_count_X7_bad : GoodIn wsX7_count (wsV RX7 66 RX7 yX7_bad wsX7_bad) := goodIn_app (goodIn_r _ [28, 29, 30, 3] rfl (by decide +kernel)) ggX7_count_X7_bad
set_option maxRecDepth 20000 in
theorem ggX7_digest_X7_countOf : GoodIn wsX7_digest wsX7_countOf := goodIn_r _ [18, 3, 4, 19, 20, 6, 21, 22, 9, 23, 24, 25, 26, 27, 28, 29, 30, 31, 32, 33, 34, 35, 36, 37, 38, 39, 40, 41, 42, 43, 44, 45, 46, 47, 48, 49, 50, 51, 52, 53, 54, 55, 56, 57, 58, 63, 64, 65, 66, 67, 68, 69, 70, 71, 72] rfl gw_X7_countOf
set_option maxRecDepth 20000 in
theorem gX7_digest_X7_countOf : GoodIn wsX7_digest (wsV RX7 279 RX7 yX7_countOf wsX7_countOf) := goodIn_app (goodIn_r _ [14, 15, 16, 17] rfl (by decide +kernel)) ggX7_digest_X7_countOf
set_option maxRecDepth 20000 in
theorem ggX7_isBreath_X7_isWithin : GoodIn wsX7_isBreath wsX7_isWithin := goodIn_r _ [4] rfl gw_X7_isWithin
set_option maxRecDepth 20000 in
theorem gX7_isBreath_X7_isWithin : GoodIn wsX7_isBreath (va_wsS RX7 98 yX7_isWithin wsX7_isWithin) := goodIn_app (goodIn_r _ [1, 2, 3] rfl (by decide +kernel)) ggX7_isBreath_X7_isWithin
set_option maxRecDepth 20000 in
theorem ggX7_isPrice_X7_isWithin : GoodIn wsX7_isPrice wsX7_isWithin := goodIn_r _ [4] rfl gw_X7_isWithin
set_option maxRecDepth 20000 in
theorem gX7_isPrice_X7_isWithin : GoodIn wsX7_isPrice (va_wsS RX7 98 yX7_isWithin wsX7_isWithin) := goodIn_app (goodIn_r _ [1, 2, 3] rfl (by decide +kernel)) ggX7_isPrice_X7_isWithin
set_option maxRecDepth 20000 in
theorem ggX7_isLength_X7_isWithin : GoodIn wsX7_isLength wsX7_isWithin := goodIn_r _ [4] rfl gw_X7_isWithin
set_option maxRecDepth 20000 in
theorem gX7_isLength_X7_isWithin : GoodIn wsX7_isLength (va_wsS RX7 98 yX7_isWithin wsX7_isWithin) := goodIn_app (goodIn_r _ [1, 2, 3] rfl (by decide +kernel)) ggX7_isLength_X7_isWithin
set_option maxRecDepth 20000 in
theorem ggX7_countOf_X4_howManyMarks : GoodIn wsX7_countOf wsX4_howManyMarks := goodIn_r _ [16, 17, 18, 19, 32, 33, 34, 35, 36, 37, 38, 39, 40, 41, 42, 43, 44] rfl gw_X4_howManyMarks
set_option maxRecDepth 20000 in
theorem gX7_countOf_X4_howManyMarks : GoodIn wsX7_countOf (wsV RX7 289 RX4 yX4_howManyMarks wsX4_howManyMarks) := goodIn_app (goodIn_r _ [12, 13, 14, 15] rfl (by decide +kernel)) ggX7_countOf_X4_howManyMarks
set_option maxRecDepth 20000 in
theorem ggX7_tellItem_X7_isBreath : GoodIn wsX7_tellItem wsX7_isBreath := goodIn_r _ [9, 10, 11, 8, 12] rfl gw_X7_isBreath
set_option maxRecDepth 20000 in
theorem gX7_tellItem_X7_isBreath : GoodIn wsX7_tellItem (va_wsS RX7 59 yX7_isBreath wsX7_isBreath) := goodIn_app (goodIn_r _ [6, 7, 8] rfl (by decide +kernel)) ggX7_tellItem_X7_isBreath
set_option maxRecDepth 20000 in
theorem ggX7_tellItem_X7_isPrice : GoodIn wsX7_tellItem wsX7_isPrice := goodIn_r _ [15, 10, 11, 8, 12] rfl gw_X7_isPrice
set_option maxRecDepth 20000 in
theorem gX7_tellItem_X7_isPrice : GoodIn wsX7_tellItem (va_wsS RX7 63 yX7_isPrice wsX7_isPrice) := goodIn_app (goodIn_r _ [13, 14, 8] rfl (by decide +kernel)) ggX7_tellItem_X7_isPrice
set_option maxRecDepth 20000 in
theorem ggX7_tellItem_X4_begin : GoodIn wsX7_tellItem wsX4_begin := goodIn_r _ [20, 21, 22, 23, 24, 25, 26, 27, 28, 82, 83, 84, 85, 86, 87, 88, 89, 90, 91, 92, 93, 94] rfl gw_X4_begin
set_option maxRecDepth 20000 in
theorem gX7_tellItem_X4_begin : GoodIn wsX7_tellItem (wsV RX7 74 RX4 yX4_begin wsX4_begin) := goodIn_app (goodIn_r _ [16, 17, 18, 19] rfl (by decide +kernel)) ggX7_tellItem_X4_begin
set_option maxRecDepth 20000 in
theorem ggX7_tellItem_X7_isLength : GoodIn wsX7_tellItem wsX7_isLength := goodIn_r _ [31, 10, 11, 8, 12] rfl gw_X7_isLength
set_option maxRecDepth 20000 in
theorem gX7_tellItem_X7_isLength : GoodIn wsX7_tellItem (va_wsS RX7 78 yX7_isLength wsX7_isLength) := goodIn_app (goodIn_r _ [29, 30, 8] rfl (by decide +kernel)) ggX7_tellItem_X7_isLength
set_option maxRecDepth 20000 in
theorem ggX7_tellItem_X4_hasRoom : GoodIn wsX7_tellItem wsX4_hasRoom := goodIn_r _ [35, 26, 82, 83, 84, 85, 86, 87, 88, 89, 90] rfl gw_X4_hasRoom
set_option maxRecDepth 20000 in
theorem gX7_tellItem_X4_hasRoom : GoodIn wsX7_tellItem (wsV RX7 81 RX4 yX4_hasRoom wsX4_hasRoom) := goodIn_app (goodIn_r _ [32, 33, 34, 19] rfl (by decide +kernel)) ggX7_tellItem_X4_hasRoom
set_option maxRecDepth 20000 in
theorem ggX7_tellItem_X4_addWord : GoodIn wsX7_tellItem wsX4_addWord := goodIn_r _ [39, 40, 26, 23, 28, 41, 42, 43, 44, 45, 46, 47, 82, 83, 84, 85, 86, 87, 88, 89, 90, 91, 92, 93, 94] rfl gw_X4_addWord
set_option maxRecDepth 20000 in
theorem gX7_tellItem_X4_addWord : GoodIn wsX7_tellItem (wsV RX7 88 RX4 yX4_addWord wsX4_addWord) := goodIn_app (goodIn_r _ [36, 37, 38, 19] rfl (by decide +kernel)) ggX7_tellItem_X4_addWord
set_option maxRecDepth 20000 in
theorem ggX7_tellItem_X4_has : GoodIn wsX7_tellItem wsX4_has := goodIn_r _ [51, 26, 82, 83, 84, 85, 86, 87, 88, 89, 90] rfl gw_X4_has
set_option maxRecDepth 20000 in
theorem gX7_tellItem_X4_has : GoodIn wsX7_tellItem (wsV RX7 111 RX4 yX4_has wsX4_has) := goodIn_app (goodIn_r _ [48, 49, 50, 19] rfl (by decide +kernel)) ggX7_tellItem_X4_has
set_option maxRecDepth 20000 in
theorem ggX7_tellItem_X1_isOne : GoodIn wsX7_tellItem wsX1_isOne := goodIn_r _ [55] rfl gw_X1_isOne
set_option maxRecDepth 20000 in
theorem gX7_tellItem_X1_isOne : GoodIn wsX7_tellItem (va_wsS RX7 114 yX1_isOne wsX1_isOne) := goodIn_app (goodIn_r _ [52, 53, 54] rfl (by decide +kernel)) ggX7_tellItem_X1_isOne
set_option maxRecDepth 20000 in
theorem ggX7_tellItem_X4_setMark : GoodIn wsX7_tellItem wsX4_setMark := goodIn_r _ [59, 23, 28, 41, 42, 43, 44, 45, 46, 47, 82, 83, 84, 85, 86, 87, 88, 89, 90, 91, 92, 93, 94] rfl gw_X4_setMark
set_option maxRecDepth 20000 in
theorem gX7_tellItem_X4_setMark : GoodIn wsX7_tellItem (wsV RX7 122 RX4 yX4_setMark wsX4_setMark) := goodIn_app (goodIn_r _ [56, 57, 58, 19] rfl (by decide +kernel)) ggX7_tellItem_X4_setMark
set_option maxRecDepth 20000 in
theorem ggX7_mostAlike_J7_fill_53178 : GoodIn wsX7_mostAlike wsJ7_fill_53178 := goodIn_r _ [10] rfl gw_J7_fill_53178
set_option maxRecDepth 20000 in
theorem gX7_mostAlike_J7_fill_53178 : GoodIn wsX7_mostAlike (va_wsS RX7 301 yJ7_fill_53178 wsJ7_fill_53178) := goodIn_app (goodIn_r _ [7, 8, 9] rfl (by decide +kernel)) ggX7_mostAlike_J7_fill_53178
set_option maxRecDepth 20000 in
theorem ggX7_mostAlike_X4_stuckAt : GoodIn wsX7_mostAlike wsX4_stuckAt := goodIn_r _ [15, 16, 17, 18, 19, 20, 14, 21, 22, 23, 24, 25, 26, 27, 28, 29, 5, 30, 31, 4, 6, 44, 45, 46, 47, 48, 49, 50, 51, 52, 53, 54, 55, 56] rfl gw_X4_stuckAt
set_option maxRecDepth 20000 in
theorem gX7_mostAlike_X4_stuckAt : GoodIn wsX7_mostAlike (wsV RX7 185 RX4 yX4_stuckAt wsX4_stuckAt) := goodIn_app (goodIn_r _ [11, 12, 13, 14] rfl (by decide +kernel)) ggX7_mostAlike_X4_stuckAt
set_option maxRecDepth 20000 in
theorem ggX7_isBest_X7_gain : GoodIn wsX7_isBest wsX7_gain := goodIn_r _ [4] rfl gw_X7_gain
set_option maxRecDepth 20000 in
theorem gX7_isBest_X7_gain : GoodIn wsX7_isBest (va_wsS RX7 310 yX7_gain wsX7_gain) := goodIn_app (goodIn_r _ [1, 2, 3] rfl (by decide +kernel)) ggX7_isBest_X7_gain
set_option maxRecDepth 20000 in
theorem ggX8_init_X8_begin : GoodIn wsX8_init wsX8_begin := goodIn_r _ [31, 6, 7, 32, 33, 34, 35, 36, 37, 38, 39, 40, 41, 42, 43, 44, 45, 46, 47, 48, 49, 50, 51, 52, 53, 54, 55, 56, 57, 58, 59, 60, 61, 62, 63, 64, 65, 66, 67, 68] rfl gw_X8_begin
set_option maxRecDepth 20000 in
theorem gX8_init_X8_begin : GoodIn wsX8_init (wsV RX8 76 RX8 yX8_begin wsX8_begin) := goodIn_app (goodIn_r _ [27, 28, 29, 30] rfl (by decide +kernel)) ggX8_init_X8_begin
set_option maxRecDepth 20000 in
theorem ggX8_isPiece_X8_in : GoodIn wsX8_isPiece wsX8_in := goodIn_r _ [5] rfl gw_X8_in
set_option maxRecDepth 20000 in
theorem gX8_isPiece_X8_in : GoodIn wsX8_isPiece (va_wsS RX8 95 yX8_in wsX8_in) := goodIn_app (goodIn_r _ [2, 3, 4] rfl (by decide +kernel)) ggX8_isPiece_X8_in
set_option maxRecDepth 20000 in
theorem ggX8_isKind_X8_in : GoodIn wsX8_isKind wsX8_in := goodIn_r _ [4] rfl gw_X8_in
set_option maxRecDepth 20000 in
theorem gX8_isKind_X8_in : GoodIn wsX8_isKind (va_wsS RX8 95 yX8_in wsX8_in) := goodIn_app (goodIn_r _ [1, 2, 3] rfl (by decide +kernel)) ggX8_isKind_X8_in
set_option maxRecDepth 20000 in
theorem ggX8_isPage_X8_in : GoodIn wsX8_isPage wsX8_in := goodIn_r _ [4] rfl gw_X8_in
set_option maxRecDepth 20000 in
theorem gX8_isPage_X8_in : GoodIn wsX8_isPage (va_wsS RX8 95 yX8_in wsX8_in) := goodIn_app (goodIn_r _ [1, 2, 3] rfl (by decide +kernel)) ggX8_isPage_X8_in
set_option maxRecDepth 20000 in
theorem ggX8_page_X8_isPage : GoodIn wsX8_page wsX8_isPage := goodIn_r _ [5, 6, 7, 4, 8] rfl gw_X8_isPage
set_option maxRecDepth 20000 in
theorem gX8_page_X8_isPage : GoodIn wsX8_page (va_wsS RX8 99 yX8_isPage wsX8_isPage) := goodIn_app (goodIn_r _ [2, 3, 4] rfl (by decide +kernel)) ggX8_page_X8_isPage
set_option maxRecDepth 20000 in
theorem ggX8_page_X8_bad : GoodIn wsX8_page wsX8_bad := goodIn_r _ [12, 13, 24, 25, 26, 27, 28, 29, 30, 31, 32, 33, 34, 35, 36, 37, 38, 39, 40, 41, 42, 43, 44, 45, 46, 47, 48, 49, 50, 51, 52, 53, 54, 55] rfl gw_X8_bad
set_option maxRecDepth 20000 in
theorem gX8_page_X8_bad : GoodIn wsX8_page (wsV RX8 103 RX8 yX8_bad wsX8_bad) := goodIn_app (goodIn_r _ [9, 10, 11, 4] rfl (by decide +kernel)) ggX8_page_X8_bad
set_option maxRecDepth 20000 in
theorem ggX8_page_X8_begin : GoodIn wsX8_page wsX8_begin := goodIn_r _ [17, 18, 19, 1, 20, 21, 22, 23, 24, 25, 26, 27, 28, 29, 30, 31, 32, 33, 34, 35, 36, 37, 38, 39, 40, 41, 42, 43, 44, 45, 46, 47, 48, 49, 50, 51, 52, 53, 54, 55] rfl gw_X8_begin
set_option maxRecDepth 20000 in
theorem gX8_page_X8_begin : GoodIn wsX8_page (wsV RX8 76 RX8 yX8_begin wsX8_begin) := goodIn_app (goodIn_r _ [14, 15, 16, 4] rfl (by decide +kernel)) ggX8_page_X8_begin
set_option maxRecDepth 20000 in
theorem ggX8_word_X8_in : GoodIn wsX8_word wsX8_in := goodIn_r _ [5] rfl gw_X8_in
set_option maxRecDepth 20000 in
theorem gX8_word_X8_in : GoodIn wsX8_word (va_wsS RX8 95 yX8_in wsX8_in) := goodIn_app (goodIn_r _ [2, 3, 4] rfl (by decide +kernel)) ggX8_word_X8_in
set_option maxRecDepth 20000 in
theorem ggX8_word_X8_bad : GoodIn wsX8_word wsX8_bad := goodIn_r _ [9, 10, 23, 24, 25, 26, 27, 28, 29, 30, 31, 32, 33, 34, 35, 36, 37, 38, 39, 40, 41, 42, 43, 44, 45, 46, 47, 48, 49, 50, 51, 52, 53, 54] rfl gw_X8_bad
set_option maxRecDepth 20000 in
theorem gX8_word_X8_bad : GoodIn wsX8_word (wsV RX8 103 RX8 yX8_bad wsX8_bad) := goodIn_app (goodIn_r _ [6, 7, 8, 4] rfl (by decide +kernel)) ggX8_word_X8_bad
set_option maxRecDepth 20000 in
theorem ggX8_word_X8_full : GoodIn wsX8_word wsX8_full := goodIn_r _ [14, 10, 23, 24, 25, 26, 27, 28, 29, 30, 31, 32, 33, 34, 35, 36, 37, 38, 39, 40, 41, 42, 43, 44, 45, 46, 47, 48, 49, 50, 51, 52, 53, 54] rfl gw_X8_full
set_option maxRecDepth 20000 in
theorem gX8_word_X8_full : GoodIn wsX8_word (wsV RX8 107 RX8 yX8_full wsX8_full) := goodIn_app (goodIn_r _ [11, 12, 13, 4] rfl (by decide +kernel)) ggX8_word_X8_full
set_option maxRecDepth 20000 in
theorem ggX8_word_X8_add : GoodIn wsX8_word wsX8_add := goodIn_r _ [18, 19, 1, 20, 21, 22, 23, 24, 25, 26, 27, 28, 29, 30, 31, 32, 33, 34, 35, 36, 37, 38, 39, 40, 41, 42, 43, 44, 45, 46, 47, 48, 49, 50, 51, 52, 53, 54] rfl gw_X8_add
set_option maxRecDepth 20000 in
theorem gX8_word_X8_add : GoodIn wsX8_word (wsV RX8 110 RX8 yX8_add wsX8_add) := goodIn_app (goodIn_r _ [15, 16, 17, 4] rfl (by decide +kernel)) ggX8_word_X8_add
set_option maxRecDepth 20000 in
theorem ggX8_breath_X8_in : GoodIn wsX8_breath wsX8_in := goodIn_r _ [5] rfl gw_X8_in
set_option maxRecDepth 20000 in
theorem gX8_breath_X8_in : GoodIn wsX8_breath (va_wsS RX8 95 yX8_in wsX8_in) := goodIn_app (goodIn_r _ [2, 3, 4] rfl (by decide +kernel)) ggX8_breath_X8_in
set_option maxRecDepth 20000 in
theorem ggX8_breath_X8_bad : GoodIn wsX8_breath wsX8_bad := goodIn_r _ [9, 10, 11, 12, 13, 14, 15, 16, 17, 18, 19, 20, 21, 22, 23, 24, 25, 26, 27, 28, 29, 30, 31, 32, 33, 34, 35, 36, 37, 38, 39, 40, 41, 42] rfl gw_X8_bad
set_option maxRecDepth 20000 in
theorem gX8_breath_X8_bad : GoodIn wsX8_breath (wsV RX8 103 RX8 yX8_bad wsX8_bad) := goodIn_app (goodIn_r _ [6, 7, 8, 4] rfl (by decide +kernel)) ggX8_breath_X8_bad
set_option maxRecDepth 20000 in
theorem ggX8_price_X8_in : GoodIn wsX8_price wsX8_in := goodIn_r _ [5] rfl gw_X8_in
set_option maxRecDepth 20000 in
theorem gX8_price_X8_in : GoodIn wsX8_price (va_wsS RX8 95 yX8_in wsX8_in) := goodIn_app (goodIn_r _ [2, 3, 4] rfl (by decide +kernel)) ggX8_price_X8_in
set_option maxRecDepth 20000 in
theorem ggX8_price_X8_bad : GoodIn wsX8_price wsX8_bad := goodIn_r _ [9, 10, 11, 12, 13, 14, 15, 16, 17, 18, 19, 20, 21, 22, 23, 24, 25, 26, 27, 28, 29, 30, 31, 32, 33, 34, 35, 36, 37, 38, 39, 40, 41, 42] rfl gw_X8_bad
set_option maxRecDepth 20000 in
theorem gX8_price_X8_bad : GoodIn wsX8_price (wsV RX8 103 RX8 yX8_bad wsX8_bad) := goodIn_app (goodIn_r _ [6, 7, 8, 4] rfl (by decide +kernel)) ggX8_price_X8_bad
set_option maxRecDepth 20000 in
theorem ggX8_purse_X8_in : GoodIn wsX8_purse wsX8_in := goodIn_r _ [5] rfl gw_X8_in
set_option maxRecDepth 20000 in
theorem gX8_purse_X8_in : GoodIn wsX8_purse (va_wsS RX8 95 yX8_in wsX8_in) := goodIn_app (goodIn_r _ [2, 3, 4] rfl (by decide +kernel)) ggX8_purse_X8_in
set_option maxRecDepth 20000 in
theorem ggX8_purse_X8_bad : GoodIn wsX8_purse wsX8_bad := goodIn_r _ [9, 10, 11, 12, 13, 14, 15, 16, 17, 18, 19, 20, 21, 22, 23, 24, 25, 26, 27, 28, 29, 30, 31, 32, 33, 34, 35, 36, 37, 38, 39, 40, 41, 42] rfl gw_X8_bad
set_option maxRecDepth 20000 in
theorem gX8_purse_X8_bad : GoodIn wsX8_purse (wsV RX8 103 RX8 yX8_bad wsX8_bad) := goodIn_app (goodIn_r _ [6, 7, 8, 4] rfl (by decide +kernel)) ggX8_purse_X8_bad
set_option maxRecDepth 20000 in
theorem ggX8_put_X8_isPiece : GoodIn wsX8_put wsX8_isPiece := goodIn_r _ [7, 8, 9, 10, 6, 11, 25, 26, 27, 28, 29, 30, 31, 32, 33, 34, 35, 36, 37, 38, 39, 40, 41, 42, 43, 44, 45, 46, 47, 48, 49, 50, 51, 52, 53, 54, 55, 56] rfl gw_X8_isPiece
set_option maxRecDepth 20000 in
theorem gX8_put_X8_isPiece : GoodIn wsX8_put (wsV RX8 114 RX8 yX8_isPiece wsX8_isPiece) := goodIn_app (goodIn_r _ [3, 4, 5, 6] rfl (by decide +kernel)) ggX8_put_X8_isPiece
set_option maxRecDepth 20000 in
theorem ggX8_put_X8_isKind : GoodIn wsX8_put wsX8_isKind := goodIn_r _ [14, 9, 10, 6, 11] rfl gw_X8_isKind
set_option maxRecDepth 20000 in
theorem gX8_put_X8_isKind : GoodIn wsX8_put (va_wsS RX8 118 yX8_isKind wsX8_isKind) := goodIn_app (goodIn_r _ [12, 13, 6] rfl (by decide +kernel)) ggX8_put_X8_isKind
set_option maxRecDepth 20000 in
theorem ggX8_put_X8_ten : GoodIn wsX8_put wsX8_ten := goodIn_r _ [18, 19, 25, 26, 27, 28, 29, 30, 31, 32, 33, 34, 35, 36, 37, 38, 39, 40, 41, 42, 43, 44, 45, 46, 47, 48, 49, 50, 51, 52, 53, 54, 55, 56] rfl gw_X8_ten
set_option maxRecDepth 20000 in
theorem gX8_put_X8_ten : GoodIn wsX8_put (wsV RX8 121 RX8 yX8_ten wsX8_ten) := goodIn_app (goodIn_r _ [15, 16, 17, 6] rfl (by decide +kernel)) ggX8_put_X8_ten
set_option maxRecDepth 20000 in
theorem ggX8_put_X8_mark : GoodIn wsX8_put wsX8_mark := goodIn_r _ [23, 1, 24, 25, 26, 27, 28, 29, 30, 31, 32, 33, 34, 35, 36, 37, 38, 39, 40, 41, 42, 43, 44, 45, 46, 47, 48, 49, 50, 51, 52, 53, 54, 55, 56] rfl gw_X8_mark
set_option maxRecDepth 20000 in
theorem gX8_put_X8_mark : GoodIn wsX8_put (wsV RX8 124 RX8 yX8_mark wsX8_mark) := goodIn_app (goodIn_r _ [20, 21, 22, 6] rfl (by decide +kernel)) ggX8_put_X8_mark
set_option maxRecDepth 20000 in
theorem ggX8_type_X8_in : GoodIn wsX8_type wsX8_in := goodIn_r _ [6] rfl gw_X8_in
set_option maxRecDepth 20000 in
theorem gX8_type_X8_in : GoodIn wsX8_type (va_wsS RX8 95 yX8_in wsX8_in) := goodIn_app (goodIn_r _ [3, 4, 5] rfl (by decide +kernel)) ggX8_type_X8_in
set_option maxRecDepth 20000 in
theorem ggX8_type_X8_bad : GoodIn wsX8_type wsX8_bad := goodIn_r _ [10, 11, 16, 17, 18, 19, 20, 21, 22, 23, 24, 25, 26, 27, 28, 29, 30, 31, 32, 33, 34, 35, 36, 37, 38, 39, 40, 41, 42, 43, 44, 45, 46, 47] rfl gw_X8_bad
set_option maxRecDepth 20000 in
theorem gX8_type_X8_bad : GoodIn wsX8_type (wsV RX8 103 RX8 yX8_bad wsX8_bad) := goodIn_app (goodIn_r _ [7, 8, 9, 5] rfl (by decide +kernel)) ggX8_type_X8_bad
set_option maxRecDepth 20000 in
theorem ggX8_type_X8_full : GoodIn wsX8_type wsX8_full := goodIn_r _ [15, 11, 16, 17, 18, 19, 20, 21, 22, 23, 24, 25, 26, 27, 28, 29, 30, 31, 32, 33, 34, 35, 36, 37, 38, 39, 40, 41, 42, 43, 44, 45, 46, 47] rfl gw_X8_full
set_option maxRecDepth 20000 in
theorem gX8_type_X8_full : GoodIn wsX8_type (wsV RX8 107 RX8 yX8_full wsX8_full) := goodIn_app (goodIn_r _ [12, 13, 14, 5] rfl (by decide +kernel)) ggX8_type_X8_full
set_option maxRecDepth 20000 in
theorem ggX8_skip_X8_here : GoodIn wsX8_skip wsX8_here := goodIn_r _ [6, 1, 7, 8, 9, 10, 11, 12, 13, 14, 15, 16, 17, 18, 19, 20, 21, 22, 23, 24, 25, 26, 27, 28, 29, 30, 31, 32, 33, 34, 35, 36, 37, 38, 39, 40] rfl gw_X8_here
set_option maxRecDepth 20000 in
theorem gX8_skip_X8_here : GoodIn wsX8_skip (wsV RX8 133 RX8 yX8_here wsX8_here) := goodIn_app (goodIn_r _ [2, 3, 4, 5] rfl (by decide +kernel)) ggX8_skip_X8_here
set_option maxRecDepth 20000 in
theorem ggX8_isLetter_X8_in : GoodIn wsX8_isLetter wsX8_in := goodIn_r _ [4] rfl gw_X8_in
set_option maxRecDepth 20000 in
theorem gX8_isLetter_X8_in : GoodIn wsX8_isLetter (va_wsS RX8 95 yX8_in wsX8_in) := goodIn_app (goodIn_r _ [1, 2, 3] rfl (by decide +kernel)) ggX8_isLetter_X8_in
set_option maxRecDepth 20000 in
theorem ggX8_isFigure_X8_in : GoodIn wsX8_isFigure wsX8_in := goodIn_r _ [4] rfl gw_X8_in
set_option maxRecDepth 20000 in
theorem gX8_isFigure_X8_in : GoodIn wsX8_isFigure (va_wsS RX8 95 yX8_in wsX8_in) := goodIn_app (goodIn_r _ [1, 2, 3] rfl (by decide +kernel)) ggX8_isFigure_X8_in
set_option maxRecDepth 20000 in
theorem ggX8_wordSize_X8_isLetter : GoodIn wsX8_wordSize wsX8_isLetter := goodIn_r _ [7, 8, 9, 6, 10] rfl gw_X8_isLetter
set_option maxRecDepth 20000 in
theorem gX8_wordSize_X8_isLetter : GoodIn wsX8_wordSize (va_wsS RX8 136 yX8_isLetter wsX8_isLetter) := goodIn_app (goodIn_r _ [4, 5, 6] rfl (by decide +kernel)) ggX8_wordSize_X8_isLetter
set_option maxRecDepth 20000 in
theorem ggX8_wordHere_X8_wordSize : GoodIn wsX8_wordHere wsX8_wordSize := goodIn_r _ [5, 6, 7, 8, 9, 10, 4, 11, 12, 13, 14, 19, 20, 21, 22, 23, 24, 25, 26, 27, 28, 29, 30, 31, 32, 33, 34, 35, 36, 37, 38, 39, 40, 41, 42, 43, 44, 45, 46, 47, 48, 49, 50] rfl gw_X8_wordSize
set_option maxRecDepth 20000 in
theorem gX8_wordHere_X8_wordSize : GoodIn wsX8_wordHere (wsV RX8 139 RX8 yX8_wordSize wsX8_wordSize) := goodIn_app (goodIn_r _ [1, 2, 3, 4] rfl (by decide +kernel)) ggX8_wordHere_X8_wordSize
set_option maxRecDepth 20000 in
theorem ggX8_wordHere_X8_letter : GoodIn wsX8_wordHere wsX8_letter := goodIn_r _ [18, 8, 6, 19, 20, 21, 22, 23, 24, 25, 26, 27, 28, 29, 30, 31, 32, 33, 34, 35, 36, 37, 38, 39, 40, 41, 42, 43, 44, 45, 46, 47, 48, 49, 50] rfl gw_X8_letter
set_option maxRecDepth 20000 in
theorem gX8_wordHere_X8_letter : GoodIn wsX8_wordHere (wsV RX8 142 RX8 yX8_letter wsX8_letter) := goodIn_app (goodIn_r _ [15, 16, 17, 4] rfl (by decide +kernel)) ggX8_wordHere_X8_letter
set_option maxRecDepth 20000 in
theorem ggX8_number_X8_skip : GoodIn wsX8_number wsX8_skip := goodIn_r _ [9, 1, 10, 11, 12, 8, 13, 2, 3, 20, 21, 22, 23, 24, 25, 26, 27, 28, 29, 30, 31, 32, 33, 34, 35, 36, 37, 38, 39, 40, 41, 42, 43, 44, 45, 46, 47, 48, 49, 50, 51] rfl gw_X8_skip
set_option maxRecDepth 20000 in
theorem gX8_number_X8_skip : GoodIn wsX8_number (wsV RX8 145 RX8 yX8_skip wsX8_skip) := goodIn_app (goodIn_r _ [5, 6, 7, 8] rfl (by decide +kernel)) ggX8_number_X8_skip
set_option maxRecDepth 20000 in
theorem ggX8_number_X8_isFigure : GoodIn wsX8_number wsX8_isFigure := goodIn_r _ [16, 17, 18, 8, 19] rfl gw_X8_isFigure
set_option maxRecDepth 20000 in
theorem gX8_number_X8_isFigure : GoodIn wsX8_number (va_wsS RX8 148 yX8_isFigure wsX8_isFigure) := goodIn_app (goodIn_r _ [14, 15, 8] rfl (by decide +kernel)) ggX8_number_X8_isFigure
set_option maxRecDepth 20000 in
theorem ggX8_number_X8_in : GoodIn wsX8_number wsX8_in := goodIn_r _ [19] rfl gw_X8_in
set_option maxRecDepth 20000 in
theorem gX8_number_X8_in : GoodIn wsX8_number (va_wsS RX8 95 yX8_in wsX8_in) := goodIn_app (goodIn_r _ [17, 18, 8] rfl (by decide +kernel)) ggX8_number_X8_in
set_option maxRecDepth 20000 in
theorem ggX8_readsItem_X8_wordHere : GoodIn wsX8_readsItem wsX8_wordHere := goodIn_r _ [9, 10, 11, 12, 8, 13, 2, 14, 15, 16, 17, 18, 19, 20, 21, 22, 23, 24, 25, 41, 42, 43, 44, 45, 46, 47, 48, 49, 50, 51, 52, 53, 54, 55, 56, 57, 58, 59, 60, 61, 62, 63, 64, 65, 66, 67, 68, 69, 70, 71, 72] rfl gw_X8_wordHere
set_option maxRecDepth 20000 in
theorem gX8_readsItem_X8_wordHere : GoodIn wsX8_readsItem (wsV RX8 154 RX8 yX8_wordHere wsX8_wordHere) := goodIn_app (goodIn_r _ [5, 6, 7, 8] rfl (by decide +kernel)) ggX8_readsItem_X8_wordHere
set_option maxRecDepth 20000 in
theorem ggX8_readsItem_X8_number : GoodIn wsX8_readsItem wsX8_number := goodIn_r _ [29, 2, 14, 15, 4, 30, 31, 32, 8, 33, 34, 35, 36, 37, 38, 39, 40, 19, 20, 21, 41, 42, 43, 44, 45, 46, 47, 48, 49, 50, 51, 52, 53, 54, 55, 56, 57, 58, 59, 60, 61, 62, 63, 64, 65, 66, 67, 68, 69, 70, 71, 72] rfl gw_X8_number
set_option maxRecDepth 20000 in
theorem gX8_readsItem_X8_number : GoodIn wsX8_readsItem (wsV RX8 160 RX8 yX8_number wsX8_number) := goodIn_app (goodIn_r _ [26, 27, 28, 8] rfl (by decide +kernel)) ggX8_readsItem_X8_number
set_option maxRecDepth 20000 in
theorem ggX8_readsItem_X8_skip : GoodIn wsX8_readsItem wsX8_skip := goodIn_r _ [33, 2, 34, 35, 36, 8, 37, 14, 15, 41, 42, 43, 44, 45, 46, 47, 48, 49, 50, 51, 52, 53, 54, 55, 56, 57, 58, 59, 60, 61, 62, 63, 64, 65, 66, 67, 68, 69, 70, 71, 72] rfl gw_X8_skip
set_option maxRecDepth 20000 in
theorem gX8_readsItem_X8_skip : GoodIn wsX8_readsItem (wsV RX8 145 RX8 yX8_skip wsX8_skip) := goodIn_app (goodIn_r _ [30, 31, 32, 8] rfl (by decide +kernel)) ggX8_readsItem_X8_skip
set_option maxRecDepth 20000 in
theorem ggX8_readsItem_X8_here : GoodIn wsX8_readsItem wsX8_here := goodIn_r _ [37, 2, 14, 15, 41, 42, 43, 44, 45, 46, 47, 48, 49, 50, 51, 52, 53, 54, 55, 56, 57, 58, 59, 60, 61, 62, 63, 64, 65, 66, 67, 68, 69, 70, 71, 72] rfl gw_X8_here
set_option maxRecDepth 20000 in
theorem gX8_readsItem_X8_here : GoodIn wsX8_readsItem (wsV RX8 133 RX8 yX8_here wsX8_here) := goodIn_app (goodIn_r _ [34, 35, 36, 8] rfl (by decide +kernel)) ggX8_readsItem_X8_here
set_option maxRecDepth 20000 in
theorem ggX8_readsPage_X8_skip : GoodIn wsX8_readsPage wsX8_skip := goodIn_r _ [8, 1, 9, 10, 11, 7, 12, 3, 13, 45, 46, 47, 48, 49, 50, 51, 52, 53, 54, 55, 56, 57, 58, 59, 60, 61, 62, 63, 64, 65, 66, 67, 68, 69, 70, 71, 72, 73, 74, 75, 76] rfl gw_X8_skip
set_option maxRecDepth 20000 in
theorem gX8_readsPage_X8_skip : GoodIn wsX8_readsPage (wsV RX8 145 RX8 yX8_skip wsX8_skip) := goodIn_app (goodIn_r _ [4, 5, 6, 7] rfl (by decide +kernel)) ggX8_readsPage_X8_skip
set_option maxRecDepth 20000 in
theorem ggX8_readsPage_X8_readsItem : GoodIn wsX8_readsPage wsX8_readsItem := goodIn_r _ [17, 2, 1, 18, 19, 20, 21, 22, 7, 23, 24, 25, 26, 27, 3, 13, 28, 29, 30, 31, 32, 33, 34, 35, 36, 37, 38, 39, 40, 41, 4, 5, 6, 8, 9, 10, 11, 12, 42, 43, 44, 45, 46, 47, 48, 49, 50, 51, 52, 53, 54, 55, 56, 57, 58, 59, 60, 61, 62, 63, 64, 65, 66, 67, 68, 69, 70, 71, 72, 73, 74, 75, 76] rfl gw_X8_readsItem
set_option maxRecDepth 20000 in
theorem gX8_readsPage_X8_readsItem : GoodIn wsX8_readsPage (wsV RX8 164 RX8 yX8_readsItem wsX8_readsItem) := goodIn_app (goodIn_r _ [14, 15, 16, 7] rfl (by decide +kernel)) ggX8_readsPage_X8_readsItem
set_option maxRecDepth 20000 in
theorem ggX8_refusedItem_X8_isPage : GoodIn wsX8_refusedItem wsX8_isPage := goodIn_r _ [6, 7, 8, 5, 9] rfl gw_X8_isPage
set_option maxRecDepth 20000 in
theorem gX8_refusedItem_X8_isPage : GoodIn wsX8_refusedItem (va_wsS RX8 99 yX8_isPage wsX8_isPage) := goodIn_app (goodIn_r _ [3, 4, 5] rfl (by decide +kernel)) ggX8_refusedItem_X8_isPage
set_option maxRecDepth 20000 in
theorem ggX8_refusedItem_X8_in : GoodIn wsX8_refusedItem wsX8_in := goodIn_r _ [9] rfl gw_X8_in
set_option maxRecDepth 20000 in
theorem gX8_refusedItem_X8_in : GoodIn wsX8_refusedItem (va_wsS RX8 95 yX8_in wsX8_in) := goodIn_app (goodIn_r _ [7, 8, 5] rfl (by decide +kernel)) ggX8_refusedItem_X8_in
set_option maxRecDepth 20000 in
theorem ggX8_refusedItem_X8_isKind : GoodIn wsX8_refusedItem wsX8_isKind := goodIn_r _ [12, 7, 8, 5, 9] rfl gw_X8_isKind
set_option maxRecDepth 20000 in
theorem gX8_refusedItem_X8_isKind : GoodIn wsX8_refusedItem (va_wsS RX8 118 yX8_isKind wsX8_isKind) := goodIn_app (goodIn_r _ [10, 11, 5] rfl (by decide +kernel)) ggX8_refusedItem_X8_isKind
set_option maxRecDepth 20000 in
theorem ggX8_read_X8_readsPage : GoodIn wsX8_read wsX8_readsPage := goodIn_r _ [8, 1, 3, 9, 10, 11, 12, 7, 13, 14, 15, 16, 17, 18, 19, 20, 21, 22, 2, 23, 24, 25, 26, 27, 28, 29, 30, 31, 32, 33, 34, 35, 36, 37, 38, 39, 40, 41, 42, 43, 44, 45, 46, 47, 48, 81, 82, 83, 84, 85, 86, 87, 88, 89, 90, 91, 92, 93, 94, 95, 96, 97, 98, 99, 100, 101, 102, 103, 104, 105, 106, 107, 108, 109, 110, 111, 112] rfl gw_X8_readsPage
set_option maxRecDepth 20000 in
theorem gX8_read_X8_readsPage : GoodIn wsX8_read (wsV RX8 167 RX8 yX8_readsPage wsX8_readsPage) := goodIn_app (goodIn_r _ [4, 5, 6, 7] rfl (by decide +kernel)) ggX8_read_X8_readsPage
set_option maxRecDepth 20000 in
theorem ggX8_read_X8_refusedItem : GoodIn wsX8_read wsX8_refusedItem := goodIn_r _ [52, 3, 2, 53, 54, 7, 55, 35, 36, 37, 56, 57, 58, 81, 82, 83, 84, 85, 86, 87, 88, 89, 90, 91, 92, 93, 94, 95, 96, 97, 98, 99, 100, 101, 102, 103, 104, 105, 106, 107, 108, 109, 110, 111, 112] rfl gw_X8_refusedItem
set_option maxRecDepth 20000 in
theorem gX8_read_X8_refusedItem : GoodIn wsX8_read (wsV RX8 170 RX8 yX8_refusedItem wsX8_refusedItem) := goodIn_app (goodIn_r _ [49, 50, 51, 7] rfl (by decide +kernel)) ggX8_read_X8_refusedItem
set_option maxRecDepth 20000 in
theorem ggX8_read_X8_begin : GoodIn wsX8_read wsX8_begin := goodIn_r _ [62, 63, 64, 65, 66, 67, 68, 69, 81, 82, 83, 84, 85, 86, 87, 88, 89, 90, 91, 92, 93, 94, 95, 96, 97, 98, 99, 100, 101, 102, 103, 104, 105, 106, 107, 108, 109, 110, 111, 112] rfl gw_X8_begin
set_option maxRecDepth 20000 in
theorem gX8_read_X8_begin : GoodIn wsX8_read (wsV RX8 76 RX8 yX8_begin wsX8_begin) := goodIn_app (goodIn_r _ [59, 60, 61, 7] rfl (by decide +kernel)) ggX8_read_X8_begin
set_option maxRecDepth 20000 in
theorem ggX8_read_X8_add : GoodIn wsX8_read wsX8_add := goodIn_r _ [73, 74, 65, 75, 76, 69, 81, 82, 83, 84, 85, 86, 87, 88, 89, 90, 91, 92, 93, 94, 95, 96, 97, 98, 99, 100, 101, 102, 103, 104, 105, 106, 107, 108, 109, 110, 111, 112] rfl gw_X8_add
set_option maxRecDepth 20000 in
theorem gX8_read_X8_add : GoodIn wsX8_read (wsV RX8 110 RX8 yX8_add wsX8_add) := goodIn_app (goodIn_r _ [70, 71, 72, 7] rfl (by decide +kernel)) ggX8_read_X8_add
set_option maxRecDepth 20000 in
theorem ggX8_read_X8_mark : GoodIn wsX8_read wsX8_mark := goodIn_r _ [80, 75, 76, 81, 82, 83, 84, 85, 86, 87, 88, 89, 90, 91, 92, 93, 94, 95, 96, 97, 98, 99, 100, 101, 102, 103, 104, 105, 106, 107, 108, 109, 110, 111, 112] rfl gw_X8_mark
set_option maxRecDepth 20000 in
theorem gX8_read_X8_mark : GoodIn wsX8_read (wsV RX8 124 RX8 yX8_mark wsX8_mark) := goodIn_app (goodIn_r _ [77, 78, 79, 7] rfl (by decide +kernel)) ggX8_read_X8_mark
set_option maxRecDepth 20000 in
theorem ggX8_givenBy_X8_lesser : GoodIn wsX8_givenBy wsX8_lesser := goodIn_r _ [4] rfl gw_X8_lesser
set_option maxRecDepth 20000 in
theorem gX8_givenBy_X8_lesser : GoodIn wsX8_givenBy (va_wsS RX8 173 yX8_lesser wsX8_lesser) := goodIn_app (goodIn_r _ [1, 2, 3] rfl (by decide +kernel)) ggX8_givenBy_X8_lesser
set_option maxRecDepth 20000 in
theorem ggX8_givenBy_X8_greater : GoodIn wsX8_givenBy wsX8_greater := goodIn_r _ [7] rfl gw_X8_greater
set_option maxRecDepth 20000 in
theorem gX8_givenBy_X8_greater : GoodIn wsX8_givenBy (va_wsS RX8 177 yX8_greater wsX8_greater) := goodIn_app (goodIn_r _ [5, 6, 3] rfl (by decide +kernel)) ggX8_givenBy_X8_greater
set_option maxRecDepth 20000 in
theorem ggX8_ends_X8_in : GoodIn wsX8_ends wsX8_in := goodIn_r _ [4] rfl gw_X8_in
set_option maxRecDepth 20000 in
theorem gX8_ends_X8_in : GoodIn wsX8_ends (va_wsS RX8 95 yX8_in wsX8_in) := goodIn_app (goodIn_r _ [1, 2, 3] rfl (by decide +kernel)) ggX8_ends_X8_in
set_option maxRecDepth 20000 in
theorem ggX8_buy_X8_isPiece : GoodIn wsX8_buy wsX8_isPiece := goodIn_r _ [7, 8, 9, 10, 6, 11, 41, 42, 43, 44, 45, 46, 47, 48, 49, 50, 51, 52, 53, 54, 55, 56, 57, 58, 59, 60, 61, 62, 63, 64, 65, 66, 67, 68, 69, 70, 71, 72] rfl gw_X8_isPiece
set_option maxRecDepth 20000 in
theorem gX8_buy_X8_isPiece : GoodIn wsX8_buy (wsV RX8 114 RX8 yX8_isPiece wsX8_isPiece) := goodIn_app (goodIn_r _ [3, 4, 5, 6] rfl (by decide +kernel)) ggX8_buy_X8_isPiece
set_option maxRecDepth 20000 in
theorem ggX8_buy_X8_isKind : GoodIn wsX8_buy wsX8_isKind := goodIn_r _ [14, 9, 10, 6, 11] rfl gw_X8_isKind
set_option maxRecDepth 20000 in
theorem gX8_buy_X8_isKind : GoodIn wsX8_buy (va_wsS RX8 118 yX8_isKind wsX8_isKind) := goodIn_app (goodIn_r _ [12, 13, 6] rfl (by decide +kernel)) ggX8_buy_X8_isKind
set_option maxRecDepth 20000 in
theorem ggX8_buy_X8_bad : GoodIn wsX8_buy wsX8_bad := goodIn_r _ [18, 19, 41, 42, 43, 44, 45, 46, 47, 48, 49, 50, 51, 52, 53, 54, 55, 56, 57, 58, 59, 60, 61, 62, 63, 64, 65, 66, 67, 68, 69, 70, 71, 72] rfl gw_X8_bad
set_option maxRecDepth 20000 in
theorem gX8_buy_X8_bad : GoodIn wsX8_buy (wsV RX8 103 RX8 yX8_bad wsX8_bad) := goodIn_app (goodIn_r _ [15, 16, 17, 6] rfl (by decide +kernel)) ggX8_buy_X8_bad
set_option maxRecDepth 20000 in
theorem ggX8_buy_X8_costOf : GoodIn wsX8_buy wsX8_costOf := goodIn_r _ [23, 24, 25, 41, 42, 43, 44, 45, 46, 47, 48, 49, 50, 51, 52, 53, 54, 55, 56, 57, 58, 59, 60, 61, 62, 63, 64, 65, 66, 67, 68, 69, 70, 71, 72] rfl gw_X8_costOf
set_option maxRecDepth 20000 in
theorem gX8_buy_X8_costOf : GoodIn wsX8_buy (wsV RX8 180 RX8 yX8_costOf wsX8_costOf) := goodIn_app (goodIn_r _ [20, 21, 22, 6] rfl (by decide +kernel)) ggX8_buy_X8_costOf
set_option maxRecDepth 20000 in
theorem ggX8_buy_X8_no : GoodIn wsX8_buy wsX8_no := goodIn_r _ [29, 19, 41, 42, 43, 44, 45, 46, 47, 48, 49, 50, 51, 52, 53, 54, 55, 56, 57, 58, 59, 60, 61, 62, 63, 64, 65, 66, 67, 68, 69, 70, 71, 72] rfl gw_X8_no
set_option maxRecDepth 20000 in
theorem gX8_buy_X8_no : GoodIn wsX8_buy (wsV RX8 183 RX8 yX8_no wsX8_no) := goodIn_app (goodIn_r _ [26, 27, 28, 6] rfl (by decide +kernel)) ggX8_buy_X8_no
set_option maxRecDepth 20000 in
theorem ggX8_buy_X8_notes : GoodIn wsX8_buy wsX8_notes := goodIn_r _ [33, 34, 35, 2, 25, 1, 36, 41, 42, 43, 44, 45, 46, 47, 48, 49, 50, 51, 52, 53, 54, 55, 56, 57, 58, 59, 60, 61, 62, 63, 64, 65, 66, 67, 68, 69, 70, 71, 72] rfl gw_X8_notes
set_option maxRecDepth 20000 in
theorem gX8_buy_X8_notes : GoodIn wsX8_buy (wsV RX8 186 RX8 yX8_notes wsX8_notes) := goodIn_app (goodIn_r _ [30, 31, 32, 6] rfl (by decide +kernel)) ggX8_buy_X8_notes
set_option maxRecDepth 20000 in
theorem ggX8_buy_X8_mark : GoodIn wsX8_buy wsX8_mark := goodIn_r _ [40, 1, 36, 41, 42, 43, 44, 45, 46, 47, 48, 49, 50, 51, 52, 53, 54, 55, 56, 57, 58, 59, 60, 61, 62, 63, 64, 65, 66, 67, 68, 69, 70, 71, 72] rfl gw_X8_mark
set_option maxRecDepth 20000 in
theorem gX8_buy_X8_mark : GoodIn wsX8_buy (wsV RX8 124 RX8 yX8_mark wsX8_mark) := goodIn_app (goodIn_r _ [37, 38, 39, 6] rfl (by decide +kernel)) ggX8_buy_X8_mark
set_option maxRecDepth 20000 in
theorem ggX8_sell_X8_isPiece : GoodIn wsX8_sell wsX8_isPiece := goodIn_r _ [7, 8, 9, 10, 6, 11, 41, 42, 43, 44, 45, 46, 47, 48, 49, 50, 51, 52, 53, 54, 55, 56, 57, 58, 59, 60, 61, 62, 63, 64, 65, 66, 67, 68, 69, 70, 71, 72] rfl gw_X8_isPiece
set_option maxRecDepth 20000 in
theorem gX8_sell_X8_isPiece : GoodIn wsX8_sell (wsV RX8 114 RX8 yX8_isPiece wsX8_isPiece) := goodIn_app (goodIn_r _ [3, 4, 5, 6] rfl (by decide +kernel)) ggX8_sell_X8_isPiece
set_option maxRecDepth 20000 in
theorem ggX8_sell_X8_bad : GoodIn wsX8_sell wsX8_bad := goodIn_r _ [15, 16, 41, 42, 43, 44, 45, 46, 47, 48, 49, 50, 51, 52, 53, 54, 55, 56, 57, 58, 59, 60, 61, 62, 63, 64, 65, 66, 67, 68, 69, 70, 71, 72] rfl gw_X8_bad
set_option maxRecDepth 20000 in
theorem gX8_sell_X8_bad : GoodIn wsX8_sell (wsV RX8 103 RX8 yX8_bad wsX8_bad) := goodIn_app (goodIn_r _ [12, 13, 14, 6] rfl (by decide +kernel)) ggX8_sell_X8_bad
set_option maxRecDepth 20000 in
theorem ggX8_sell_X8_no : GoodIn wsX8_sell wsX8_no := goodIn_r _ [20, 16, 41, 42, 43, 44, 45, 46, 47, 48, 49, 50, 51, 52, 53, 54, 55, 56, 57, 58, 59, 60, 61, 62, 63, 64, 65, 66, 67, 68, 69, 70, 71, 72] rfl gw_X8_no
set_option maxRecDepth 20000 in
theorem gX8_sell_X8_no : GoodIn wsX8_sell (wsV RX8 183 RX8 yX8_no wsX8_no) := goodIn_app (goodIn_r _ [17, 18, 19, 6] rfl (by decide +kernel)) ggX8_sell_X8_no
set_option maxRecDepth 20000 in
theorem ggX8_sell_X8_notes : GoodIn wsX8_sell wsX8_notes := goodIn_r _ [24, 25, 26, 2, 27, 1, 28, 41, 42, 43, 44, 45, 46, 47, 48, 49, 50, 51, 52, 53, 54, 55, 56, 57, 58, 59, 60, 61, 62, 63, 64, 65, 66, 67, 68, 69, 70, 71, 72] rfl gw_X8_notes
set_option maxRecDepth 20000 in
theorem gX8_sell_X8_notes : GoodIn wsX8_sell (wsV RX8 186 RX8 yX8_notes wsX8_notes) := goodIn_app (goodIn_r _ [21, 22, 23, 6] rfl (by decide +kernel)) ggX8_sell_X8_notes
set_option maxRecDepth 20000 in
theorem ggX8_sell_X8_costOf : GoodIn wsX8_sell wsX8_costOf := goodIn_r _ [32, 33, 27, 41, 42, 43, 44, 45, 46, 47, 48, 49, 50, 51, 52, 53, 54, 55, 56, 57, 58, 59, 60, 61, 62, 63, 64, 65, 66, 67, 68, 69, 70, 71, 72] rfl gw_X8_costOf
set_option maxRecDepth 20000 in
theorem gX8_sell_X8_costOf : GoodIn wsX8_sell (wsV RX8 180 RX8 yX8_costOf wsX8_costOf) := goodIn_app (goodIn_r _ [29, 30, 31, 6] rfl (by decide +kernel)) ggX8_sell_X8_costOf
set_option maxRecDepth 20000 in
theorem ggX8_sell_X8_mark : GoodIn wsX8_sell wsX8_mark := goodIn_r _ [37, 1, 28, 41, 42, 43, 44, 45, 46, 47, 48, 49, 50, 51, 52, 53, 54, 55, 56, 57, 58, 59, 60, 61, 62, 63, 64, 65, 66, 67, 68, 69, 70, 71, 72] rfl gw_X8_mark
set_option maxRecDepth 20000 in
theorem gX8_sell_X8_mark : GoodIn wsX8_sell (wsV RX8 124 RX8 yX8_mark wsX8_mark) := goodIn_app (goodIn_r _ [34, 35, 36, 6] rfl (by decide +kernel)) ggX8_sell_X8_mark
set_option maxRecDepth 20000 in
theorem ggX8_sell_X8_lesser : GoodIn wsX8_sell wsX8_lesser := goodIn_r _ [40] rfl gw_X8_lesser
set_option maxRecDepth 20000 in
theorem gX8_sell_X8_lesser : GoodIn wsX8_sell (va_wsS RX8 173 yX8_lesser wsX8_lesser) := goodIn_app (goodIn_r _ [38, 39, 6] rfl (by decide +kernel)) ggX8_sell_X8_lesser
set_option maxRecDepth 20000 in
theorem ggX8_readOut_X8_notes : GoodIn wsX8_readOut wsX8_notes := goodIn_r _ [10, 11, 12, 13, 14, 4, 5, 31, 32, 33, 34, 35, 36, 37, 38, 39, 40, 41, 42, 43, 44, 45, 46, 47, 48, 49, 50, 51, 52, 53, 54, 55, 56, 57, 58, 59, 60, 61, 62] rfl gw_X8_notes
set_option maxRecDepth 20000 in
theorem gX8_readOut_X8_notes : GoodIn wsX8_readOut (wsV RX8 186 RX8 yX8_notes wsX8_notes) := goodIn_app (goodIn_r _ [6, 7, 8, 9] rfl (by decide +kernel)) ggX8_readOut_X8_notes
set_option maxRecDepth 20000 in
theorem ggX8_readOut_X8_givenBy : GoodIn wsX8_readOut wsX8_givenBy := goodIn_r _ [17, 18, 19, 9, 20, 21, 22, 23] rfl gw_X8_givenBy
set_option maxRecDepth 20000 in
theorem gX8_readOut_X8_givenBy : GoodIn wsX8_readOut (va_wsS RX8 189 yX8_givenBy wsX8_givenBy) := goodIn_app (goodIn_r _ [15, 16, 9] rfl (by decide +kernel)) ggX8_readOut_X8_givenBy
set_option maxRecDepth 20000 in
theorem ggX8_readOut_X8_dries : GoodIn wsX8_readOut wsX8_dries := goodIn_r _ [26] rfl gw_X8_dries
set_option maxRecDepth 20000 in
theorem gX8_readOut_X8_dries : GoodIn wsX8_readOut (va_wsS RX8 193 yX8_dries wsX8_dries) := goodIn_app (goodIn_r _ [24, 25, 9] rfl (by decide +kernel)) ggX8_readOut_X8_dries
set_option maxRecDepth 20000 in
theorem ggX8_readOut_X8_mark : GoodIn wsX8_readOut wsX8_mark := goodIn_r _ [30, 4, 5, 31, 32, 33, 34, 35, 36, 37, 38, 39, 40, 41, 42, 43, 44, 45, 46, 47, 48, 49, 50, 51, 52, 53, 54, 55, 56, 57, 58, 59, 60, 61, 62] rfl gw_X8_mark
set_option maxRecDepth 20000 in
theorem gX8_readOut_X8_mark : GoodIn wsX8_readOut (wsV RX8 124 RX8 yX8_mark wsX8_mark) := goodIn_app (goodIn_r _ [27, 28, 29, 9] rfl (by decide +kernel)) ggX8_readOut_X8_mark
set_option maxRecDepth 20000 in
theorem ggX8_week_X8_in : GoodIn wsX8_week wsX8_in := goodIn_r _ [5] rfl gw_X8_in
set_option maxRecDepth 20000 in
theorem gX8_week_X8_in : GoodIn wsX8_week (va_wsS RX8 95 yX8_in wsX8_in) := goodIn_app (goodIn_r _ [2, 3, 4] rfl (by decide +kernel)) ggX8_week_X8_in
set_option maxRecDepth 20000 in
theorem ggX8_week_X8_bad : GoodIn wsX8_week wsX8_bad := goodIn_r _ [9, 10, 20, 21, 22, 23, 24, 25, 26, 27, 28, 29, 30, 31, 32, 33, 34, 35, 36, 37, 38, 39, 40, 41, 42, 43, 44, 45, 46, 47, 48, 49, 50, 51] rfl gw_X8_bad
set_option maxRecDepth 20000 in
theorem gX8_week_X8_bad : GoodIn wsX8_week (wsV RX8 103 RX8 yX8_bad wsX8_bad) := goodIn_app (goodIn_r _ [6, 7, 8, 4] rfl (by decide +kernel)) ggX8_week_X8_bad
set_option maxRecDepth 20000 in
theorem ggX8_week_X8_notes : GoodIn wsX8_week wsX8_notes := goodIn_r _ [14, 15, 16, 17, 1, 18, 19, 20, 21, 22, 23, 24, 25, 26, 27, 28, 29, 30, 31, 32, 33, 34, 35, 36, 37, 38, 39, 40, 41, 42, 43, 44, 45, 46, 47, 48, 49, 50, 51] rfl gw_X8_notes
set_option maxRecDepth 20000 in
theorem gX8_week_X8_notes : GoodIn wsX8_week (wsV RX8 186 RX8 yX8_notes wsX8_notes) := goodIn_app (goodIn_r _ [11, 12, 13, 4] rfl (by decide +kernel)) ggX8_week_X8_notes
set_option maxRecDepth 20000 in
theorem ggX8_undo_X8_no : GoodIn wsX8_undo wsX8_no := goodIn_r _ [11, 12, 13, 14, 15, 16, 17, 18, 19, 20, 21, 22, 23, 24, 25, 26, 27, 28, 29, 30, 31, 32, 33, 34, 35, 36, 37, 38, 39, 40, 41, 42, 43, 44] rfl gw_X8_no
set_option maxRecDepth 20000 in
theorem gX8_undo_X8_no : GoodIn wsX8_undo (wsV RX8 183 RX8 yX8_no wsX8_no) := goodIn_app (goodIn_r _ [7, 8, 9, 10] rfl (by decide +kernel)) ggX8_undo_X8_no
set_option maxRecDepth 20000 in
theorem ggX8_of_X8_isPiece : GoodIn wsX8_of wsX8_isPiece := goodIn_r _ [8, 9, 10, 11, 7, 12, 24, 25, 26, 27, 28, 29, 30, 31, 32, 33, 34, 35, 36, 37, 38, 39, 40, 41, 42, 43, 44, 45, 46, 47, 48, 49, 50, 51, 52, 53, 54, 55] rfl gw_X8_isPiece
set_option maxRecDepth 20000 in
theorem gX8_of_X8_isPiece : GoodIn wsX8_of (wsV RX8 114 RX8 yX8_isPiece wsX8_isPiece) := goodIn_app (goodIn_r _ [4, 5, 6, 7] rfl (by decide +kernel)) ggX8_of_X8_isPiece
set_option maxRecDepth 20000 in
theorem ggX8_of_X8_in : GoodIn wsX8_of wsX8_in := goodIn_r _ [12] rfl gw_X8_in
set_option maxRecDepth 20000 in
theorem gX8_of_X8_in : GoodIn wsX8_of (va_wsS RX8 95 yX8_in wsX8_in) := goodIn_app (goodIn_r _ [10, 11, 7] rfl (by decide +kernel)) ggX8_of_X8_in
set_option maxRecDepth 20000 in
theorem ggX8_of_X8_ten : GoodIn wsX8_of wsX8_ten := goodIn_r _ [16, 17, 24, 25, 26, 27, 28, 29, 30, 31, 32, 33, 34, 35, 36, 37, 38, 39, 40, 41, 42, 43, 44, 45, 46, 47, 48, 49, 50, 51, 52, 53, 54, 55] rfl gw_X8_ten
set_option maxRecDepth 20000 in
theorem gX8_of_X8_ten : GoodIn wsX8_of (wsV RX8 121 RX8 yX8_ten wsX8_ten) := goodIn_app (goodIn_r _ [13, 14, 15, 7] rfl (by decide +kernel)) ggX8_of_X8_ten
set_option maxRecDepth 20000 in
theorem ggX8_of_X8_costOf : GoodIn wsX8_of wsX8_costOf := goodIn_r _ [21, 22, 23, 24, 25, 26, 27, 28, 29, 30, 31, 32, 33, 34, 35, 36, 37, 38, 39, 40, 41, 42, 43, 44, 45, 46, 47, 48, 49, 50, 51, 52, 53, 54, 55] rfl gw_X8_costOf
set_option maxRecDepth 20000 in
theorem gX8_of_X8_costOf : GoodIn wsX8_of (wsV RX8 180 RX8 yX8_costOf wsX8_costOf) := goodIn_app (goodIn_r _ [18, 19, 20, 7] rfl (by decide +kernel)) ggX8_of_X8_costOf
set_option maxRecDepth 20000 in
theorem ggX8_costs_X8_isKind : GoodIn wsX8_costs wsX8_isKind := goodIn_r _ [4, 5, 6, 3, 7] rfl gw_X8_isKind
set_option maxRecDepth 20000 in
theorem gX8_costs_X8_isKind : GoodIn wsX8_costs (va_wsS RX8 118 yX8_isKind wsX8_isKind) := goodIn_app (goodIn_r _ [1, 2, 3] rfl (by decide +kernel)) ggX8_costs_X8_isKind
set_option maxRecDepth 20000 in
theorem ggX8_costs_X8_costOf : GoodIn wsX8_costs wsX8_costOf := goodIn_r _ [11, 12, 13, 19, 20, 21, 22, 23, 24, 25, 26, 27, 28, 29, 30, 31, 32, 33, 34, 35, 36, 37, 38, 39, 40, 41, 42, 43, 44, 45, 46, 47, 48, 49, 50] rfl gw_X8_costOf
set_option maxRecDepth 20000 in
theorem gX8_costs_X8_costOf : GoodIn wsX8_costs (wsV RX8 180 RX8 yX8_costOf wsX8_costOf) := goodIn_app (goodIn_r _ [8, 9, 10, 3] rfl (by decide +kernel)) ggX8_costs_X8_costOf
set_option maxRecDepth 20000 in
theorem ggX8_costs_X8_bad : GoodIn wsX8_costs wsX8_bad := goodIn_r _ [17, 18, 19, 20, 21, 22, 23, 24, 25, 26, 27, 28, 29, 30, 31, 32, 33, 34, 35, 36, 37, 38, 39, 40, 41, 42, 43, 44, 45, 46, 47, 48, 49, 50] rfl gw_X8_bad
set_option maxRecDepth 20000 in
theorem gX8_costs_X8_bad : GoodIn wsX8_costs (wsV RX8 103 RX8 yX8_bad wsX8_bad) := goodIn_app (goodIn_r _ [14, 15, 16, 3] rfl (by decide +kernel)) ggX8_costs_X8_bad
set_option maxRecDepth 20000 in
theorem ggX8_gives_X8_isKind : GoodIn wsX8_gives wsX8_isKind := goodIn_r _ [5, 6, 7, 4, 8] rfl gw_X8_isKind
set_option maxRecDepth 20000 in
theorem gX8_gives_X8_isKind : GoodIn wsX8_gives (va_wsS RX8 118 yX8_isKind wsX8_isKind) := goodIn_app (goodIn_r _ [2, 3, 4] rfl (by decide +kernel)) ggX8_gives_X8_isKind
set_option maxRecDepth 20000 in
theorem ggX8_gives_X8_in : GoodIn wsX8_gives wsX8_in := goodIn_r _ [8] rfl gw_X8_in
set_option maxRecDepth 20000 in
theorem gX8_gives_X8_in : GoodIn wsX8_gives (va_wsS RX8 95 yX8_in wsX8_in) := goodIn_app (goodIn_r _ [6, 7, 4] rfl (by decide +kernel)) ggX8_gives_X8_in
set_option maxRecDepth 20000 in
theorem ggX8_gives_X8_givenBy : GoodIn wsX8_gives wsX8_givenBy := goodIn_r _ [11, 12, 13, 4, 14, 15, 16, 17] rfl gw_X8_givenBy
set_option maxRecDepth 20000 in
theorem gX8_gives_X8_givenBy : GoodIn wsX8_gives (va_wsS RX8 189 yX8_givenBy wsX8_givenBy) := goodIn_app (goodIn_r _ [9, 10, 4] rfl (by decide +kernel)) ggX8_gives_X8_givenBy
set_option maxRecDepth 20000 in
theorem ggX8_gives_X8_bad : GoodIn wsX8_gives wsX8_bad := goodIn_r _ [21, 22, 23, 24, 25, 26, 27, 28, 29, 30, 31, 32, 33, 34, 35, 36, 37, 38, 39, 40, 41, 42, 43, 44, 45, 46, 47, 48, 49, 50, 51, 52, 53, 54] rfl gw_X8_bad
set_option maxRecDepth 20000 in
theorem gX8_gives_X8_bad : GoodIn wsX8_gives (wsV RX8 103 RX8 yX8_bad wsX8_bad) := goodIn_app (goodIn_r _ [18, 19, 20, 4] rfl (by decide +kernel)) ggX8_gives_X8_bad
set_option maxRecDepth 20000 in
theorem ggX8_stuckBy_X8_givenBy : GoodIn wsX8_stuckBy wsX8_givenBy := goodIn_r _ [7, 8, 9, 6, 10, 11, 12, 13] rfl gw_X8_givenBy
set_option maxRecDepth 20000 in
theorem gX8_stuckBy_X8_givenBy : GoodIn wsX8_stuckBy (va_wsS RX8 189 yX8_givenBy wsX8_givenBy) := goodIn_app (goodIn_r _ [4, 5, 6] rfl (by decide +kernel)) ggX8_stuckBy_X8_givenBy
set_option maxRecDepth 20000 in
theorem ggX8_stuck_X8_stuckBy : GoodIn wsX8_stuck wsX8_stuckBy := goodIn_r _ [7, 2, 8, 9, 10, 11, 6, 12, 13, 14, 15, 16, 17, 18, 19, 20, 21, 22, 23, 24, 25, 26, 27, 28, 29, 30, 31, 32, 33, 34, 35, 36, 37, 38, 39, 40, 41, 42, 43, 44, 45, 46, 47, 48, 49, 50] rfl gw_X8_stuckBy
set_option maxRecDepth 20000 in
theorem gX8_stuck_X8_stuckBy : GoodIn wsX8_stuck (wsV RX8 196 RX8 yX8_stuckBy wsX8_stuckBy) := goodIn_app (goodIn_r _ [3, 4, 5, 6] rfl (by decide +kernel)) ggX8_stuck_X8_stuckBy
set_option maxRecDepth 20000 in
theorem ggX8_sentences_X8_in : GoodIn wsX8_sentences wsX8_in := goodIn_r _ [6] rfl gw_X8_in
set_option maxRecDepth 20000 in
theorem gX8_sentences_X8_in : GoodIn wsX8_sentences (va_wsS RX8 95 yX8_in wsX8_in) := goodIn_app (goodIn_r _ [3, 4, 5] rfl (by decide +kernel)) ggX8_sentences_X8_in
set_option maxRecDepth 20000 in
theorem ggX8_sentences_X8_bad : GoodIn wsX8_sentences wsX8_bad := goodIn_r _ [10, 11, 18, 19, 20, 21, 22, 23, 24, 25, 26, 27, 28, 29, 30, 31, 32, 33, 34, 35, 36, 37, 38, 39, 40, 41, 42, 43, 44, 45, 46, 47, 48, 49] rfl gw_X8_bad
set_option maxRecDepth 20000 in
theorem gX8_sentences_X8_bad : GoodIn wsX8_sentences (wsV RX8 103 RX8 yX8_bad wsX8_bad) := goodIn_app (goodIn_r _ [7, 8, 9, 5] rfl (by decide +kernel)) ggX8_sentences_X8_bad
set_option maxRecDepth 20000 in
theorem ggX8_sentences_X8_ends : GoodIn wsX8_sentences wsX8_ends := goodIn_r _ [14, 3, 4, 5, 6] rfl gw_X8_ends
set_option maxRecDepth 20000 in
theorem gX8_sentences_X8_ends : GoodIn wsX8_sentences (va_wsS RX8 199 yX8_ends wsX8_ends) := goodIn_app (goodIn_r _ [12, 13, 5] rfl (by decide +kernel)) ggX8_sentences_X8_ends
set_option maxRecDepth 20000 in
theorem ggX8_sentences_X8_greater : GoodIn wsX8_sentences wsX8_greater := goodIn_r _ [17] rfl gw_X8_greater
set_option maxRecDepth 20000 in
theorem gX8_sentences_X8_greater : GoodIn wsX8_sentences (va_wsS RX8 177 yX8_greater wsX8_greater) := goodIn_app (goodIn_r _ [15, 16, 5] rfl (by decide +kernel)) ggX8_sentences_X8_greater
set_option maxRecDepth 20000 in
theorem ggX8_costBy_X8_ends : GoodIn wsX8_costBy wsX8_ends := goodIn_r _ [9, 10, 11, 8, 12] rfl gw_X8_ends
set_option maxRecDepth 20000 in
theorem gX8_costBy_X8_ends : GoodIn wsX8_costBy (va_wsS RX8 199 yX8_ends wsX8_ends) := goodIn_app (goodIn_r _ [6, 7, 8] rfl (by decide +kernel)) ggX8_costBy_X8_ends
set_option maxRecDepth 20000 in
theorem ggX8_costBy_X8_givenBy : GoodIn wsX8_costBy wsX8_givenBy := goodIn_r _ [15, 16, 17, 8, 18, 19, 20, 21] rfl gw_X8_givenBy
set_option maxRecDepth 20000 in
theorem gX8_costBy_X8_givenBy : GoodIn wsX8_costBy (va_wsS RX8 189 yX8_givenBy wsX8_givenBy) := goodIn_app (goodIn_r _ [13, 14, 8] rfl (by decide +kernel)) ggX8_costBy_X8_givenBy
set_option maxRecDepth 20000 in
theorem ggX8_costBy_X8_cellOf : GoodIn wsX8_costBy wsX8_cellOf := goodIn_r _ [24] rfl gw_X8_cellOf
set_option maxRecDepth 20000 in
theorem gX8_costBy_X8_cellOf : GoodIn wsX8_costBy (va_wsS RX8 203 yX8_cellOf wsX8_cellOf) := goodIn_app (goodIn_r _ [22, 23, 8] rfl (by decide +kernel)) ggX8_costBy_X8_cellOf
set_option maxRecDepth 20000 in
theorem ggX8_costBy_X8_costOf : GoodIn wsX8_costBy wsX8_costOf := goodIn_r _ [28, 29, 30, 31, 32, 33, 34, 35, 36, 37, 38, 39, 40, 41, 42, 43, 44, 45, 46, 47, 48, 49, 50, 51, 52, 53, 54, 55, 56, 57, 58, 59, 60, 61, 62] rfl gw_X8_costOf
set_option maxRecDepth 20000 in
theorem gX8_costBy_X8_costOf : GoodIn wsX8_costBy (wsV RX8 180 RX8 yX8_costOf wsX8_costOf) := goodIn_app (goodIn_r _ [25, 26, 27, 8] rfl (by decide +kernel)) ggX8_costBy_X8_costOf
set_option maxRecDepth 20000 in
theorem ggX8_setLeast_X8_cellOf : GoodIn wsX8_setLeast wsX8_cellOf := goodIn_r _ [7] rfl gw_X8_cellOf
set_option maxRecDepth 20000 in
theorem gX8_setLeast_X8_cellOf : GoodIn wsX8_setLeast (va_wsS RX8 203 yX8_cellOf wsX8_cellOf) := goodIn_app (goodIn_r _ [4, 5, 6] rfl (by decide +kernel)) ggX8_setLeast_X8_cellOf
set_option maxRecDepth 20000 in
theorem ggX8_setLeast_X8_optionsAt : GoodIn wsX8_setLeast wsX8_optionsAt := goodIn_r _ [11, 12, 39, 40, 41, 42, 43, 44, 45, 46, 47, 48, 49, 50, 51, 52, 53, 54, 55, 56, 57, 58, 59, 60, 61, 62, 63, 64, 65, 66, 67, 68, 69, 70] rfl gw_X8_optionsAt
set_option maxRecDepth 20000 in
theorem gX8_setLeast_X8_optionsAt : GoodIn wsX8_setLeast (wsV RX8 206 RX8 yX8_optionsAt wsX8_optionsAt) := goodIn_app (goodIn_r _ [8, 9, 10, 6] rfl (by decide +kernel)) ggX8_setLeast_X8_optionsAt
set_option maxRecDepth 20000 in
theorem ggX8_setLeast_X8_costBy : GoodIn wsX8_setLeast wsX8_costBy := goodIn_r _ [16, 17, 3, 12, 2, 1, 18, 19, 6, 20, 21, 22, 23, 24, 25, 26, 27, 28, 29, 30, 31, 32, 4, 5, 7, 33, 34, 35, 36, 37, 38, 39, 40, 41, 42, 43, 44, 45, 46, 47, 48, 49, 50, 51, 52, 53, 54, 55, 56, 57, 58, 59, 60, 61, 62, 63, 64, 65, 66, 67, 68, 69, 70] rfl gw_X8_costBy
set_option maxRecDepth 20000 in
theorem gX8_setLeast_X8_costBy : GoodIn wsX8_setLeast (wsV RX8 209 RX8 yX8_costBy wsX8_costBy) := goodIn_app (goodIn_r _ [13, 14, 15, 6] rfl (by decide +kernel)) ggX8_setLeast_X8_costBy
set_option maxRecDepth 20000 in
theorem ggX8_setLeast_X8_lesser : GoodIn wsX8_setLeast wsX8_lesser := goodIn_r _ [29] rfl gw_X8_lesser
set_option maxRecDepth 20000 in
theorem gX8_setLeast_X8_lesser : GoodIn wsX8_setLeast (va_wsS RX8 173 yX8_lesser wsX8_lesser) := goodIn_app (goodIn_r _ [27, 28, 6] rfl (by decide +kernel)) ggX8_setLeast_X8_lesser
set_option maxRecDepth 20000 in
theorem ggX8_cheapest_X8_in : GoodIn wsX8_cheapest wsX8_in := goodIn_r _ [10] rfl gw_X8_in
set_option maxRecDepth 20000 in
theorem gX8_cheapest_X8_in : GoodIn wsX8_cheapest (va_wsS RX8 95 yX8_in wsX8_in) := goodIn_app (goodIn_r _ [7, 8, 9] rfl (by decide +kernel)) ggX8_cheapest_X8_in
set_option maxRecDepth 20000 in
theorem ggX8_cheapest_X8_ten : GoodIn wsX8_cheapest wsX8_ten := goodIn_r _ [14, 15, 49, 50, 51, 52, 53, 54, 55, 56, 57, 58, 59, 60, 61, 62, 63, 64, 65, 66, 67, 68, 69, 70, 71, 72, 73, 74, 75, 76, 77, 78, 79, 80] rfl gw_X8_ten
set_option maxRecDepth 20000 in
theorem gX8_cheapest_X8_ten : GoodIn wsX8_cheapest (wsV RX8 121 RX8 yX8_ten wsX8_ten) := goodIn_app (goodIn_r _ [11, 12, 13, 9] rfl (by decide +kernel)) ggX8_cheapest_X8_ten
set_option maxRecDepth 20000 in
theorem ggX8_cheapest_X8_setLeast : GoodIn wsX8_cheapest wsX8_setLeast := goodIn_r _ [19, 1, 3, 2, 20, 21, 9, 22, 23, 24, 25, 26, 5, 27, 28, 29, 30, 6, 31, 32, 33, 7, 8, 10, 34, 35, 36, 37, 38, 39, 40, 41, 42, 43, 44, 45, 46, 47, 48, 49, 50, 51, 52, 53, 54, 55, 56, 57, 58, 59, 60, 61, 62, 63, 64, 65, 66, 67, 68, 69, 70, 71, 72, 73, 74, 75, 76, 77, 78, 79, 80] rfl gw_X8_setLeast
set_option maxRecDepth 20000 in
theorem gX8_cheapest_X8_setLeast : GoodIn wsX8_cheapest (wsV RX8 213 RX8 yX8_setLeast wsX8_setLeast) := goodIn_app (goodIn_r _ [16, 17, 18, 9] rfl (by decide +kernel)) ggX8_cheapest_X8_setLeast
set_option maxRecDepth 20000 in
theorem ggX8_cheapest_X8_cellOf : GoodIn wsX8_cheapest wsX8_cellOf := goodIn_r _ [22] rfl gw_X8_cellOf
set_option maxRecDepth 20000 in
theorem gX8_cheapest_X8_cellOf : GoodIn wsX8_cheapest (va_wsS RX8 203 yX8_cellOf wsX8_cellOf) := goodIn_app (goodIn_r _ [20, 21, 9] rfl (by decide +kernel)) ggX8_cheapest_X8_cellOf
set_option maxRecDepth 20000 in
theorem ggX8_cheapest_X8_costBy : GoodIn wsX8_cheapest wsX8_costBy := goodIn_r _ [30, 6, 2, 5, 3, 1, 31, 32, 9, 33, 7, 8, 10, 34, 35, 36, 37, 38, 39, 40, 41, 42, 20, 21, 22, 43, 44, 45, 46, 47, 48, 49, 50, 51, 52, 53, 54, 55, 56, 57, 58, 59, 60, 61, 62, 63, 64, 65, 66, 67, 68, 69, 70, 71, 72, 73, 74, 75, 76, 77, 78, 79, 80] rfl gw_X8_costBy
set_option maxRecDepth 20000 in
theorem gX8_cheapest_X8_costBy : GoodIn wsX8_cheapest (wsV RX8 209 RX8 yX8_costBy wsX8_costBy) := goodIn_app (goodIn_r _ [27, 28, 29, 9] rfl (by decide +kernel)) ggX8_cheapest_X8_costBy
set_option maxRecDepth 20000 in
theorem ggX8_cheapest_X8_givenBy : GoodIn wsX8_cheapest wsX8_givenBy := goodIn_r _ [36, 37, 38, 9, 39, 40, 41, 42] rfl gw_X8_givenBy
set_option maxRecDepth 20000 in
theorem gX8_cheapest_X8_givenBy : GoodIn wsX8_cheapest (va_wsS RX8 189 yX8_givenBy wsX8_givenBy) := goodIn_app (goodIn_r _ [34, 35, 9] rfl (by decide +kernel)) ggX8_cheapest_X8_givenBy
set_option maxRecDepth 20000 in
theorem ggX8_reach_X8_in : GoodIn wsX8_reach wsX8_in := goodIn_r _ [11] rfl gw_X8_in
set_option maxRecDepth 20000 in
theorem gX8_reach_X8_in : GoodIn wsX8_reach (va_wsS RX8 95 yX8_in wsX8_in) := goodIn_app (goodIn_r _ [8, 9, 10] rfl (by decide +kernel)) ggX8_reach_X8_in
set_option maxRecDepth 20000 in
theorem ggX8_reach_X8_bad : GoodIn wsX8_reach wsX8_bad := goodIn_r _ [15, 16, 36, 37, 38, 39, 40, 41, 42, 43, 44, 45, 46, 47, 48, 49, 50, 51, 52, 53, 54, 55, 56, 57, 58, 59, 60, 61, 62, 63, 64, 65, 66, 67] rfl gw_X8_bad
set_option maxRecDepth 20000 in
theorem gX8_reach_X8_bad : GoodIn wsX8_reach (wsV RX8 103 RX8 yX8_bad wsX8_bad) := goodIn_app (goodIn_r _ [12, 13, 14, 10] rfl (by decide +kernel)) ggX8_reach_X8_bad
set_option maxRecDepth 20000 in
theorem ggX8_reach_X8_optionsAt : GoodIn wsX8_reach wsX8_optionsAt := goodIn_r _ [20, 7, 36, 37, 38, 39, 40, 41, 42, 43, 44, 45, 46, 47, 48, 49, 50, 51, 52, 53, 54, 55, 56, 57, 58, 59, 60, 61, 62, 63, 64, 65, 66, 67] rfl gw_X8_optionsAt
set_option maxRecDepth 20000 in
theorem gX8_reach_X8_optionsAt : GoodIn wsX8_reach (wsV RX8 206 RX8 yX8_optionsAt wsX8_optionsAt) := goodIn_app (goodIn_r _ [17, 18, 19, 10] rfl (by decide +kernel)) ggX8_reach_X8_optionsAt
set_option maxRecDepth 20000 in
theorem ggX8_reach_X8_givenBy : GoodIn wsX8_reach wsX8_givenBy := goodIn_r _ [23, 24, 25, 10, 26, 27, 28, 29] rfl gw_X8_givenBy
set_option maxRecDepth 20000 in
theorem gX8_reach_X8_givenBy : GoodIn wsX8_reach (va_wsS RX8 189 yX8_givenBy wsX8_givenBy) := goodIn_app (goodIn_r _ [21, 22, 10] rfl (by decide +kernel)) ggX8_reach_X8_givenBy
set_option maxRecDepth 20000 in
theorem ggX8_reach_X8_costOf : GoodIn wsX8_reach wsX8_costOf := goodIn_r _ [33, 34, 35, 36, 37, 38, 39, 40, 41, 42, 43, 44, 45, 46, 47, 48, 49, 50, 51, 52, 53, 54, 55, 56, 57, 58, 59, 60, 61, 62, 63, 64, 65, 66, 67] rfl gw_X8_costOf
set_option maxRecDepth 20000 in
theorem gX8_reach_X8_costOf : GoodIn wsX8_reach (wsV RX8 180 RX8 yX8_costOf wsX8_costOf) := goodIn_app (goodIn_r _ [30, 31, 32, 10] rfl (by decide +kernel)) ggX8_reach_X8_costOf
set_option maxRecDepth 20000 in
theorem ggX8_reach_X8_lesser : GoodIn wsX8_reach wsX8_lesser := goodIn_r _ [26] rfl gw_X8_lesser
set_option maxRecDepth 20000 in
theorem gX8_reach_X8_lesser : GoodIn wsX8_reach (va_wsS RX8 173 yX8_lesser wsX8_lesser) := goodIn_app (goodIn_r _ [24, 25, 10] rfl (by decide +kernel)) ggX8_reach_X8_lesser
set_option maxRecDepth 20000 in
theorem ggX8_readBy_X8_givenBy : GoodIn wsX8_readBy wsX8_givenBy := goodIn_r _ [9, 10, 11, 8, 12, 13, 14, 15] rfl gw_X8_givenBy
set_option maxRecDepth 20000 in
theorem gX8_readBy_X8_givenBy : GoodIn wsX8_readBy (va_wsS RX8 189 yX8_givenBy wsX8_givenBy) := goodIn_app (goodIn_r _ [6, 7, 8] rfl (by decide +kernel)) ggX8_readBy_X8_givenBy
set_option maxRecDepth 20000 in
theorem ggX8_order_X8_ten : GoodIn wsX8_order wsX8_ten := goodIn_r _ [8, 9, 34, 35, 36, 37, 38, 39, 40, 41, 42, 43, 44, 45, 46, 47, 48, 49, 50, 51, 52, 53, 54, 55, 56, 57, 58, 59, 60, 61, 62, 63, 64, 65] rfl gw_X8_ten
set_option maxRecDepth 20000 in
theorem gX8_order_X8_ten : GoodIn wsX8_order (wsV RX8 121 RX8 yX8_ten wsX8_ten) := goodIn_app (goodIn_r _ [4, 5, 6, 7] rfl (by decide +kernel)) ggX8_order_X8_ten
set_option maxRecDepth 20000 in
theorem ggX8_order_X8_twenty : GoodIn wsX8_order wsX8_twenty := goodIn_r _ [13, 9, 34, 35, 36, 37, 38, 39, 40, 41, 42, 43, 44, 45, 46, 47, 48, 49, 50, 51, 52, 53, 54, 55, 56, 57, 58, 59, 60, 61, 62, 63, 64, 65] rfl gw_X8_twenty
set_option maxRecDepth 20000 in
theorem gX8_order_X8_twenty : GoodIn wsX8_order (wsV RX8 217 RX8 yX8_twenty wsX8_twenty) := goodIn_app (goodIn_r _ [10, 11, 12, 7] rfl (by decide +kernel)) ggX8_order_X8_twenty
set_option maxRecDepth 20000 in
theorem ggX8_order_X8_readBy : GoodIn wsX8_order wsX8_readBy := goodIn_r _ [17, 18, 1, 19, 2, 20, 21, 22, 7, 23, 24, 25, 26, 27, 28, 29, 34, 35, 36, 37, 38, 39, 40, 41, 42, 43, 44, 45, 46, 47, 48, 49, 50, 51, 52, 53, 54, 55, 56, 57, 58, 59, 60, 61, 62, 63, 64, 65] rfl gw_X8_readBy
set_option maxRecDepth 20000 in
theorem gX8_order_X8_readBy : GoodIn wsX8_order (wsV RX8 220 RX8 yX8_readBy wsX8_readBy) := goodIn_app (goodIn_r _ [14, 15, 16, 7] rfl (by decide +kernel)) ggX8_order_X8_readBy
set_option maxRecDepth 20000 in
theorem ggX8_order_X8_greater : GoodIn wsX8_order wsX8_greater := goodIn_r _ [29] rfl gw_X8_greater
set_option maxRecDepth 20000 in
theorem gX8_order_X8_greater : GoodIn wsX8_order (va_wsS RX8 177 yX8_greater wsX8_greater) := goodIn_app (goodIn_r _ [27, 28, 7] rfl (by decide +kernel)) ggX8_order_X8_greater
set_option maxRecDepth 20000 in
theorem ggX8_order_X8_nextLine : GoodIn wsX8_order wsX8_nextLine := goodIn_r _ [33, 1, 2, 34, 35, 36, 37, 38, 39, 40, 41, 42, 43, 44, 45, 46, 47, 48, 49, 50, 51, 52, 53, 54, 55, 56, 57, 58, 59, 60, 61, 62, 63, 64, 65] rfl gw_X8_nextLine
set_option maxRecDepth 20000 in
theorem gX8_order_X8_nextLine : GoodIn wsX8_order (wsV RX8 223 RX8 yX8_nextLine wsX8_nextLine) := goodIn_app (goodIn_r _ [30, 31, 32, 7] rfl (by decide +kernel)) ggX8_order_X8_nextLine
set_option maxRecDepth 20000 in
theorem ggX8_heard_X8_isPiece : GoodIn wsX8_heard wsX8_isPiece := goodIn_r _ [8, 2, 9, 10, 7, 11, 36, 37, 38, 39, 40, 41, 42, 43, 44, 45, 46, 47, 48, 49, 50, 51, 52, 53, 54, 55, 56, 57, 58, 59, 60, 61, 62, 63, 64, 65, 66, 67] rfl gw_X8_isPiece
set_option maxRecDepth 20000 in
theorem gX8_heard_X8_isPiece : GoodIn wsX8_heard (wsV RX8 114 RX8 yX8_isPiece wsX8_isPiece) := goodIn_app (goodIn_r _ [4, 5, 6, 7] rfl (by decide +kernel)) ggX8_heard_X8_isPiece
set_option maxRecDepth 20000 in
theorem ggX8_heard_X8_bad : GoodIn wsX8_heard wsX8_bad := goodIn_r _ [15, 16, 36, 37, 38, 39, 40, 41, 42, 43, 44, 45, 46, 47, 48, 49, 50, 51, 52, 53, 54, 55, 56, 57, 58, 59, 60, 61, 62, 63, 64, 65, 66, 67] rfl gw_X8_bad
set_option maxRecDepth 20000 in
theorem gX8_heard_X8_bad : GoodIn wsX8_heard (wsV RX8 103 RX8 yX8_bad wsX8_bad) := goodIn_app (goodIn_r _ [12, 13, 14, 7] rfl (by decide +kernel)) ggX8_heard_X8_bad
set_option maxRecDepth 20000 in
theorem ggX8_heard_X8_full : GoodIn wsX8_heard wsX8_full := goodIn_r _ [20, 16, 36, 37, 38, 39, 40, 41, 42, 43, 44, 45, 46, 47, 48, 49, 50, 51, 52, 53, 54, 55, 56, 57, 58, 59, 60, 61, 62, 63, 64, 65, 66, 67] rfl gw_X8_full
set_option maxRecDepth 20000 in
theorem gX8_heard_X8_full : GoodIn wsX8_heard (wsV RX8 107 RX8 yX8_full wsX8_full) := goodIn_app (goodIn_r _ [17, 18, 19, 7] rfl (by decide +kernel)) ggX8_heard_X8_full
set_option maxRecDepth 20000 in
theorem ggX8_heard_X8_stuckBy : GoodIn wsX8_heard wsX8_stuckBy := goodIn_r _ [24, 2, 25, 26, 27, 28, 7, 29, 30, 31, 32, 33, 34, 35, 36, 37, 38, 39, 40, 41, 42, 43, 44, 45, 46, 47, 48, 49, 50, 51, 52, 53, 54, 55, 56, 57, 58, 59, 60, 61, 62, 63, 64, 65, 66, 67] rfl gw_X8_stuckBy
set_option maxRecDepth 20000 in
theorem gX8_heard_X8_stuckBy : GoodIn wsX8_heard (wsV RX8 196 RX8 yX8_stuckBy wsX8_stuckBy) := goodIn_app (goodIn_r _ [21, 22, 23, 7] rfl (by decide +kernel)) ggX8_heard_X8_stuckBy
set_option maxRecDepth 20000 in
theorem ggX8_breaths_X8_breathSet : GoodIn wsX8_breaths wsX8_breathSet := goodIn_r _ [5, 6, 7, 8, 9, 10, 11, 12, 13, 14, 15, 16, 17, 18, 19, 20, 21, 22, 23, 24, 25, 26, 27, 28, 29, 30, 31, 32, 33, 34, 35, 36, 37, 38, 39, 40] rfl gw_X8_breathSet
set_option maxRecDepth 20000 in
theorem gX8_breaths_X8_breathSet : GoodIn wsX8_breaths (wsV RX8 227 RX8 yX8_breathSet wsX8_breathSet) := goodIn_app (goodIn_r _ [1, 2, 3, 4] rfl (by decide +kernel)) ggX8_breaths_X8_breathSet
set_option maxRecDepth 20000 in
theorem ggX8_alike_X8_stuckBy : GoodIn wsX8_alike wsX8_stuckBy := goodIn_r _ [7, 1, 8, 9, 10, 11, 6, 12, 13, 14, 15, 16, 17, 18, 19, 20, 21, 22, 23, 24, 25, 26, 27, 28, 29, 30, 31, 32, 33, 34, 35, 36, 37, 38, 39, 40, 41, 42, 43, 44, 45, 46, 47, 48, 49, 50] rfl gw_X8_stuckBy
set_option maxRecDepth 20000 in
theorem gX8_alike_X8_stuckBy : GoodIn wsX8_alike (wsV RX8 196 RX8 yX8_stuckBy wsX8_stuckBy) := goodIn_app (goodIn_r _ [3, 4, 5, 6] rfl (by decide +kernel)) ggX8_alike_X8_stuckBy
set_option maxRecDepth 20000 in
theorem ggX8_alike_X8_greater : GoodIn wsX8_alike wsX8_greater := goodIn_r _ [18] rfl gw_X8_greater
set_option maxRecDepth 20000 in
theorem gX8_alike_X8_greater : GoodIn wsX8_alike (va_wsS RX8 177 yX8_greater wsX8_greater) := goodIn_app (goodIn_r _ [16, 17, 6] rfl (by decide +kernel)) ggX8_alike_X8_greater
set_option maxRecDepth 20000 in
theorem ggX8_shorter_X8_breathSet : GoodIn wsX8_shorter wsX8_breathSet := goodIn_r _ [7, 8, 9, 10, 31, 32, 33, 34, 35, 36, 37, 38, 39, 40, 41, 42, 43, 44, 45, 46, 47, 48, 49, 50, 51, 52, 53, 54, 55, 56, 57, 58, 59, 60, 61, 62] rfl gw_X8_breathSet
set_option maxRecDepth 20000 in
theorem gX8_shorter_X8_breathSet : GoodIn wsX8_shorter (wsV RX8 227 RX8 yX8_breathSet wsX8_breathSet) := goodIn_app (goodIn_r _ [3, 4, 5, 6] rfl (by decide +kernel)) ggX8_shorter_X8_breathSet
set_option maxRecDepth 20000 in
theorem ggX8_shorter_X8_alike : GoodIn wsX8_shorter wsX8_alike := goodIn_r _ [14, 2, 15, 16, 17, 18, 6, 19, 20, 21, 22, 23, 24, 25, 26, 27, 28, 29, 30, 31, 32, 33, 34, 35, 36, 37, 38, 39, 40, 41, 42, 43, 44, 45, 46, 47, 48, 49, 50, 51, 52, 53, 54, 55, 56, 57, 58, 59, 60, 61, 62] rfl gw_X8_alike
set_option maxRecDepth 20000 in
theorem gX8_shorter_X8_alike : GoodIn wsX8_shorter (wsV RX8 230 RX8 yX8_alike wsX8_alike) := goodIn_app (goodIn_r _ [11, 12, 13, 6] rfl (by decide +kernel)) ggX8_shorter_X8_alike
set_option maxRecDepth 20000 in
theorem ggX8_shorter_X8_lesser : GoodIn wsX8_shorter wsX8_lesser := goodIn_r _ [27] rfl gw_X8_lesser
set_option maxRecDepth 20000 in
theorem gX8_shorter_X8_lesser : GoodIn wsX8_shorter (va_wsS RX8 173 yX8_lesser wsX8_lesser) := goodIn_app (goodIn_r _ [25, 26, 6] rfl (by decide +kernel)) ggX8_shorter_X8_lesser
set_option maxRecDepth 20000 in
theorem ggX8_rests_X8_gain : GoodIn wsX8_rests wsX8_gain := goodIn_r _ [4] rfl gw_X8_gain
set_option maxRecDepth 20000 in
theorem gX8_rests_X8_gain : GoodIn wsX8_rests (va_wsS RX8 233 yX8_gain wsX8_gain) := goodIn_app (goodIn_r _ [1, 2, 3] rfl (by decide +kernel)) ggX8_rests_X8_gain
set_option maxRecDepth 20000 in
theorem ggX8_bid_X8_isKind : GoodIn wsX8_bid wsX8_isKind := goodIn_r _ [4, 5, 6, 3, 7] rfl gw_X8_isKind
set_option maxRecDepth 20000 in
theorem gX8_bid_X8_isKind : GoodIn wsX8_bid (va_wsS RX8 118 yX8_isKind wsX8_isKind) := goodIn_app (goodIn_r _ [1, 2, 3] rfl (by decide +kernel)) ggX8_bid_X8_isKind
set_option maxRecDepth 20000 in
theorem ggX8_bid_X8_in : GoodIn wsX8_bid wsX8_in := goodIn_r _ [7] rfl gw_X8_in
set_option maxRecDepth 20000 in
theorem gX8_bid_X8_in : GoodIn wsX8_bid (va_wsS RX8 95 yX8_in wsX8_in) := goodIn_app (goodIn_r _ [5, 6, 3] rfl (by decide +kernel)) ggX8_bid_X8_in
set_option maxRecDepth 20000 in
theorem ggX8_bid_X8_ten : GoodIn wsX8_bid wsX8_ten := goodIn_r _ [11, 12, 25, 26, 27, 28, 29, 30, 31, 32, 33, 34, 35, 36, 37, 38, 39, 40, 41, 42, 43, 44, 45, 46, 47, 48, 49, 50, 51, 52, 53, 54, 55, 56] rfl gw_X8_ten
set_option maxRecDepth 20000 in
theorem gX8_bid_X8_ten : GoodIn wsX8_bid (wsV RX8 121 RX8 yX8_ten wsX8_ten) := goodIn_app (goodIn_r _ [8, 9, 10, 3] rfl (by decide +kernel)) ggX8_bid_X8_ten
set_option maxRecDepth 20000 in
theorem ggX8_bid_X8_costOf : GoodIn wsX8_bid wsX8_costOf := goodIn_r _ [16, 17, 18, 25, 26, 27, 28, 29, 30, 31, 32, 33, 34, 35, 36, 37, 38, 39, 40, 41, 42, 43, 44, 45, 46, 47, 48, 49, 50, 51, 52, 53, 54, 55, 56] rfl gw_X8_costOf
set_option maxRecDepth 20000 in
theorem gX8_bid_X8_costOf : GoodIn wsX8_bid (wsV RX8 180 RX8 yX8_costOf wsX8_costOf) := goodIn_app (goodIn_r _ [13, 14, 15, 3] rfl (by decide +kernel)) ggX8_bid_X8_costOf
set_option maxRecDepth 20000 in
theorem ggX8_bid_X8_rests : GoodIn wsX8_bid wsX8_rests := goodIn_r _ [21, 22, 23, 3, 24] rfl gw_X8_rests
set_option maxRecDepth 20000 in
theorem gX8_bid_X8_rests : GoodIn wsX8_bid (va_wsS RX8 237 yX8_rests wsX8_rests) := goodIn_app (goodIn_r _ [19, 20, 3] rfl (by decide +kernel)) ggX8_bid_X8_rests
set_option maxRecDepth 20000 in
theorem ggX8_odds_X8_in : GoodIn wsX8_odds wsX8_in := goodIn_r _ [11] rfl gw_X8_in
set_option maxRecDepth 20000 in
theorem gX8_odds_X8_in : GoodIn wsX8_odds (va_wsS RX8 95 yX8_in wsX8_in) := goodIn_app (goodIn_r _ [8, 9, 10] rfl (by decide +kernel)) ggX8_odds_X8_in
set_option maxRecDepth 20000 in
theorem ggX8_odds_X8_bad : GoodIn wsX8_odds wsX8_bad := goodIn_r _ [15, 16, 32, 33, 34, 35, 36, 37, 38, 39, 40, 41, 42, 43, 44, 45, 46, 47, 48, 49, 50, 51, 52, 53, 54, 55, 56, 57, 58, 59, 60, 61, 62, 63] rfl gw_X8_bad
set_option maxRecDepth 20000 in
theorem gX8_odds_X8_bad : GoodIn wsX8_odds (wsV RX8 103 RX8 yX8_bad wsX8_bad) := goodIn_app (goodIn_r _ [12, 13, 14, 10] rfl (by decide +kernel)) ggX8_odds_X8_bad
set_option maxRecDepth 20000 in
theorem ggX8_odds_X8_givenBy : GoodIn wsX8_odds wsX8_givenBy := goodIn_r _ [19, 20, 21, 10, 22, 23, 24, 25] rfl gw_X8_givenBy
set_option maxRecDepth 20000 in
theorem gX8_odds_X8_givenBy : GoodIn wsX8_odds (va_wsS RX8 189 yX8_givenBy wsX8_givenBy) := goodIn_app (goodIn_r _ [17, 18, 10] rfl (by decide +kernel)) ggX8_odds_X8_givenBy
set_option maxRecDepth 20000 in
theorem ggX8_odds_X8_lay : GoodIn wsX8_odds wsX8_lay := goodIn_r _ [29, 30, 31, 32, 33, 34, 35, 36, 37, 38, 39, 40, 41, 42, 43, 44, 45, 46, 47, 48, 49, 50, 51, 52, 53, 54, 55, 56, 57, 58, 59, 60, 61, 62, 63] rfl gw_X8_lay
set_option maxRecDepth 20000 in
theorem gX8_odds_X8_lay : GoodIn wsX8_odds (wsV RX8 246 RX8 yX8_lay wsX8_lay) := goodIn_app (goodIn_r _ [26, 27, 28, 10] rfl (by decide +kernel)) ggX8_odds_X8_lay
set_option maxRecDepth 20000 in
theorem ggX8_drawn_X8_in : GoodIn wsX8_drawn wsX8_in := goodIn_r _ [13] rfl gw_X8_in
set_option maxRecDepth 20000 in
theorem gX8_drawn_X8_in : GoodIn wsX8_drawn (va_wsS RX8 95 yX8_in wsX8_in) := goodIn_app (goodIn_r _ [10, 11, 12] rfl (by decide +kernel)) ggX8_drawn_X8_in
set_option maxRecDepth 20000 in
theorem ggX8_drawn_X8_bad : GoodIn wsX8_drawn wsX8_bad := goodIn_r _ [17, 18, 28, 29, 30, 31, 32, 33, 34, 35, 36, 37, 38, 39, 40, 41, 42, 43, 44, 45, 46, 47, 48, 49, 50, 51, 52, 53, 54, 55, 56, 57, 58, 59] rfl gw_X8_bad
set_option maxRecDepth 20000 in
theorem gX8_drawn_X8_bad : GoodIn wsX8_drawn (wsV RX8 103 RX8 yX8_bad wsX8_bad) := goodIn_app (goodIn_r _ [14, 15, 16, 12] rfl (by decide +kernel)) ggX8_drawn_X8_bad
set_option maxRecDepth 20000 in
theorem ggX8_drawn_X8_givenBy : GoodIn wsX8_drawn wsX8_givenBy := goodIn_r _ [21, 22, 23, 12, 24, 25, 26, 27] rfl gw_X8_givenBy
set_option maxRecDepth 20000 in
theorem gX8_drawn_X8_givenBy : GoodIn wsX8_drawn (va_wsS RX8 189 yX8_givenBy wsX8_givenBy) := goodIn_app (goodIn_r _ [19, 20, 12] rfl (by decide +kernel)) ggX8_drawn_X8_givenBy
set_option maxRecDepth 20000 in
theorem ggX8_part_X8_bad : GoodIn wsX8_part wsX8_bad := goodIn_r _ [7, 8, 9, 10, 11, 12, 13, 14, 15, 16, 17, 18, 19, 20, 21, 22, 23, 24, 25, 26, 27, 28, 29, 30, 31, 32, 33, 34, 35, 36, 37, 38, 39, 40] rfl gw_X8_bad
set_option maxRecDepth 20000 in
theorem gX8_part_X8_bad : GoodIn wsX8_part (wsV RX8 103 RX8 yX8_bad wsX8_bad) := goodIn_app (goodIn_r _ [3, 4, 5, 6] rfl (by decide +kernel)) ggX8_part_X8_bad
set_option maxRecDepth 20000 in
theorem ggX8_image_X8_in : GoodIn wsX8_image wsX8_in := goodIn_r _ [17] rfl gw_X8_in
set_option maxRecDepth 20000 in
theorem gX8_image_X8_in : GoodIn wsX8_image (va_wsS RX8 95 yX8_in wsX8_in) := goodIn_app (goodIn_r _ [14, 15, 16] rfl (by decide +kernel)) ggX8_image_X8_in
set_option maxRecDepth 20000 in
theorem ggX8_image_X8_bad : GoodIn wsX8_image wsX8_bad := goodIn_r _ [21, 22, 23, 24, 25, 26, 27, 28, 29, 30, 31, 32, 33, 34, 35, 36, 37, 38, 39, 40, 41, 42, 43, 44, 45, 46, 47, 48, 49, 50, 51, 52, 53, 54] rfl gw_X8_bad
set_option maxRecDepth 20000 in
theorem gX8_image_X8_bad : GoodIn wsX8_image (wsV RX8 103 RX8 yX8_bad wsX8_bad) := goodIn_app (goodIn_r _ [18, 19, 20, 16] rfl (by decide +kernel)) ggX8_image_X8_bad
set_option maxRecDepth 20000 in
theorem ggX8_from_X8_in : GoodIn wsX8_from wsX8_in := goodIn_r _ [17] rfl gw_X8_in
set_option maxRecDepth 20000 in
theorem gX8_from_X8_in : GoodIn wsX8_from (va_wsS RX8 95 yX8_in wsX8_in) := goodIn_app (goodIn_r _ [14, 15, 16] rfl (by decide +kernel)) ggX8_from_X8_in
set_option maxRecDepth 20000 in
theorem ggX8_from_X8_bad : GoodIn wsX8_from wsX8_bad := goodIn_r _ [21, 22, 27, 28, 29, 30, 31, 32, 33, 34, 35, 36, 37, 38, 39, 40, 41, 42, 43, 44, 45, 46, 47, 48, 49, 50, 51, 52, 53, 54, 55, 56, 57, 58] rfl gw_X8_bad
set_option maxRecDepth 20000 in
theorem gX8_from_X8_bad : GoodIn wsX8_from (wsV RX8 103 RX8 yX8_bad wsX8_bad) := goodIn_app (goodIn_r _ [18, 19, 20, 16] rfl (by decide +kernel)) ggX8_from_X8_bad
set_option maxRecDepth 20000 in
theorem ggX8_from_X8_no : GoodIn wsX8_from wsX8_no := goodIn_r _ [26, 22, 27, 28, 29, 30, 31, 32, 33, 34, 35, 36, 37, 38, 39, 40, 41, 42, 43, 44, 45, 46, 47, 48, 49, 50, 51, 52, 53, 54, 55, 56, 57, 58] rfl gw_X8_no
set_option maxRecDepth 20000 in
theorem gX8_from_X8_no : GoodIn wsX8_from (wsV RX8 183 RX8 yX8_no wsX8_no) := goodIn_app (goodIn_r _ [23, 24, 25, 16] rfl (by decide +kernel)) ggX8_from_X8_no
set_option maxRecDepth 20000 in
theorem ggX8_status_X8_in : GoodIn wsX8_status wsX8_in := goodIn_r _ [5] rfl gw_X8_in
set_option maxRecDepth 20000 in
theorem gX8_status_X8_in : GoodIn wsX8_status (va_wsS RX8 95 yX8_in wsX8_in) := goodIn_app (goodIn_r _ [2, 3, 4] rfl (by decide +kernel)) ggX8_status_X8_in
set_option maxRecDepth 20000 in
theorem ggX8_count_X8_in : GoodIn wsX8_count wsX8_in := goodIn_r _ [4] rfl gw_X8_in
set_option maxRecDepth 20000 in
theorem gX8_count_X8_in : GoodIn wsX8_count (va_wsS RX8 95 yX8_in wsX8_in) := goodIn_app (goodIn_r _ [1, 2, 3] rfl (by decide +kernel)) ggX8_count_X8_in
set_option maxRecDepth 20000 in
theorem ggX8_count_X8_countOf : GoodIn wsX8_count wsX8_countOf := goodIn_r _ [8, 9, 10, 11, 12, 13, 14, 15, 16, 17, 23, 24, 25, 26, 27, 28, 29, 30, 31, 32, 33, 34, 35, 36, 37, 38, 39, 40, 41, 42, 43, 44, 45, 46, 47, 48, 49, 50, 51, 52, 53, 54] rfl gw_X8_countOf
set_option maxRecDepth 20000 in
theorem gX8_count_X8_countOf : GoodIn wsX8_count (wsV RX8 261 RX8 yX8_countOf wsX8_countOf) := goodIn_app (goodIn_r _ [5, 6, 7, 3] rfl (by decide +kernel)) ggX8_count_X8_countOf
set_option maxRecDepth 20000 in
theorem ggX8_count_X8_bad : GoodIn wsX8_count wsX8_bad := goodIn_r _ [21, 22, 23, 24, 25, 26, 27, 28, 29, 30, 31, 32, 33, 34, 35, 36, 37, 38, 39, 40, 41, 42, 43, 44, 45, 46, 47, 48, 49, 50, 51, 52, 53, 54] rfl gw_X8_bad
set_option maxRecDepth 20000 in
theorem gX8_count_X8_bad : GoodIn wsX8_count (wsV RX8 103 RX8 yX8_bad wsX8_bad) := goodIn_app (goodIn_r _ [18, 19, 20, 3] rfl (by decide +kernel)) ggX8_count_X8_bad
set_option maxRecDepth 20000 in
theorem ggX8_digest_X8_countOf : GoodIn wsX8_digest wsX8_countOf := goodIn_r _ [15, 3, 5, 16, 17, 18, 19, 7, 20, 21, 27, 28, 29, 30, 31, 32, 33, 34, 35, 36, 37, 38, 39, 40, 41, 42, 43, 44, 45, 46, 47, 48, 49, 50, 51, 52, 53, 54, 55, 56, 57, 58] rfl gw_X8_countOf
set_option maxRecDepth 20000 in
theorem gX8_digest_X8_countOf : GoodIn wsX8_digest (wsV RX8 261 RX8 yX8_countOf wsX8_countOf) := goodIn_app (goodIn_r _ [11, 12, 13, 14] rfl (by decide +kernel)) ggX8_digest_X8_countOf
set_option maxRecDepth 20000 in
theorem ggX8_digest_X8_mix : GoodIn wsX8_digest wsX8_mix := goodIn_r _ [25, 26, 2, 27, 28, 29, 30, 31, 32, 33, 34, 35, 36, 37, 38, 39, 40, 41, 42, 43, 44, 45, 46, 47, 48, 49, 50, 51, 52, 53, 54, 55, 56, 57, 58] rfl gw_X8_mix
set_option maxRecDepth 20000 in
theorem gX8_digest_X8_mix : GoodIn wsX8_digest (wsV RX8 271 RX8 yX8_mix wsX8_mix) := goodIn_app (goodIn_r _ [22, 23, 24, 14] rfl (by decide +kernel)) ggX8_digest_X8_mix
set_option maxRecDepth 20000 in
theorem ggJ0_length_8abf5_J0_coder_7d493 : GoodIn wsJ0_length_8abf5 wsJ0_coder_7d493 := goodIn_r _ [6, 7, 8] rfl gw_J0_coder_7d493
set_option maxRecDepth 20000 in
theorem gJ0_length_8abf5_J0_coder_7d493 : GoodIn wsJ0_length_8abf5 (wsV RJ0 335 RJ0 yJ0_coder_7d493 wsJ0_coder_7d493) := goodIn_app (goodIn_r _ [2, 3, 4, 5] rfl (by decide +kernel)) ggJ0_length_8abf5_J0_coder_7d493
set_option maxRecDepth 20000 in
theorem ggJ0_charAt_5068e_J0_isLatin1_aae02 : GoodIn wsJ0_charAt_5068e wsJ0_isLatin1_aae02 := goodIn_r _ [6, 7, 8] rfl gw_J0_isLatin1_aae02
set_option maxRecDepth 20000 in
theorem gJ0_charAt_5068e_J0_isLatin1_aae02 : GoodIn wsJ0_charAt_5068e (wsV RJ0 492 RJ0 yJ0_isLatin1_aae02 wsJ0_isLatin1_aae02) := goodIn_app (goodIn_r _ [2, 3, 4, 5] rfl (by decide +kernel)) ggJ0_charAt_5068e_J0_isLatin1_aae02
set_option maxRecDepth 20000 in
theorem ggJ0_charAt_5068e_J1_charAt_3b067 : GoodIn wsJ0_charAt_5068e wsJ1_charAt_3b067 := goodIn_r _ [12, 13, 14, 5, 15, 16, 17, 18, 19, 20] rfl gw_J1_charAt_3b067
set_option maxRecDepth 20000 in
theorem gJ0_charAt_5068e_J1_charAt_3b067 : GoodIn wsJ0_charAt_5068e (va_wsS RJ0 495 yJ1_charAt_3b067 wsJ1_charAt_3b067) := goodIn_app (goodIn_r _ [9, 10, 11] rfl (by decide +kernel)) ggJ0_charAt_5068e_J1_charAt_3b067
set_option maxRecDepth 20000 in
theorem ggJ0_charAt_5068e_J2_charAt_3b067 : GoodIn wsJ0_charAt_5068e wsJ2_charAt_3b067 := goodIn_r _ [24, 25, 26, 23, 27, 28, 29, 30, 31, 14, 5, 15, 16, 17, 18, 19, 20, 32, 33, 34, 35, 36, 37] rfl gw_J2_charAt_3b067
set_option maxRecDepth 20000 in
theorem gJ0_charAt_5068e_J2_charAt_3b067 : GoodIn wsJ0_charAt_5068e (va_wsS RJ0 498 yJ2_charAt_3b067 wsJ2_charAt_3b067) := goodIn_app (goodIn_r _ [21, 22, 23] rfl (by decide +kernel)) ggJ0_charAt_5068e_J2_charAt_3b067
set_option maxRecDepth 20000 in
theorem ggJ0_checkIndex_df160_J3_checkIndex_8e157 : GoodIn wsJ0_checkIndex_df160 wsJ3_checkIndex_8e157 := goodIn_r _ [5] rfl gw_J3_checkIndex_8e157
set_option maxRecDepth 20000 in
theorem gJ0_checkIndex_df160_J3_checkIndex_8e157 : GoodIn wsJ0_checkIndex_df160 (va_wsS RJ0 1059 yJ3_checkIndex_8e157 wsJ3_checkIndex_8e157) := goodIn_app (goodIn_r _ [2, 3, 4] rfl (by decide +kernel)) ggJ0_checkIndex_df160_J3_checkIndex_8e157
set_option maxRecDepth 20000 in
theorem ggJ1_charAt_3b067_J0_checkIndex_df160 : GoodIn wsJ1_charAt_3b067 wsJ0_checkIndex_df160 := goodIn_r _ [4, 5, 6, 7, 8, 9] rfl gw_J0_checkIndex_df160
set_option maxRecDepth 20000 in
theorem gJ1_charAt_3b067_J0_checkIndex_df160 : GoodIn wsJ1_charAt_3b067 (va_wsS RJ1 9 yJ0_checkIndex_df160 wsJ0_checkIndex_df160) := goodIn_app (goodIn_r _ [1, 2, 3] rfl (by decide +kernel)) ggJ1_charAt_3b067_J0_checkIndex_df160
set_option maxRecDepth 20000 in
theorem ggJ2_getChar_3b067_J2_length_9d52b : GoodIn wsJ2_getChar_3b067 wsJ2_length_9d52b := goodIn_r _ [7] rfl gw_J2_length_9d52b
set_option maxRecDepth 20000 in
theorem gJ2_getChar_3b067_J2_length_9d52b : GoodIn wsJ2_getChar_3b067 (va_wsS RJ2 48 yJ2_length_9d52b wsJ2_length_9d52b) := goodIn_app (goodIn_r _ [4, 5, 6] rfl (by decide +kernel)) ggJ2_getChar_3b067_J2_length_9d52b
set_option maxRecDepth 20000 in
theorem ggJ2_charAt_3b067_J2_checkIndex_2214a : GoodIn wsJ2_charAt_3b067 wsJ2_checkIndex_2214a := goodIn_r _ [4, 5, 6, 3, 7, 8, 9, 10, 11, 12, 13, 14, 15, 16] rfl gw_J2_checkIndex_2214a
set_option maxRecDepth 20000 in
theorem gJ2_charAt_3b067_J2_checkIndex_2214a : GoodIn wsJ2_charAt_3b067 (va_wsS RJ2 67 yJ2_checkIndex_2214a wsJ2_checkIndex_2214a) := goodIn_app (goodIn_r _ [1, 2, 3] rfl (by decide +kernel)) ggJ2_charAt_3b067_J2_checkIndex_2214a
set_option maxRecDepth 20000 in
theorem ggJ2_charAt_3b067_J2_getChar_3b067 : GoodIn wsJ2_charAt_3b067 wsJ2_getChar_3b067 := goodIn_r _ [19, 20, 21, 22, 5, 6, 3, 7] rfl gw_J2_getChar_3b067
set_option maxRecDepth 20000 in
theorem gJ2_charAt_3b067_J2_getChar_3b067 : GoodIn wsJ2_charAt_3b067 (va_wsS RJ2 71 yJ2_getChar_3b067 wsJ2_getChar_3b067) := goodIn_app (goodIn_r _ [17, 18, 3] rfl (by decide +kernel)) ggJ2_charAt_3b067_J2_getChar_3b067
set_option maxRecDepth 20000 in
theorem ggJ2_checkIndex_2214a_J2_length_9d52b : GoodIn wsJ2_checkIndex_2214a wsJ2_length_9d52b := goodIn_r _ [4] rfl gw_J2_length_9d52b
set_option maxRecDepth 20000 in
theorem gJ2_checkIndex_2214a_J2_length_9d52b : GoodIn wsJ2_checkIndex_2214a (va_wsS RJ2 48 yJ2_length_9d52b wsJ2_length_9d52b) := goodIn_app (goodIn_r _ [1, 2, 3] rfl (by decide +kernel)) ggJ2_checkIndex_2214a_J2_length_9d52b
set_option maxRecDepth 20000 in
theorem ggJ2_checkIndex_2214a_J0_checkIndex_df160 : GoodIn wsJ2_checkIndex_2214a wsJ0_checkIndex_df160 := goodIn_r _ [8, 9, 10, 11, 12, 13] rfl gw_J0_checkIndex_df160
set_option maxRecDepth 20000 in
theorem gJ2_checkIndex_2214a_J0_checkIndex_df160 : GoodIn wsJ2_checkIndex_2214a (va_wsS RJ2 414 yJ0_checkIndex_df160 wsJ0_checkIndex_df160) := goodIn_app (goodIn_r _ [5, 6, 7] rfl (by decide +kernel)) ggJ2_checkIndex_2214a_J0_checkIndex_df160
