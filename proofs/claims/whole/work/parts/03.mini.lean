def mn_YL : List MethodName := [yX0_begin, yX0_loopFrom, yX0_leadFrom, yX0_follow, yX1_startAnew, yX1_becomeLike,
  yX1_dayBefore, yX1_pass, yX1_takeBack, yX1_draw, yX2_letters, yX2_faultAt,
  yX2_append, yX2_readInto, yX2_readClause, yX2_readBell, yX2_readGroup, yX2_readThreshold,
  yX2_readSelf, yX2_readHarm, yX2_readKind, yX2_readNumber, yX2_clauseEnds, yX2_skipBlanks,
  yX2_blame, yX3_countOf, yX3_countAll, yX3_forgetAll, yX3_add, yX3_findSigns,
  yX3_agrees, yX3_signsLeft, yX3_signAt, yX3_dayThatParts, yX3_countRinging, yX4_size,
  yX4_isFull, yX4_forgetAll, yX4_add, yX4_metBy, yX4_gapAbove, yX5_forgetAll,
  yX5_addBell, yX5_addGroup, yX5_addSelf, yX5_isHarmTold, yX5_tellHarm, yX5_allGroups,
  yX5_countRings, yX5_hearersOf, yX5_ringFor, yX5_deedOf, yX5_selvesOn, yX5_comingOfItself,
  yX5_turn, yX5_harmOf, yX5_greatestHarm, yX6_suppose, yX6_gap, yX6_countDoing,
  yX6_comingBy, yX6_fitting, yX6_possible, yX6_wireUp, yX7_feed, yX7_town,
  yX7_fault, yX7_told, yX7_bell, yX7_group, yX7_harm, yX7_ring,
  yX7_done, yX7_comes, yX7_could, yX7_sure, yX7_live, yX7_undo,
  yX7_yesterday, yX7_deaf, yX7_may, yX7_drift, yX7_rule, yX7_hush,
  yX7_run, yX7_takes, yX7_wire, yX7_answers, yX7_send, yX7_see,
  yX7_means, yX7_watch, yX7_tear, yX7_seed, yX7_keep, yX7_goBack,
  yX7_isBell, yX7_isGroup, yX7_isRing, yX7_isDay, yX7_isHappening, yX7_isChoice,
  yX7_supposeNow, yX7_possibleAsSupposed, yX7_possibleDays, yX7_fittingDays, yX7_greatestHarmIfMay, yX7_isKeptOffIfDeaf,
  yX7_timesComing, yX7_onAll, yX7_onNone, yX7_dayAt, yX7_greatestDivisor, yX7_rings,
  yX8_in, yX8_isBell, yX8_isGroup, yX8_isDay, yX8_ones, yX8_feed,
  yX8_letterAt, yX8_blanks, yX8_number, yX8_lays, yX8_kindOf, yX8_isRoom,
  yX8_readsBell, yX8_readsGroup, yX8_readsThree, yX8_readsHarm, yX8_readsClause, yX8_reads,
  yX8_town, yX8_fault, yX8_yesterdayNow, yX8_harmFrom, yX8_told, yX8_bell,
  yX8_group, yX8_harmOf, yX8_harm, yX8_trying, yX8_rings, yX8_ringOf,
  yX8_doneBy, yX8_comesBy, yX8_fits, yX8_gathers, yX8_ring, yX8_isRing,
  yX8_done, yX8_comes, yX8_could, yX8_met, yX8_sure, yX8_live,
  yX8_undo, yX8_yesterday, yX8_deaf, yX8_isGroups, yX8_may, yX8_draw,
  yX8_drift, yX8_greatest, yX8_rule, yX8_hush, yX8_run, yX8_takes,
  yX8_wire, yX8_round, yX8_answers, yX8_send, yX8_days, yX8_see,
  yX8_isSign, yX8_isSo, yX8_means, yX8_watch, yX8_tear, yX8_seed,
  yX8_keep, yX8_goBack, yJ0_indexOf_0f7a4, yJ0_indexOf_7cf53, yJ0_isLatin1_aae02, yJ0_length_8abf5,
  yJ0_coder_7d493, yJ1_canEncode_9a6ad, yJ1_indexOf_4cfef, yJ1_indexOfChar_4cfef, yJ6_bitCount_0f7a4, yJ13_bitCount_95d88,
  yJ7_fill_53178]
def mn_CL : List ByteArray := [cX0_begin, cX0_loopFrom, cX0_leadFrom, cX0_follow, cX1_startAnew, cX1_becomeLike,
  cX1_dayBefore, cX1_pass, cX1_takeBack, cX1_draw, cX2_letters, cX2_faultAt,
  cX2_append, cX2_readInto, cX2_readClause, cX2_readBell, cX2_readGroup, cX2_readThreshold,
  cX2_readSelf, cX2_readHarm, cX2_readKind, cX2_readNumber, cX2_clauseEnds, cX2_skipBlanks,
  cX2_blame, cX3_countOf, cX3_countAll, cX3_forgetAll, cX3_add, cX3_findSigns,
  cX3_agrees, cX3_signsLeft, cX3_signAt, cX3_dayThatParts, cX3_countRinging, cX4_size,
  cX4_isFull, cX4_forgetAll, cX4_add, cX4_metBy, cX4_gapAbove, cX5_forgetAll,
  cX5_addBell, cX5_addGroup, cX5_addSelf, cX5_isHarmTold, cX5_tellHarm, cX5_allGroups,
  cX5_countRings, cX5_hearersOf, cX5_ringFor, cX5_deedOf, cX5_selvesOn, cX5_comingOfItself,
  cX5_turn, cX5_harmOf, cX5_greatestHarm, cX6_suppose, cX6_gap, cX6_countDoing,
  cX6_comingBy, cX6_fitting, cX6_possible, cX6_wireUp, cX7_feed, cX7_town,
  cX7_fault, cX7_told, cX7_bell, cX7_group, cX7_harm, cX7_ring,
  cX7_done, cX7_comes, cX7_could, cX7_sure, cX7_live, cX7_undo,
  cX7_yesterday, cX7_deaf, cX7_may, cX7_drift, cX7_rule, cX7_hush,
  cX7_run, cX7_takes, cX7_wire, cX7_answers, cX7_send, cX7_see,
  cX7_means, cX7_watch, cX7_tear, cX7_seed, cX7_keep, cX7_goBack,
  cX7_isBell, cX7_isGroup, cX7_isRing, cX7_isDay, cX7_isHappening, cX7_isChoice,
  cX7_supposeNow, cX7_possibleAsSupposed, cX7_possibleDays, cX7_fittingDays, cX7_greatestHarmIfMay, cX7_isKeptOffIfDeaf,
  cX7_timesComing, cX7_onAll, cX7_onNone, cX7_dayAt, cX7_greatestDivisor, cX7_rings,
  cX8_in, cX8_isBell, cX8_isGroup, cX8_isDay, cX8_ones, cX8_feed,
  cX8_letterAt, cX8_blanks, cX8_number, cX8_lays, cX8_kindOf, cX8_isRoom,
  cX8_readsBell, cX8_readsGroup, cX8_readsThree, cX8_readsHarm, cX8_readsClause, cX8_reads,
  cX8_town, cX8_fault, cX8_yesterdayNow, cX8_harmFrom, cX8_told, cX8_bell,
  cX8_group, cX8_harmOf, cX8_harm, cX8_trying, cX8_rings, cX8_ringOf,
  cX8_doneBy, cX8_comesBy, cX8_fits, cX8_gathers, cX8_ring, cX8_isRing,
  cX8_done, cX8_comes, cX8_could, cX8_met, cX8_sure, cX8_live,
  cX8_undo, cX8_yesterday, cX8_deaf, cX8_isGroups, cX8_may, cX8_draw,
  cX8_drift, cX8_greatest, cX8_rule, cX8_hush, cX8_run, cX8_takes,
  cX8_wire, cX8_round, cX8_answers, cX8_send, cX8_days, cX8_see,
  cX8_isSign, cX8_isSo, cX8_means, cX8_watch, cX8_tear, cX8_seed,
  cX8_keep, cX8_goBack, cJ0_indexOf_0f7a4, cJ0_indexOf_7cf53, cJ0_isLatin1_aae02, cJ0_length_8abf5,
  cJ0_coder_7d493, cJ1_canEncode_9a6ad, cJ1_indexOf_4cfef, cJ1_indexOfChar_4cfef, cJ6_bitCount_0f7a4, cJ13_bitCount_95d88,
  cJ7_fill_53178]
def mn_LL : List Nat := [3, 7, 8, 7, 2, 2, 1, 3, 2, 2, 1, 1, 2, 3, 4, 6, 7, 6, 6, 4, 2, 4, 1, 1, 3, 2, 3, 1, 6, 6, 7, 1, 2, 6, 4, 1, 1, 1, 4, 4,
  5, 1, 4, 5, 4, 2, 3, 1, 1, 4, 5, 6, 4, 4, 4, 4, 5, 8, 1, 8, 3, 11, 6, 3, 2, 4, 1, 2, 3, 3, 2, 2, 3, 2, 4, 4, 3, 3, 3, 4,
  3, 7, 8, 7, 5, 7, 3, 3, 11, 5, 3, 2, 2, 3, 2, 2, 2, 2, 2, 1, 1, 1, 1, 1, 1, 3, 2, 3, 3, 4, 4, 5, 6, 7, 3, 2, 2, 1, 3, 2,
  2, 1, 4, 5, 1, 3, 2, 2, 9, 4, 1, 2, 4, 1, 1, 4, 4, 5, 3, 4, 2, 1, 7, 5, 8, 5, 3, 2, 2, 2, 3, 2, 2, 4, 2, 2, 2, 3, 4, 2,
  3, 2, 5, 4, 8, 6, 3, 6, 3, 4, 5, 9, 4, 5, 4, 6, 6, 8, 3, 3, 3, 3, 2, 3, 1, 1, 1, 1, 4, 6, 1, 2, 4]
def mn_RL : List (Option FieldType) := [none, (some .int), (some .int), (some .int), none, none, (some .int), none, none, (some .int), (some .int), (some .int),
  (some .boolean), (some .int), none, none, none, none, none, none, (some .int), (some .int), (some .boolean), none,
  none, (some .int), (some .int), none, (some .boolean), none, (some .boolean), (some .int), (some .int), (some .int), (some .int), (some .int),
  (some .boolean), none, none, (some .int), (some .int), none, none, none, none, (some .boolean), none, (some .int),
  (some .int), (some .int), (some .int), (some .int), (some .int), (some .int), (some .int), (some .int), (some .int), none, (some .int), none,
  (some .int), (some .long), (some .long), (some .int), (some .int), (some .int), (some .int), (some .int), (some .int), (some .int), (some .int), (some .int),
  (some .int), (some .int), (some .int), (some .int), (some .int), (some .int), (some .int), (some .int), (some .int), (some .int), (some .int), (some .int),
  (some .int), (some .int), (some .int), (some .int), (some .int), (some .int), (some .int), (some .int), (some .int), (some .int), (some .int), (some .int),
  (some .boolean), (some .boolean), (some .boolean), (some .boolean), (some .boolean), (some .boolean), none, (some .long), (some .long), (some .long), (some .int), (some .boolean),
  (some .int), (some .int), (some .int), (some .int), (some .int), (some .boolean), (some .boolean), (some .boolean), (some .boolean), (some .boolean), (some .int), (some .int),
  (some .int), none, (some .boolean), (some .boolean), (some .int), (some .boolean), (some .boolean), (some .boolean), (some .boolean), (some .boolean), (some .boolean), (some .boolean),
  (some .int), (some .int), (some .int), (some .int), (some .int), (some .int), (some .int), (some .int), (some .int), none, (some .boolean), (some .int),
  (some .int), (some .int), (some .int), none, (some .int), (some .boolean), (some .int), (some .int), (some .int), (some .int), (some .int), (some .int),
  (some .int), (some .int), (some .int), (some .boolean), (some .int), (some .int), (some .int), (some .int), (some .int), (some .int), (some .int), (some .int),
  (some .int), (some .int), (some .int), (some .int), (some .int), (some .int), (some .boolean), (some .boolean), (some .int), (some .int), (some .int), (some .int),
  (some .int), (some .int), (some .int), (some .int), (some .boolean), (some .int), (some .byte), (some .boolean), (some .int), (some .int), (some .int), (some .int),
  none]
def mn_OL : List Nat := [0, 0, 0, 0, 1, 1, 1, 1, 1, 1, 2, 2, 2, 2, 2, 2, 2, 2, 2, 2, 2, 2, 2, 2, 2, 3, 3, 3, 3, 3, 3, 3, 3, 3, 3, 4, 4, 4, 4, 4,
  4, 5, 5, 5, 5, 5, 5, 5, 5, 5, 5, 5, 5, 5, 5, 5, 5, 6, 6, 6, 6, 6, 6, 6, 7, 7, 7, 7, 7, 7, 7, 7, 7, 7, 7, 7, 7, 7, 7, 7,
  7, 7, 7, 7, 7, 7, 7, 7, 7, 7, 7, 7, 7, 7, 7, 7, 7, 7, 7, 7, 7, 7, 7, 7, 7, 7, 7, 7, 7, 7, 7, 7, 7, 7, 8, 8, 8, 8, 8, 8,
  8, 8, 8, 8, 8, 8, 8, 8, 8, 8, 8, 8, 8, 8, 8, 8, 8, 8, 8, 8, 8, 8, 8, 8, 8, 8, 8, 8, 8, 8, 8, 8, 8, 8, 8, 8, 8, 8, 8, 8,
  8, 8, 8, 8, 8, 8, 8, 8, 8, 8, 8, 8, 8, 8, 8, 8, 8, 8, 8, 8, 8, 8, 9, 9, 9, 9, 9, 10, 10, 10, 11, 12, 14]
def mn_FrL : List Nat := [1, 5, 5, 4, 0, 1, 0, 0, 0, 0, 0, 0, 0, 7, 6, 5, 2, 2, 2, 2, 4, 1, 1, 0, 0, 0, 0, 1, 0, 2, 1, 0, 0, 2, 1, 0, 0, 0, 1, 0,
  1, 1, 0, 0, 0, 0, 0, 0, 0, 0, 1, 0, 0, 0, 1, 0, 1, 2, 0, 1, 0, 2, 3, 0, 1, 8, 1, 5, 1, 1, 1, 2, 2, 4, 6, 6, 6, 1, 1, 1,
  1, 4, 6, 6, 5, 6, 5, 6, 6, 1, 3, 3, 2, 0, 2, 2, 0, 0, 1, 0, 0, 0, 3, 4, 5, 4, 5, 5, 1, 0, 2, 0, 0, 0, 0, 1, 1, 1, 0, 1,
  0, 1, 2, 3, 0, 0, 4, 4, 4, 3, 5, 6, 7, 0, 0, 1, 3, 2, 2, 0, 2, 1, 0, 1, 0, 1, 2, 2, 2, 1, 2, 2, 3, 0, 3, 3, 1, 2, 2, 1,
  2, 0, 3, 3, 4, 3, 3, 3, 3, 0, 3, 3, 0, 2, 0, 1, 2, 3, 0, 0, 1, 1, 3, 2, 0, 1, 0, 0, 1, 0, 0, 0, 0]
def mn_WL : List Nat := [23, 131, 131, 105, 0, 90, 0, 0, 0, 0, 0, 0, 0, 160, 137, 112, 45, 45, 45, 45, 91, 22, 22, 0, 0, 0, 0, 23, 0, 52, 26, 0, 0, 49, 26, 0, 0, 0, 20, 0,
  21, 23, 0, 0, 0, 0, 0, 0, 0, 0, 26, 0, 0, 0, 25, 0, 23, 52, 0, 25, 0, 50, 80, 0, 21, 182, 20, 121, 23, 21, 23, 50, 52, 99, 145, 145, 145, 23, 20, 21,
  20, 105, 146, 147, 125, 145, 121, 158, 145, 25, 77, 77, 43, 0, 111, 111, 0, 0, 20, 0, 0, 0, 79, 105, 125, 99, 125, 125, 21, 0, 43, 0, 0, 0, 0, 22, 22, 22, 0, 22,
  0, 21, 41, 64, 0, 0, 88, 88, 88, 64, 116, 136, 157, 0, 0, 23, 73, 43, 43, 0, 42, 20, 0, 26, 0, 27, 51, 51, 50, 22, 43, 51, 72, 0, 72, 72, 22, 42, 43, 22,
  43, 0, 72, 72, 95, 72, 72, 72, 73, 0, 72, 72, 0, 43, 0, 26, 51, 76, 0, 0, 22, 22, 70, 48, 0, 20, 0, 0, 25, 0, 0, 0, 0]
def mn_NL : List (List Nat) := [[], [], [], [], [], [], [], [], [], [], [], [], [], [], [], [], [], [], [], [],
  [], [], [], [], [], [], [], [], [], [], [], [], [], [], [], [], [], [], [], [],
  [], [], [], [], [], [], [], [], [], [], [], [], [], [], [], [], [1], [], [], [],
  [], [7], [4], [], [], [], [], [], [], [], [], [], [], [], [2], [2], [], [], [], [],
  [], [4], [], [], [], [2], [], [], [3], [], [], [], [], [], [], [], [], [], [], [],
  [], [], [], [], [], [], [], [], [0], [0], [0], [0], [], [], [], [], [], [], [], [],
  [], [], [], [], [], [], [], [], [], [], [], [], [], [], [], [], [], [], [], [],
  [], [], [], [], [], [], [], [], [], [], [], [], [], [], [], [], [], [], [], [],
  [], [], [], [], [], [], [], [], [], [], [], [], [], [], [], [], [], [], [], [],
  [], [], [], [], [], [], [], [], [], [], [], [0], []]
def mn_SL : List Bool := [false, false, false, false, false, false, false, false, false, false, false, false, false, false, false, false, false, false, false, false, false, false, false, false, false, false, false, false, false, false,
  false, false, false, false, false, false, false, false, false, false, false, false, false, false, false, false, false, false, false, false, false, false, false, false, false, false, false, false, false, false,
  false, false, false, true, false, false, false, false, false, false, false, false, false, false, false, false, false, false, false, false, false, false, false, false, false, false, false, false, false, false,
  false, false, false, false, false, false, false, false, false, true, true, true, false, false, false, false, false, false, true, true, true, true, true, true, true, false, false, true, true, false,
  false, false, false, false, true, false, false, false, false, false, false, false, false, false, false, false, false, false, false, false, false, false, true, false, false, false, false, false, false, false,
  false, false, false, false, false, false, false, false, false, false, false, false, false, false, false, false, false, false, false, false, false, false, false, false, true, false, false, false, false, false,
  false, false, false, false, false, false, false, true, true, true, true, true, true]
def mn_PL : List Nat := [2, 3, 4, 4, 1, 1, 0, 2, 1, 1, 0, 0, 1, 1, 1, 2, 2, 2, 2, 1, 0, 2, 0, 0, 2, 1, 0, 0, 4, 1, 4, 0, 1, 0, 1, 0, 0, 0, 3, 1,
  2, 0, 3, 4, 3, 1, 2, 0, 0, 1, 2, 4, 1, 1, 0, 1, 1, 5, 0, 6, 2, 5, 3, 3, 1, 0, 0, 1, 2, 2, 1, 1, 2, 1, 1, 1, 1, 1, 1, 2,
  1, 1, 2, 2, 2, 1, 2, 1, 2, 4, 2, 1, 0, 1, 1, 1, 1, 1, 1, 1, 1, 1, 0, 0, 0, 2, 1, 2, 2, 1, 1, 2, 2, 5, 3, 1, 1, 1, 1, 1,
  1, 0, 2, 3, 1, 2, 0, 0, 7, 0, 0, 0, 0, 0, 0, 1, 1, 2, 2, 1, 1, 0, 5, 1, 2, 1, 0, 0, 1, 1, 2, 1, 1, 1, 1, 1, 1, 1, 2, 1,
  1, 1, 1, 0, 2, 2, 2, 1, 2, 0, 1, 2, 1, 4, 1, 2, 2, 1, 0, 1, 1, 1, 1, 2, 0, 0, 0, 1, 4, 4, 1, 1, 2]
def mY (M : Nat) : MethodName := mn_YL.getD M ⟨"", "", ""⟩
def mC (M : Nat) : ByteArray := mn_CL.getD M ⟨#[]⟩
def mL (M : Nat) : Nat := mn_LL.getD M 0
def mR (M : Nat) : Option FieldType := mn_RL.getD M none
def mO (M : Nat) : Nat := mn_OL.getD M 99
def mF (M : Nat) : Nat := mn_FrL.getD M 0
def mW (M : Nat) : Nat := mn_WL.getD M 0
def mN (M : Nat) : List Nat := mn_NL.getD M []
def mP (M : Nat) : Nat := mn_PL.getD M 0
def mSt (M : Nat) : Bool := mn_SL.getD M false
def mn_cN : List String := [RX0, RX1, RX2, RX3, RX4, RX5, RX6, RX7,
  RX8, RJ0, RJ1, RJ6, RJ13, RJ9, RJ7]
def mn_shL : List (Nat × Nat) := [(0, 7), (0, 2), (1, 250), (0, 1), (1, 60), (0, 1), (1, 60), (0, 1), (1, 60), (3, 2), (0, 3), (1, 5), (2, 60), (1, 60),
  (1, 60), (1, 48), (0, 6), (1, 7), (1, 32), (1, 32), (0, 0), (1, 512), (1, 64), (0, 5), (1, 5), (1, 5), (1, 5), (1, 6),
  (1, 6), (1, 6), (1, 6), (0, 4), (1, 8), (1, 8), (1, 8), (0, 4), (1, 4), (1, 4), (1, 4), (1, 3), (1, 3), (1, 3),
  (1, 6), (0, 5), (1, 5), (1, 5), (1, 5), (1, 6), (1, 6), (1, 6), (1, 6), (0, 4), (1, 8), (1, 8), (1, 8), (0, 4),
  (1, 4), (1, 4), (1, 4), (1, 3), (1, 3), (1, 3), (1, 6), (0, 8), (1, 250), (1, 96), (1, 96), (1, 65), (1, 130), (2, 2),
  (1, 5), (1, 60), (1, 64), (1, 63360), (4, 6), (0, 9), (5, 5)]
def mn_sh (a : Nat) : Nat × Nat := mn_shL.getD a (9, 9)
def mn_isrL : List (List Bool) := [[true, true, false, false], [false, true, false, false, false, false, false, false],
  [true, false, false, false, false, false], [true, true, true, true, true, false],
  [true, true, true, false], [false, true, true, true, false, true, true, true, true, true, true, false, true, true, true, true, false],
  [true, true, true, false], [true, true, true, true, true, true, true, true],
  [true, false, true, true, true, true, true, true, true, false, false, false, false, false, false, false, false, false, false, false, false, true, false, true]]
def mn_nfL : List Nat := [4, 8, 6, 6, 4, 17, 4, 8, 24]
def mn_isr (ci k : Nat) : Bool := (mn_isrL.getD ci []).getD k false
def mn_nf (ci : Nat) : Nat := mn_nfL.getD ci 0
def mn_finL : List (List Bool) := [[true, true, false, false],
  [false, true, false, false, false, false, false, false],
  [true, false, false, false, false, false],
  [true, true, true, true, true, false],
  [true, true, true, false],
  [false, true, true, true, false, true, true, true, true, true, true, false, true, true, true, true, false],
  [true, true, true, false],
  [true, true, true, true, true, true, false, false],
  [true, false, true, true, true, true, true, true, true, false, false, false, false, false, false, false, false, false, false, false, false, true, false, true]]
def mn_fin (ci k : Nat) : Bool := (mn_finL.getD ci []).getD k true
def mn_rfL : List (List Nat) := [[1, 3, 9, 10, 16, 20], [2], [], [0, 4], [], [0, 6], [], [0, 8],
  [], [], [11, 12, 13, 14, 15], [], [], [], [], [],
  [17, 18, 19], [], [], [], [21, 22], [], [], [0, 24, 25, 26, 0, 27, 28, 29, 30, 31, 35, 0, 39, 40, 41, 42],
  [], [], [], [], [], [], [], [32, 33, 34],
  [], [], [], [36, 37, 38], [], [], [], [],
  [], [], [], [0, 44, 45, 46, 0, 47, 48, 49, 50, 51, 55, 0, 59, 60, 61, 62], [], [], [], [],
  [], [], [], [52, 53, 54], [], [], [], [56, 57, 58],
  [], [], [], [], [], [], [], [64, 0, 65, 66, 67, 68, 69, 70, 71, 0, 0, 0, 0, 0, 0, 0, 0, 0, 0, 0, 0, 72, 0, 73],
  [], [], [], [], [], [], [], [],
  [], []]
def mn_FLT : List (Nat × Nat × Nat × Nat) := [(0, 9, 0, 0), (0, 15, 0, 1), (0, 18, 0, 3), (0, 22, 0, 2), (1, 9, 1, 1), (1, 15, 1, 0), (1, 19, 1, 2), (1, 22, 1, 3), (1, 25, 1, 4), (1, 28, 1, 5),
  (1, 37, 1, 6), (2, 9, 2, 0), (2, 15, 2, 5), (2, 19, 2, 1), (2, 27, 2, 2), (2, 30, 2, 4), (2, 47, 5, 9), (2, 55, 5, 10), (2, 68, 5, 0), (2, 87, 5, 4),
  (2, 102, 5, 11), (2, 112, 2, 3), (3, 9, 3, 0), (3, 15, 3, 1), (3, 19, 3, 2), (3, 22, 3, 3), (3, 25, 3, 4), (3, 34, 3, 5), (4, 15, 4, 0), (4, 21, 4, 1),
  (4, 24, 4, 2), (4, 27, 4, 3), (5, 9, 5, 1), (5, 15, 5, 2), (5, 18, 5, 3), (5, 21, 5, 5), (5, 24, 5, 6), (5, 27, 5, 7), (5, 30, 5, 8), (5, 38, 5, 9),
  (5, 42, 5, 10), (5, 45, 5, 12), (5, 48, 5, 13), (5, 51, 5, 14), (5, 54, 5, 15), (5, 63, 5, 0), (5, 67, 5, 4), (5, 73, 5, 11), (5, 76, 5, 16), (6, 9, 6, 0),
  (6, 15, 6, 1), (6, 18, 6, 2), (6, 21, 6, 3), (6, 35, 5, 9), (6, 45, 5, 10), (6, 67, 5, 4), (6, 70, 5, 5), (7, 10, 7, 0), (7, 19, 7, 1), (7, 23, 7, 2),
  (7, 30, 7, 3), (7, 37, 7, 4), (7, 44, 7, 5), (7, 51, 7, 6), (7, 55, 7, 7), (7, 82, 1, 7), (7, 86, 5, 0), (7, 93, 5, 4), (7, 96, 5, 9), (7, 105, 5, 10),
  (7, 108, 5, 11), (7, 111, 1, 2), (7, 117, 1, 3), (7, 120, 1, 4), (7, 123, 1, 5), (7, 143, 5, 1), (7, 147, 5, 2), (7, 150, 5, 3), (7, 163, 5, 5), (7, 166, 5, 6),
  (7, 169, 5, 7), (7, 172, 5, 8), (7, 192, 6, 0), (7, 232, 1, 0), (7, 266, 5, 15), (7, 313, 1, 6), (8, 7, 8, 0), (8, 13, 8, 2), (8, 16, 8, 3), (8, 19, 8, 4),
  (8, 22, 8, 5), (8, 25, 8, 6), (8, 29, 8, 7), (8, 32, 8, 8), (8, 35, 8, 9), (8, 39, 8, 21), (8, 43, 8, 23), (8, 51, 8, 1), (8, 55, 8, 10), (8, 65, 8, 12),
  (8, 68, 8, 11), (8, 131, 8, 13), (8, 134, 8, 14), (8, 137, 8, 15), (8, 140, 8, 16), (8, 143, 8, 17), (8, 146, 8, 19), (8, 149, 8, 20), (8, 151, 8, 18), (8, 168, 8, 22),
  (9, 9, 9, 0), (9, 15, 9, 1)]
def mn_MLT : List (Nat × Nat × Nat) := [(0, 25, 192), (0, 31, 3), (0, 35, 52), (0, 41, 62), (2, 22, 41), (2, 33, 23), (2, 36, 14), (2, 40, 15), (2, 44, 16), (2, 51, 17), (2, 58, 18), (2, 61, 19),
  (2, 64, 24), (2, 71, 20), (2, 75, 21), (2, 79, 22), (2, 83, 42), (2, 90, 43), (2, 94, 36), (2, 99, 38), (2, 105, 44), (2, 108, 45), (2, 115, 46), (2, 120, 182),
  (3, 28, 192), (3, 38, 30), (3, 46, 34), (4, 31, 36), (5, 57, 192), (5, 70, 37), (5, 92, 55), (6, 25, 48), (6, 31, 59), (6, 39, 39), (6, 48, 51), (6, 52, 40),
  (6, 61, 192), (6, 73, 53), (6, 77, 60), (6, 80, 50), (6, 83, 63), (6, 87, 61), (7, 59, 12), (7, 63, 10), (7, 68, 13), (7, 72, 47), (7, 75, 4), (7, 79, 27),
  (7, 90, 11), (7, 100, 35), (7, 114, 6), (7, 126, 26), (7, 129, 105), (7, 133, 191), (7, 139, 96), (7, 153, 49), (7, 157, 25), (7, 160, 97), (7, 175, 99), (7, 178, 55),
  (7, 181, 50), (7, 185, 98), (7, 188, 59), (7, 195, 102), (7, 198, 52), (7, 201, 53), (7, 204, 60), (7, 207, 104), (7, 211, 111), (7, 215, 101), (7, 218, 109), (7, 221, 110),
  (7, 224, 7), (7, 228, 8), (7, 235, 62), (7, 239, 9), (7, 242, 106), (7, 245, 190), (7, 249, 100), (7, 252, 107), (7, 256, 57), (7, 260, 103), (7, 263, 58), (7, 269, 108),
  (7, 277, 112), (7, 283, 54), (7, 286, 0), (7, 289, 1), (7, 293, 2), (7, 297, 28), (7, 301, 29), (7, 304, 31), (7, 307, 32), (7, 310, 33), (7, 316, 5), (7, 320, 48),
  (7, 323, 61), (7, 327, 56), (8, 46, 114), (8, 58, 120), (8, 62, 121), (8, 71, 122), (8, 75, 125), (8, 78, 124), (8, 81, 123), (8, 84, 126), (8, 88, 127), (8, 91, 128),
  (8, 95, 129), (8, 98, 130), (8, 101, 131), (8, 104, 139), (8, 107, 141), (8, 110, 134), (8, 114, 135), (8, 117, 146), (8, 120, 115), (8, 125, 116), (8, 128, 117), (8, 154, 142),
  (8, 158, 144), (8, 162, 143), (8, 165, 145), (8, 171, 149), (8, 174, 147), (8, 177, 153), (8, 182, 159), (8, 188, 161), (8, 191, 163), (8, 194, 118), (8, 197, 169), (8, 200, 172),
  (8, 203, 174), (8, 206, 175), (8, 209, 176), (9, 335, 186), (9, 492, 184), (9, 505, 185), (9, 633, 183), (9, 637, 188), (10, 88, 187), (10, 95, 189)]
def mn_NLT : List (Nat × Nat × Nat) := [(0, 47, 111), (3, 42, 113), (5, 79, 113), (5, 83, 112)]
def mn_MAT : List (Nat × Nat × Nat) := [(3, 50, 0), (4, 9, 0), (4, 35, 1), (5, 87, 0), (6, 56, 1), (7, 272, 2), (7, 280, 0), (10, 38, 1), (10, 92, 0)]
def mn_CT : List (Nat × Nat × Int32) := [(7, 58, -1000000002), (7, 67, -1000000004), (7, 142, -1000000001), (7, 231, -1000000003), (1, 46, 65536), (8, 42, 63360),
  (8, 50, -1000000002), (8, 54, -1000000004), (8, 124, -1000000001), (8, 181, -1000000003), (8, 185, 1103515245), (8, 186, 2147483647),
  (8, 187, 65536), (11, 265, 1431655765), (11, 266, 858993459), (11, 267, 252645135)]
def mn_CLT : List (Nat × Nat × Int64) := [(7, 334, -1), (1, 40, 1103515245), (1, 42, 12345), (1, 44, 2147483647),
  (12, 314, 6148914691236517205), (12, 316, 3689348814741910323), (12, 318, 1085102592571150095)]
def mn_fl (o i : Nat) : Option (Nat × Nat) := (mn_FLT.find? (fun e => e.1 == o && e.2.1 == i)).map (fun e => e.2.2)
def mn_ml (o i : Nat) : Option Nat := (mn_MLT.find? (fun e => e.1 == o && e.2.1 == i)).map (fun e => e.2.2)
def mn_nl (o i : Nat) : Option Nat := (mn_NLT.find? (fun e => e.1 == o && e.2.1 == i)).map (fun e => e.2.2)
def mn_ma (o i : Nat) : Option Nat := (mn_MAT.find? (fun e => e.1 == o && e.2.1 == i)).map (fun e => e.2.2)
def mn_cst (o i : Nat) : Option Int32 := (mn_CT.find? (fun e => e.1 == o && e.2.1 == i)).map (fun e => e.2.2)
def mn_cstl (o i : Nat) : Option Int64 := (mn_CLT.find? (fun e => e.1 == o && e.2.1 == i)).map (fun e => e.2.2)
/-- whole numbers by place and slot: fields of objects, elements of rows -/
abbrev mn_H : Type := Nat → Nat → Int32
def mn_up (h : mn_H) (a k : Nat) (x : Int32) : mn_H := fun b => if b = a then upd (h a) k x else h b
def mn_set (h : mn_H) (a : Nat) (f : Nat → Int32) : mn_H := fun b => if b = a then f else h b
/-- the place that a reference slot names -/
def mn_rf (f : Nat → Int32) (a k : Nat) : Nat := if a = 0 ∧ 6 ≤ k then (f k).toNatClampNeg else (mn_rfL.getD a []).getD k 0
def mn_dw (i : Nat) : Int64 := [-6148914691236517206, -3689348814741910324, -1085102592571150096, -71777214294589696, -281470681808896, -4294967296].getD i 0
def mn_byt (i : Nat) : Int32 := [99, 109, 100, 107, 121].getD i 0
/-- pc, locals, operands, heap -/
abbrev mn_S : Type := Nat × List Value × List Value × mn_H
/-- goes on; returns; calls (method, arguments, pc behind it, operands behind it) -/
abbrev mn_R : Type := mn_S ⊕ (Option Value ⊕ (Nat × List Value × Nat × List Value))
def mn_go (pc : Nat) (ls st : List Value) (h : mn_H) : Option mn_R := some (.inl (pc, ls, st, h))
def mn_jmp (pc : Nat) (off : Int) (ls st : List Value) (h : mn_H) : Option mn_R := if 0 ≤ (pc : Int) + off then mn_go ((pc : Int) + off).toNat ls st h else none
def mn_il (pc : Nat) (ls st : List Value) (h : mn_H) (i : Nat) : Option mn_R := match ls[i]? with
  | some (.int x) => mn_go pc ls (.int x :: st) h
  | _ => none
def mn_ll (pc : Nat) (ls st : List Value) (h : mn_H) (i : Nat) : Option mn_R := match ls[i]? with
  | some (.long x) => mn_go pc ls (.long x :: st) h
  | _ => none
def mn_al (pc : Nat) (ls st : List Value) (h : mn_H) (i : Nat) : Option mn_R := match ls[i]? with
  | some (.ref x) => mn_go pc ls (.ref x :: st) h
  | _ => none
/-- a store of one slot keeps clear of the longs of this method -/
def mn_so (M i : Nat) (ls : List Value) : Bool := decide (i < mL M) && (mN M).all (fun j => decide (j ≠ i) && decide (j + 1 ≠ i))
def mn_so2 (M i : Nat) (ls : List Value) : Bool := decide (i + 1 < mL M) && (mN M).contains i && (mN M).all (fun j => decide (j ≠ i + 1) && decide (j + 1 ≠ i))
def mn_is (M pc : Nat) (ls st : List Value) (h : mn_H) (i : Nat) : Option mn_R := match st with
  | .int x :: st => if mn_so M i ls then mn_go pc (ls.set i (.int x)) st h else none
  | _ => none
def mn_as (M pc : Nat) (ls st : List Value) (h : mn_H) (i : Nat) : Option mn_R := match st with
  | .ref x :: st => if mn_so M i ls then mn_go pc (ls.set i (.ref x)) st h else none
  | _ => none
def mn_ls (M pc : Nat) (ls st : List Value) (h : mn_H) (i : Nat) : Option mn_R := match st with
  | .long x :: st => if mn_so2 M i ls then mn_go pc (ls.set i (.long x)) st h else none
  | _ => none
def mn_cond (c : Jvm.ClassFile.Cond) (x y : Int32) : Bool := match c with
  | .eq => decide (x = y) | .ne => decide (¬ x = y) | .lt => decide (x < y) | .ge => decide (y ≤ x) | .gt => decide (y < x) | .le => decide (x ≤ y)
def mn_i2 (pc : Nat) (ls st : List Value) (h : mn_H) (f : Int32 → Int32 → Int32) : Option mn_R := match st with
  | .int y :: .int x :: st => mn_go pc ls (.int (f x y) :: st) h
  | _ => none
def mn_l2 (pc : Nat) (ls st : List Value) (h : mn_H) (f : Int64 → Int64 → Int64) : Option mn_R := match st with
  | .long y :: .long x :: st => mn_go pc ls (.long (f x y) :: st) h
  | _ => none
def mn_ls2 (pc : Nat) (ls st : List Value) (h : mn_H) (f : Int64 → Int32 → Int64) : Option mn_R := match st with
  | .int y :: .long x :: st => mn_go pc ls (.long (f x y) :: st) h
  | _ => none
def mn_i1 (pc : Nat) (ls st : List Value) (h : mn_H) (f : Int32 → Int32) : Option mn_R := match st with
  | .int x :: st => mn_go pc ls (.int (f x) :: st) h
  | _ => none
def mn_slot (h : mn_H) (a ci k : Nat) : Value := if mn_isr ci k = true then .ref (mn_rf (h a) a k) else .int (h a k)
def mn_get (o pc : Nat) (ls st : List Value) (h : mn_H) (i : Nat) : Option mn_R := match st, mn_fl o i with
  | .ref a :: st, some (ci, k) => if mn_sh a = (0, ci) then (if ci = 9 then mn_go pc ls ((if k = 0 then .ref 76 else .int 0) :: st) h else if a < 74 ∧ k < mn_nf ci then mn_go pc ls (mn_slot h a ci k :: st) h else none) else none
  | _, _ => none
def mn_put (o pc : Nat) (ls st : List Value) (h : mn_H) (i : Nat) : Option mn_R := match st, mn_fl o i with
  | v :: .ref a :: st, some (ci, k) => if mn_sh a = (0, ci) ∧ ci < 9 ∧ a < 74 ∧ k < mn_nf ci then (match v with
    | .int x => if mn_isr ci k = false ∧ (¬ (ci = 1 ∧ k = 7) ∨ x = 0 ∨ x = 1) ∧ mn_fin ci k = false then mn_go pc ls st (mn_up h a k x) else none
    | .ref b => if a = 0 ∧ 6 ≤ k ∧ (b = 23 ∨ b = 43) then mn_go pc ls st (mn_up h a k (nI b)) else none
    | _ => none) else none
  | _, _ => none
def mn_in (i : Int32) (n : Nat) : Bool := decide (¬ (i < 0 ∨ n ≤ i.toNatClampNeg))
def mn_iald (pc : Nat) (ls st : List Value) (h : mn_H) : Option mn_R := match st with
  | .int i :: .ref a :: st => if a < 74 ∧ (mn_sh a).1 = 1 ∧ mn_in i (mn_sh a).2 = true then mn_go pc ls (.int (h a i.toNatClampNeg) :: st) h else none
  | _ => none
def mn_bald (pc : Nat) (ls st : List Value) (h : mn_H) : Option mn_R := match st with
  | .int i :: .ref a :: st => if a < 74 ∧ (mn_sh a).1 = 2 ∧ mn_in i (mn_sh a).2 = true then mn_go pc ls (.int (h a i.toNatClampNeg) :: st) h else if a = 76 ∧ mn_in i 5 = true then mn_go pc ls (.int (mn_byt i.toNatClampNeg) :: st) h else none
  | _ => none
def mn_lald (pc : Nat) (ls st : List Value) (h : mn_H) : Option mn_R := match st with
  | .int i :: .ref a :: st => if a = 74 ∧ mn_in i 6 = true then mn_go pc ls (.long (mn_dw i.toNatClampNeg) :: st) h else none
  | _ => none
def mn_aald (pc : Nat) (ls st : List Value) (h : mn_H) : Option mn_R := match st with
  | .int i :: .ref a :: st => if a = 9 ∧ mn_in i 2 = true then mn_go pc ls (.ref (5 + 2 * i.toNatClampNeg) :: st) h else none
  | _ => none
def mn_iast (pc : Nat) (ls st : List Value) (h : mn_H) : Option mn_R := match st with
  | .int x :: .int i :: .ref a :: st => if a < 74 ∧ (mn_sh a).1 = 1 ∧ mn_in i (mn_sh a).2 = true then mn_go pc ls st (mn_up h a i.toNatClampNeg x) else none
  | _ => none
def mn_bast (pc : Nat) (ls st : List Value) (h : mn_H) : Option mn_R := match st with
  | .int x :: .int i :: .ref a :: st => if a < 74 ∧ (mn_sh a).1 = 2 ∧ mn_in i (mn_sh a).2 = true ∧ (x = 0 ∨ x = 1) then mn_go pc ls st (mn_up h a i.toNatClampNeg x) else none
  | _ => none
def mn_alen (pc : Nat) (ls st : List Value) (h : mn_H) : Option mn_R := match st with
  | .ref a :: st => if (a < 74 ∧ (mn_sh a).1 = 1) ∨ a = 76 then mn_go pc ls (.int (Int32.ofNat (mn_sh a).2) :: st) h else none
  | _ => none
/-- the locals at a method's entry -/
def mn_flat : List Value → List Value
  | [] => []
  | v :: vs => if v.category = 2 then v :: .null :: mn_flat vs else v :: mn_flat vs
def mn_ent (vs : List Value) (n : Nat) : List Value := mn_flat vs ++ List.replicate (n - (mn_flat vs).length) .null
def mn_isl (v : Value) : Bool := v.category == 2
def mn_isn (v : Value) : Bool := match v with | .null => true | _ => false
/-- locals that fit the method's longs -/
def mn_g (M : Nat) (ls : List Value) : Bool := (List.range ls.length).all (fun k => !(mn_isl (ls.getD k .null)) || (mN M).contains k) && (mN M).all (fun j => mn_isn (ls.getD (j + 1) .null))
def mn_cat (st : List Value) : Nat := (st.map fun v => v.category).sum
/-- a call that the callee's room, its locals and the operands behind it allow -/
def mn_cok (M C : Nat) (vs st : List Value) : Bool := decide (mF C + 1 ≤ mF M) && decide (8 + (mL C + 11) + mW C ≤ mW M) && decide ((mn_flat vs).length ≤ mL C) && mn_g C (mn_ent vs (mL C)) && decide (mn_cat st ≤ 8) && vs.all (fun v => !(mn_isn v)) && decide (C < 193)
def mn_csta (M pc C : Nat) (st : List Value) : Option mn_R := if mn_cok M C (st.take (mP C)).reverse (st.drop (mP C)) = true ∧ mP C ≤ st.length ∧ mSt C = true then some (.inr (.inr (C, (st.take (mP C)).reverse, pc + 3, st.drop (mP C)))) else none
def mn_math (M pc k : Nat) (ls st : List Value) (h : mn_H) : Option mn_R := match k, st with
  | 0, .int y :: .int x :: st => if 1 ≤ mF M ∧ mn_cat st + 13 ≤ mW M then mn_go (pc + 3) ls (.int (if x < y then y else x) :: st) h else none
  | 1, .int y :: .int x :: st => if 1 ≤ mF M ∧ mn_cat st + 13 ≤ mW M then mn_go (pc + 3) ls (.int (if y < x then y else x) :: st) h else none
  | 2, .int x :: st => if 1 ≤ mF M ∧ mn_cat st + 13 ≤ mW M then mn_go (pc + 3) ls (.int (if 0 ≤ x then x else 0 - x) :: st) h else none
  | _, _ => none
def mn_acpy (M pc : Nat) (ls st : List Value) (h : mn_H) : Option mn_R := match st with
  | .int n :: .int dp :: .ref b :: .int sp :: .ref a :: st => if a < 74 ∧ b < 74 ∧ (mn_sh a).1 = 1 ∧ (mn_sh b).1 = 1 ∧ ¬ sp < 0 ∧ ¬ dp < 0 ∧ ¬ n < 0 ∧ sp.toNatClampNeg + n.toNatClampNeg ≤ (mn_sh a).2 ∧ dp.toNatClampNeg + n.toNatClampNeg ≤ (mn_sh b).2 ∧ 1 ≤ mF M ∧ mn_cat st + 80 ≤ mW M then mn_go (pc + 3) ls st (mn_set h b (va_cpy (h a) (h b) sp.toNatClampNeg dp.toNatClampNeg n.toNatClampNeg)) else none
  | _ => none
def mn_stat (M o pc : Nat) (ls st : List Value) (h : mn_H) (i : Nat) : Option mn_R := match mn_ml o i with
  | some C => mn_csta M pc C st
  | none => (match mn_nl o i with
    | some C => mn_csta M pc C st
    | none => (match mn_ma o i with
      | some k => mn_math M pc k ls st h
      | none => if o = 1 ∧ i = 31 then mn_acpy M pc ls st h else none))
def mn_virt (M o pc : Nat) (ls st : List Value) (h : mn_H) (i : Nat) : Option mn_R := match mn_ml o i with
  | some C => (match st.drop (mP C) with
    | .ref a :: st' => if mn_cok M C (.ref a :: (st.take (mP C)).reverse) st' = true ∧ mn_sh a = (0, mO C) ∧ mP C ≤ st.length ∧ mSt C = false then some (.inr (.inr (C, .ref a :: (st.take (mP C)).reverse, pc + 3, st'))) else none
    | _ => none)
  | none => none
def mn_tsw (pc : Nat) (d lo hi : Int) (offs : Array Int) (x : Int32) : Int := (pc : Int) + (if x.toInt < lo ∨ hi < x.toInt then d else offs.getD (x.toInt - lo).toNat d)
def mn_op (M pc len : Nat) (op : Instr) (ls st : List Value) (h : mn_H) : Option mn_R := match op with
  | .iconst n => if len = 1 then mn_go (pc + 1) ls (.int (Int32.ofInt n) :: st) h else none
  | .bipush n => if len = 2 then mn_go (pc + 2) ls (.int (Int8.ofInt n).toInt32 :: st) h else none
  | .sipush n => if len = 3 then mn_go (pc + 3) ls (.int (Int16.ofInt n).toInt32 :: st) h else none
  | .lconst n => if len = 1 then mn_go (pc + 1) ls (.long (Int64.ofNat n.val) :: st) h else none
  | .ldc i => if len = 2 then (if mO M = 2 ∧ i = 118 then mn_go (pc + 2) ls (.ref 75 :: st) h else match mn_cst (mO M) i with
    | some v => mn_go (pc + 2) ls (.int v :: st) h
    | none => none) else none
  | .ldc_w i => if len = 3 then (match mn_cst (mO M) i with
    | some v => mn_go (pc + 3) ls (.int v :: st) h
    | none => none) else none
  | .ldc2_w i => if len = 3 then (match mn_cstl (mO M) i with
    | some v => mn_go (pc + 3) ls (.long v :: st) h
    | none => none) else none
  | .iload_n k => if len = 1 then mn_il (pc + 1) ls st h k.val else none
  | .iload i => if len = 2 then mn_il (pc + 2) ls st h i else none
  | .lload_n k => if len = 1 then mn_ll (pc + 1) ls st h k.val else none
  | .lload i => if len = 2 then mn_ll (pc + 2) ls st h i else none
  | .aload_n k => if len = 1 then mn_al (pc + 1) ls st h k.val else none
  | .aload i => if len = 2 then mn_al (pc + 2) ls st h i else none
  | .istore_n k => if len = 1 then mn_is M (pc + 1) ls st h k.val else none
  | .istore i => if len = 2 then mn_is M (pc + 2) ls st h i else none
  | .lstore_n k => if len = 1 then mn_ls M (pc + 1) ls st h k.val else none
  | .lstore i => if len = 2 then mn_ls M (pc + 2) ls st h i else none
  | .astore_n k => if len = 1 then mn_as M (pc + 1) ls st h k.val else none
  | .astore i => if len = 2 then mn_as M (pc + 2) ls st h i else none
  | .iinc i n => if len = 3 then (match ls[i]? with
    | some (.int x) => if mn_so M i ls then mn_go (pc + 3) (ls.set i (.int (x + Int32.ofInt n))) st h else none
    | _ => none) else none
  | .iadd => if len = 1 then mn_i2 (pc + 1) ls st h (fun x y => x + y) else none
  | .isub => if len = 1 then mn_i2 (pc + 1) ls st h (fun x y => x - y) else none
  | .imul => if len = 1 then mn_i2 (pc + 1) ls st h (fun x y => x * y) else none
  | .iand => if len = 1 then mn_i2 (pc + 1) ls st h (fun x y => x &&& y) else none
  | .ior => if len = 1 then mn_i2 (pc + 1) ls st h (fun x y => x ||| y) else none
  | .ixor => if len = 1 then mn_i2 (pc + 1) ls st h (fun x y => x ^^^ y) else none
  | .ishl => if len = 1 then mn_i2 (pc + 1) ls st h (fun x y => x <<< (y &&& 31)) else none
  | .ishr => if len = 1 then mn_i2 (pc + 1) ls st h (fun x y => x >>> (y &&& 31)) else none
  | .iushr => if len = 1 then mn_i2 (pc + 1) ls st h (fun x y => (x.toUInt32 >>> (y.toUInt32 &&& Int32.toUInt32 31)).toInt32) else none
  | .idiv => if len = 1 then (match st with
    | .int y :: .int x :: st => if y = 0 then none else mn_go (pc + 1) ls (.int (x / y) :: st) h
    | _ => none) else none
  | .irem => if len = 1 then (match st with
    | .int y :: .int x :: st => if y = 0 then none else mn_go (pc + 1) ls (.int (x - x / y * y) :: st) h
    | _ => none) else none
  | .ineg => if len = 1 then mn_i1 (pc + 1) ls st h (fun x => -x) else none
  | .i2b => if len = 1 then mn_i1 (pc + 1) ls st h (fun x => x.toInt8.toInt32) else none
  | .i2c => if len = 1 then mn_i1 (pc + 1) ls st h (fun x => (x.toUInt32 % 65536).toInt32) else none
  | .i2l => if len = 1 then (match st with
    | .int x :: st => mn_go (pc + 1) ls (.long x.toInt64 :: st) h
    | _ => none) else none
  | .l2i => if len = 1 then (match st with
    | .long x :: st => mn_go (pc + 1) ls (.int x.toInt32 :: st) h
    | _ => none) else none
  | .ladd => if len = 1 then mn_l2 (pc + 1) ls st h (fun x y => x + y) else none
  | .lsub => if len = 1 then mn_l2 (pc + 1) ls st h (fun x y => x - y) else none
  | .lmul => if len = 1 then mn_l2 (pc + 1) ls st h (fun x y => x * y) else none
  | .land => if len = 1 then mn_l2 (pc + 1) ls st h (fun x y => x &&& y) else none
  | .lor => if len = 1 then mn_l2 (pc + 1) ls st h (fun x y => x ||| y) else none
  | .lxor => if len = 1 then mn_l2 (pc + 1) ls st h (fun x y => x ^^^ y) else none
  | .lshl => if len = 1 then mn_ls2 (pc + 1) ls st h (fun x y => x <<< (y.toInt64 &&& 63)) else none
  | .lushr => if len = 1 then mn_ls2 (pc + 1) ls st h (fun x y => (x.toUInt64 >>> (y.toInt64.toUInt64 &&& Int64.toUInt64 63)).toInt64) else none
  | .lcmp => if len = 1 then (match st with
    | .long y :: .long x :: st => mn_go (pc + 1) ls (.int (lg_cmp x y) :: st) h
    | _ => none) else none
  | .dup => if len = 1 then (match st with
    | v :: st => if v.category = 1 then mn_go (pc + 1) ls (v :: v :: st) h else none
    | _ => none) else none
  | .dup2 => if len = 1 then (match st with
    | v :: w :: st => if v.category = 1 ∧ w.category = 1 then mn_go (pc + 1) ls (v :: w :: v :: w :: st) h else none
    | _ => none) else none
  | .ifCond c off => if len = 3 then (match st with
    | .int x :: st => if 0 ≤ (pc : Int) + off then (if mn_cond c x 0 = true then mn_go ((pc : Int) + off).toNat ls st h else mn_go (pc + 3) ls st h) else none
    | _ => none) else none
  | .if_icmp c off => if len = 3 then (match st with
    | .int y :: .int x :: st => if 0 ≤ (pc : Int) + off then (if mn_cond c x y = true then mn_go ((pc : Int) + off).toNat ls st h else mn_go (pc + 3) ls st h) else none
    | _ => none) else none
  | .goto off => if len = 3 then mn_jmp pc off ls st h else none
  | .tableswitch d lo hi offs => (match st with
    | .int x :: st => if (hi - lo + 1).toNat = offs.size ∧ 0 ≤ mn_tsw pc d lo hi offs x then mn_go (mn_tsw pc d lo hi offs x).toNat ls st h else none
    | _ => none)
  | .getfield i => if len = 3 then mn_get (mO M) (pc + 3) ls st h i else none
  | .putfield i => if len = 3 then mn_put (mO M) (pc + 3) ls st h i else none
  | .getstatic i => if len = 3 then (if mO M = 7 ∧ i = 330 then mn_go (pc + 3) ls (.ref 74 :: st) h else if mO M = 9 ∧ i = 38 then mn_go (pc + 3) ls (.int 1 :: st) h else none) else none
  | .iaload => if len = 1 then mn_iald (pc + 1) ls st h else none
  | .baload => if len = 1 then mn_bald (pc + 1) ls st h else none
  | .laload => if len = 1 then mn_lald (pc + 1) ls st h else none
  | .aaload => if len = 1 then mn_aald (pc + 1) ls st h else none
  | .iastore => if len = 1 then mn_iast (pc + 1) ls st h else none
  | .bastore => if len = 1 then mn_bast (pc + 1) ls st h else none
  | .arraylength => if len = 1 then mn_alen (pc + 1) ls st h else none
  | .invokestatic i => if len = 3 then mn_stat M (mO M) pc ls st h i else none
  | .invokevirtual i => if len = 3 then mn_virt M (mO M) pc ls st h i else none
  | .ireturn => if len = 1 then (match st with
    | [.int x] => if mR M = some .int ∨ (mR M = some .boolean ∧ (x = 0 ∨ x = 1)) ∨ (mR M = some .byte ∧ x = 0) then some (.inr (.inl (some (.int x)))) else none
    | _ => none) else none
  | .lreturn => if len = 1 then (match st with
    | [.long x] => if mR M = some .long then some (.inr (.inl (some (.long x)))) else none
    | _ => none) else none
  | .return_ => if len = 1 then (match st with
    | [] => if mR M = none then some (.inr (.inl none)) else none
    | _ => none) else none
  | _ => none
def mn_stp (M pc : Nat) (ls st : List Value) (h : mn_H) : Option mn_R := match decode (mC M) pc with
  | .error _ => none
  | .ok (op, len) => mn_op M pc len op ls st h
def mn_ev : Nat → Nat → Nat → List Value → List Value → mn_H → Option (Option Value × mn_H)
  | 0, _, _, _, _, _ => none
  | n + 1, M, pc, ls, st, h => match mn_stp M pc ls st h with
    | none => none
    | some (.inl (pc', ls', st', h')) => mn_ev n M pc' ls' st' h'
    | some (.inr (.inl v)) => some (v, h)
    | some (.inr (.inr (C, vs, pc', st'))) => match mn_ev n C 0 (mn_ent vs (mL C)) [] h with
      | none => none
      | some (v, h1) => mn_ev n M pc' ls (v.toList ++ st') h1
theorem mn_ev_mono : ∀ (n k M pc : Nat) (ls st : List Value) (h : mn_H) (x : Option Value × mn_H), mn_ev n M pc ls st h = some x → mn_ev (n + k) M pc ls st h = some x := by
  intro n
  induction n with
  | zero => intro k M pc ls st h x e; simp [mn_ev] at e
  | succ n ih =>
    intro k M pc ls st h x e
    rw [Nat.add_right_comm n 1 k]
    simp only [mn_ev] at e ⊢
    cases hs : mn_stp M pc ls st h with
    | none => rw [hs] at e; cases e
    | some q =>
      rw [hs] at e
      rcases q with ⟨pc', ls', st', h'⟩ | v | ⟨C, vs, pc', st'⟩
      · exact ih k _ _ _ _ _ _ e
      · exact e
      · dsimp only at e ⊢
        cases hc : mn_ev n C 0 (mn_ent vs (mL C)) [] h with
        | none => rw [hc] at e; cases e
        | some w =>
          rw [hc] at e
          rw [ih k _ _ _ _ _ _ hc]
          exact ih k _ _ _ _ _ _ e
/-- from here the method returns r, and the heap is h' -/
def mn_E (M pc : Nat) (ls st : List Value) (h : mn_H) (r : Option Value) (h' : mn_H) : Prop := ∃ n, mn_ev n M pc ls st h = some (r, h')
/-- a method, called with vs -/
def mn_X (M : Nat) (vs : List Value) (h : mn_H) (r : Option Value) (h' : mn_H) : Prop := mn_E M 0 (mn_ent vs (mL M)) [] h r h'
section MNR
variable {M pc : Nat} {ls st : List Value} {h h' : mn_H} {r : Option Value}
theorem mn_E_go {pc' : Nat} {ls' st' : List Value} {h1 : mn_H} (hs : mn_stp M pc ls st h = some (.inl (pc', ls', st', h1))) : mn_E M pc ls st h r h' ↔ mn_E M pc' ls' st' h1 r h' := by
  constructor
  · rintro ⟨n, e⟩
    cases n with
    | zero => simp [mn_ev] at e
    | succ n => simp only [mn_ev, hs] at e; exact ⟨n, e⟩
  · rintro ⟨n, e⟩
    exact ⟨n + 1, by simp only [mn_ev, hs]; exact e⟩
theorem mn_E_ret {v : Option Value} (hs : mn_stp M pc ls st h = some (.inr (.inl v))) : mn_E M pc ls st h r h' ↔ r = v ∧ h' = h := by
  constructor
  · rintro ⟨n, e⟩
    cases n with
    | zero => simp [mn_ev] at e
    | succ n => simp only [mn_ev, hs, Option.some.injEq, Prod.mk.injEq] at e; exact ⟨e.1.symm, e.2.symm⟩
  · rintro ⟨rfl, rfl⟩
    exact ⟨1, by simp only [mn_ev, hs]⟩
theorem mn_E_call {C pc' : Nat} {vs st' : List Value} (hs : mn_stp M pc ls st h = some (.inr (.inr (C, vs, pc', st')))) : mn_E M pc ls st h r h' ↔ ∃ v h1, mn_X C vs h v h1 ∧ mn_E M pc' ls (v.toList ++ st') h1 r h' := by
  constructor
  · rintro ⟨n, e⟩
    cases n with
    | zero => simp [mn_ev] at e
    | succ n =>
      simp only [mn_ev, hs] at e
      cases hc : mn_ev n C 0 (mn_ent vs (mL C)) [] h with
      | none => rw [hc] at e; cases e
      | some w => rw [hc] at e; exact ⟨w.1, w.2, ⟨n, hc⟩, ⟨n, e⟩⟩
  · rintro ⟨v, h1, ⟨n, e1⟩, ⟨k, e2⟩⟩
    refine ⟨n + k + 1, ?_⟩
    simp only [mn_ev, hs, mn_ev_mono n k _ _ _ _ _ _ e1]
    rw [Nat.add_comm n k]
    exact mn_ev_mono k n _ _ _ _ _ _ e2
theorem mn_E_det {r1 r2 : Option Value} {h1 h2 : mn_H} (a : mn_E M pc ls st h r1 h1) (b : mn_E M pc ls st h r2 h2) : r2 = r1 ∧ h2 = h1 := by
  obtain ⟨n, e1⟩ := a
  obtain ⟨k, e2⟩ := b
  have e1 := mn_ev_mono n k _ _ _ _ _ _ e1
  have e2 := mn_ev_mono k n _ _ _ _ _ _ e2
  rw [Nat.add_comm k n, e1] at e2
  cases e2
  exact ⟨rfl, rfl⟩
theorem mn_X_iff {vs : List Value} {r1 : Option Value} {h1 : mn_H} (a : mn_X M vs h r1 h1) : mn_X M vs h r h' ↔ r = r1 ∧ h' = h1 := ⟨fun b => mn_E_det a b, fun b => by rw [b.1, b.2]; exact a⟩
/-- a call whose answer is known -/
theorem mn_E_step {C pc' : Nat} {vs st' : List Value} {v : Option Value} {h1 : mn_H} (hs : mn_stp M pc ls st h = some (.inr (.inr (C, vs, pc', st')))) (a : mn_X C vs h v h1) : mn_E M pc ls st h r h' ↔ mn_E M pc' ls (v.toList ++ st') h1 r h' := by
  rw [mn_E_call hs]
  constructor
  · rintro ⟨v2, h2, b, c⟩
    obtain ⟨rfl, rfl⟩ := mn_E_det a b
    exact c
  · exact fun b => ⟨v, h1, a, b⟩
-- the rules, an instruction each
theorem mX_iconst {n : Int} {v : Int32} (hd : decode (mC M) pc = .ok (.iconst n, 1)) (hv : Int32.ofInt n = v) : mn_E M pc ls st h r h' ↔ mn_E M (pc + 1) ls (.int v :: st) h r h' := mn_E_go (by subst hv; simp only [mn_stp, hd, mn_op, mn_go, if_pos])
theorem mX_bipush {n : Int} {v : Int32} (hd : decode (mC M) pc = .ok (.bipush n, 2)) (hv : (Int8.ofInt n).toInt32 = v) : mn_E M pc ls st h r h' ↔ mn_E M (pc + 2) ls (.int v :: st) h r h' := mn_E_go (by subst hv; simp only [mn_stp, hd, mn_op, mn_go, if_pos])
theorem mX_sipush {n : Int} {v : Int32} (hd : decode (mC M) pc = .ok (.sipush n, 3)) (hv : (Int16.ofInt n).toInt32 = v) : mn_E M pc ls st h r h' ↔ mn_E M (pc + 3) ls (.int v :: st) h r h' := mn_E_go (by subst hv; simp only [mn_stp, hd, mn_op, mn_go, if_pos])
theorem mX_lconst {n : Fin 2} {v : Int64} (hd : decode (mC M) pc = .ok (.lconst n, 1)) (hv : Int64.ofNat n.val = v) : mn_E M pc ls st h r h' ↔ mn_E M (pc + 1) ls (.long v :: st) h r h' := mn_E_go (by subst hv; simp only [mn_stp, hd, mn_op, mn_go, if_pos])
theorem mX_ldc {i o : Nat} {v : Int32} (hd : decode (mC M) pc = .ok (.ldc i, 2)) (ho : mO M = o) (hv : mn_cst o i = some v) (hn : ¬ (o = 2 ∧ i = 118)) : mn_E M pc ls st h r h' ↔ mn_E M (pc + 2) ls (.int v :: st) h r h' := mn_E_go (by subst ho; simp only [mn_stp, hd, mn_op, mn_go, if_pos, if_neg hn, hv])
theorem mX_ldcS {i o : Nat} (hd : decode (mC M) pc = .ok (.ldc i, 2)) (ho : mO M = o) (hn : o = 2 ∧ i = 118) : mn_E M pc ls st h r h' ↔ mn_E M (pc + 2) ls (.ref 75 :: st) h r h' := mn_E_go (by subst ho; simp only [mn_stp, hd, mn_op, mn_go, if_pos, if_pos hn])
theorem mX_ldcw {i o : Nat} {v : Int32} (hd : decode (mC M) pc = .ok (.ldc_w i, 3)) (ho : mO M = o) (hv : mn_cst o i = some v) : mn_E M pc ls st h r h' ↔ mn_E M (pc + 3) ls (.int v :: st) h r h' := mn_E_go (by subst ho; simp only [mn_stp, hd, mn_op, mn_go, if_pos, hv])
theorem mX_ldc2 {i o : Nat} {v : Int64} (hd : decode (mC M) pc = .ok (.ldc2_w i, 3)) (ho : mO M = o) (hv : mn_cstl o i = some v) : mn_E M pc ls st h r h' ↔ mn_E M (pc + 3) ls (.long v :: st) h r h' := mn_E_go (by subst ho; simp only [mn_stp, hd, mn_op, mn_go, if_pos, hv])
theorem mX_iload_n {k : Fin 4} {x : Int32} (hd : decode (mC M) pc = .ok (.iload_n k, 1)) (hl : ls[k.val]? = some (.int x)) : mn_E M pc ls st h r h' ↔ mn_E M (pc + 1) ls (.int x :: st) h r h' := mn_E_go (by simp only [mn_stp, hd, mn_op, mn_il, hl, mn_go, if_pos])
theorem mX_iload {i : Nat} {x : Int32} (hd : decode (mC M) pc = .ok (.iload i, 2)) (hl : ls[i]? = some (.int x)) : mn_E M pc ls st h r h' ↔ mn_E M (pc + 2) ls (.int x :: st) h r h' := mn_E_go (by simp only [mn_stp, hd, mn_op, mn_il, hl, mn_go, if_pos])
theorem mX_lload_n {k : Fin 4} {x : Int64} (hd : decode (mC M) pc = .ok (.lload_n k, 1)) (hl : ls[k.val]? = some (.long x)) : mn_E M pc ls st h r h' ↔ mn_E M (pc + 1) ls (.long x :: st) h r h' := mn_E_go (by simp only [mn_stp, hd, mn_op, mn_ll, hl, mn_go, if_pos])
theorem mX_lload {i : Nat} {x : Int64} (hd : decode (mC M) pc = .ok (.lload i, 2)) (hl : ls[i]? = some (.long x)) : mn_E M pc ls st h r h' ↔ mn_E M (pc + 2) ls (.long x :: st) h r h' := mn_E_go (by simp only [mn_stp, hd, mn_op, mn_ll, hl, mn_go, if_pos])
theorem mX_aload_n {k : Fin 4} {x : Nat} (hd : decode (mC M) pc = .ok (.aload_n k, 1)) (hl : ls[k.val]? = some (.ref x)) : mn_E M pc ls st h r h' ↔ mn_E M (pc + 1) ls (.ref x :: st) h r h' := mn_E_go (by simp only [mn_stp, hd, mn_op, mn_al, hl, mn_go, if_pos])
theorem mX_aload {i : Nat} {x : Nat} (hd : decode (mC M) pc = .ok (.aload i, 2)) (hl : ls[i]? = some (.ref x)) : mn_E M pc ls st h r h' ↔ mn_E M (pc + 2) ls (.ref x :: st) h r h' := mn_E_go (by simp only [mn_stp, hd, mn_op, mn_al, hl, mn_go, if_pos])
theorem mX_istore_n {k : Fin 4} {x : Int32} {ls' : List Value} (hd : decode (mC M) pc = .ok (.istore_n k, 1)) (hs : mn_so M k.val ls = true) (hl : ls.set k.val (.int x) = ls') : mn_E M pc ls (.int x :: st) h r h' ↔ mn_E M (pc + 1) ls' st h r h' := mn_E_go (by subst hl; simp only [mn_stp, hd, mn_op, mn_is, hs, mn_go, if_pos])
theorem mX_istore {i : Nat} {x : Int32} {ls' : List Value} (hd : decode (mC M) pc = .ok (.istore i, 2)) (hs : mn_so M i ls = true) (hl : ls.set i (.int x) = ls') : mn_E M pc ls (.int x :: st) h r h' ↔ mn_E M (pc + 2) ls' st h r h' := mn_E_go (by subst hl; simp only [mn_stp, hd, mn_op, mn_is, hs, mn_go, if_pos])
theorem mX_lstore_n {k : Fin 4} {x : Int64} {ls' : List Value} (hd : decode (mC M) pc = .ok (.lstore_n k, 1)) (hs : mn_so2 M k.val ls = true) (hl : ls.set k.val (.long x) = ls') : mn_E M pc ls (.long x :: st) h r h' ↔ mn_E M (pc + 1) ls' st h r h' := mn_E_go (by subst hl; simp only [mn_stp, hd, mn_op, mn_ls, hs, mn_go, if_pos])
theorem mX_lstore {i : Nat} {x : Int64} {ls' : List Value} (hd : decode (mC M) pc = .ok (.lstore i, 2)) (hs : mn_so2 M i ls = true) (hl : ls.set i (.long x) = ls') : mn_E M pc ls (.long x :: st) h r h' ↔ mn_E M (pc + 2) ls' st h r h' := mn_E_go (by subst hl; simp only [mn_stp, hd, mn_op, mn_ls, hs, mn_go, if_pos])
theorem mX_astore_n {k : Fin 4} {x : Nat} {ls' : List Value} (hd : decode (mC M) pc = .ok (.astore_n k, 1)) (hs : mn_so M k.val ls = true) (hl : ls.set k.val (.ref x) = ls') : mn_E M pc ls (.ref x :: st) h r h' ↔ mn_E M (pc + 1) ls' st h r h' := mn_E_go (by subst hl; simp only [mn_stp, hd, mn_op, mn_as, hs, mn_go, if_pos])
theorem mX_iinc {i : Nat} {n : Int} {x v : Int32} {ls' : List Value} (hd : decode (mC M) pc = .ok (.iinc i n, 3)) (hg : ls[i]? = some (.int x)) (hv : Int32.ofInt n = v) (hs : mn_so M i ls = true) (hl : ls.set i (.int (x + v)) = ls') : mn_E M pc ls st h r h' ↔ mn_E M (pc + 3) ls' st h r h' := mn_E_go (by subst hl; subst hv; simp only [mn_stp, hd, mn_op, hg, hs, mn_go, if_pos])
theorem mX_iadd {x y : Int32} (hd : decode (mC M) pc = .ok (.iadd, 1)) : mn_E M pc ls (.int y :: .int x :: st) h r h' ↔ mn_E M (pc + 1) ls (.int (x + y) :: st) h r h' := mn_E_go (by simp only [mn_stp, hd, mn_op, mn_i2, mn_go, if_pos])
theorem mX_isub {x y : Int32} (hd : decode (mC M) pc = .ok (.isub, 1)) : mn_E M pc ls (.int y :: .int x :: st) h r h' ↔ mn_E M (pc + 1) ls (.int (x - y) :: st) h r h' := mn_E_go (by simp only [mn_stp, hd, mn_op, mn_i2, mn_go, if_pos])
theorem mX_imul {x y : Int32} (hd : decode (mC M) pc = .ok (.imul, 1)) : mn_E M pc ls (.int y :: .int x :: st) h r h' ↔ mn_E M (pc + 1) ls (.int (x * y) :: st) h r h' := mn_E_go (by simp only [mn_stp, hd, mn_op, mn_i2, mn_go, if_pos])
theorem mX_iand {x y : Int32} (hd : decode (mC M) pc = .ok (.iand, 1)) : mn_E M pc ls (.int y :: .int x :: st) h r h' ↔ mn_E M (pc + 1) ls (.int (x &&& y) :: st) h r h' := mn_E_go (by simp only [mn_stp, hd, mn_op, mn_i2, mn_go, if_pos])
theorem mX_ior {x y : Int32} (hd : decode (mC M) pc = .ok (.ior, 1)) : mn_E M pc ls (.int y :: .int x :: st) h r h' ↔ mn_E M (pc + 1) ls (.int (x ||| y) :: st) h r h' := mn_E_go (by simp only [mn_stp, hd, mn_op, mn_i2, mn_go, if_pos])
theorem mX_ixor {x y : Int32} (hd : decode (mC M) pc = .ok (.ixor, 1)) : mn_E M pc ls (.int y :: .int x :: st) h r h' ↔ mn_E M (pc + 1) ls (.int (x ^^^ y) :: st) h r h' := mn_E_go (by simp only [mn_stp, hd, mn_op, mn_i2, mn_go, if_pos])
theorem mX_ishl {x y : Int32} (hd : decode (mC M) pc = .ok (.ishl, 1)) : mn_E M pc ls (.int y :: .int x :: st) h r h' ↔ mn_E M (pc + 1) ls (.int (x <<< (y &&& 31)) :: st) h r h' := mn_E_go (by simp only [mn_stp, hd, mn_op, mn_i2, mn_go, if_pos])
theorem mX_ishr {x y : Int32} (hd : decode (mC M) pc = .ok (.ishr, 1)) : mn_E M pc ls (.int y :: .int x :: st) h r h' ↔ mn_E M (pc + 1) ls (.int (x >>> (y &&& 31)) :: st) h r h' := mn_E_go (by simp only [mn_stp, hd, mn_op, mn_i2, mn_go, if_pos])
theorem mX_iushr {x y : Int32} (hd : decode (mC M) pc = .ok (.iushr, 1)) : mn_E M pc ls (.int y :: .int x :: st) h r h' ↔ mn_E M (pc + 1) ls (.int (x.toUInt32 >>> (y.toUInt32 &&& Int32.toUInt32 31)).toInt32 :: st) h r h' := mn_E_go (by simp only [mn_stp, hd, mn_op, mn_i2, mn_go, if_pos])
theorem mX_idiv {x y : Int32} (hd : decode (mC M) pc = .ok (.idiv, 1)) (hy : ¬ y = 0) : mn_E M pc ls (.int y :: .int x :: st) h r h' ↔ mn_E M (pc + 1) ls (.int (x / y) :: st) h r h' := mn_E_go (by simp only [mn_stp, hd, mn_op, mn_go, if_pos, if_neg hy])
theorem mX_irem {x y : Int32} (hd : decode (mC M) pc = .ok (.irem, 1)) (hy : ¬ y = 0) : mn_E M pc ls (.int y :: .int x :: st) h r h' ↔ mn_E M (pc + 1) ls (.int (x - x / y * y) :: st) h r h' := mn_E_go (by simp only [mn_stp, hd, mn_op, mn_go, if_pos, if_neg hy])
theorem mX_ineg {x : Int32} (hd : decode (mC M) pc = .ok (.ineg, 1)) : mn_E M pc ls (.int x :: st) h r h' ↔ mn_E M (pc + 1) ls (.int (-x) :: st) h r h' := mn_E_go (by simp only [mn_stp, hd, mn_op, mn_i1, mn_go, if_pos])
theorem mX_i2b {x : Int32} (hd : decode (mC M) pc = .ok (.i2b, 1)) : mn_E M pc ls (.int x :: st) h r h' ↔ mn_E M (pc + 1) ls (.int x.toInt8.toInt32 :: st) h r h' := mn_E_go (by simp only [mn_stp, hd, mn_op, mn_i1, mn_go, if_pos])
theorem mX_i2c {x : Int32} (hd : decode (mC M) pc = .ok (.i2c, 1)) : mn_E M pc ls (.int x :: st) h r h' ↔ mn_E M (pc + 1) ls (.int (x.toUInt32 % 65536).toInt32 :: st) h r h' := mn_E_go (by simp only [mn_stp, hd, mn_op, mn_i1, mn_go, if_pos])
theorem mX_i2l {x : Int32} (hd : decode (mC M) pc = .ok (.i2l, 1)) : mn_E M pc ls (.int x :: st) h r h' ↔ mn_E M (pc + 1) ls (.long x.toInt64 :: st) h r h' := mn_E_go (by simp only [mn_stp, hd, mn_op, mn_go, if_pos])
theorem mX_l2i {x : Int64} (hd : decode (mC M) pc = .ok (.l2i, 1)) : mn_E M pc ls (.long x :: st) h r h' ↔ mn_E M (pc + 1) ls (.int x.toInt32 :: st) h r h' := mn_E_go (by simp only [mn_stp, hd, mn_op, mn_go, if_pos])
theorem mX_ladd {x y : Int64} (hd : decode (mC M) pc = .ok (.ladd, 1)) : mn_E M pc ls (.long y :: .long x :: st) h r h' ↔ mn_E M (pc + 1) ls (.long (x + y) :: st) h r h' := mn_E_go (by simp only [mn_stp, hd, mn_op, mn_l2, mn_go, if_pos])
theorem mX_lsub {x y : Int64} (hd : decode (mC M) pc = .ok (.lsub, 1)) : mn_E M pc ls (.long y :: .long x :: st) h r h' ↔ mn_E M (pc + 1) ls (.long (x - y) :: st) h r h' := mn_E_go (by simp only [mn_stp, hd, mn_op, mn_l2, mn_go, if_pos])
theorem mX_lmul {x y : Int64} (hd : decode (mC M) pc = .ok (.lmul, 1)) : mn_E M pc ls (.long y :: .long x :: st) h r h' ↔ mn_E M (pc + 1) ls (.long (x * y) :: st) h r h' := mn_E_go (by simp only [mn_stp, hd, mn_op, mn_l2, mn_go, if_pos])
theorem mX_land {x y : Int64} (hd : decode (mC M) pc = .ok (.land, 1)) : mn_E M pc ls (.long y :: .long x :: st) h r h' ↔ mn_E M (pc + 1) ls (.long (x &&& y) :: st) h r h' := mn_E_go (by simp only [mn_stp, hd, mn_op, mn_l2, mn_go, if_pos])
theorem mX_lor {x y : Int64} (hd : decode (mC M) pc = .ok (.lor, 1)) : mn_E M pc ls (.long y :: .long x :: st) h r h' ↔ mn_E M (pc + 1) ls (.long (x ||| y) :: st) h r h' := mn_E_go (by simp only [mn_stp, hd, mn_op, mn_l2, mn_go, if_pos])
theorem mX_lxor {x y : Int64} (hd : decode (mC M) pc = .ok (.lxor, 1)) : mn_E M pc ls (.long y :: .long x :: st) h r h' ↔ mn_E M (pc + 1) ls (.long (x ^^^ y) :: st) h r h' := mn_E_go (by simp only [mn_stp, hd, mn_op, mn_l2, mn_go, if_pos])
theorem mX_lshl {x : Int64} {y : Int32} (hd : decode (mC M) pc = .ok (.lshl, 1)) : mn_E M pc ls (.int y :: .long x :: st) h r h' ↔ mn_E M (pc + 1) ls (.long (x <<< (y.toInt64 &&& 63)) :: st) h r h' := mn_E_go (by simp only [mn_stp, hd, mn_op, mn_ls2, mn_go, if_pos])
theorem mX_lushr {x : Int64} {y : Int32} (hd : decode (mC M) pc = .ok (.lushr, 1)) : mn_E M pc ls (.int y :: .long x :: st) h r h' ↔ mn_E M (pc + 1) ls (.long (x.toUInt64 >>> (y.toInt64.toUInt64 &&& Int64.toUInt64 63)).toInt64 :: st) h r h' := mn_E_go (by simp only [mn_stp, hd, mn_op, mn_ls2, mn_go, if_pos])
theorem mX_lcmp {x y : Int64} (hd : decode (mC M) pc = .ok (.lcmp, 1)) : mn_E M pc ls (.long y :: .long x :: st) h r h' ↔ mn_E M (pc + 1) ls (.int (lg_cmp x y) :: st) h r h' := mn_E_go (by simp only [mn_stp, hd, mn_op, mn_go, if_pos])
theorem mX_dup {v : Value} (hd : decode (mC M) pc = .ok (.dup, 1)) (hc : v.category = 1) : mn_E M pc ls (v :: st) h r h' ↔ mn_E M (pc + 1) ls (v :: v :: st) h r h' := mn_E_go (by simp only [mn_stp, hd, mn_op, hc, mn_go, if_pos])
theorem mX_dup2 {v w : Value} (hd : decode (mC M) pc = .ok (.dup2, 1)) (hc : v.category = 1 ∧ w.category = 1) : mn_E M pc ls (v :: w :: st) h r h' ↔ mn_E M (pc + 1) ls (v :: w :: v :: w :: st) h r h' := mn_E_go (by simp only [mn_stp, hd, mn_op, hc, mn_go, if_pos, and_self])
theorem mn_jmp_eq {off : Int} {tgt : Nat} (ht : (pc : Int) + off = (tgt : Int)) : mn_jmp pc off ls st h = some (.inl (tgt, ls, st, h)) := by
  unfold mn_jmp mn_go
  rw [ht, if_pos (Int.natCast_nonneg tgt), Int.toNat_natCast]
theorem mX_goto {off : Int} {tgt : Nat} (hd : decode (mC M) pc = .ok (.goto off, 3)) (ht : (pc : Int) + off = (tgt : Int)) : mn_E M pc ls st h r h' ↔ mn_E M tgt ls st h r h' := mn_E_go (by simp only [mn_stp, hd, mn_op, if_pos]; exact mn_jmp_eq ht)
theorem mX_br {c : Bool} {off : Int} {tgt n : Nat} {st0 : List Value} (ht : (pc : Int) + off = (tgt : Int)) (hs : mn_stp M pc ls st0 h = (if 0 ≤ (pc : Int) + off then (if c = true then mn_go ((pc : Int) + off).toNat ls st h else mn_go n ls st h) else none)) : mn_E M pc ls st0 h r h' ↔ if c = true then mn_E M tgt ls st h r h' else mn_E M n ls st h r h' := by
  rw [if_pos (by rw [ht]; exact Int.natCast_nonneg tgt), ht, Int.toNat_natCast] at hs
  cases c with
  | true => rw [if_pos rfl]; exact mn_E_go (by rw [hs, if_pos rfl]; rfl)
  | false => rw [if_neg (by decide)]; exact mn_E_go (by rw [hs, if_neg (by decide)]; rfl)
theorem mX_if {c : Jvm.ClassFile.Cond} {x : Int32} {off : Int} {tgt : Nat} (hd : decode (mC M) pc = .ok (.ifCond c off, 3)) (ht : (pc : Int) + off = (tgt : Int)) : mn_E M pc ls (.int x :: st) h r h' ↔ if mn_cond c x 0 = true then mn_E M tgt ls st h r h' else mn_E M (pc + 3) ls st h r h' := mX_br ht (by simp only [mn_stp, hd, mn_op, if_pos])
theorem mX_icmp {c : Jvm.ClassFile.Cond} {x y : Int32} {off : Int} {tgt : Nat} (hd : decode (mC M) pc = .ok (.if_icmp c off, 3)) (ht : (pc : Int) + off = (tgt : Int)) : mn_E M pc ls (.int y :: .int x :: st) h r h' ↔ if mn_cond c x y = true then mn_E M tgt ls st h r h' else mn_E M (pc + 3) ls st h r h' := mX_br ht (by simp only [mn_stp, hd, mn_op, if_pos])
theorem mn_ite {b : Bool} {p A B : Prop} {_ : Decidable p} (hb : b = decide p) : (if b = true then A else B) ↔ (if p then A else B) := by
  subst hb
  by_cases hp : p <;> simp [hp]
theorem mX_if_eq {x : Int32} {off : Int} {tgt : Nat} (hd : decode (mC M) pc = .ok (.ifCond .eq off, 3)) (ht : (pc : Int) + off = (tgt : Int)) : mn_E M pc ls (.int x :: st) h r h' ↔ if x = 0 then mn_E M tgt ls st h r h' else mn_E M (pc + 3) ls st h r h' := (mX_if hd ht).trans (mn_ite rfl)
theorem mX_if_ne {x : Int32} {off : Int} {tgt : Nat} (hd : decode (mC M) pc = .ok (.ifCond .ne off, 3)) (ht : (pc : Int) + off = (tgt : Int)) : mn_E M pc ls (.int x :: st) h r h' ↔ if ¬ x = 0 then mn_E M tgt ls st h r h' else mn_E M (pc + 3) ls st h r h' := (mX_if hd ht).trans (mn_ite rfl)
theorem mX_if_lt {x : Int32} {off : Int} {tgt : Nat} (hd : decode (mC M) pc = .ok (.ifCond .lt off, 3)) (ht : (pc : Int) + off = (tgt : Int)) : mn_E M pc ls (.int x :: st) h r h' ↔ if x < 0 then mn_E M tgt ls st h r h' else mn_E M (pc + 3) ls st h r h' := (mX_if hd ht).trans (mn_ite rfl)
theorem mX_if_ge {x : Int32} {off : Int} {tgt : Nat} (hd : decode (mC M) pc = .ok (.ifCond .ge off, 3)) (ht : (pc : Int) + off = (tgt : Int)) : mn_E M pc ls (.int x :: st) h r h' ↔ if 0 ≤ x then mn_E M tgt ls st h r h' else mn_E M (pc + 3) ls st h r h' := (mX_if hd ht).trans (mn_ite rfl)
theorem mX_if_gt {x : Int32} {off : Int} {tgt : Nat} (hd : decode (mC M) pc = .ok (.ifCond .gt off, 3)) (ht : (pc : Int) + off = (tgt : Int)) : mn_E M pc ls (.int x :: st) h r h' ↔ if 0 < x then mn_E M tgt ls st h r h' else mn_E M (pc + 3) ls st h r h' := (mX_if hd ht).trans (mn_ite rfl)
theorem mX_if_le {x : Int32} {off : Int} {tgt : Nat} (hd : decode (mC M) pc = .ok (.ifCond .le off, 3)) (ht : (pc : Int) + off = (tgt : Int)) : mn_E M pc ls (.int x :: st) h r h' ↔ if x ≤ 0 then mn_E M tgt ls st h r h' else mn_E M (pc + 3) ls st h r h' := (mX_if hd ht).trans (mn_ite rfl)
theorem mX_icmp_eq {x y : Int32} {off : Int} {tgt : Nat} (hd : decode (mC M) pc = .ok (.if_icmp .eq off, 3)) (ht : (pc : Int) + off = (tgt : Int)) : mn_E M pc ls (.int y :: .int x :: st) h r h' ↔ if x = y then mn_E M tgt ls st h r h' else mn_E M (pc + 3) ls st h r h' := (mX_icmp hd ht).trans (mn_ite rfl)
theorem mX_icmp_ne {x y : Int32} {off : Int} {tgt : Nat} (hd : decode (mC M) pc = .ok (.if_icmp .ne off, 3)) (ht : (pc : Int) + off = (tgt : Int)) : mn_E M pc ls (.int y :: .int x :: st) h r h' ↔ if ¬ x = y then mn_E M tgt ls st h r h' else mn_E M (pc + 3) ls st h r h' := (mX_icmp hd ht).trans (mn_ite rfl)
theorem mX_icmp_lt {x y : Int32} {off : Int} {tgt : Nat} (hd : decode (mC M) pc = .ok (.if_icmp .lt off, 3)) (ht : (pc : Int) + off = (tgt : Int)) : mn_E M pc ls (.int y :: .int x :: st) h r h' ↔ if x < y then mn_E M tgt ls st h r h' else mn_E M (pc + 3) ls st h r h' := (mX_icmp hd ht).trans (mn_ite rfl)
theorem mX_icmp_ge {x y : Int32} {off : Int} {tgt : Nat} (hd : decode (mC M) pc = .ok (.if_icmp .ge off, 3)) (ht : (pc : Int) + off = (tgt : Int)) : mn_E M pc ls (.int y :: .int x :: st) h r h' ↔ if y ≤ x then mn_E M tgt ls st h r h' else mn_E M (pc + 3) ls st h r h' := (mX_icmp hd ht).trans (mn_ite rfl)
theorem mX_icmp_gt {x y : Int32} {off : Int} {tgt : Nat} (hd : decode (mC M) pc = .ok (.if_icmp .gt off, 3)) (ht : (pc : Int) + off = (tgt : Int)) : mn_E M pc ls (.int y :: .int x :: st) h r h' ↔ if y < x then mn_E M tgt ls st h r h' else mn_E M (pc + 3) ls st h r h' := (mX_icmp hd ht).trans (mn_ite rfl)
theorem mX_icmp_le {x y : Int32} {off : Int} {tgt : Nat} (hd : decode (mC M) pc = .ok (.if_icmp .le off, 3)) (ht : (pc : Int) + off = (tgt : Int)) : mn_E M pc ls (.int y :: .int x :: st) h r h' ↔ if x ≤ y then mn_E M tgt ls st h r h' else mn_E M (pc + 3) ls st h r h' := (mX_icmp hd ht).trans (mn_ite rfl)
theorem mX_tsw {d lo hi : Int} {offs : Array Int} {len tgt : Nat} {x : Int32} (hd : decode (mC M) pc = .ok (.tableswitch d lo hi offs, len)) (hz : (hi - lo + 1).toNat = offs.size) (ht : mn_tsw pc d lo hi offs x = (tgt : Int)) : mn_E M pc ls (.int x :: st) h r h' ↔ mn_E M tgt ls st h r h' := mn_E_go (by
  simp only [mn_stp, hd, mn_op, mn_go, ht]
  rw [if_pos ⟨hz, Int.natCast_nonneg tgt⟩, Int.toNat_natCast])
theorem mX_geti {a i o ci k : Nat} (hd : decode (mC M) pc = .ok (.getfield i, 3)) (ho : mO M = o) (hf : mn_fl o i = some (ci, k)) (hs : mn_sh a = (0, ci)) (hb : ci < 9 ∧ a < 74 ∧ k < mn_nf ci ∧ mn_isr ci k = false) : mn_E M pc ls (.ref a :: st) h r h' ↔ mn_E M (pc + 3) ls (.int (h a k) :: st) h r h' := mn_E_go (by
  subst ho
  obtain ⟨h1, h2, h3, h4⟩ := hb
  have h9 : ¬ ci = 9 := by omega
  simp only [mn_stp, hd, mn_op, mn_get, hf, hs, if_pos, mn_go, mn_slot, h4]
  rw [if_neg h9, if_pos ⟨h2, h3⟩, if_neg (by decide)])
theorem mX_getr {a b i o ci k : Nat} (hd : decode (mC M) pc = .ok (.getfield i, 3)) (ho : mO M = o) (hf : mn_fl o i = some (ci, k)) (hs : mn_sh a = (0, ci)) (hb : ci < 9 ∧ a < 74 ∧ k < mn_nf ci ∧ mn_isr ci k = true) (hr : mn_rf (h a) a k = b) : mn_E M pc ls (.ref a :: st) h r h' ↔ mn_E M (pc + 3) ls (.ref b :: st) h r h' := mn_E_go (by
  subst ho; subst hr
  obtain ⟨h1, h2, h3, h4⟩ := hb
  have h9 : ¬ ci = 9 := by omega
  simp only [mn_stp, hd, mn_op, mn_get, hf, hs, if_pos, mn_go, mn_slot, h4]
  rw [if_neg h9, if_pos ⟨h2, h3⟩])
theorem mX_getv {i o : Nat} (hd : decode (mC M) pc = .ok (.getfield i, 3)) (ho : mO M = o) (hf : mn_fl o i = some (9, 0)) : mn_E M pc ls (.ref 75 :: st) h r h' ↔ mn_E M (pc + 3) ls (.ref 76 :: st) h r h' := mn_E_go (by
  subst ho
  simp only [mn_stp, hd, mn_op, mn_get, hf, if_pos, mn_go]
  rfl)
theorem mX_getc {i o : Nat} (hd : decode (mC M) pc = .ok (.getfield i, 3)) (ho : mO M = o) (hf : mn_fl o i = some (9, 1)) : mn_E M pc ls (.ref 75 :: st) h r h' ↔ mn_E M (pc + 3) ls (.int 0 :: st) h r h' := mn_E_go (by
  subst ho
  simp only [mn_stp, hd, mn_op, mn_get, hf, if_pos, mn_go]
  rfl)
theorem mX_puti {a i o ci k : Nat} {x : Int32} (hd : decode (mC M) pc = .ok (.putfield i, 3)) (ho : mO M = o) (hf : mn_fl o i = some (ci, k)) (hs : mn_sh a = (0, ci)) (hb : ci < 9 ∧ a < 74 ∧ k < mn_nf ci ∧ mn_isr ci k = false ∧ mn_fin ci k = false) (hz : ¬ (ci = 1 ∧ k = 7) ∨ x = 0 ∨ x = 1) : mn_E M pc ls (.int x :: .ref a :: st) h r h' ↔ mn_E M (pc + 3) ls st (mn_up h a k x) r h' := mn_E_go (by
  subst ho
  obtain ⟨h1, h2, h3, h4, h5⟩ := hb
  simp only [mn_stp, hd, mn_op, mn_put, hf, hs, if_pos, mn_go]
  rw [if_pos ⟨trivial, h1, h2, h3⟩, if_pos ⟨h4, hz, h5⟩])
theorem mX_putr {b i o k : Nat} (hd : decode (mC M) pc = .ok (.putfield i, 3)) (ho : mO M = o) (hf : mn_fl o i = some (7, k)) (hk : 6 ≤ k ∧ k < 8) (hb : b = 23 ∨ b = 43) : mn_E M pc ls (.ref b :: .ref 0 :: st) h r h' ↔ mn_E M (pc + 3) ls st (mn_up h 0 k (nI b)) r h' := mn_E_go (by
  subst ho
  simp only [mn_stp, hd, mn_op, mn_put, hf, if_pos, mn_go]
  rw [if_pos ⟨rfl, by decide, by decide, hk.2⟩, if_pos ⟨trivial, hk.1, hb⟩])
theorem mn_in_of {i : Int32} {n : Nat} (h : vp_in i n) : mn_in i n = true := decide_eq_true h
theorem mX_iaload {a n : Nat} {i : Int32} (hd : decode (mC M) pc = .ok (.iaload, 1)) (hs : mn_sh a = (1, n)) (ha : a < 74) (hb : vp_in i n) : mn_E M pc ls (.int i :: .ref a :: st) h r h' ↔ mn_E M (pc + 1) ls (.int (h a i.toNatClampNeg) :: st) h r h' := mn_E_go (by
  simp only [mn_stp, hd, mn_op, mn_iald, hs, if_pos, mn_go]
  rw [if_pos ⟨ha, trivial, mn_in_of hb⟩])
theorem mX_baload {a n : Nat} {i : Int32} (hd : decode (mC M) pc = .ok (.baload, 1)) (hs : mn_sh a = (2, n)) (ha : a < 74) (hb : vp_in i n) : mn_E M pc ls (.int i :: .ref a :: st) h r h' ↔ mn_E M (pc + 1) ls (.int (h a i.toNatClampNeg) :: st) h r h' := mn_E_go (by
  simp only [mn_stp, hd, mn_op, mn_bald, hs, if_pos, mn_go]
  rw [if_pos ⟨ha, trivial, mn_in_of hb⟩])
theorem mX_baloadB {i : Int32} (hd : decode (mC M) pc = .ok (.baload, 1)) (hb : vp_in i 5) : mn_E M pc ls (.int i :: .ref 76 :: st) h r h' ↔ mn_E M (pc + 1) ls (.int (mn_byt i.toNatClampNeg) :: st) h r h' := mn_E_go (by
  simp only [mn_stp, hd, mn_op, mn_bald, if_pos, mn_go]
  rw [if_neg (fun q => absurd q.1 (by decide)), if_pos ⟨trivial, mn_in_of hb⟩])
theorem mX_laload {i : Int32} (hd : decode (mC M) pc = .ok (.laload, 1)) (hb : vp_in i 6) : mn_E M pc ls (.int i :: .ref 74 :: st) h r h' ↔ mn_E M (pc + 1) ls (.long (mn_dw i.toNatClampNeg) :: st) h r h' := mn_E_go (by
  simp only [mn_stp, hd, mn_op, mn_lald, if_pos, mn_go]
  rw [if_pos ⟨trivial, mn_in_of hb⟩])
theorem mX_aaload {i : Int32} (hd : decode (mC M) pc = .ok (.aaload, 1)) (hb : vp_in i 2) : mn_E M pc ls (.int i :: .ref 9 :: st) h r h' ↔ mn_E M (pc + 1) ls (.ref (5 + 2 * i.toNatClampNeg) :: st) h r h' := mn_E_go (by
  simp only [mn_stp, hd, mn_op, mn_aald, if_pos, mn_go]
  rw [if_pos ⟨trivial, mn_in_of hb⟩])
theorem mX_iastore {a n : Nat} {i x : Int32} (hd : decode (mC M) pc = .ok (.iastore, 1)) (hs : mn_sh a = (1, n)) (ha : a < 74) (hb : vp_in i n) : mn_E M pc ls (.int x :: .int i :: .ref a :: st) h r h' ↔ mn_E M (pc + 1) ls st (mn_up h a i.toNatClampNeg x) r h' := mn_E_go (by
  simp only [mn_stp, hd, mn_op, mn_iast, hs, if_pos, mn_go]
  rw [if_pos ⟨ha, trivial, mn_in_of hb⟩])
theorem mX_bastore {a n : Nat} {i x : Int32} (hd : decode (mC M) pc = .ok (.bastore, 1)) (hs : mn_sh a = (2, n)) (ha : a < 74) (hb : vp_in i n) (hz : x = 0 ∨ x = 1) : mn_E M pc ls (.int x :: .int i :: .ref a :: st) h r h' ↔ mn_E M (pc + 1) ls st (mn_up h a i.toNatClampNeg x) r h' := mn_E_go (by
  simp only [mn_stp, hd, mn_op, mn_bast, hs, if_pos, mn_go]
  rw [if_pos ⟨ha, trivial, mn_in_of hb, hz⟩])
theorem mX_alen {a n : Nat} {v : Int32} (hd : decode (mC M) pc = .ok (.arraylength, 1)) (hs : (mn_sh a).2 = n) (ha : (a < 74 ∧ (mn_sh a).1 = 1) ∨ a = 76) (hv : Int32.ofNat n = v) : mn_E M pc ls (.ref a :: st) h r h' ↔ mn_E M (pc + 1) ls (.int v :: st) h r h' := mn_E_go (by
  subst hv; subst hs
  simp only [mn_stp, hd, mn_op, mn_alen, if_pos, mn_go]
  rw [if_pos ha])
theorem mX_gstD {i o : Nat} (hd : decode (mC M) pc = .ok (.getstatic i, 3)) (ho : mO M = o) (hn : o = 7 ∧ i = 330) : mn_E M pc ls st h r h' ↔ mn_E M (pc + 3) ls (.ref 74 :: st) h r h' := mn_E_go (by subst ho; simp only [mn_stp, hd, mn_op, mn_go, if_pos, if_pos hn])
theorem mX_gstC {i o : Nat} (hd : decode (mC M) pc = .ok (.getstatic i, 3)) (ho : mO M = o) (hn : o = 9 ∧ i = 38) : mn_E M pc ls st h r h' ↔ mn_E M (pc + 3) ls (.int 1 :: st) h r h' := mn_E_go (by
  subst ho
  simp only [mn_stp, hd, mn_op, mn_go, if_pos]
  rw [if_neg (by omega), if_pos hn])
theorem mX_iret {x : Int32} (hd : decode (mC M) pc = .ok (.ireturn, 1)) (hr : mR M = some .int) : mn_E M pc ls [.int x] h r h' ↔ r = some (.int x) ∧ h' = h := mn_E_ret (by simp only [mn_stp, hd, mn_op, if_pos, hr, true_or])
theorem mX_zret {x : Int32} (hd : decode (mC M) pc = .ok (.ireturn, 1)) (hr : mR M = some .boolean) (hx : x = 0 ∨ x = 1) : mn_E M pc ls [.int x] h r h' ↔ r = some (.int x) ∧ h' = h := mn_E_ret (by
  simp only [mn_stp, hd, mn_op, if_pos]
  rw [if_pos (Or.inr (Or.inl ⟨hr, hx⟩))])
theorem mX_bret {x : Int32} (hd : decode (mC M) pc = .ok (.ireturn, 1)) (hr : mR M = some .byte) (hx : x = 0) : mn_E M pc ls [.int x] h r h' ↔ r = some (.int x) ∧ h' = h := mn_E_ret (by
  simp only [mn_stp, hd, mn_op, if_pos]
  rw [if_pos (Or.inr (Or.inr ⟨hr, hx⟩))])
theorem mX_lret {x : Int64} (hd : decode (mC M) pc = .ok (.lreturn, 1)) (hr : mR M = some .long) : mn_E M pc ls [.long x] h r h' ↔ r = some (.long x) ∧ h' = h := mn_E_ret (by simp only [mn_stp, hd, mn_op, if_pos, hr])
theorem mX_vret (hd : decode (mC M) pc = .ok (.return_, 1)) (hr : mR M = none) : mn_E M pc ls [] h r h' ↔ r = none ∧ h' = h := mn_E_ret (by simp only [mn_stp, hd, mn_op, if_pos, hr])
theorem mX_stat {i o C : Nat} {vs st' : List Value} (hd : decode (mC M) pc = .ok (.invokestatic i, 3)) (ho : mO M = o) (hm : mn_ml o i = some C ∨ (mn_ml o i = none ∧ mn_nl o i = some C)) (hp : mP C ≤ st.length) (h1 : (st.take (mP C)).reverse = vs) (h2 : st.drop (mP C) = st') (hc : mn_cok M C vs st' = true) (hst : mSt C = true) : mn_E M pc ls st h r h' ↔ ∃ v h1, mn_X C vs h v h1 ∧ mn_E M (pc + 3) ls (v.toList ++ st') h1 r h' := mn_E_call (by
  subst ho
  have e : mn_csta M pc C st = some (.inr (.inr (C, vs, pc + 3, st'))) := by
    subst h1; subst h2
    unfold mn_csta
    rw [if_pos ⟨hc, hp, hst⟩]
  rcases hm with hm | ⟨hm, hn⟩
  · simp only [mn_stp, hd, mn_op, if_pos, mn_stat, hm]
    exact e
  · simp only [mn_stp, hd, mn_op, if_pos, mn_stat, hm, hn]
    exact e)
theorem mX_max {i o : Nat} {x y : Int32} (hd : decode (mC M) pc = .ok (.invokestatic i, 3)) (ho : mO M = o) (hm : mn_ml o i = none ∧ mn_nl o i = none ∧ mn_ma o i = some 0) (hc : 1 ≤ mF M ∧ mn_cat st + 13 ≤ mW M) : mn_E M pc ls (.int y :: .int x :: st) h r h' ↔ mn_E M (pc + 3) ls (.int (if x < y then y else x) :: st) h r h' := mn_E_go (by
  subst ho
  simp only [mn_stp, hd, mn_op, if_pos, mn_stat, hm.1, hm.2.1, hm.2.2, mn_math, mn_go, if_pos hc])
theorem mX_min {i o : Nat} {x y : Int32} (hd : decode (mC M) pc = .ok (.invokestatic i, 3)) (ho : mO M = o) (hm : mn_ml o i = none ∧ mn_nl o i = none ∧ mn_ma o i = some 1) (hc : 1 ≤ mF M ∧ mn_cat st + 13 ≤ mW M) : mn_E M pc ls (.int y :: .int x :: st) h r h' ↔ mn_E M (pc + 3) ls (.int (if y < x then y else x) :: st) h r h' := mn_E_go (by
  subst ho
  simp only [mn_stp, hd, mn_op, if_pos, mn_stat, hm.1, hm.2.1, hm.2.2, mn_math, mn_go, if_pos hc])
theorem mX_abs {i o : Nat} {x : Int32} (hd : decode (mC M) pc = .ok (.invokestatic i, 3)) (ho : mO M = o) (hm : mn_ml o i = none ∧ mn_nl o i = none ∧ mn_ma o i = some 2) (hc : 1 ≤ mF M ∧ mn_cat st + 13 ≤ mW M) : mn_E M pc ls (.int x :: st) h r h' ↔ mn_E M (pc + 3) ls (.int (if 0 ≤ x then x else 0 - x) :: st) h r h' := mn_E_go (by
  subst ho
  simp only [mn_stp, hd, mn_op, if_pos, mn_stat, hm.1, hm.2.1, hm.2.2, mn_math, mn_go, if_pos hc])
theorem mX_virt {i o C a : Nat} {vs st' : List Value} (hd : decode (mC M) pc = .ok (.invokevirtual i, 3)) (ho : mO M = o) (hm : mn_ml o i = some C) (hp : mP C ≤ st.length) (h1 : (st.take (mP C)).reverse = vs) (h2 : st.drop (mP C) = .ref a :: st') (hs : mn_sh a = (0, mO C)) (hc : mn_cok M C (.ref a :: vs) st' = true) (hst : mSt C = false) : mn_E M pc ls st h r h' ↔ ∃ v h1, mn_X C (.ref a :: vs) h v h1 ∧ mn_E M (pc + 3) ls (v.toList ++ st') h1 r h' := mn_E_call (by
  subst ho; subst h1
  simp only [mn_stp, hd, mn_op, if_pos, mn_virt, hm, h2]
  rw [if_pos ⟨hc, hs, hp, hst⟩])
theorem mX_acopy {i o a b na nb : Nat} {n dp sp : Int32} (hd : decode (mC M) pc = .ok (.invokestatic i, 3)) (ho : mO M = o) (hi : o = 1 ∧ i = 31) (hs : mn_sh a = (1, na) ∧ mn_sh b = (1, nb) ∧ a < 74 ∧ b < 74) (hb : ¬ sp < 0 ∧ ¬ dp < 0 ∧ ¬ n < 0 ∧ sp.toNatClampNeg + n.toNatClampNeg ≤ na ∧ dp.toNatClampNeg + n.toNatClampNeg ≤ nb) (hc : 1 ≤ mF M ∧ mn_cat st + 80 ≤ mW M) : mn_E M pc ls (.int n :: .int dp :: .ref b :: .int sp :: .ref a :: st) h r h' ↔ mn_E M (pc + 3) ls st (mn_set h b (va_cpy (h a) (h b) sp.toNatClampNeg dp.toNatClampNeg n.toNatClampNeg)) r h' := mn_E_go (by
  subst ho
  obtain ⟨s1, s2, s3, s4⟩ := hs
  obtain ⟨b1, b2, b3, b4, b5⟩ := hb
  have e1 : mn_ml (mO M) i = none := by rw [hi.1, hi.2]; decide
  have e2 : mn_nl (mO M) i = none := by rw [hi.1, hi.2]; decide
  have e3 : mn_ma (mO M) i = none := by rw [hi.1, hi.2]; decide
  simp only [mn_stp, hd, mn_op, if_pos, mn_stat, e1, e2, e3, mn_go, mn_acpy, s1, s2]
  rw [if_pos hi, if_pos ⟨s3, s4, trivial, trivial, b1, b2, b3, b4, b5, hc⟩])
end MNR

