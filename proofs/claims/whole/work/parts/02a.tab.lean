/-! ===== tables of an interpreter of this claim's bytecode: by program (wip/tools/gen_tab2.py) out of tables_1; a number p is the place of a word in lw_tbl ===== -/
abbrev xMe : Type := MethodName × ByteArray × Nat × Option FieldType × Nat × Nat × Nat × Nat
def xcnL : List String := ["CarvedRinks$GlideText", "CarvedRinks$Lines", "CarvedRinks$Pond", "CarvedRinks$RinkJoiner", "CarvedRinks$SavedPonds", "CarvedRinks$Skater", "CarvedRinks", "CarvedRinksModel", "CarvedRinksLaw", "java/lang/Long", "java/lang/Math", "java/lang/Double", "java/lang/Float"]
def xcn (o : Nat) : String := xcnL.getD o ""
/-- the words that the interpreter stands on -/
def xWS : List Cond := lw_tbl.filter goodWord
def xM0 : List xMe := [(⟨"CarvedRinks", "<init>", "()V"⟩, cX6_init, 1, none, 6, 4, 83, 0),
  (⟨"CarvedRinks$Pond", "<init>", "()V"⟩, cX2_init, 1, none, 2, 2, 42, 0),
  (⟨"CarvedRinks$Skater", "<init>", "(II)V"⟩, cX5_init, 3, none, 5, 1, 20, 0),
  (⟨"CarvedRinks$SavedPonds", "<init>", "()V"⟩, cX4_init, 2, none, 4, 3, 62, 0),
  (⟨"CarvedRinks$GlideText", "<init>", "()V"⟩, cX0_init, 1, none, 0, 1, 20, 0),
  (⟨"CarvedRinks$RinkJoiner", "<init>", "()V"⟩, cX3_init, 1, none, 3, 1, 20, 0),
  (⟨"CarvedRinks", "thaw", "()I"⟩, cX6_thaw, 1, some .int, 6, 3, 91, 0),
  (⟨"CarvedRinks$SavedPonds", "push", "(LCarvedRinks$Pond;)V"⟩, cX4_push, 2, none, 4, 2, 70, 0),
  (⟨"CarvedRinks$Pond", "copyFrom", "(LCarvedRinks$Pond;)V"⟩, cX2_copyFrom, 3, none, 2, 1, 48, 0),
  (⟨"CarvedRinks$Skater", "copyFrom", "(LCarvedRinks$Skater;)V"⟩, cX5_copyFrom, 2, none, 5, 0, 0, 0),
  (⟨"CarvedRinks$Pond", "thawOnce", "()I"⟩, cX2_thawOnce, 3, some .int, 2, 2, 61, 0),
  (⟨"CarvedRinks", "thawingCells", "(JI)J"⟩, cX6_thawingCells, 21, some .long, 6, 1, 21, 0),
  (⟨"CarvedRinks", "southOf", "(J)J"⟩, cX6_southOf, 2, some .long, 6, 0, 0, 0),
  (⟨"CarvedRinks", "northOf", "(J)J"⟩, cX6_northOf, 2, some .long, 6, 0, 0, 0),
  (⟨"CarvedRinks", "eastOf", "(J)J"⟩, cX6_eastOf, 2, some .long, 6, 0, 0, 0),
  (⟨"CarvedRinks", "westOf", "(J)J"⟩, cX6_westOf, 2, some .long, 6, 0, 0, 0),
  (⟨"CarvedRinks$Pond", "makeWater", "(J)V"⟩, cX2_makeWater, 4, none, 2, 1, 21, 0),
  (⟨"java/lang/Long", "bitCount", "(J)I"⟩, cJ13_bitCount_95d88, 2, some .int, 9, 0, 0, 0),
  (⟨"CarvedRinks", "clearBuffer", "()I"⟩, cX6_clearBuffer, 2, some .int, 6, 0, 0, 0),
  (⟨"CarvedRinks", "firstError", "()I"⟩, cX6_firstError, 1, some .int, 6, 3, 63, 0),
  (⟨"CarvedRinks$GlideText", "errorIndex", "()I"⟩, cX0_errorIndex, 3, some .int, 0, 2, 41, 0),
  (⟨"CarvedRinks$GlideText", "placeBehind", "(II)I"⟩, cX0_placeBehind, 2, some .int, 0, 1, 20, 0),
  (⟨"CarvedRinks$GlideText", "directionOf", "(I)I"⟩, cX0_directionOf, 1, some .int, 0, 0, 0, 0),
  (⟨"CarvedRinks", "keep", "()I"⟩, cX6_keep, 1, some .int, 6, 2, 70, 0),
  (⟨"CarvedRinks$Pond", "iceCells", "()I"⟩, cX2_iceCells, 1, some .int, 2, 1, 21, 0),
  (⟨"CarvedRinks", "calm", "()I"⟩, cX6_calm, 1, some .int, 6, 3, 86, 0),
  (⟨"CarvedRinks$Pond", "thawsUntilCalm", "()I"⟩, cX2_thawsUntilCalm, 6, some .int, 2, 2, 61, 0),
  (⟨"CarvedRinks", "ownedShare", "()D"⟩, cX6_ownedShare, 2, some .double, 6, 2, 43, 0),
  (⟨"CarvedRinks$Pond", "ownedCells", "()I"⟩, cX2_ownedCells, 1, some .int, 2, 1, 23, 0),
  (⟨"CarvedRinks$Pond", "ownedByAny", "()J"⟩, cX2_ownedByAny, 4, some .long, 2, 0, 0, 0)]
def xM1 : List xMe := [(⟨"CarvedRinks", "meanRink", "()F"⟩, cX6_meanRink, 2, some .float, 6, 4, 98, 0),
  (⟨"CarvedRinks$Pond", "rinksByGoing", "()I"⟩, cX2_rinksByGoing, 1, some .int, 2, 3, 78, 0),
  (⟨"CarvedRinks$Pond", "rinksWithin", "(J)I"⟩, cX2_rinksWithin, 7, some .int, 2, 2, 52, 0),
  (⟨"CarvedRinks", "lowestBit", "(J)J"⟩, cX6_lowestBit, 2, some .long, 6, 0, 0, 0),
  (⟨"CarvedRinks$Pond", "rinkOf", "(J)J"⟩, cX2_rinkOf, 12, some .long, 2, 1, 21, 0),
  (⟨"CarvedRinks", "digest", "()J"⟩, cX6_digest, 4, some .long, 6, 6, 163, 0),
  (⟨"CarvedRinks", "stateNumber", "(I)I"⟩, cX6_stateNumber, 2, some .int, 6, 4, 98, 0),
  (⟨"CarvedRinks$RinkJoiner", "rinksByJoining", "(LCarvedRinks$Pond;)I"⟩, cX3_rinksByJoining, 6, some .int, 3, 3, 72, 0),
  (⟨"CarvedRinks$Lines", "cellsAt", "(I)J"⟩, cX1_cellsAt, 1, some .long, 1, 2, 43, 0),
  (⟨"CarvedRinks$Lines", "lowerCell", "(I)J"⟩, cX1_lowerCell, 2, some .long, 1, 1, 22, 0),
  (⟨"CarvedRinks$Lines", "leadsEast", "(I)Z"⟩, cX1_leadsEast, 1, some .boolean, 1, 0, 0, 0),
  (⟨"CarvedRinks", "cellBit", "(II)J"⟩, cX6_cellBit, 3, some .long, 6, 0, 0, 0),
  (⟨"CarvedRinks$Lines", "higherCell", "(I)J"⟩, cX1_higherCell, 2, some .long, 1, 1, 22, 0),
  (⟨"CarvedRinks$Pond", "isCut", "(I)Z"⟩, cX2_isCut, 4, some .boolean, 2, 2, 43, 0),
  (⟨"CarvedRinks$RinkJoiner", "join", "(J)Z"⟩, cX3_join, 5, some .boolean, 3, 2, 48, 0),
  (⟨"CarvedRinks", "lowestOf", "(J)I"⟩, cX6_lowestOf, 2, some .int, 6, 1, 21, 0),
  (⟨"CarvedRinks$RinkJoiner", "lowestJoined", "(I)I"⟩, cX3_lowestJoined, 4, some .int, 3, 0, 0, 0),
  (⟨"java/lang/Math", "max", "(II)I"⟩, cJ9_max_7cf53, 2, some .int, 10, 0, 0, 9),
  (⟨"java/lang/Math", "min", "(II)I"⟩, cJ9_min_7cf53, 2, some .int, 10, 0, 0, 9),
  (⟨"CarvedRinks$Pond", "rinksOwned", "()I"⟩, cX2_rinksOwned, 1, some .int, 2, 3, 78, 0),
  (⟨"CarvedRinks$Pond", "allPurses", "()I"⟩, cX2_allPurses, 3, some .int, 2, 0, 0, 0),
  (⟨"CarvedRinks$Pond", "greatestRink", "()I"⟩, cX2_greatestRink, 7, some .int, 2, 2, 52, 0),
  (⟨"CarvedRinks", "hashCells", "(J)J"⟩, cX6_hashCells, 7, some .long, 6, 4, 111, 0),
  (⟨"CarvedRinks", "cellNumber", "(JI)I"⟩, cX6_cellNumber, 4, some .int, 6, 3, 88, 0),
  (⟨"CarvedRinks$Pond", "isIce", "(J)Z"⟩, cX2_isIce, 3, some .boolean, 2, 0, 0, 0),
  (⟨"CarvedRinks$Pond", "ownerOf", "(J)I"⟩, cX2_ownerOf, 4, some .int, 2, 0, 0, 0),
  (⟨"CarvedRinks", "cellsBeside", "(J)J"⟩, cX6_cellsBeside, 2, some .long, 6, 1, 21, 0),
  (⟨"CarvedRinks$Pond", "thawsUntilWater", "(J)I"⟩, cX2_thawsUntilWater, 8, some .int, 2, 2, 61, 0),
  (⟨"CarvedRinks", "hashLines", "(J)J"⟩, cX6_hashLines, 9, some .long, 6, 4, 88, 0),
  (⟨"CarvedRinks$Lines", "leading", "(III)I"⟩, cX1_leading, 3, some .int, 1, 1, 22, 0)]
def xM2 : List xMe := [(⟨"CarvedRinks$Lines", "leadingSouth", "(II)I"⟩, cX1_leadingSouth, 3, some .int, 1, 0, 0, 0),
  (⟨"CarvedRinks$Lines", "leadingEast", "(II)I"⟩, cX1_leadingEast, 3, some .int, 1, 0, 0, 0),
  (⟨"CarvedRinks", "lineNumber", "(II)I"⟩, cX6_lineNumber, 3, some .int, 6, 3, 66, 0),
  (⟨"CarvedRinks", "hashSkaters", "(J)J"⟩, cX6_hashSkaters, 7, some .long, 6, 5, 137, 0),
  (⟨"CarvedRinks", "skaterNumber", "(II)I"⟩, cX6_skaterNumber, 4, some .int, 6, 4, 99, 0),
  (⟨"CarvedRinks$Skater", "ownedCells", "()I"⟩, cX5_ownedCells, 1, some .int, 5, 1, 21, 0),
  (⟨"CarvedRinks$Pond", "cellsOfRinks", "(I)I"⟩, cX2_cellsOfRinks, 10, some .int, 2, 2, 52, 0),
  (⟨"CarvedRinks$Pond", "rinksOwnedBy", "(I)I"⟩, cX2_rinksOwnedBy, 2, some .int, 2, 3, 78, 0),
  (⟨"CarvedRinks$Pond", "reasonAgainst", "(II)I"⟩, cX2_reasonAgainst, 8, some .int, 2, 3, 63, 0),
  (⟨"CarvedRinks$Skater", "nextX", "(I)I"⟩, cX5_nextX, 2, some .int, 5, 0, 0, 0),
  (⟨"CarvedRinks$Skater", "nextY", "(I)I"⟩, cX5_nextY, 2, some .int, 5, 0, 0, 0),
  (⟨"CarvedRinks$Pond", "isTaken", "(II)Z"⟩, cX2_isTaken, 4, some .boolean, 2, 0, 0, 0),
  (⟨"CarvedRinks$Pond", "tollTaker", "(IJ)I"⟩, cX2_tollTaker, 5, some .int, 2, 1, 21, 0),
  (⟨"CarvedRinks", "bestGlide", "(I)I"⟩, cX6_bestGlide, 8, some .int, 6, 4, 110, 0),
  (⟨"CarvedRinks$Pond", "makeStep", "(II)V"⟩, cX2_makeStep, 7, none, 2, 3, 84, 0),
  (⟨"CarvedRinks$Pond", "payToll", "(LCarvedRinks$Skater;I)V"⟩, cX2_payToll, 4, none, 2, 0, 0, 0),
  (⟨"CarvedRinks$Skater", "move", "(I)V"⟩, cX5_move, 2, none, 5, 1, 21, 0),
  (⟨"CarvedRinks$Pond", "cutLine", "(I)V"⟩, cX2_cutLine, 2, none, 2, 2, 43, 0),
  (⟨"CarvedRinks$Pond", "partRink", "(LCarvedRinks$Skater;I)V"⟩, cX2_partRink, 13, none, 2, 2, 52, 0),
  (⟨"CarvedRinks", "hashRinks", "(J)J"⟩, cX6_hashRinks, 11, some .long, 6, 3, 66, 0),
  (⟨"CarvedRinks", "rinkNumber", "(JI)I"⟩, cX6_rinkNumber, 5, some .int, 6, 2, 42, 0),
  (⟨"CarvedRinks", "floatingBits", "(DII)J"⟩, cX6_floatingBits, 10, some .long, 6, 0, 0, 0),
  (⟨"CarvedRinks", "hashText", "(J)J"⟩, cX6_hashText, 6, some .long, 6, 0, 0, 0),
  (⟨"CarvedRinksLaw", "glide", "(LCarvedRinks;III[J)I"⟩, cL_glide, 6, some .int, 8, 7, 157, 2),
  (⟨"CarvedRinks", "glide", "(III)I"⟩, cX6_glide, 4, some .int, 6, 6, 134, 1),
  (⟨"CarvedRinks", "isSkater", "(I)Z"⟩, cX6_isSkater, 1, some .boolean, 6, 0, 0, 0),
  (⟨"CarvedRinks", "isDirection", "(I)Z"⟩, cX6_isDirection, 1, some .boolean, 6, 0, 0, 0),
  (⟨"CarvedRinks", "isSteps", "(I)Z"⟩, cX6_isSteps, 1, some .boolean, 6, 0, 0, 0),
  (⟨"CarvedRinks$Pond", "makeSteps", "(III)I"⟩, cX2_makeSteps, 5, some .int, 2, 4, 110, 0),
  (⟨"CarvedRinksLaw", "hole", "(LCarvedRinks;II[J)I"⟩, cL_hole, 5, some .int, 8, 7, 135, 2)]
def xM3 : List xMe := [(⟨"CarvedRinks", "hole", "(II)I"⟩, cX6_hole, 6, some .int, 6, 6, 110, 1),
  (⟨"CarvedRinksLaw", "pay", "(LCarvedRinks;II[J)I"⟩, cL_pay, 5, some .int, 8, 7, 133, 2),
  (⟨"CarvedRinks", "pay", "(II)I"⟩, cX6_pay, 4, some .int, 6, 6, 110, 1),
  (⟨"CarvedRinksLaw", "set", "(LCarvedRinks;II[J)I"⟩, cL_set, 5, some .int, 8, 7, 133, 2),
  (⟨"CarvedRinks", "set", "(II)I"⟩, cX6_set, 4, some .int, 6, 6, 110, 1),
  (⟨"CarvedRinks", "isSetting", "(I)Z"⟩, cX6_isSetting, 1, some .boolean, 6, 0, 0, 0),
  (⟨"CarvedRinks", "leastValue", "(I)I"⟩, cX6_leastValue, 1, some .int, 6, 0, 0, 0),
  (⟨"CarvedRinks", "mostValue", "(I)I"⟩, cX6_mostValue, 1, some .int, 6, 0, 0, 0),
  (⟨"CarvedRinksLaw", "append", "(LCarvedRinks;I[J)I"⟩, cL_append, 4, some .int, 8, 7, 131, 2),
  (⟨"CarvedRinks", "append", "(I)I"⟩, cX6_append, 2, some .int, 6, 6, 110, 1),
  (⟨"CarvedRinks$GlideText", "isFull", "()Z"⟩, cX0_isFull, 1, some .boolean, 0, 0, 0, 0),
  (⟨"CarvedRinks$GlideText", "add", "(I)V"⟩, cX0_add, 2, none, 0, 0, 0, 0),
  (⟨"CarvedRinksLaw", "play", "(LCarvedRinks;[J)I"⟩, cL_play, 3, some .int, 8, 7, 183, 2),
  (⟨"CarvedRinks", "play", "()I"⟩, cX6_play, 2, some .int, 6, 6, 162, 1),
  (⟨"CarvedRinks$GlideText", "isComplete", "()Z"⟩, cX0_isComplete, 3, some .boolean, 0, 2, 41, 0),
  (⟨"CarvedRinks$GlideText", "playOn", "(LCarvedRinks$Pond;)I"⟩, cX0_playOn, 9, some .int, 0, 5, 134, 0),
  (⟨"CarvedRinksLaw", "goBack", "(LCarvedRinks;[J)I"⟩, cL_goBack, 3, some .int, 8, 7, 130, 2),
  (⟨"CarvedRinks", "goBack", "()I"⟩, cX6_goBack, 1, some .int, 6, 6, 110, 1),
  (⟨"CarvedRinksLaw", "undo", "(LCarvedRinks;[J)I"⟩, cL_undo, 3, some .int, 8, 7, 130, 2),
  (⟨"CarvedRinks", "undo", "()I"⟩, cX6_undo, 1, some .int, 6, 6, 110, 1),
  (⟨"CarvedRinks$SavedPonds", "popInto", "(LCarvedRinks$Pond;)V"⟩, cX4_popInto, 2, none, 4, 2, 70, 0),
  (⟨"CarvedRinksLaw", "cell", "(LCarvedRinks;III[J)I"⟩, cL_cell, 6, some .int, 8, 7, 136, 2),
  (⟨"CarvedRinks", "cell", "(III)I"⟩, cX6_cell, 6, some .int, 6, 6, 111, 1),
  (⟨"CarvedRinksLaw", "line", "(LCarvedRinks;IIII[J)I"⟩, cL_line, 7, some .int, 8, 7, 136, 2),
  (⟨"CarvedRinks", "line", "(IIII)I"⟩, cX6_line, 7, some .int, 6, 6, 110, 1),
  (⟨"CarvedRinks", "isPoint", "(II)Z"⟩, cX6_isPoint, 2, some .boolean, 6, 0, 0, 0),
  (⟨"CarvedRinksLaw", "skater", "(LCarvedRinks;II[J)I"⟩, cL_skater, 5, some .int, 8, 7, 144, 2),
  (⟨"CarvedRinks", "skater", "(II)I"⟩, cX6_skater, 3, some .int, 6, 6, 122, 1),
  (⟨"CarvedRinksLaw", "rink", "(LCarvedRinks;II[J)I"⟩, cL_rink, 5, some .int, 8, 7, 134, 2),
  (⟨"CarvedRinks", "rink", "(II)I"⟩, cX6_rink, 5, some .int, 6, 6, 110, 1)]
def xM4 : List xMe := [(⟨"CarvedRinks$Pond", "rinkWithRank", "(I)J"⟩, cX2_rinkWithRank, 7, some .long, 2, 2, 52, 0),
  (⟨"CarvedRinksLaw", "count", "(LCarvedRinks;I[J)I"⟩, cL_count, 4, some .int, 8, 7, 140, 2),
  (⟨"CarvedRinks", "count", "(I)I"⟩, cX6_count, 2, some .int, 6, 6, 119, 1),
  (⟨"CarvedRinksLaw", "setting", "(LCarvedRinks;I[J)I"⟩, cL_setting, 4, some .int, 8, 7, 131, 2),
  (⟨"CarvedRinks", "setting", "(I)I"⟩, cX6_setting, 2, some .int, 6, 6, 110, 1),
  (⟨"CarvedRinksLaw", "why", "(LCarvedRinks;II[J)I"⟩, cL_why, 5, some .int, 8, 7, 132, 2),
  (⟨"CarvedRinks", "why", "(II)I"⟩, cX6_why, 3, some .int, 6, 6, 110, 1),
  (⟨"CarvedRinksLaw", "ifGlided", "(LCarvedRinks;IIII[J)I"⟩, cL_ifGlided, 7, some .int, 8, 7, 159, 2),
  (⟨"CarvedRinks", "ifGlided", "(IIII)I"⟩, cX6_ifGlided, 6, some .int, 6, 6, 134, 1),
  (⟨"CarvedRinksLaw", "best", "(LCarvedRinks;I[J)I"⟩, cL_best, 4, some .int, 8, 7, 158, 2),
  (⟨"CarvedRinks", "best", "(I)I"⟩, cX6_best, 2, some .int, 6, 6, 137, 1),
  (⟨"CarvedRinksModel", "<init>", "()V"⟩, cX7_init, 2, none, 7, 1, 21, 0),
  (⟨"CarvedRinksModel", "of", "(II)I"⟩, cX7_of, 2, some .int, 7, 0, 0, 0),
  (⟨"CarvedRinksModel", "thrown", "()I"⟩, cX7_thrown, 1, some .int, 7, 0, 0, 0),
  (⟨"CarvedRinksModel", "glide", "(III)I"⟩, cX7_glide, 4, some .int, 7, 10, 228, 0),
  (⟨"CarvedRinksModel", "isSkater", "(I)Z"⟩, cX7_isSkater, 1, some .boolean, 7, 1, 22, 0),
  (⟨"CarvedRinksModel", "in", "(III)Z"⟩, cX7_in, 3, some .boolean, 7, 0, 0, 0),
  (⟨"CarvedRinksModel", "refused", "(I)Z"⟩, cX7_refused, 2, some .boolean, 7, 0, 0, 0),
  (⟨"CarvedRinksModel", "saves", "()V"⟩, cX7_saves, 2, none, 7, 0, 0, 0),
  (⟨"CarvedRinksModel", "glides", "(III)I"⟩, cX7_glides, 5, some .int, 7, 9, 204, 0),
  (⟨"CarvedRinksModel", "bar", "(II)I"⟩, cX7_bar, 9, some .int, 7, 6, 129, 0),
  (⟨"CarvedRinksModel", "lineFrom", "(III)I"⟩, cX7_lineFrom, 3, some .int, 7, 0, 0, 0),
  (⟨"CarvedRinksModel", "iceBeside", "(I)I"⟩, cX7_iceBeside, 2, some .int, 7, 4, 85, 0),
  (⟨"CarvedRinksModel", "beside", "(IZ)I"⟩, cX7_beside, 2, some .int, 7, 3, 64, 0),
  (⟨"CarvedRinksModel", "cellAt", "(II)I"⟩, cX7_cellAt, 2, some .int, 7, 2, 43, 0),
  (⟨"CarvedRinksModel", "isCell", "(II)Z"⟩, cX7_isCell, 2, some .boolean, 7, 1, 22, 0),
  (⟨"CarvedRinksModel", "isIce", "(I)Z"⟩, cX7_isIce, 2, some .boolean, 7, 0, 0, 0),
  (⟨"CarvedRinksModel", "toll", "(II)I"⟩, cX7_toll, 4, some .int, 7, 5, 106, 0),
  (⟨"CarvedRinksModel", "steps", "(II)V"⟩, cX7_steps, 6, none, 7, 8, 179, 0),
  (⟨"CarvedRinksModel", "melts", "(I)V"⟩, cX7_melts, 2, none, 7, 1, 21, 0)]
def xM5 : List xMe := [(⟨"CarvedRinksModel", "isOpen", "(I)Z"⟩, cX7_isOpen, 2, some .boolean, 7, 5, 106, 0),
  (⟨"CarvedRinksModel", "parts", "(II)V"⟩, cX7_parts, 9, none, 7, 7, 151, 0),
  (⟨"CarvedRinksModel", "labels", "()V"⟩, cX7_labels, 5, none, 7, 6, 127, 0),
  (⟨"CarvedRinksModel", "sizeOf", "(I)I"⟩, cX7_sizeOf, 4, some .int, 7, 0, 0, 0),
  (⟨"CarvedRinksModel", "thaw", "()I"⟩, cX7_thaw, 1, some .int, 7, 5, 112, 0),
  (⟨"CarvedRinksModel", "thaws", "()I"⟩, cX7_thaws, 3, some .int, 7, 4, 90, 0),
  (⟨"CarvedRinksModel", "waterBeside", "(I)I"⟩, cX7_waterBeside, 7, some .int, 7, 3, 64, 0),
  (⟨"CarvedRinksModel", "hole", "(II)I"⟩, cX7_hole, 4, some .int, 7, 3, 64, 0),
  (⟨"CarvedRinksModel", "pay", "(II)I"⟩, cX7_pay, 3, some .int, 7, 2, 42, 0),
  (⟨"CarvedRinksModel", "set", "(II)I"⟩, cX7_set, 4, some .int, 7, 2, 42, 0),
  (⟨"CarvedRinksModel", "isSetting", "(I)Z"⟩, cX7_isSetting, 1, some .boolean, 7, 1, 22, 0),
  (⟨"CarvedRinksModel", "append", "(I)I"⟩, cX7_append, 2, some .int, 7, 1, 22, 0),
  (⟨"CarvedRinksModel", "clearBuffer", "()I"⟩, cX7_clearBuffer, 2, some .int, 7, 0, 0, 0),
  (⟨"CarvedRinksModel", "firstError", "()I"⟩, cX7_firstError, 1, some .int, 7, 3, 65, 0),
  (⟨"CarvedRinksModel", "error", "()I"⟩, cX7_error, 3, some .int, 7, 2, 43, 0),
  (⟨"CarvedRinksModel", "isRight", "(II)Z"⟩, cX7_isRight, 2, some .boolean, 7, 1, 22, 0),
  (⟨"CarvedRinksModel", "directionOf", "(I)I"⟩, cX7_directionOf, 1, some .int, 7, 0, 0, 0),
  (⟨"CarvedRinksModel", "play", "()I"⟩, cX7_play, 6, some .int, 7, 10, 228, 0),
  (⟨"CarvedRinksModel", "isWhole", "()Z"⟩, cX7_isWhole, 1, some .boolean, 7, 3, 65, 0),
  (⟨"CarvedRinksModel", "keep", "()I"⟩, cX7_keep, 2, some .int, 7, 1, 22, 0),
  (⟨"CarvedRinksModel", "ice", "()I"⟩, cX7_ice, 3, some .int, 7, 0, 0, 0),
  (⟨"CarvedRinksModel", "goBack", "()I"⟩, cX7_goBack, 2, some .int, 7, 1, 22, 0),
  (⟨"CarvedRinksModel", "undo", "()I"⟩, cX7_undo, 2, some .int, 7, 1, 21, 0),
  (⟨"CarvedRinksModel", "cell", "(III)I"⟩, cX7_cell, 4, some .int, 7, 7, 158, 0),
  (⟨"CarvedRinksModel", "ofCell", "(II)I"⟩, cX7_ofCell, 3, some .int, 7, 6, 136, 0),
  (⟨"CarvedRinksModel", "thawsOf", "(I)I"⟩, cX7_thawsOf, 5, some .int, 7, 5, 112, 0),
  (⟨"CarvedRinksModel", "putAside", "()V"⟩, cX7_putAside, 2, none, 7, 0, 0, 0),
  (⟨"CarvedRinksModel", "putBack", "()V"⟩, cX7_putBack, 2, none, 7, 0, 0, 0),
  (⟨"CarvedRinksModel", "line", "(IIII)I"⟩, cX7_line, 7, some .int, 7, 6, 128, 0),
  (⟨"CarvedRinksModel", "ofLine", "(II)I"⟩, cX7_ofLine, 3, some .int, 7, 5, 106, 0)]
def xM6 : List xMe := [(⟨"CarvedRinksModel", "skater", "(II)I"⟩, cX7_skater, 3, some .int, 7, 7, 151, 0),
  (⟨"CarvedRinksModel", "ofSkater", "(II)I"⟩, cX7_ofSkater, 3, some .int, 7, 2, 47, 0),
  (⟨"CarvedRinksModel", "ownedBy", "(I)I"⟩, cX7_ownedBy, 4, some .int, 7, 0, 0, 0),
  (⟨"CarvedRinksModel", "rinksOf", "(IZ)I"⟩, cX7_rinksOf, 5, some .int, 7, 1, 23, 0),
  (⟨"CarvedRinksModel", "rink", "(II)I"⟩, cX7_rink, 4, some .int, 7, 7, 151, 0),
  (⟨"CarvedRinksModel", "lowestOf", "(I)I"⟩, cX7_lowestOf, 4, some .int, 7, 0, 0, 0),
  (⟨"CarvedRinksModel", "ofRink", "(II)I"⟩, cX7_ofRink, 3, some .int, 7, 1, 23, 0),
  (⟨"CarvedRinksModel", "count", "(I)I"⟩, cX7_count, 2, some .int, 7, 8, 173, 0),
  (⟨"CarvedRinksModel", "counts", "(I)I"⟩, cX7_counts, 2, some .int, 7, 7, 152, 0),
  (⟨"CarvedRinksModel", "rinks", "()I"⟩, cX7_rinks, 3, some .int, 7, 0, 0, 0),
  (⟨"CarvedRinksModel", "byJoining", "()I"⟩, cX7_byJoining, 6, some .int, 7, 6, 127, 0),
  (⟨"CarvedRinksModel", "owned", "()I"⟩, cX7_owned, 3, some .int, 7, 0, 0, 0),
  (⟨"CarvedRinksModel", "cuts", "()I"⟩, cX7_cuts, 3, some .int, 7, 0, 0, 0),
  (⟨"CarvedRinksModel", "greatest", "()I"⟩, cX7_greatest, 4, some .int, 7, 1, 23, 0),
  (⟨"CarvedRinksModel", "setting", "(I)I"⟩, cX7_setting, 2, some .int, 7, 2, 42, 0),
  (⟨"CarvedRinksModel", "why", "(II)I"⟩, cX7_why, 3, some .int, 7, 7, 157, 0),
  (⟨"CarvedRinksModel", "ifGlided", "(IIII)I"⟩, cX7_ifGlided, 9, some .int, 7, 10, 228, 0),
  (⟨"CarvedRinksModel", "best", "(I)I"⟩, cX7_best, 2, some .int, 7, 10, 231, 0),
  (⟨"CarvedRinksModel", "bestOf", "(I)I"⟩, cX7_bestOf, 8, some .int, 7, 9, 204, 0),
  (⟨"CarvedRinksModel", "calm", "()I"⟩, cX7_calm, 1, some .int, 7, 6, 136, 0),
  (⟨"CarvedRinksModel", "ownedShare", "()D"⟩, cX7_ownedShare, 1, some .double, 7, 3, 63, 0),
  (⟨"CarvedRinksModel", "share", "()D"⟩, cX7_share, 1, some .double, 7, 2, 43, 0),
  (⟨"CarvedRinksModel", "ownedCells", "()I"⟩, cX7_ownedCells, 1, some .int, 7, 1, 23, 0),
  (⟨"CarvedRinksModel", "meanRink", "()F"⟩, cX7_meanRink, 1, some .float, 7, 7, 151, 0),
  (⟨"CarvedRinksModel", "mean", "()F"⟩, cX7_mean, 1, some .float, 7, 1, 22, 0),
  (⟨"CarvedRinksModel", "digest", "()J"⟩, cX7_digest, 7, some .long, 7, 10, 231, 0),
  (⟨"java/lang/Double", "doubleToLongBits", "(D)J"⟩, cJxe99ae_doubleToLongBits_ccdee, 2, some .long, 11, 1, 48, 0),
  (⟨"java/lang/Double", "isNaN", "(D)Z"⟩, cJxe99ae_isNaN_b9ae7, 2, some .boolean, 11, 0, 0, 0),
  (⟨"java/lang/Float", "floatToIntBits", "(F)I"⟩, cJxf58ca_floatToIntBits_5c35a, 1, some .int, 12, 1, 48, 0),
  (⟨"java/lang/Float", "isNaN", "(F)Z"⟩, cJxf58ca_isNaN_12338, 1, some .boolean, 12, 0, 0, 0)]
def xM7 : List xMe := [(⟨"CarvedRinksLaw", "law", "([I)Z"⟩, cL_law, 9, some .boolean, 8, 11, 257, 3)]
def xM : List xMe := xM0 ++ (xM1 ++ (xM2 ++ (xM3 ++ (xM4 ++ (xM5 ++ (xM6 ++ (xM7)))))))
abbrev mX6_init : Nat := 0
abbrev mX2_init : Nat := 1
abbrev mX5_init : Nat := 2
abbrev mX4_init : Nat := 3
abbrev mX0_init : Nat := 4
abbrev mX3_init : Nat := 5
abbrev mX6_thaw : Nat := 6
abbrev mX4_push : Nat := 7
abbrev mX2_copyFrom : Nat := 8
abbrev mX5_copyFrom : Nat := 9
abbrev mX2_thawOnce : Nat := 10
abbrev mX6_thawingCells : Nat := 11
abbrev mX6_southOf : Nat := 12
abbrev mX6_northOf : Nat := 13
abbrev mX6_eastOf : Nat := 14
abbrev mX6_westOf : Nat := 15
abbrev mX2_makeWater : Nat := 16
abbrev mJ13_bitCount_95d88 : Nat := 17
abbrev mX6_clearBuffer : Nat := 18
abbrev mX6_firstError : Nat := 19
abbrev mX0_errorIndex : Nat := 20
abbrev mX0_placeBehind : Nat := 21
abbrev mX0_directionOf : Nat := 22
abbrev mX6_keep : Nat := 23
abbrev mX2_iceCells : Nat := 24
abbrev mX6_calm : Nat := 25
abbrev mX2_thawsUntilCalm : Nat := 26
abbrev mX6_ownedShare : Nat := 27
abbrev mX2_ownedCells : Nat := 28
abbrev mX2_ownedByAny : Nat := 29
abbrev mX6_meanRink : Nat := 30
abbrev mX2_rinksByGoing : Nat := 31
abbrev mX2_rinksWithin : Nat := 32
abbrev mX6_lowestBit : Nat := 33
abbrev mX2_rinkOf : Nat := 34
abbrev mX6_digest : Nat := 35
abbrev mX6_stateNumber : Nat := 36
abbrev mX3_rinksByJoining : Nat := 37
abbrev mX1_cellsAt : Nat := 38
abbrev mX1_lowerCell : Nat := 39
abbrev mX1_leadsEast : Nat := 40
abbrev mX6_cellBit : Nat := 41
abbrev mX1_higherCell : Nat := 42
abbrev mX2_isCut : Nat := 43
abbrev mX3_join : Nat := 44
abbrev mX6_lowestOf : Nat := 45
abbrev mX3_lowestJoined : Nat := 46
abbrev mJ9_max_7cf53 : Nat := 47
abbrev mJ9_min_7cf53 : Nat := 48
abbrev mX2_rinksOwned : Nat := 49
abbrev mX2_allPurses : Nat := 50
abbrev mX2_greatestRink : Nat := 51
abbrev mX6_hashCells : Nat := 52
abbrev mX6_cellNumber : Nat := 53
abbrev mX2_isIce : Nat := 54
abbrev mX2_ownerOf : Nat := 55
abbrev mX6_cellsBeside : Nat := 56
abbrev mX2_thawsUntilWater : Nat := 57
abbrev mX6_hashLines : Nat := 58
abbrev mX1_leading : Nat := 59
abbrev mX1_leadingSouth : Nat := 60
abbrev mX1_leadingEast : Nat := 61
abbrev mX6_lineNumber : Nat := 62
abbrev mX6_hashSkaters : Nat := 63
abbrev mX6_skaterNumber : Nat := 64
abbrev mX5_ownedCells : Nat := 65
abbrev mX2_cellsOfRinks : Nat := 66
abbrev mX2_rinksOwnedBy : Nat := 67
abbrev mX2_reasonAgainst : Nat := 68
abbrev mX5_nextX : Nat := 69
abbrev mX5_nextY : Nat := 70
abbrev mX2_isTaken : Nat := 71
abbrev mX2_tollTaker : Nat := 72
abbrev mX6_bestGlide : Nat := 73
abbrev mX2_makeStep : Nat := 74
abbrev mX2_payToll : Nat := 75
abbrev mX5_move : Nat := 76
abbrev mX2_cutLine : Nat := 77
abbrev mX2_partRink : Nat := 78
abbrev mX6_hashRinks : Nat := 79
abbrev mX6_rinkNumber : Nat := 80
abbrev mX6_floatingBits : Nat := 81
abbrev mX6_hashText : Nat := 82
abbrev mL_glide : Nat := 83
abbrev mX6_glide : Nat := 84
abbrev mX6_isSkater : Nat := 85
abbrev mX6_isDirection : Nat := 86
abbrev mX6_isSteps : Nat := 87
abbrev mX2_makeSteps : Nat := 88
abbrev mL_hole : Nat := 89
abbrev mX6_hole : Nat := 90
abbrev mL_pay : Nat := 91
abbrev mX6_pay : Nat := 92
abbrev mL_set : Nat := 93
abbrev mX6_set : Nat := 94
abbrev mX6_isSetting : Nat := 95
abbrev mX6_leastValue : Nat := 96
abbrev mX6_mostValue : Nat := 97
abbrev mL_append : Nat := 98
abbrev mX6_append : Nat := 99
abbrev mX0_isFull : Nat := 100
abbrev mX0_add : Nat := 101
abbrev mL_play : Nat := 102
abbrev mX6_play : Nat := 103
abbrev mX0_isComplete : Nat := 104
abbrev mX0_playOn : Nat := 105
abbrev mL_goBack : Nat := 106
abbrev mX6_goBack : Nat := 107
abbrev mL_undo : Nat := 108
abbrev mX6_undo : Nat := 109
abbrev mX4_popInto : Nat := 110
abbrev mL_cell : Nat := 111
abbrev mX6_cell : Nat := 112
abbrev mL_line : Nat := 113
abbrev mX6_line : Nat := 114
abbrev mX6_isPoint : Nat := 115
abbrev mL_skater : Nat := 116
abbrev mX6_skater : Nat := 117
abbrev mL_rink : Nat := 118
abbrev mX6_rink : Nat := 119
abbrev mX2_rinkWithRank : Nat := 120
abbrev mL_count : Nat := 121
abbrev mX6_count : Nat := 122
abbrev mL_setting : Nat := 123
abbrev mX6_setting : Nat := 124
abbrev mL_why : Nat := 125
abbrev mX6_why : Nat := 126
abbrev mL_ifGlided : Nat := 127
abbrev mX6_ifGlided : Nat := 128
abbrev mL_best : Nat := 129
abbrev mX6_best : Nat := 130
abbrev mX7_init : Nat := 131
abbrev mX7_of : Nat := 132
abbrev mX7_thrown : Nat := 133
abbrev mX7_glide : Nat := 134
abbrev mX7_isSkater : Nat := 135
abbrev mX7_in : Nat := 136
abbrev mX7_refused : Nat := 137
abbrev mX7_saves : Nat := 138
abbrev mX7_glides : Nat := 139
abbrev mX7_bar : Nat := 140
abbrev mX7_lineFrom : Nat := 141
abbrev mX7_iceBeside : Nat := 142
abbrev mX7_beside : Nat := 143
abbrev mX7_cellAt : Nat := 144
abbrev mX7_isCell : Nat := 145
abbrev mX7_isIce : Nat := 146
abbrev mX7_toll : Nat := 147
abbrev mX7_steps : Nat := 148
abbrev mX7_melts : Nat := 149
abbrev mX7_isOpen : Nat := 150
abbrev mX7_parts : Nat := 151
abbrev mX7_labels : Nat := 152
abbrev mX7_sizeOf : Nat := 153
abbrev mX7_thaw : Nat := 154
abbrev mX7_thaws : Nat := 155
abbrev mX7_waterBeside : Nat := 156
abbrev mX7_hole : Nat := 157
abbrev mX7_pay : Nat := 158
abbrev mX7_set : Nat := 159
abbrev mX7_isSetting : Nat := 160
abbrev mX7_append : Nat := 161
abbrev mX7_clearBuffer : Nat := 162
abbrev mX7_firstError : Nat := 163
abbrev mX7_error : Nat := 164
abbrev mX7_isRight : Nat := 165
abbrev mX7_directionOf : Nat := 166
abbrev mX7_play : Nat := 167
abbrev mX7_isWhole : Nat := 168
abbrev mX7_keep : Nat := 169
abbrev mX7_ice : Nat := 170
abbrev mX7_goBack : Nat := 171
abbrev mX7_undo : Nat := 172
abbrev mX7_cell : Nat := 173
abbrev mX7_ofCell : Nat := 174
abbrev mX7_thawsOf : Nat := 175
abbrev mX7_putAside : Nat := 176
abbrev mX7_putBack : Nat := 177
abbrev mX7_line : Nat := 178
abbrev mX7_ofLine : Nat := 179
abbrev mX7_skater : Nat := 180
abbrev mX7_ofSkater : Nat := 181
abbrev mX7_ownedBy : Nat := 182
abbrev mX7_rinksOf : Nat := 183
abbrev mX7_rink : Nat := 184
abbrev mX7_lowestOf : Nat := 185
abbrev mX7_ofRink : Nat := 186
abbrev mX7_count : Nat := 187
abbrev mX7_counts : Nat := 188
abbrev mX7_rinks : Nat := 189
abbrev mX7_byJoining : Nat := 190
abbrev mX7_owned : Nat := 191
abbrev mX7_cuts : Nat := 192
abbrev mX7_greatest : Nat := 193
abbrev mX7_setting : Nat := 194
abbrev mX7_why : Nat := 195
abbrev mX7_ifGlided : Nat := 196
abbrev mX7_best : Nat := 197
abbrev mX7_bestOf : Nat := 198
abbrev mX7_calm : Nat := 199
abbrev mX7_ownedShare : Nat := 200
abbrev mX7_share : Nat := 201
abbrev mX7_ownedCells : Nat := 202
abbrev mX7_meanRink : Nat := 203
abbrev mX7_mean : Nat := 204
abbrev mX7_digest : Nat := 205
abbrev mJxe99ae_doubleToLongBits_ccdee : Nat := 206
abbrev mJxe99ae_isNaN_b9ae7 : Nat := 207
abbrev mJxf58ca_floatToIntBits_5c35a : Nat := 208
abbrev mJxf58ca_isNaN_12338 : Nat := 209
abbrev mL_law : Nat := 210
theorem xe_X6_init : xM[0]? = some (⟨"CarvedRinks", "<init>", "()V"⟩, cX6_init, 1, none, 6, 4, 83, 0) := rfl
theorem xe_X2_init : xM[1]? = some (⟨"CarvedRinks$Pond", "<init>", "()V"⟩, cX2_init, 1, none, 2, 2, 42, 0) := rfl
theorem xe_X5_init : xM[2]? = some (⟨"CarvedRinks$Skater", "<init>", "(II)V"⟩, cX5_init, 3, none, 5, 1, 20, 0) := rfl
theorem xe_X4_init : xM[3]? = some (⟨"CarvedRinks$SavedPonds", "<init>", "()V"⟩, cX4_init, 2, none, 4, 3, 62, 0) := rfl
theorem xe_X0_init : xM[4]? = some (⟨"CarvedRinks$GlideText", "<init>", "()V"⟩, cX0_init, 1, none, 0, 1, 20, 0) := rfl
theorem xe_X3_init : xM[5]? = some (⟨"CarvedRinks$RinkJoiner", "<init>", "()V"⟩, cX3_init, 1, none, 3, 1, 20, 0) := rfl
theorem xe_X6_thaw : xM[6]? = some (⟨"CarvedRinks", "thaw", "()I"⟩, cX6_thaw, 1, some .int, 6, 3, 91, 0) := rfl
theorem xe_X4_push : xM[7]? = some (⟨"CarvedRinks$SavedPonds", "push", "(LCarvedRinks$Pond;)V"⟩, cX4_push, 2, none, 4, 2, 70, 0) := rfl
theorem xe_X2_copyFrom : xM[8]? = some (⟨"CarvedRinks$Pond", "copyFrom", "(LCarvedRinks$Pond;)V"⟩, cX2_copyFrom, 3, none, 2, 1, 48, 0) := rfl
theorem xe_X5_copyFrom : xM[9]? = some (⟨"CarvedRinks$Skater", "copyFrom", "(LCarvedRinks$Skater;)V"⟩, cX5_copyFrom, 2, none, 5, 0, 0, 0) := rfl
theorem xe_X2_thawOnce : xM[10]? = some (⟨"CarvedRinks$Pond", "thawOnce", "()I"⟩, cX2_thawOnce, 3, some .int, 2, 2, 61, 0) := rfl
theorem xe_X6_thawingCells : xM[11]? = some (⟨"CarvedRinks", "thawingCells", "(JI)J"⟩, cX6_thawingCells, 21, some .long, 6, 1, 21, 0) := rfl
theorem xe_X6_southOf : xM[12]? = some (⟨"CarvedRinks", "southOf", "(J)J"⟩, cX6_southOf, 2, some .long, 6, 0, 0, 0) := rfl
theorem xe_X6_northOf : xM[13]? = some (⟨"CarvedRinks", "northOf", "(J)J"⟩, cX6_northOf, 2, some .long, 6, 0, 0, 0) := rfl
theorem xe_X6_eastOf : xM[14]? = some (⟨"CarvedRinks", "eastOf", "(J)J"⟩, cX6_eastOf, 2, some .long, 6, 0, 0, 0) := rfl
theorem xe_X6_westOf : xM[15]? = some (⟨"CarvedRinks", "westOf", "(J)J"⟩, cX6_westOf, 2, some .long, 6, 0, 0, 0) := rfl
theorem xe_X2_makeWater : xM[16]? = some (⟨"CarvedRinks$Pond", "makeWater", "(J)V"⟩, cX2_makeWater, 4, none, 2, 1, 21, 0) := rfl
theorem xe_J13_bitCount_95d88 : xM[17]? = some (⟨"java/lang/Long", "bitCount", "(J)I"⟩, cJ13_bitCount_95d88, 2, some .int, 9, 0, 0, 0) := rfl
theorem xe_X6_clearBuffer : xM[18]? = some (⟨"CarvedRinks", "clearBuffer", "()I"⟩, cX6_clearBuffer, 2, some .int, 6, 0, 0, 0) := rfl
theorem xe_X6_firstError : xM[19]? = some (⟨"CarvedRinks", "firstError", "()I"⟩, cX6_firstError, 1, some .int, 6, 3, 63, 0) := rfl
theorem xe_X0_errorIndex : xM[20]? = some (⟨"CarvedRinks$GlideText", "errorIndex", "()I"⟩, cX0_errorIndex, 3, some .int, 0, 2, 41, 0) := rfl
theorem xe_X0_placeBehind : xM[21]? = some (⟨"CarvedRinks$GlideText", "placeBehind", "(II)I"⟩, cX0_placeBehind, 2, some .int, 0, 1, 20, 0) := rfl
theorem xe_X0_directionOf : xM[22]? = some (⟨"CarvedRinks$GlideText", "directionOf", "(I)I"⟩, cX0_directionOf, 1, some .int, 0, 0, 0, 0) := rfl
theorem xe_X6_keep : xM[23]? = some (⟨"CarvedRinks", "keep", "()I"⟩, cX6_keep, 1, some .int, 6, 2, 70, 0) := rfl
theorem xe_X2_iceCells : xM[24]? = some (⟨"CarvedRinks$Pond", "iceCells", "()I"⟩, cX2_iceCells, 1, some .int, 2, 1, 21, 0) := rfl
theorem xe_X6_calm : xM[25]? = some (⟨"CarvedRinks", "calm", "()I"⟩, cX6_calm, 1, some .int, 6, 3, 86, 0) := rfl
theorem xe_X2_thawsUntilCalm : xM[26]? = some (⟨"CarvedRinks$Pond", "thawsUntilCalm", "()I"⟩, cX2_thawsUntilCalm, 6, some .int, 2, 2, 61, 0) := rfl
theorem xe_X6_ownedShare : xM[27]? = some (⟨"CarvedRinks", "ownedShare", "()D"⟩, cX6_ownedShare, 2, some .double, 6, 2, 43, 0) := rfl
theorem xe_X2_ownedCells : xM[28]? = some (⟨"CarvedRinks$Pond", "ownedCells", "()I"⟩, cX2_ownedCells, 1, some .int, 2, 1, 23, 0) := rfl
theorem xe_X2_ownedByAny : xM[29]? = some (⟨"CarvedRinks$Pond", "ownedByAny", "()J"⟩, cX2_ownedByAny, 4, some .long, 2, 0, 0, 0) := rfl
theorem xe_X6_meanRink : xM[30]? = some (⟨"CarvedRinks", "meanRink", "()F"⟩, cX6_meanRink, 2, some .float, 6, 4, 98, 0) := rfl
theorem xe_X2_rinksByGoing : xM[31]? = some (⟨"CarvedRinks$Pond", "rinksByGoing", "()I"⟩, cX2_rinksByGoing, 1, some .int, 2, 3, 78, 0) := rfl
theorem xe_X2_rinksWithin : xM[32]? = some (⟨"CarvedRinks$Pond", "rinksWithin", "(J)I"⟩, cX2_rinksWithin, 7, some .int, 2, 2, 52, 0) := rfl
theorem xe_X6_lowestBit : xM[33]? = some (⟨"CarvedRinks", "lowestBit", "(J)J"⟩, cX6_lowestBit, 2, some .long, 6, 0, 0, 0) := rfl
theorem xe_X2_rinkOf : xM[34]? = some (⟨"CarvedRinks$Pond", "rinkOf", "(J)J"⟩, cX2_rinkOf, 12, some .long, 2, 1, 21, 0) := rfl
theorem xe_X6_digest : xM[35]? = some (⟨"CarvedRinks", "digest", "()J"⟩, cX6_digest, 4, some .long, 6, 6, 163, 0) := rfl
theorem xe_X6_stateNumber : xM[36]? = some (⟨"CarvedRinks", "stateNumber", "(I)I"⟩, cX6_stateNumber, 2, some .int, 6, 4, 98, 0) := rfl
theorem xe_X3_rinksByJoining : xM[37]? = some (⟨"CarvedRinks$RinkJoiner", "rinksByJoining", "(LCarvedRinks$Pond;)I"⟩, cX3_rinksByJoining, 6, some .int, 3, 3, 72, 0) := rfl
theorem xe_X1_cellsAt : xM[38]? = some (⟨"CarvedRinks$Lines", "cellsAt", "(I)J"⟩, cX1_cellsAt, 1, some .long, 1, 2, 43, 0) := rfl
theorem xe_X1_lowerCell : xM[39]? = some (⟨"CarvedRinks$Lines", "lowerCell", "(I)J"⟩, cX1_lowerCell, 2, some .long, 1, 1, 22, 0) := rfl
theorem xe_X1_leadsEast : xM[40]? = some (⟨"CarvedRinks$Lines", "leadsEast", "(I)Z"⟩, cX1_leadsEast, 1, some .boolean, 1, 0, 0, 0) := rfl
theorem xe_X6_cellBit : xM[41]? = some (⟨"CarvedRinks", "cellBit", "(II)J"⟩, cX6_cellBit, 3, some .long, 6, 0, 0, 0) := rfl
theorem xe_X1_higherCell : xM[42]? = some (⟨"CarvedRinks$Lines", "higherCell", "(I)J"⟩, cX1_higherCell, 2, some .long, 1, 1, 22, 0) := rfl
theorem xe_X2_isCut : xM[43]? = some (⟨"CarvedRinks$Pond", "isCut", "(I)Z"⟩, cX2_isCut, 4, some .boolean, 2, 2, 43, 0) := rfl
theorem xe_X3_join : xM[44]? = some (⟨"CarvedRinks$RinkJoiner", "join", "(J)Z"⟩, cX3_join, 5, some .boolean, 3, 2, 48, 0) := rfl
theorem xe_X6_lowestOf : xM[45]? = some (⟨"CarvedRinks", "lowestOf", "(J)I"⟩, cX6_lowestOf, 2, some .int, 6, 1, 21, 0) := rfl
theorem xe_X3_lowestJoined : xM[46]? = some (⟨"CarvedRinks$RinkJoiner", "lowestJoined", "(I)I"⟩, cX3_lowestJoined, 4, some .int, 3, 0, 0, 0) := rfl
theorem xe_J9_max_7cf53 : xM[47]? = some (⟨"java/lang/Math", "max", "(II)I"⟩, cJ9_max_7cf53, 2, some .int, 10, 0, 0, 9) := rfl
theorem xe_J9_min_7cf53 : xM[48]? = some (⟨"java/lang/Math", "min", "(II)I"⟩, cJ9_min_7cf53, 2, some .int, 10, 0, 0, 9) := rfl
theorem xe_X2_rinksOwned : xM[49]? = some (⟨"CarvedRinks$Pond", "rinksOwned", "()I"⟩, cX2_rinksOwned, 1, some .int, 2, 3, 78, 0) := rfl
theorem xe_X2_allPurses : xM[50]? = some (⟨"CarvedRinks$Pond", "allPurses", "()I"⟩, cX2_allPurses, 3, some .int, 2, 0, 0, 0) := rfl
theorem xe_X2_greatestRink : xM[51]? = some (⟨"CarvedRinks$Pond", "greatestRink", "()I"⟩, cX2_greatestRink, 7, some .int, 2, 2, 52, 0) := rfl
theorem xe_X6_hashCells : xM[52]? = some (⟨"CarvedRinks", "hashCells", "(J)J"⟩, cX6_hashCells, 7, some .long, 6, 4, 111, 0) := rfl
theorem xe_X6_cellNumber : xM[53]? = some (⟨"CarvedRinks", "cellNumber", "(JI)I"⟩, cX6_cellNumber, 4, some .int, 6, 3, 88, 0) := rfl
theorem xe_X2_isIce : xM[54]? = some (⟨"CarvedRinks$Pond", "isIce", "(J)Z"⟩, cX2_isIce, 3, some .boolean, 2, 0, 0, 0) := rfl
theorem xe_X2_ownerOf : xM[55]? = some (⟨"CarvedRinks$Pond", "ownerOf", "(J)I"⟩, cX2_ownerOf, 4, some .int, 2, 0, 0, 0) := rfl
theorem xe_X6_cellsBeside : xM[56]? = some (⟨"CarvedRinks", "cellsBeside", "(J)J"⟩, cX6_cellsBeside, 2, some .long, 6, 1, 21, 0) := rfl
theorem xe_X2_thawsUntilWater : xM[57]? = some (⟨"CarvedRinks$Pond", "thawsUntilWater", "(J)I"⟩, cX2_thawsUntilWater, 8, some .int, 2, 2, 61, 0) := rfl
theorem xe_X6_hashLines : xM[58]? = some (⟨"CarvedRinks", "hashLines", "(J)J"⟩, cX6_hashLines, 9, some .long, 6, 4, 88, 0) := rfl
theorem xe_X1_leading : xM[59]? = some (⟨"CarvedRinks$Lines", "leading", "(III)I"⟩, cX1_leading, 3, some .int, 1, 1, 22, 0) := rfl
theorem xe_X1_leadingSouth : xM[60]? = some (⟨"CarvedRinks$Lines", "leadingSouth", "(II)I"⟩, cX1_leadingSouth, 3, some .int, 1, 0, 0, 0) := rfl
theorem xe_X1_leadingEast : xM[61]? = some (⟨"CarvedRinks$Lines", "leadingEast", "(II)I"⟩, cX1_leadingEast, 3, some .int, 1, 0, 0, 0) := rfl
theorem xe_X6_lineNumber : xM[62]? = some (⟨"CarvedRinks", "lineNumber", "(II)I"⟩, cX6_lineNumber, 3, some .int, 6, 3, 66, 0) := rfl
theorem xe_X6_hashSkaters : xM[63]? = some (⟨"CarvedRinks", "hashSkaters", "(J)J"⟩, cX6_hashSkaters, 7, some .long, 6, 5, 137, 0) := rfl
theorem xe_X6_skaterNumber : xM[64]? = some (⟨"CarvedRinks", "skaterNumber", "(II)I"⟩, cX6_skaterNumber, 4, some .int, 6, 4, 99, 0) := rfl
theorem xe_X5_ownedCells : xM[65]? = some (⟨"CarvedRinks$Skater", "ownedCells", "()I"⟩, cX5_ownedCells, 1, some .int, 5, 1, 21, 0) := rfl
theorem xe_X2_cellsOfRinks : xM[66]? = some (⟨"CarvedRinks$Pond", "cellsOfRinks", "(I)I"⟩, cX2_cellsOfRinks, 10, some .int, 2, 2, 52, 0) := rfl
theorem xe_X2_rinksOwnedBy : xM[67]? = some (⟨"CarvedRinks$Pond", "rinksOwnedBy", "(I)I"⟩, cX2_rinksOwnedBy, 2, some .int, 2, 3, 78, 0) := rfl
theorem xe_X2_reasonAgainst : xM[68]? = some (⟨"CarvedRinks$Pond", "reasonAgainst", "(II)I"⟩, cX2_reasonAgainst, 8, some .int, 2, 3, 63, 0) := rfl
theorem xe_X5_nextX : xM[69]? = some (⟨"CarvedRinks$Skater", "nextX", "(I)I"⟩, cX5_nextX, 2, some .int, 5, 0, 0, 0) := rfl
theorem xe_X5_nextY : xM[70]? = some (⟨"CarvedRinks$Skater", "nextY", "(I)I"⟩, cX5_nextY, 2, some .int, 5, 0, 0, 0) := rfl
theorem xe_X2_isTaken : xM[71]? = some (⟨"CarvedRinks$Pond", "isTaken", "(II)Z"⟩, cX2_isTaken, 4, some .boolean, 2, 0, 0, 0) := rfl
theorem xe_X2_tollTaker : xM[72]? = some (⟨"CarvedRinks$Pond", "tollTaker", "(IJ)I"⟩, cX2_tollTaker, 5, some .int, 2, 1, 21, 0) := rfl
theorem xe_X6_bestGlide : xM[73]? = some (⟨"CarvedRinks", "bestGlide", "(I)I"⟩, cX6_bestGlide, 8, some .int, 6, 4, 110, 0) := rfl
theorem xe_X2_makeStep : xM[74]? = some (⟨"CarvedRinks$Pond", "makeStep", "(II)V"⟩, cX2_makeStep, 7, none, 2, 3, 84, 0) := rfl
theorem xe_X2_payToll : xM[75]? = some (⟨"CarvedRinks$Pond", "payToll", "(LCarvedRinks$Skater;I)V"⟩, cX2_payToll, 4, none, 2, 0, 0, 0) := rfl
theorem xe_X5_move : xM[76]? = some (⟨"CarvedRinks$Skater", "move", "(I)V"⟩, cX5_move, 2, none, 5, 1, 21, 0) := rfl
theorem xe_X2_cutLine : xM[77]? = some (⟨"CarvedRinks$Pond", "cutLine", "(I)V"⟩, cX2_cutLine, 2, none, 2, 2, 43, 0) := rfl
theorem xe_X2_partRink : xM[78]? = some (⟨"CarvedRinks$Pond", "partRink", "(LCarvedRinks$Skater;I)V"⟩, cX2_partRink, 13, none, 2, 2, 52, 0) := rfl
theorem xe_X6_hashRinks : xM[79]? = some (⟨"CarvedRinks", "hashRinks", "(J)J"⟩, cX6_hashRinks, 11, some .long, 6, 3, 66, 0) := rfl
theorem xe_X6_rinkNumber : xM[80]? = some (⟨"CarvedRinks", "rinkNumber", "(JI)I"⟩, cX6_rinkNumber, 5, some .int, 6, 2, 42, 0) := rfl
theorem xe_X6_floatingBits : xM[81]? = some (⟨"CarvedRinks", "floatingBits", "(DII)J"⟩, cX6_floatingBits, 10, some .long, 6, 0, 0, 0) := rfl
theorem xe_X6_hashText : xM[82]? = some (⟨"CarvedRinks", "hashText", "(J)J"⟩, cX6_hashText, 6, some .long, 6, 0, 0, 0) := rfl
theorem xe_L_glide : xM[83]? = some (⟨"CarvedRinksLaw", "glide", "(LCarvedRinks;III[J)I"⟩, cL_glide, 6, some .int, 8, 7, 157, 2) := rfl
theorem xe_X6_glide : xM[84]? = some (⟨"CarvedRinks", "glide", "(III)I"⟩, cX6_glide, 4, some .int, 6, 6, 134, 1) := rfl
theorem xe_X6_isSkater : xM[85]? = some (⟨"CarvedRinks", "isSkater", "(I)Z"⟩, cX6_isSkater, 1, some .boolean, 6, 0, 0, 0) := rfl
theorem xe_X6_isDirection : xM[86]? = some (⟨"CarvedRinks", "isDirection", "(I)Z"⟩, cX6_isDirection, 1, some .boolean, 6, 0, 0, 0) := rfl
theorem xe_X6_isSteps : xM[87]? = some (⟨"CarvedRinks", "isSteps", "(I)Z"⟩, cX6_isSteps, 1, some .boolean, 6, 0, 0, 0) := rfl
theorem xe_X2_makeSteps : xM[88]? = some (⟨"CarvedRinks$Pond", "makeSteps", "(III)I"⟩, cX2_makeSteps, 5, some .int, 2, 4, 110, 0) := rfl
theorem xe_L_hole : xM[89]? = some (⟨"CarvedRinksLaw", "hole", "(LCarvedRinks;II[J)I"⟩, cL_hole, 5, some .int, 8, 7, 135, 2) := rfl
theorem xe_X6_hole : xM[90]? = some (⟨"CarvedRinks", "hole", "(II)I"⟩, cX6_hole, 6, some .int, 6, 6, 110, 1) := rfl
theorem xe_L_pay : xM[91]? = some (⟨"CarvedRinksLaw", "pay", "(LCarvedRinks;II[J)I"⟩, cL_pay, 5, some .int, 8, 7, 133, 2) := rfl
theorem xe_X6_pay : xM[92]? = some (⟨"CarvedRinks", "pay", "(II)I"⟩, cX6_pay, 4, some .int, 6, 6, 110, 1) := rfl
theorem xe_L_set : xM[93]? = some (⟨"CarvedRinksLaw", "set", "(LCarvedRinks;II[J)I"⟩, cL_set, 5, some .int, 8, 7, 133, 2) := rfl
theorem xe_X6_set : xM[94]? = some (⟨"CarvedRinks", "set", "(II)I"⟩, cX6_set, 4, some .int, 6, 6, 110, 1) := rfl
theorem xe_X6_isSetting : xM[95]? = some (⟨"CarvedRinks", "isSetting", "(I)Z"⟩, cX6_isSetting, 1, some .boolean, 6, 0, 0, 0) := rfl
theorem xe_X6_leastValue : xM[96]? = some (⟨"CarvedRinks", "leastValue", "(I)I"⟩, cX6_leastValue, 1, some .int, 6, 0, 0, 0) := rfl
theorem xe_X6_mostValue : xM[97]? = some (⟨"CarvedRinks", "mostValue", "(I)I"⟩, cX6_mostValue, 1, some .int, 6, 0, 0, 0) := rfl
theorem xe_L_append : xM[98]? = some (⟨"CarvedRinksLaw", "append", "(LCarvedRinks;I[J)I"⟩, cL_append, 4, some .int, 8, 7, 131, 2) := rfl
theorem xe_X6_append : xM[99]? = some (⟨"CarvedRinks", "append", "(I)I"⟩, cX6_append, 2, some .int, 6, 6, 110, 1) := rfl
theorem xe_X0_isFull : xM[100]? = some (⟨"CarvedRinks$GlideText", "isFull", "()Z"⟩, cX0_isFull, 1, some .boolean, 0, 0, 0, 0) := rfl
theorem xe_X0_add : xM[101]? = some (⟨"CarvedRinks$GlideText", "add", "(I)V"⟩, cX0_add, 2, none, 0, 0, 0, 0) := rfl
theorem xe_L_play : xM[102]? = some (⟨"CarvedRinksLaw", "play", "(LCarvedRinks;[J)I"⟩, cL_play, 3, some .int, 8, 7, 183, 2) := rfl
theorem xe_X6_play : xM[103]? = some (⟨"CarvedRinks", "play", "()I"⟩, cX6_play, 2, some .int, 6, 6, 162, 1) := rfl
theorem xe_X0_isComplete : xM[104]? = some (⟨"CarvedRinks$GlideText", "isComplete", "()Z"⟩, cX0_isComplete, 3, some .boolean, 0, 2, 41, 0) := rfl
theorem xe_X0_playOn : xM[105]? = some (⟨"CarvedRinks$GlideText", "playOn", "(LCarvedRinks$Pond;)I"⟩, cX0_playOn, 9, some .int, 0, 5, 134, 0) := rfl
theorem xe_L_goBack : xM[106]? = some (⟨"CarvedRinksLaw", "goBack", "(LCarvedRinks;[J)I"⟩, cL_goBack, 3, some .int, 8, 7, 130, 2) := rfl
theorem xe_X6_goBack : xM[107]? = some (⟨"CarvedRinks", "goBack", "()I"⟩, cX6_goBack, 1, some .int, 6, 6, 110, 1) := rfl
theorem xe_L_undo : xM[108]? = some (⟨"CarvedRinksLaw", "undo", "(LCarvedRinks;[J)I"⟩, cL_undo, 3, some .int, 8, 7, 130, 2) := rfl
theorem xe_X6_undo : xM[109]? = some (⟨"CarvedRinks", "undo", "()I"⟩, cX6_undo, 1, some .int, 6, 6, 110, 1) := rfl
theorem xe_X4_popInto : xM[110]? = some (⟨"CarvedRinks$SavedPonds", "popInto", "(LCarvedRinks$Pond;)V"⟩, cX4_popInto, 2, none, 4, 2, 70, 0) := rfl
theorem xe_L_cell : xM[111]? = some (⟨"CarvedRinksLaw", "cell", "(LCarvedRinks;III[J)I"⟩, cL_cell, 6, some .int, 8, 7, 136, 2) := rfl
theorem xe_X6_cell : xM[112]? = some (⟨"CarvedRinks", "cell", "(III)I"⟩, cX6_cell, 6, some .int, 6, 6, 111, 1) := rfl
theorem xe_L_line : xM[113]? = some (⟨"CarvedRinksLaw", "line", "(LCarvedRinks;IIII[J)I"⟩, cL_line, 7, some .int, 8, 7, 136, 2) := rfl
theorem xe_X6_line : xM[114]? = some (⟨"CarvedRinks", "line", "(IIII)I"⟩, cX6_line, 7, some .int, 6, 6, 110, 1) := rfl
theorem xe_X6_isPoint : xM[115]? = some (⟨"CarvedRinks", "isPoint", "(II)Z"⟩, cX6_isPoint, 2, some .boolean, 6, 0, 0, 0) := rfl
theorem xe_L_skater : xM[116]? = some (⟨"CarvedRinksLaw", "skater", "(LCarvedRinks;II[J)I"⟩, cL_skater, 5, some .int, 8, 7, 144, 2) := rfl
theorem xe_X6_skater : xM[117]? = some (⟨"CarvedRinks", "skater", "(II)I"⟩, cX6_skater, 3, some .int, 6, 6, 122, 1) := rfl
theorem xe_L_rink : xM[118]? = some (⟨"CarvedRinksLaw", "rink", "(LCarvedRinks;II[J)I"⟩, cL_rink, 5, some .int, 8, 7, 134, 2) := rfl
theorem xe_X6_rink : xM[119]? = some (⟨"CarvedRinks", "rink", "(II)I"⟩, cX6_rink, 5, some .int, 6, 6, 110, 1) := rfl
theorem xe_X2_rinkWithRank : xM[120]? = some (⟨"CarvedRinks$Pond", "rinkWithRank", "(I)J"⟩, cX2_rinkWithRank, 7, some .long, 2, 2, 52, 0) := rfl
theorem xe_L_count : xM[121]? = some (⟨"CarvedRinksLaw", "count", "(LCarvedRinks;I[J)I"⟩, cL_count, 4, some .int, 8, 7, 140, 2) := rfl
theorem xe_X6_count : xM[122]? = some (⟨"CarvedRinks", "count", "(I)I"⟩, cX6_count, 2, some .int, 6, 6, 119, 1) := rfl
theorem xe_L_setting : xM[123]? = some (⟨"CarvedRinksLaw", "setting", "(LCarvedRinks;I[J)I"⟩, cL_setting, 4, some .int, 8, 7, 131, 2) := rfl
theorem xe_X6_setting : xM[124]? = some (⟨"CarvedRinks", "setting", "(I)I"⟩, cX6_setting, 2, some .int, 6, 6, 110, 1) := rfl
theorem xe_L_why : xM[125]? = some (⟨"CarvedRinksLaw", "why", "(LCarvedRinks;II[J)I"⟩, cL_why, 5, some .int, 8, 7, 132, 2) := rfl
theorem xe_X6_why : xM[126]? = some (⟨"CarvedRinks", "why", "(II)I"⟩, cX6_why, 3, some .int, 6, 6, 110, 1) := rfl
theorem xe_L_ifGlided : xM[127]? = some (⟨"CarvedRinksLaw", "ifGlided", "(LCarvedRinks;IIII[J)I"⟩, cL_ifGlided, 7, some .int, 8, 7, 159, 2) := rfl
theorem xe_X6_ifGlided : xM[128]? = some (⟨"CarvedRinks", "ifGlided", "(IIII)I"⟩, cX6_ifGlided, 6, some .int, 6, 6, 134, 1) := rfl
theorem xe_L_best : xM[129]? = some (⟨"CarvedRinksLaw", "best", "(LCarvedRinks;I[J)I"⟩, cL_best, 4, some .int, 8, 7, 158, 2) := rfl
theorem xe_X6_best : xM[130]? = some (⟨"CarvedRinks", "best", "(I)I"⟩, cX6_best, 2, some .int, 6, 6, 137, 1) := rfl
theorem xe_X7_init : xM[131]? = some (⟨"CarvedRinksModel", "<init>", "()V"⟩, cX7_init, 2, none, 7, 1, 21, 0) := rfl
theorem xe_X7_of : xM[132]? = some (⟨"CarvedRinksModel", "of", "(II)I"⟩, cX7_of, 2, some .int, 7, 0, 0, 0) := rfl
theorem xe_X7_thrown : xM[133]? = some (⟨"CarvedRinksModel", "thrown", "()I"⟩, cX7_thrown, 1, some .int, 7, 0, 0, 0) := rfl
theorem xe_X7_glide : xM[134]? = some (⟨"CarvedRinksModel", "glide", "(III)I"⟩, cX7_glide, 4, some .int, 7, 10, 228, 0) := rfl
theorem xe_X7_isSkater : xM[135]? = some (⟨"CarvedRinksModel", "isSkater", "(I)Z"⟩, cX7_isSkater, 1, some .boolean, 7, 1, 22, 0) := rfl
theorem xe_X7_in : xM[136]? = some (⟨"CarvedRinksModel", "in", "(III)Z"⟩, cX7_in, 3, some .boolean, 7, 0, 0, 0) := rfl
theorem xe_X7_refused : xM[137]? = some (⟨"CarvedRinksModel", "refused", "(I)Z"⟩, cX7_refused, 2, some .boolean, 7, 0, 0, 0) := rfl
theorem xe_X7_saves : xM[138]? = some (⟨"CarvedRinksModel", "saves", "()V"⟩, cX7_saves, 2, none, 7, 0, 0, 0) := rfl
theorem xe_X7_glides : xM[139]? = some (⟨"CarvedRinksModel", "glides", "(III)I"⟩, cX7_glides, 5, some .int, 7, 9, 204, 0) := rfl
theorem xe_X7_bar : xM[140]? = some (⟨"CarvedRinksModel", "bar", "(II)I"⟩, cX7_bar, 9, some .int, 7, 6, 129, 0) := rfl
theorem xe_X7_lineFrom : xM[141]? = some (⟨"CarvedRinksModel", "lineFrom", "(III)I"⟩, cX7_lineFrom, 3, some .int, 7, 0, 0, 0) := rfl
theorem xe_X7_iceBeside : xM[142]? = some (⟨"CarvedRinksModel", "iceBeside", "(I)I"⟩, cX7_iceBeside, 2, some .int, 7, 4, 85, 0) := rfl
theorem xe_X7_beside : xM[143]? = some (⟨"CarvedRinksModel", "beside", "(IZ)I"⟩, cX7_beside, 2, some .int, 7, 3, 64, 0) := rfl
theorem xe_X7_cellAt : xM[144]? = some (⟨"CarvedRinksModel", "cellAt", "(II)I"⟩, cX7_cellAt, 2, some .int, 7, 2, 43, 0) := rfl
theorem xe_X7_isCell : xM[145]? = some (⟨"CarvedRinksModel", "isCell", "(II)Z"⟩, cX7_isCell, 2, some .boolean, 7, 1, 22, 0) := rfl
theorem xe_X7_isIce : xM[146]? = some (⟨"CarvedRinksModel", "isIce", "(I)Z"⟩, cX7_isIce, 2, some .boolean, 7, 0, 0, 0) := rfl
theorem xe_X7_toll : xM[147]? = some (⟨"CarvedRinksModel", "toll", "(II)I"⟩, cX7_toll, 4, some .int, 7, 5, 106, 0) := rfl
theorem xe_X7_steps : xM[148]? = some (⟨"CarvedRinksModel", "steps", "(II)V"⟩, cX7_steps, 6, none, 7, 8, 179, 0) := rfl
theorem xe_X7_melts : xM[149]? = some (⟨"CarvedRinksModel", "melts", "(I)V"⟩, cX7_melts, 2, none, 7, 1, 21, 0) := rfl
theorem xe_X7_isOpen : xM[150]? = some (⟨"CarvedRinksModel", "isOpen", "(I)Z"⟩, cX7_isOpen, 2, some .boolean, 7, 5, 106, 0) := rfl
theorem xe_X7_parts : xM[151]? = some (⟨"CarvedRinksModel", "parts", "(II)V"⟩, cX7_parts, 9, none, 7, 7, 151, 0) := rfl
theorem xe_X7_labels : xM[152]? = some (⟨"CarvedRinksModel", "labels", "()V"⟩, cX7_labels, 5, none, 7, 6, 127, 0) := rfl
theorem xe_X7_sizeOf : xM[153]? = some (⟨"CarvedRinksModel", "sizeOf", "(I)I"⟩, cX7_sizeOf, 4, some .int, 7, 0, 0, 0) := rfl
theorem xe_X7_thaw : xM[154]? = some (⟨"CarvedRinksModel", "thaw", "()I"⟩, cX7_thaw, 1, some .int, 7, 5, 112, 0) := rfl
theorem xe_X7_thaws : xM[155]? = some (⟨"CarvedRinksModel", "thaws", "()I"⟩, cX7_thaws, 3, some .int, 7, 4, 90, 0) := rfl
theorem xe_X7_waterBeside : xM[156]? = some (⟨"CarvedRinksModel", "waterBeside", "(I)I"⟩, cX7_waterBeside, 7, some .int, 7, 3, 64, 0) := rfl
theorem xe_X7_hole : xM[157]? = some (⟨"CarvedRinksModel", "hole", "(II)I"⟩, cX7_hole, 4, some .int, 7, 3, 64, 0) := rfl
theorem xe_X7_pay : xM[158]? = some (⟨"CarvedRinksModel", "pay", "(II)I"⟩, cX7_pay, 3, some .int, 7, 2, 42, 0) := rfl
theorem xe_X7_set : xM[159]? = some (⟨"CarvedRinksModel", "set", "(II)I"⟩, cX7_set, 4, some .int, 7, 2, 42, 0) := rfl
theorem xe_X7_isSetting : xM[160]? = some (⟨"CarvedRinksModel", "isSetting", "(I)Z"⟩, cX7_isSetting, 1, some .boolean, 7, 1, 22, 0) := rfl
theorem xe_X7_append : xM[161]? = some (⟨"CarvedRinksModel", "append", "(I)I"⟩, cX7_append, 2, some .int, 7, 1, 22, 0) := rfl
theorem xe_X7_clearBuffer : xM[162]? = some (⟨"CarvedRinksModel", "clearBuffer", "()I"⟩, cX7_clearBuffer, 2, some .int, 7, 0, 0, 0) := rfl
theorem xe_X7_firstError : xM[163]? = some (⟨"CarvedRinksModel", "firstError", "()I"⟩, cX7_firstError, 1, some .int, 7, 3, 65, 0) := rfl
theorem xe_X7_error : xM[164]? = some (⟨"CarvedRinksModel", "error", "()I"⟩, cX7_error, 3, some .int, 7, 2, 43, 0) := rfl
theorem xe_X7_isRight : xM[165]? = some (⟨"CarvedRinksModel", "isRight", "(II)Z"⟩, cX7_isRight, 2, some .boolean, 7, 1, 22, 0) := rfl
theorem xe_X7_directionOf : xM[166]? = some (⟨"CarvedRinksModel", "directionOf", "(I)I"⟩, cX7_directionOf, 1, some .int, 7, 0, 0, 0) := rfl
theorem xe_X7_play : xM[167]? = some (⟨"CarvedRinksModel", "play", "()I"⟩, cX7_play, 6, some .int, 7, 10, 228, 0) := rfl
theorem xe_X7_isWhole : xM[168]? = some (⟨"CarvedRinksModel", "isWhole", "()Z"⟩, cX7_isWhole, 1, some .boolean, 7, 3, 65, 0) := rfl
theorem xe_X7_keep : xM[169]? = some (⟨"CarvedRinksModel", "keep", "()I"⟩, cX7_keep, 2, some .int, 7, 1, 22, 0) := rfl
theorem xe_X7_ice : xM[170]? = some (⟨"CarvedRinksModel", "ice", "()I"⟩, cX7_ice, 3, some .int, 7, 0, 0, 0) := rfl
theorem xe_X7_goBack : xM[171]? = some (⟨"CarvedRinksModel", "goBack", "()I"⟩, cX7_goBack, 2, some .int, 7, 1, 22, 0) := rfl
theorem xe_X7_undo : xM[172]? = some (⟨"CarvedRinksModel", "undo", "()I"⟩, cX7_undo, 2, some .int, 7, 1, 21, 0) := rfl
theorem xe_X7_cell : xM[173]? = some (⟨"CarvedRinksModel", "cell", "(III)I"⟩, cX7_cell, 4, some .int, 7, 7, 158, 0) := rfl
theorem xe_X7_ofCell : xM[174]? = some (⟨"CarvedRinksModel", "ofCell", "(II)I"⟩, cX7_ofCell, 3, some .int, 7, 6, 136, 0) := rfl
theorem xe_X7_thawsOf : xM[175]? = some (⟨"CarvedRinksModel", "thawsOf", "(I)I"⟩, cX7_thawsOf, 5, some .int, 7, 5, 112, 0) := rfl
theorem xe_X7_putAside : xM[176]? = some (⟨"CarvedRinksModel", "putAside", "()V"⟩, cX7_putAside, 2, none, 7, 0, 0, 0) := rfl
theorem xe_X7_putBack : xM[177]? = some (⟨"CarvedRinksModel", "putBack", "()V"⟩, cX7_putBack, 2, none, 7, 0, 0, 0) := rfl
theorem xe_X7_line : xM[178]? = some (⟨"CarvedRinksModel", "line", "(IIII)I"⟩, cX7_line, 7, some .int, 7, 6, 128, 0) := rfl
theorem xe_X7_ofLine : xM[179]? = some (⟨"CarvedRinksModel", "ofLine", "(II)I"⟩, cX7_ofLine, 3, some .int, 7, 5, 106, 0) := rfl
theorem xe_X7_skater : xM[180]? = some (⟨"CarvedRinksModel", "skater", "(II)I"⟩, cX7_skater, 3, some .int, 7, 7, 151, 0) := rfl
theorem xe_X7_ofSkater : xM[181]? = some (⟨"CarvedRinksModel", "ofSkater", "(II)I"⟩, cX7_ofSkater, 3, some .int, 7, 2, 47, 0) := rfl
theorem xe_X7_ownedBy : xM[182]? = some (⟨"CarvedRinksModel", "ownedBy", "(I)I"⟩, cX7_ownedBy, 4, some .int, 7, 0, 0, 0) := rfl
theorem xe_X7_rinksOf : xM[183]? = some (⟨"CarvedRinksModel", "rinksOf", "(IZ)I"⟩, cX7_rinksOf, 5, some .int, 7, 1, 23, 0) := rfl
theorem xe_X7_rink : xM[184]? = some (⟨"CarvedRinksModel", "rink", "(II)I"⟩, cX7_rink, 4, some .int, 7, 7, 151, 0) := rfl
theorem xe_X7_lowestOf : xM[185]? = some (⟨"CarvedRinksModel", "lowestOf", "(I)I"⟩, cX7_lowestOf, 4, some .int, 7, 0, 0, 0) := rfl
theorem xe_X7_ofRink : xM[186]? = some (⟨"CarvedRinksModel", "ofRink", "(II)I"⟩, cX7_ofRink, 3, some .int, 7, 1, 23, 0) := rfl
theorem xe_X7_count : xM[187]? = some (⟨"CarvedRinksModel", "count", "(I)I"⟩, cX7_count, 2, some .int, 7, 8, 173, 0) := rfl
theorem xe_X7_counts : xM[188]? = some (⟨"CarvedRinksModel", "counts", "(I)I"⟩, cX7_counts, 2, some .int, 7, 7, 152, 0) := rfl
theorem xe_X7_rinks : xM[189]? = some (⟨"CarvedRinksModel", "rinks", "()I"⟩, cX7_rinks, 3, some .int, 7, 0, 0, 0) := rfl
theorem xe_X7_byJoining : xM[190]? = some (⟨"CarvedRinksModel", "byJoining", "()I"⟩, cX7_byJoining, 6, some .int, 7, 6, 127, 0) := rfl
theorem xe_X7_owned : xM[191]? = some (⟨"CarvedRinksModel", "owned", "()I"⟩, cX7_owned, 3, some .int, 7, 0, 0, 0) := rfl
theorem xe_X7_cuts : xM[192]? = some (⟨"CarvedRinksModel", "cuts", "()I"⟩, cX7_cuts, 3, some .int, 7, 0, 0, 0) := rfl
theorem xe_X7_greatest : xM[193]? = some (⟨"CarvedRinksModel", "greatest", "()I"⟩, cX7_greatest, 4, some .int, 7, 1, 23, 0) := rfl
theorem xe_X7_setting : xM[194]? = some (⟨"CarvedRinksModel", "setting", "(I)I"⟩, cX7_setting, 2, some .int, 7, 2, 42, 0) := rfl
theorem xe_X7_why : xM[195]? = some (⟨"CarvedRinksModel", "why", "(II)I"⟩, cX7_why, 3, some .int, 7, 7, 157, 0) := rfl
theorem xe_X7_ifGlided : xM[196]? = some (⟨"CarvedRinksModel", "ifGlided", "(IIII)I"⟩, cX7_ifGlided, 9, some .int, 7, 10, 228, 0) := rfl
theorem xe_X7_best : xM[197]? = some (⟨"CarvedRinksModel", "best", "(I)I"⟩, cX7_best, 2, some .int, 7, 10, 231, 0) := rfl
theorem xe_X7_bestOf : xM[198]? = some (⟨"CarvedRinksModel", "bestOf", "(I)I"⟩, cX7_bestOf, 8, some .int, 7, 9, 204, 0) := rfl
theorem xe_X7_calm : xM[199]? = some (⟨"CarvedRinksModel", "calm", "()I"⟩, cX7_calm, 1, some .int, 7, 6, 136, 0) := rfl
theorem xe_X7_ownedShare : xM[200]? = some (⟨"CarvedRinksModel", "ownedShare", "()D"⟩, cX7_ownedShare, 1, some .double, 7, 3, 63, 0) := rfl
theorem xe_X7_share : xM[201]? = some (⟨"CarvedRinksModel", "share", "()D"⟩, cX7_share, 1, some .double, 7, 2, 43, 0) := rfl
theorem xe_X7_ownedCells : xM[202]? = some (⟨"CarvedRinksModel", "ownedCells", "()I"⟩, cX7_ownedCells, 1, some .int, 7, 1, 23, 0) := rfl
theorem xe_X7_meanRink : xM[203]? = some (⟨"CarvedRinksModel", "meanRink", "()F"⟩, cX7_meanRink, 1, some .float, 7, 7, 151, 0) := rfl
theorem xe_X7_mean : xM[204]? = some (⟨"CarvedRinksModel", "mean", "()F"⟩, cX7_mean, 1, some .float, 7, 1, 22, 0) := rfl
theorem xe_X7_digest : xM[205]? = some (⟨"CarvedRinksModel", "digest", "()J"⟩, cX7_digest, 7, some .long, 7, 10, 231, 0) := rfl
theorem xe_Jxe99ae_doubleToLongBits_ccdee : xM[206]? = some (⟨"java/lang/Double", "doubleToLongBits", "(D)J"⟩, cJxe99ae_doubleToLongBits_ccdee, 2, some .long, 11, 1, 48, 0) := rfl
theorem xe_Jxe99ae_isNaN_b9ae7 : xM[207]? = some (⟨"java/lang/Double", "isNaN", "(D)Z"⟩, cJxe99ae_isNaN_b9ae7, 2, some .boolean, 11, 0, 0, 0) := rfl
theorem xe_Jxf58ca_floatToIntBits_5c35a : xM[208]? = some (⟨"java/lang/Float", "floatToIntBits", "(F)I"⟩, cJxf58ca_floatToIntBits_5c35a, 1, some .int, 12, 1, 48, 0) := rfl
theorem xe_Jxf58ca_isNaN_12338 : xM[209]? = some (⟨"java/lang/Float", "isNaN", "(F)Z"⟩, cJxf58ca_isNaN_12338, 1, some .boolean, 12, 0, 0, 0) := rfl
theorem xe_L_law : xM[210]? = some (⟨"CarvedRinksLaw", "law", "([I)Z"⟩, cL_law, 9, some .boolean, 8, 11, 257, 3) := rfl
/-- a method's code word by its place -/
def xMpl : List (Nat × Nat) := [(0, 83), (1, 91), (2, 99), (3, 182), (4, 202), (5, 217), (6, 248), (7, 252), (8, 256), (9, 263), (10, 267), (11, 270), (12, 274), (13, 277), (14, 280), (15, 284), (16, 289), (17, 292), (18, 299), (19, 303), (20, 307), (21, 310), (22, 313), (23, 317), (24, 322), (25, 326), (26, 330), (27, 334), (28, 338), (29, 342), (30, 346), (31, 350), (32, 354), (33, 357), (34, 361), (35, 369), (36, 375), (37, 379), (38, 383), (39, 386), (40, 389), (41, 392), (42, 395), (43, 400), (44, 406), (45, 409), (46, 415), (47, 420), (48, 423), (49, 427), (50, 431), (51, 435), (52, 440), (53, 444), (54, 448), (55, 452), (56, 457), (57, 461), (58, 465), (59, 468), (60, 471), (61, 474), (62, 478), (63, 484), (64, 488), (65, 492), (66, 497), (67, 502), (68, 506), (69, 511), (70, 515), (71, 519), (72, 524), (73, 528), (74, 532), (75, 536), (76, 540), (77, 547), (78, 551), (79, 557), (80, 561), (81, 565), (82, 571), (84, 580), (85, 583), (86, 654), (87, 657), (88, 677), (90, 687), (92, 713), (94, 722), (95, 725), (96, 729), (97, 732), (99, 740), (100, 745), (101, 750), (103, 757), (104, 761), (105, 766), (107, 775), (109, 783), (110, 788), (112, 795), (114, 803), (115, 806), (117, 815), (119, 822), (120, 827), (122, 834), (124, 841), (126, 848), (128, 856), (130, 864), (131, 869), (132, 873), (133, 918), (134, 922), (135, 925), (136, 928), (137, 932), (138, 936), (139, 940), (140, 944), (141, 947), (142, 951), (143, 954), (144, 957), (145, 960), (146, 964), (147, 968), (148, 972), (149, 976), (150, 980), (151, 984), (152, 988), (153, 992), (154, 996), (155, 1000), (156, 1004), (157, 1008), (158, 1012), (159, 1016), (160, 1019), (161, 1023), (162, 1027), (163, 1031), (164, 1035), (165, 1038), (166, 1041), (167, 1045), (168, 1049), (169, 1053), (170, 1057), (171, 1061), (172, 1065), (173, 1069), (174, 1073), (175, 1077), (176, 1081), (177, 1085), (178, 1089), (179, 1093), (180, 1097), (181, 1101), (182, 1105), (183, 1109), (184, 1113), (185, 1117), (186, 1121), (187, 1125), (188, 1129), (189, 1133), (190, 1137), (191, 1141), (192, 1145), (193, 1149), (194, 1153), (195, 1157), (196, 1161), (197, 1165), (198, 1169), (199, 1173), (200, 1177), (201, 1181), (202, 1185), (203, 1189), (204, 1193), (205, 1197), (206, 1202), (207, 1205), (208, 1212), (209, 1215)]
def xfind {α : Type} : List ((Nat × Nat) × α) → Nat → Nat → Option α
  | [], _, _ => none
  | e :: l, o, i => if e.1.1 = o ∧ e.1.2 = i then some e.2 else xfind l o i
def xFL : List ((Nat × Nat) × (Nat × Nat × Nat)) := [((6, 10), (5, 0, 223)), ((6, 16), (5, 1, 224)), ((6, 19), (5, 2, 225)), ((6, 25), (5, 3, 226)), ((6, 32), (5, 4, 227)), ((6, 39), (5, 5, 228)), ((6, 43), (5, 6, 229)), ((6, 106), (1, 9, 156)), ((6, 112), (1, 5, 148)), ((6, 116), (4, 2, 109)), ((6, 135), (1, 4, 146)), ((6, 151), (0, 1, 207)), ((6, 174), (3, 2, 190)), ((6, 230), (4, 4, 114)), ((6, 289), (1, 0, 138)), ((6, 298), (1, 3, 144)), ((6, 307), (4, 0, 103)), ((6, 310), (4, 1, 106)), ((6, 319), (4, 3, 111)), ((6, 322), (4, 5, 117)), ((6, 331), (1, 1, 140)), ((6, 334), (1, 2, 142)), ((6, 337), (1, 6, 150)), ((6, 340), (1, 7, 152)), ((6, 343), (1, 8, 154)), ((6, 359), (0, 0, 205)), ((0, 11), (0, 0, 204)), ((0, 15), (0, 1, 206)), ((2, 11), (1, 0, 136)), ((2, 17), (1, 1, 139)), ((2, 20), (1, 2, 141)), ((2, 23), (1, 3, 143)), ((2, 27), (1, 4, 145)), ((2, 35), (1, 5, 147)), ((2, 39), (1, 6, 149)), ((2, 43), (1, 7, 151)), ((2, 46), (1, 8, 153)), ((2, 49), (1, 9, 155)), ((2, 69), (4, 0, 102)), ((2, 72), (4, 1, 105)), ((2, 100), (4, 2, 108)), ((2, 131), (4, 6, 119)), ((2, 134), (4, 4, 113)), ((2, 137), (4, 5, 116)), ((3, 9), (2, 0, 219)), ((3, 27), (1, 0, 137)), ((4, 11), (3, 0, 187)), ((4, 16), (3, 1, 188)), ((4, 20), (3, 2, 189)), ((5, 9), (4, 0, 101)), ((5, 15), (4, 1, 104)), ((5, 18), (4, 2, 107)), ((5, 21), (4, 3, 110)), ((5, 24), (4, 4, 112)), ((5, 27), (4, 5, 115)), ((5, 30), (4, 6, 118)), ((7, 7), (6, 0, 874)), ((7, 13), (6, 1, 875)), ((7, 16), (6, 2, 876)), ((7, 19), (6, 4, 878)), ((7, 22), (6, 6, 880)), ((7, 25), (6, 9, 883)), ((7, 28), (6, 10, 884)), ((7, 31), (6, 11, 885)), ((7, 39), (6, 8, 882)), ((7, 47), (6, 3, 877)), ((7, 121), (6, 7, 881)), ((7, 130), (6, 12, 886)), ((7, 140), (6, 5, 879))]
def xNL : List ((Nat × Nat) × (Nat × Nat)) := [((6, 7), (1, 87)), ((6, 22), (3, 178)), ((6, 29), (0, 198)), ((6, 36), (2, 213)), ((2, 30), (4, 94)), ((4, 9), (1, 184)), ((8, 8), (5, 79)), ((8, 72), (6, 865))]
def xXL : List ((Nat × Nat) × (Nat × Nat)) := [((6, 51), (0, 584)), ((6, 64), (1, 658)), ((6, 91), (2, 690))]
def xKL : List ((Nat × Nat) × (Value × Nat)) := [((6, 243), (.long (3727), 370)), ((6, 245), (.long (31), 371)), ((6, 293), (.long (-1), 271)), ((6, 362), (.double 4611686018427387904, 566)), ((6, 364), (.long (-72340172838076674), 285)), ((6, 366), (.long (9187201950435737471), 281)), ((2, 9), (.long (-1), 93)), ((3, 56), (.long (-1), 417)), ((7, 209), (.long (3727), 1198)), ((7, 211), (.long (31), 1199)), ((11, 137), (.long (9221120237041090560), 1209)), ((12, 77), (.int (2143289344), 1219)), ((9, 314), (.long (6148914691236517205), 293)), ((9, 316), (.long (3689348814741910323), 294)), ((9, 318), (.long (1085102592571150095), 295))]
def xCL0 : List ((Nat × Nat) × (Nat × Nat × Nat × Nat × Nat × Nat × Nat)) := [((6, 1), (4, 0, 0, 84, 85, 86, 0)), ((6, 9), (2, 1, 0, 89, 90, 61, 0)), ((6, 24), (2, 3, 0, 180, 181, 63, 0)), ((6, 31), (2, 4, 0, 200, 201, 64, 0)), ((6, 38), (2, 5, 0, 215, 216, 65, 0)), ((6, 47), (0, 85, 1, 581, 582, 60, 0)), ((6, 58), (0, 86, 1, 652, 653, 60, 0)), ((6, 61), (0, 87, 1, 655, 656, 60, 0)), ((6, 69), (1, 7, 1, 249, 250, 251, 63)), ((6, 73), (1, 88, 3, 674, 675, 676, 61)), ((6, 77), (1, 10, 0, 264, 265, 266, 61)), ((6, 81), (0, 41, 2, 688, 391, 60, 0)), ((6, 87), (1, 54, 1, 445, 446, 447, 61)), ((6, 96), (1, 55, 1, 449, 450, 451, 61)), ((6, 100), (1, 16, 1, 706, 287, 288, 61)), ((6, 121), (0, 95, 1, 723, 724, 60, 0)), ((6, 126), (0, 96, 1, 727, 728, 60, 0)), ((6, 130), (0, 97, 1, 730, 731, 60, 0)), ((6, 141), (1, 100, 0, 742, 743, 744, 64)), ((6, 147), (1, 101, 1, 747, 748, 749, 64)), ((6, 154), (1, 20, 0, 304, 305, 306, 64)), ((6, 157), (1, 104, 0, 758, 759, 760, 64)), ((6, 162), (1, 105, 1, 763, 764, 765, 64)), ((6, 166), (1, 8, 1, 318, 254, 255, 61)), ((6, 169), (1, 24, 0, 319, 320, 321, 61)), ((6, 179), (1, 110, 1, 785, 786, 787, 63)), ((6, 184), (1, 53, 2, 441, 443, 6, 60)), ((6, 188), (0, 59, 3, 466, 467, 73, 0)), ((6, 193), (0, 115, 2, 804, 805, 60, 0)), ((6, 201), (1, 62, 2, 475, 477, 8, 60)), ((6, 205), (1, 64, 2, 485, 487, 10, 60)), ((6, 210), (1, 120, 1, 824, 825, 826, 61)), ((6, 214), (1, 80, 2, 558, 560, 18, 60)), ((6, 217), (1, 36, 1, 372, 374, 2, 60)), ((6, 222), (1, 68, 2, 503, 504, 505, 61)), ((6, 227), (1, 65, 0, 489, 490, 491, 62)), ((6, 233), (1, 31, 0, 347, 348, 349, 61)), ((6, 236), (1, 73, 1, 525, 527, 13, 60)), ((6, 239), (1, 26, 0, 327, 328, 329, 61)), ((6, 242), (1, 28, 0, 335, 336, 337, 61)), ((6, 247), (1, 52, 1, 437, 439, 5, 60)), ((6, 251), (1, 58, 1, 462, 464, 7, 60)), ((6, 254), (1, 63, 1, 481, 483, 9, 60)), ((6, 257), (1, 79, 1, 554, 556, 17, 60)), ((6, 260), (1, 27, 0, 562, 332, 333, 60)), ((6, 264), (0, 81, 3, 563, 564, 60, 0)), ((6, 268), (1, 30, 0, 567, 344, 345, 60)), ((6, 272), (1, 82, 1, 568, 570, 19, 60)), ((6, 275), (1, 34, 1, 453, 359, 360, 61)), ((6, 278), (0, 45, 1, 454, 408, 60, 0)), ((6, 281), (0, 17, 1, 411, 291, 74, 0)), ((6, 286), (0, 56, 1, 455, 456, 60, 0)), ((6, 295), (1, 57, 1, 458, 459, 460, 61)), ((6, 301), (1, 43, 1, 479, 398, 399, 61)), ((6, 304), (0, 38, 1, 480, 382, 73, 0)), ((6, 313), (1, 66, 1, 494, 495, 496, 61)), ((6, 316), (1, 67, 1, 499, 500, 501, 61)), ((6, 325), (1, 37, 1, 376, 377, 378, 65)), ((6, 328), (1, 49, 0, 424, 425, 426, 61)), ((6, 346), (1, 50, 0, 428, 429, 430, 61))]
def xCL1 : List ((Nat × Nat) × (Nat × Nat × Nat × Nat × Nat × Nat × Nat)) := [((6, 349), (1, 51, 0, 432, 433, 434, 61)), ((6, 352), (1, 74, 2, 529, 530, 531, 61)), ((6, 356), (0, 33, 1, 410, 356, 60, 0)), ((6, 368), (0, 13, 1, 275, 276, 60, 0)), ((6, 371), (0, 14, 1, 278, 279, 60, 0)), ((6, 374), (0, 12, 1, 272, 273, 60, 0)), ((6, 377), (0, 15, 1, 282, 283, 60, 0)), ((0, 3), (4, 0, 0, 203, 85, 86, 0)), ((0, 19), (0, 21, 2, 308, 309, 64, 0)), ((0, 23), (1, 10, 0, 767, 265, 266, 61)), ((0, 29), (0, 22, 1, 311, 312, 64, 0)), ((0, 33), (1, 88, 3, 768, 675, 676, 61)), ((1, 9), (0, 60, 2, 469, 470, 73, 0)), ((1, 15), (0, 61, 2, 472, 473, 73, 0)), ((1, 18), (0, 40, 1, 387, 388, 73, 0)), ((1, 22), (3, 41, 2, 390, 391, 60, 0)), ((1, 26), (0, 39, 1, 384, 385, 73, 0)), ((1, 30), (0, 42, 1, 393, 394, 73, 0)), ((2, 3), (4, 0, 0, 92, 85, 86, 0)), ((2, 32), (2, 2, 2, 97, 98, 62, 0)), ((2, 52), (5, 0, 5, 257, 259, 258, 0)), ((2, 58), (1, 9, 1, 260, 261, 262, 62)), ((2, 62), (1, 68, 2, 678, 504, 505, 61)), ((2, 66), (1, 74, 2, 679, 530, 531, 61)), ((2, 75), (0, 59, 3, 507, 467, 73, 0)), ((2, 81), (1, 69, 1, 508, 509, 510, 62)), ((2, 85), (1, 70, 1, 512, 513, 514, 62)), ((2, 88), (1, 71, 2, 516, 518, 11, 61)), ((2, 92), (0, 38, 1, 520, 382, 73, 0)), ((2, 96), (1, 72, 2, 521, 523, 12, 61)), ((2, 103), (1, 75, 2, 533, 535, 14, 61)), ((2, 107), (1, 76, 1, 537, 538, 539, 62)), ((2, 111), (1, 16, 1, 286, 287, 288, 61)), ((2, 115), (0, 17, 1, 290, 291, 74, 0)), ((2, 121), (1, 43, 1, 543, 398, 399, 61)), ((2, 125), (1, 77, 1, 544, 546, 15, 61)), ((2, 128), (1, 78, 2, 548, 550, 16, 61)), ((2, 140), (0, 40, 1, 401, 388, 73, 0)), ((2, 143), (0, 42, 1, 402, 394, 73, 0)), ((2, 146), (0, 39, 1, 552, 385, 73, 0)), ((2, 149), (1, 34, 1, 358, 359, 360, 61)), ((2, 153), (1, 55, 1, 498, 450, 451, 61)), ((2, 156), (3, 45, 1, 553, 408, 60, 0)), ((2, 159), (3, 11, 2, 268, 269, 60, 0)), ((2, 163), (3, 12, 1, 362, 273, 60, 0)), ((2, 166), (3, 14, 1, 363, 279, 60, 0)), ((2, 169), (3, 13, 1, 364, 276, 60, 0)), ((2, 172), (3, 15, 1, 365, 283, 60, 0)), ((2, 175), (3, 33, 1, 355, 356, 60, 0)), ((2, 178), (1, 32, 1, 351, 353, 1, 61)), ((2, 181), (1, 29, 0, 339, 341, 0, 61)), ((2, 185), (8, 0, 2, 436, 419, 420, 0)), ((3, 3), (4, 0, 0, 218, 85, 86, 0)), ((3, 15), (1, 24, 0, 380, 320, 321, 61)), ((3, 21), (0, 38, 1, 381, 382, 73, 0)), ((3, 31), (0, 17, 1, 396, 291, 74, 0)), ((3, 37), (1, 43, 1, 397, 398, 399, 61)), ((3, 41), (1, 44, 1, 403, 405, 3, 65)), ((3, 45), (3, 45, 1, 407, 408, 60, 0)), ((3, 48), (1, 46, 1, 412, 414, 4, 65))]
def xCL2 : List ((Nat × Nat) × (Nat × Nat × Nat × Nat × Nat × Nat × Nat)) := [((3, 52), (3, 33, 1, 416, 356, 60, 0)), ((3, 58), (8, 0, 2, 418, 419, 420, 0)), ((3, 64), (9, 0, 2, 421, 422, 423, 0)), ((4, 1), (4, 0, 0, 183, 85, 86, 0)), ((4, 15), (2, 1, 0, 186, 90, 61, 0)), ((4, 23), (1, 8, 1, 253, 254, 255, 61)), ((5, 3), (4, 0, 0, 100, 85, 86, 0)), ((5, 34), (0, 17, 1, 493, 291, 74, 0)), ((5, 40), (1, 69, 1, 541, 509, 510, 62)), ((5, 44), (1, 70, 1, 542, 513, 514, 62)), ((8, 7), (10, 84, 3, 577, 578, 579, 60)), ((8, 17), (10, 90, 2, 684, 685, 686, 60)), ((8, 23), (10, 92, 2, 710, 711, 712, 60)), ((8, 26), (10, 94, 2, 719, 720, 721, 60)), ((8, 29), (10, 99, 1, 737, 738, 739, 60)), ((8, 33), (10, 103, 0, 754, 755, 756, 60)), ((8, 37), (10, 107, 0, 772, 773, 774, 60)), ((8, 40), (10, 109, 0, 780, 781, 782, 60)), ((8, 43), (10, 112, 3, 792, 793, 794, 60)), ((8, 46), (10, 114, 4, 800, 801, 802, 60)), ((8, 50), (10, 117, 2, 812, 813, 814, 60)), ((8, 53), (10, 119, 2, 819, 820, 821, 60)), ((8, 56), (10, 122, 1, 831, 832, 833, 60)), ((8, 59), (10, 124, 1, 838, 839, 840, 60)), ((8, 62), (10, 126, 2, 845, 846, 847, 60)), ((8, 65), (10, 128, 4, 853, 854, 855, 60)), ((8, 68), (10, 130, 1, 861, 862, 863, 60)), ((8, 71), (2, 0, 0, 81, 82, 60, 0)), ((8, 74), (2, 131, 0, 867, 868, 66, 0)), ((8, 75), (11, 83, 5, 572, 573, 59, 0)), ((8, 80), (1, 134, 3, 919, 920, 921, 66)), ((8, 81), (1, 133, 0, 915, 916, 917, 66)), ((8, 84), (1, 6, 0, 245, 246, 247, 60)), ((8, 87), (1, 154, 0, 993, 994, 995, 66)), ((8, 88), (11, 89, 4, 680, 681, 59, 0)), ((8, 91), (1, 157, 2, 1005, 1006, 1007, 66)), ((8, 92), (11, 91, 4, 707, 708, 59, 0)), ((8, 94), (1, 158, 2, 1009, 1010, 1011, 66)), ((8, 95), (11, 93, 4, 716, 717, 59, 0)), ((8, 97), (1, 159, 2, 1013, 1014, 1015, 66)), ((8, 98), (11, 98, 3, 734, 735, 59, 0)), ((8, 101), (1, 161, 1, 1020, 1021, 1022, 66)), ((8, 102), (1, 18, 0, 296, 297, 298, 60)), ((8, 105), (1, 162, 0, 1024, 1025, 1026, 66)), ((8, 106), (1, 19, 0, 300, 301, 302, 60)), ((8, 109), (1, 163, 0, 1028, 1029, 1030, 66)), ((8, 110), (11, 102, 2, 751, 752, 59, 0)), ((8, 113), (1, 167, 0, 1042, 1043, 1044, 66)), ((8, 114), (1, 23, 0, 314, 315, 316, 60)), ((8, 117), (1, 169, 0, 1050, 1051, 1052, 66)), ((8, 118), (11, 106, 2, 769, 770, 59, 0)), ((8, 120), (1, 171, 0, 1058, 1059, 1060, 66)), ((8, 121), (11, 108, 2, 777, 778, 59, 0)), ((8, 123), (1, 172, 0, 1062, 1063, 1064, 66)), ((8, 124), (11, 111, 5, 789, 790, 59, 0)), ((8, 126), (1, 173, 3, 1066, 1067, 1068, 66)), ((8, 127), (11, 113, 6, 797, 798, 59, 0)), ((8, 130), (1, 178, 4, 1086, 1087, 1088, 66)), ((8, 131), (11, 116, 4, 809, 810, 59, 0)), ((8, 133), (1, 180, 2, 1094, 1095, 1096, 66))]
def xCL3 : List ((Nat × Nat) × (Nat × Nat × Nat × Nat × Nat × Nat × Nat)) := [((8, 134), (11, 118, 4, 816, 817, 59, 0)), ((8, 136), (1, 184, 2, 1110, 1111, 1112, 66)), ((8, 137), (11, 121, 3, 828, 829, 59, 0)), ((8, 139), (1, 187, 1, 1122, 1123, 1124, 66)), ((8, 140), (11, 123, 3, 835, 836, 59, 0)), ((8, 142), (1, 194, 1, 1150, 1151, 1152, 66)), ((8, 143), (11, 125, 4, 842, 843, 59, 0)), ((8, 145), (1, 195, 2, 1154, 1155, 1156, 66)), ((8, 146), (11, 127, 6, 850, 851, 59, 0)), ((8, 148), (1, 196, 4, 1158, 1159, 1160, 66)), ((8, 149), (11, 129, 3, 858, 859, 59, 0)), ((8, 151), (1, 197, 1, 1162, 1163, 1164, 66)), ((8, 152), (1, 25, 0, 323, 324, 325, 60)), ((8, 155), (1, 199, 0, 1170, 1171, 1172, 66)), ((8, 156), (1, 27, 0, 331, 332, 333, 60)), ((8, 160), (1, 200, 0, 1174, 1175, 1176, 66)), ((8, 161), (1, 30, 0, 343, 344, 345, 60)), ((8, 165), (1, 203, 0, 1186, 1187, 1188, 66)), ((8, 166), (1, 35, 0, 366, 367, 368, 60)), ((8, 170), (1, 205, 0, 1194, 1195, 1196, 66)), ((7, 1), (4, 0, 0, 870, 85, 86, 0)), ((7, 35), (0, 132, 2, 871, 872, 66, 0)), ((7, 43), (0, 136, 3, 926, 927, 66, 0)), ((7, 50), (0, 145, 2, 958, 959, 66, 0)), ((7, 54), (0, 144, 2, 955, 956, 66, 0)), ((7, 57), (0, 143, 2, 952, 953, 66, 0)), ((7, 61), (1, 146, 1, 961, 963, 26, 66)), ((7, 65), (1, 142, 1, 948, 950, 25, 66)), ((7, 69), (1, 150, 1, 977, 979, 30, 66)), ((7, 72), (0, 141, 3, 945, 946, 66, 0)), ((7, 76), (1, 147, 2, 965, 967, 27, 66)), ((7, 79), (1, 152, 0, 985, 987, 32, 66)), ((7, 82), (1, 153, 1, 989, 991, 33, 66)), ((7, 85), (1, 149, 1, 973, 975, 29, 66)), ((7, 89), (1, 151, 2, 981, 983, 31, 66)), ((7, 93), (1, 140, 2, 941, 943, 24, 66)), ((7, 96), (1, 148, 2, 969, 971, 28, 66)), ((7, 99), (0, 135, 1, 923, 924, 66, 0)), ((7, 102), (1, 137, 1, 929, 931, 21, 66)), ((7, 105), (1, 138, 0, 933, 935, 22, 66)), ((7, 108), (1, 139, 3, 937, 939, 23, 66)), ((7, 111), (1, 156, 1, 1001, 1003, 35, 66)), ((7, 114), (1, 155, 0, 997, 999, 34, 66)), ((7, 118), (0, 160, 1, 1017, 1018, 66, 0)), ((7, 124), (0, 166, 1, 1039, 1040, 66, 0)), ((7, 127), (0, 165, 2, 1036, 1037, 66, 0)), ((7, 133), (1, 164, 0, 1032, 1034, 36, 66)), ((7, 136), (1, 168, 0, 1046, 1048, 37, 66)), ((7, 144), (1, 170, 0, 1054, 1056, 38, 66)), ((7, 147), (1, 176, 0, 1078, 1080, 41, 66)), ((7, 150), (1, 177, 0, 1082, 1084, 42, 66)), ((7, 153), (1, 175, 1, 1074, 1076, 40, 66)), ((7, 156), (1, 174, 2, 1070, 1072, 39, 66)), ((7, 159), (1, 179, 2, 1090, 1092, 43, 66)), ((7, 162), (1, 182, 1, 1102, 1104, 45, 66)), ((7, 165), (1, 183, 2, 1106, 1108, 46, 66)), ((7, 168), (1, 181, 2, 1098, 1100, 44, 66)), ((7, 171), (1, 185, 1, 1114, 1116, 47, 66)), ((7, 174), (1, 186, 2, 1118, 1120, 48, 66)), ((7, 177), (1, 189, 0, 1130, 1132, 50, 66))]
def xCL4 : List ((Nat × Nat) × (Nat × Nat × Nat × Nat × Nat × Nat × Nat)) := [((7, 180), (1, 190, 0, 1134, 1136, 51, 66)), ((7, 183), (1, 191, 0, 1138, 1140, 52, 66)), ((7, 186), (1, 192, 0, 1142, 1144, 53, 66)), ((7, 189), (1, 193, 0, 1146, 1148, 54, 66)), ((7, 192), (1, 188, 1, 1126, 1128, 49, 66)), ((7, 195), (1, 198, 1, 1166, 1168, 55, 66)), ((7, 198), (1, 202, 0, 1182, 1184, 57, 66)), ((7, 201), (1, 201, 0, 1178, 1180, 56, 66)), ((7, 205), (1, 204, 0, 1190, 1192, 58, 66)), ((7, 213), (0, 206, 1, 1200, 1201, 77, 0)), ((7, 219), (0, 208, 1, 1210, 1211, 78, 0)), ((11, 122), (0, 207, 1, 1203, 1204, 77, 0)), ((11, 134), (6, 0, 1, 1206, 1208, 1207, 0)), ((12, 59), (0, 209, 1, 1213, 1214, 78, 0)), ((12, 74), (7, 0, 1, 1216, 1218, 1217, 0))]
def xCL : List ((Nat × Nat) × (Nat × Nat × Nat × Nat × Nat × Nat × Nat)) := xCL0 ++ (xCL1 ++ (xCL2 ++ (xCL3 ++ (xCL4))))
def xNest : List Cond := [(Jvm.Cond.methodLinkNest "CarvedRinks$Pond" (159 : Nat) ({ cls := "CarvedRinks", name := "thawingCells", desc := "(JI)J" } : Jvm.MethodName) "CarvedRinks"), (Jvm.Cond.methodLinkNest "CarvedRinks$Pond" (175 : Nat) ({ cls := "CarvedRinks", name := "lowestBit", desc := "(J)J" } : Jvm.MethodName) "CarvedRinks"), (Jvm.Cond.methodLinkNest "CarvedRinks$Pond" (163 : Nat) ({ cls := "CarvedRinks", name := "southOf", desc := "(J)J" } : Jvm.MethodName) "CarvedRinks"), (Jvm.Cond.methodLinkNest "CarvedRinks$Pond" (166 : Nat) ({ cls := "CarvedRinks", name := "eastOf", desc := "(J)J" } : Jvm.MethodName) "CarvedRinks"), (Jvm.Cond.methodLinkNest "CarvedRinks$Pond" (169 : Nat) ({ cls := "CarvedRinks", name := "northOf", desc := "(J)J" } : Jvm.MethodName) "CarvedRinks"), (Jvm.Cond.methodLinkNest "CarvedRinks$Pond" (172 : Nat) ({ cls := "CarvedRinks", name := "westOf", desc := "(J)J" } : Jvm.MethodName) "CarvedRinks"), (Jvm.Cond.methodLinkNest "CarvedRinks$Lines" (22 : Nat) ({ cls := "CarvedRinks", name := "cellBit", desc := "(II)J" } : Jvm.MethodName) "CarvedRinks"), (Jvm.Cond.methodLinkNest "CarvedRinks$RinkJoiner" (45 : Nat) ({ cls := "CarvedRinks", name := "lowestOf", desc := "(J)I" } : Jvm.MethodName) "CarvedRinks"), (Jvm.Cond.methodLinkNest "CarvedRinks$RinkJoiner" (52 : Nat) ({ cls := "CarvedRinks", name := "lowestBit", desc := "(J)J" } : Jvm.MethodName) "CarvedRinks"), (Jvm.Cond.methodLinkNest "CarvedRinks$Pond" (156 : Nat) ({ cls := "CarvedRinks", name := "lowestOf", desc := "(J)I" } : Jvm.MethodName) "CarvedRinks")]
def xHL : List (Nat × List (Nat × Nat × Nat × Nat × Nat)) := [(83, [(0, 12, 15, 13, 0), (0, 12, 19, 15, 1)]), (89, [(0, 10, 13, 13, 0), (0, 10, 17, 21, 2)]), (91, [(0, 10, 13, 13, 0), (0, 10, 17, 15, 1), (0, 10, 21, 21, 2)]), (93, [(0, 10, 13, 13, 0), (0, 10, 17, 15, 1)]), (98, [(0, 9, 12, 15, 1), (0, 9, 15, 21, 2)]), (102, [(0, 8, 11, 15, 1)]), (106, [(0, 8, 11, 21, 2)]), (108, [(0, 8, 11, 21, 2)]), (111, [(0, 12, 15, 13, 0), (0, 12, 19, 15, 1)]), (113, [(0, 14, 17, 13, 0), (0, 14, 21, 15, 1)]), (116, [(0, 10, 13, 13, 0), (0, 10, 17, 15, 1)]), (118, [(0, 10, 13, 13, 0), (0, 10, 17, 15, 1)]), (121, [(0, 9, 12, 15, 1)]), (123, [(0, 9, 12, 13, 0)]), (125, [(0, 10, 13, 13, 0), (0, 10, 17, 15, 1)]), (127, [(0, 14, 17, 13, 0), (0, 14, 21, 15, 1)]), (129, [(0, 9, 12, 13, 0)])]
