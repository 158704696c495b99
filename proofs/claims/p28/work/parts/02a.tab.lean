/-! ===== tables of an interpreter of this claim's bytecode: by program (wip/tools/gen_tab2.py) out of tables_1; a number p is the place of a word in lw_tbl ===== -/
abbrev xMe : Type := MethodName × ByteArray × Nat × Option FieldType × Nat × Nat × Nat × Nat
def xcnL : List String := ["CarvedRinks$GlideText", "CarvedRinks$Lines", "CarvedRinks$Pond", "CarvedRinks$RinkJoiner", "CarvedRinks$SavedPonds", "CarvedRinks$Skater", "CarvedRinks", "CarvedRinksModel", "CarvedRinksLaw", "java/lang/Long", "java/lang/Math", "java/lang/Double", "java/lang/Float"]
def xcn (o : Nat) : String := xcnL.getD o ""
/-- the words that the interpreter stands on -/
def xWS : List Cond := lw_tbl.filter goodWord
def xM0 : List xMe := [(⟨"CarvedRinks", "<init>", "()V"⟩, cX6_init, 1, none, 6, 4, 83, 0),
  (⟨"CarvedRinks$Pond", "<init>", "()V"⟩, cX2_init, 1, none, 2, 2, 42, 0),
  (⟨"CarvedRinks$Skater", "<init>", "(II)V"⟩, cX5_init, 3, none, 5, 1, 20, 0),
  (⟨"CarvedRinks$SavedPonds", "<init>", "()V"⟩, cX4_init, 2, none, 4, 3, 62, 0),
  (⟨"CarvedRinks$GlideText", "<init>", "()V"⟩, cX0_init, 1, none, 0, 1, 20, 0),
  (⟨"CarvedRinks$RinkJoiner", "<init>", "()V"⟩, cX3_init, 1, none, 3, 1, 20, 0),
  (⟨"CarvedRinks", "clearBuffer", "()I"⟩, cX6_clearBuffer, 2, some .int, 6, 0, 0, 0),
  (⟨"CarvedRinks", "firstError", "()I"⟩, cX6_firstError, 1, some .int, 6, 3, 63, 0),
  (⟨"CarvedRinks$GlideText", "errorIndex", "()I"⟩, cX0_errorIndex, 3, some .int, 0, 2, 41, 0),
  (⟨"CarvedRinks$GlideText", "placeBehind", "(II)I"⟩, cX0_placeBehind, 2, some .int, 0, 1, 20, 0),
  (⟨"CarvedRinks$GlideText", "directionOf", "(I)I"⟩, cX0_directionOf, 1, some .int, 0, 0, 0, 0),
  (⟨"CarvedRinks", "calm", "()I"⟩, cX6_calm, 1, some .int, 6, 3, 86, 0),
  (⟨"CarvedRinks$Pond", "thawsUntilCalm", "()I"⟩, cX2_thawsUntilCalm, 6, some .int, 2, 2, 61, 0),
  (⟨"CarvedRinks", "thawingCells", "(JI)J"⟩, cX6_thawingCells, 21, some .long, 6, 1, 21, 0),
  (⟨"CarvedRinks", "southOf", "(J)J"⟩, cX6_southOf, 2, some .long, 6, 0, 0, 0),
  (⟨"CarvedRinks", "northOf", "(J)J"⟩, cX6_northOf, 2, some .long, 6, 0, 0, 0),
  (⟨"CarvedRinks", "eastOf", "(J)J"⟩, cX6_eastOf, 2, some .long, 6, 0, 0, 0),
  (⟨"CarvedRinks", "westOf", "(J)J"⟩, cX6_westOf, 2, some .long, 6, 0, 0, 0),
  (⟨"CarvedRinks", "digest", "()J"⟩, cX6_digest, 4, some .long, 6, 6, 163, 0),
  (⟨"CarvedRinks", "stateNumber", "(I)I"⟩, cX6_stateNumber, 2, some .int, 6, 4, 98, 0),
  (⟨"CarvedRinks$Pond", "iceCells", "()I"⟩, cX2_iceCells, 1, some .int, 2, 1, 21, 0),
  (⟨"java/lang/Long", "bitCount", "(J)I"⟩, cJ13_bitCount_95d88, 2, some .int, 9, 0, 0, 0),
  (⟨"CarvedRinks$Pond", "rinksByGoing", "()I"⟩, cX2_rinksByGoing, 1, some .int, 2, 3, 78, 0),
  (⟨"CarvedRinks$Pond", "rinksWithin", "(J)I"⟩, cX2_rinksWithin, 7, some .int, 2, 2, 52, 0),
  (⟨"CarvedRinks", "lowestBit", "(J)J"⟩, cX6_lowestBit, 2, some .long, 6, 0, 0, 0),
  (⟨"CarvedRinks$Pond", "rinkOf", "(J)J"⟩, cX2_rinkOf, 12, some .long, 2, 1, 21, 0),
  (⟨"CarvedRinks$RinkJoiner", "rinksByJoining", "(LCarvedRinks$Pond;)I"⟩, cX3_rinksByJoining, 6, some .int, 3, 3, 72, 0),
  (⟨"CarvedRinks$Lines", "cellsAt", "(I)J"⟩, cX1_cellsAt, 1, some .long, 1, 2, 43, 0),
  (⟨"CarvedRinks$Lines", "lowerCell", "(I)J"⟩, cX1_lowerCell, 2, some .long, 1, 1, 22, 0),
  (⟨"CarvedRinks$Lines", "leadsEast", "(I)Z"⟩, cX1_leadsEast, 1, some .boolean, 1, 0, 0, 0)]
def xM1 : List xMe := [(⟨"CarvedRinks", "cellBit", "(II)J"⟩, cX6_cellBit, 3, some .long, 6, 0, 0, 0),
  (⟨"CarvedRinks$Lines", "higherCell", "(I)J"⟩, cX1_higherCell, 2, some .long, 1, 1, 22, 0),
  (⟨"CarvedRinks$Pond", "isCut", "(I)Z"⟩, cX2_isCut, 4, some .boolean, 2, 2, 43, 0),
  (⟨"CarvedRinks$RinkJoiner", "join", "(J)Z"⟩, cX3_join, 5, some .boolean, 3, 2, 48, 0),
  (⟨"CarvedRinks", "lowestOf", "(J)I"⟩, cX6_lowestOf, 2, some .int, 6, 1, 21, 0),
  (⟨"CarvedRinks$RinkJoiner", "lowestJoined", "(I)I"⟩, cX3_lowestJoined, 4, some .int, 3, 0, 0, 0),
  (⟨"java/lang/Math", "max", "(II)I"⟩, cJ9_max_7cf53, 2, some .int, 10, 0, 0, 9),
  (⟨"java/lang/Math", "min", "(II)I"⟩, cJ9_min_7cf53, 2, some .int, 10, 0, 0, 9),
  (⟨"CarvedRinks$Pond", "rinksOwned", "()I"⟩, cX2_rinksOwned, 1, some .int, 2, 3, 78, 0),
  (⟨"CarvedRinks$Pond", "ownedByAny", "()J"⟩, cX2_ownedByAny, 4, some .long, 2, 0, 0, 0),
  (⟨"CarvedRinks$Pond", "allPurses", "()I"⟩, cX2_allPurses, 3, some .int, 2, 0, 0, 0),
  (⟨"CarvedRinks$Pond", "greatestRink", "()I"⟩, cX2_greatestRink, 7, some .int, 2, 2, 52, 0),
  (⟨"CarvedRinks", "hashCells", "(J)J"⟩, cX6_hashCells, 7, some .long, 6, 4, 111, 0),
  (⟨"CarvedRinks", "cellNumber", "(JI)I"⟩, cX6_cellNumber, 4, some .int, 6, 3, 88, 0),
  (⟨"CarvedRinks$Pond", "isIce", "(J)Z"⟩, cX2_isIce, 3, some .boolean, 2, 0, 0, 0),
  (⟨"CarvedRinks$Pond", "ownerOf", "(J)I"⟩, cX2_ownerOf, 4, some .int, 2, 0, 0, 0),
  (⟨"CarvedRinks", "cellsBeside", "(J)J"⟩, cX6_cellsBeside, 2, some .long, 6, 1, 21, 0),
  (⟨"CarvedRinks$Pond", "thawsUntilWater", "(J)I"⟩, cX2_thawsUntilWater, 8, some .int, 2, 2, 61, 0),
  (⟨"CarvedRinks", "hashLines", "(J)J"⟩, cX6_hashLines, 9, some .long, 6, 4, 88, 0),
  (⟨"CarvedRinks$Lines", "leading", "(III)I"⟩, cX1_leading, 3, some .int, 1, 1, 22, 0),
  (⟨"CarvedRinks$Lines", "leadingSouth", "(II)I"⟩, cX1_leadingSouth, 3, some .int, 1, 0, 0, 0),
  (⟨"CarvedRinks$Lines", "leadingEast", "(II)I"⟩, cX1_leadingEast, 3, some .int, 1, 0, 0, 0),
  (⟨"CarvedRinks", "lineNumber", "(II)I"⟩, cX6_lineNumber, 3, some .int, 6, 3, 66, 0),
  (⟨"CarvedRinks", "hashSkaters", "(J)J"⟩, cX6_hashSkaters, 7, some .long, 6, 5, 137, 0),
  (⟨"CarvedRinks", "skaterNumber", "(II)I"⟩, cX6_skaterNumber, 4, some .int, 6, 4, 99, 0),
  (⟨"CarvedRinks$Skater", "ownedCells", "()I"⟩, cX5_ownedCells, 1, some .int, 5, 1, 21, 0),
  (⟨"CarvedRinks$Pond", "cellsOfRinks", "(I)I"⟩, cX2_cellsOfRinks, 10, some .int, 2, 2, 52, 0),
  (⟨"CarvedRinks$Pond", "rinksOwnedBy", "(I)I"⟩, cX2_rinksOwnedBy, 2, some .int, 2, 3, 78, 0),
  (⟨"CarvedRinks$Pond", "reasonAgainst", "(II)I"⟩, cX2_reasonAgainst, 8, some .int, 2, 3, 63, 0),
  (⟨"CarvedRinks$Skater", "nextX", "(I)I"⟩, cX5_nextX, 2, some .int, 5, 0, 0, 0)]
def xM2 : List xMe := [(⟨"CarvedRinks$Skater", "nextY", "(I)I"⟩, cX5_nextY, 2, some .int, 5, 0, 0, 0),
  (⟨"CarvedRinks$Pond", "isTaken", "(II)Z"⟩, cX2_isTaken, 4, some .boolean, 2, 0, 0, 0),
  (⟨"CarvedRinks$Pond", "tollTaker", "(IJ)I"⟩, cX2_tollTaker, 5, some .int, 2, 1, 21, 0),
  (⟨"CarvedRinks", "bestGlide", "(I)I"⟩, cX6_bestGlide, 8, some .int, 6, 4, 110, 0),
  (⟨"CarvedRinks$Pond", "copyFrom", "(LCarvedRinks$Pond;)V"⟩, cX2_copyFrom, 3, none, 2, 1, 48, 0),
  (⟨"CarvedRinks$Skater", "copyFrom", "(LCarvedRinks$Skater;)V"⟩, cX5_copyFrom, 2, none, 5, 0, 0, 0),
  (⟨"CarvedRinks$Pond", "makeStep", "(II)V"⟩, cX2_makeStep, 7, none, 2, 3, 84, 0),
  (⟨"CarvedRinks$Pond", "payToll", "(LCarvedRinks$Skater;I)V"⟩, cX2_payToll, 4, none, 2, 0, 0, 0),
  (⟨"CarvedRinks$Skater", "move", "(I)V"⟩, cX5_move, 2, none, 5, 1, 21, 0),
  (⟨"CarvedRinks$Pond", "makeWater", "(J)V"⟩, cX2_makeWater, 4, none, 2, 1, 21, 0),
  (⟨"CarvedRinks$Pond", "cutLine", "(I)V"⟩, cX2_cutLine, 2, none, 2, 2, 43, 0),
  (⟨"CarvedRinks$Pond", "partRink", "(LCarvedRinks$Skater;I)V"⟩, cX2_partRink, 13, none, 2, 2, 52, 0),
  (⟨"CarvedRinks", "hashRinks", "(J)J"⟩, cX6_hashRinks, 11, some .long, 6, 3, 66, 0),
  (⟨"CarvedRinks", "rinkNumber", "(JI)I"⟩, cX6_rinkNumber, 5, some .int, 6, 2, 42, 0),
  (⟨"CarvedRinks", "ownedShare", "()D"⟩, cX6_ownedShare, 2, some .double, 6, 2, 43, 0),
  (⟨"CarvedRinks$Pond", "ownedCells", "()I"⟩, cX2_ownedCells, 1, some .int, 2, 1, 23, 0),
  (⟨"CarvedRinks", "floatingBits", "(DII)J"⟩, cX6_floatingBits, 10, some .long, 6, 0, 0, 0),
  (⟨"CarvedRinks", "meanRink", "()F"⟩, cX6_meanRink, 2, some .float, 6, 4, 98, 0),
  (⟨"CarvedRinks", "hashText", "(J)J"⟩, cX6_hashText, 6, some .long, 6, 0, 0, 0),
  (⟨"CarvedRinksLaw", "cell", "([II)I"⟩, cL_cell, 2, some .int, 8, 0, 0, 4),
  (⟨"CarvedRinksLaw", "count", "(LCarvedRinks;I)I"⟩, cL_count, 3, some .int, 8, 7, 140, 2),
  (⟨"CarvedRinks", "count", "(I)I"⟩, cX6_count, 2, some .int, 6, 6, 119, 1),
  (⟨"CarvedRinksLaw", "play", "(LCarvedRinks;)I"⟩, cL_play, 2, some .int, 8, 7, 183, 2),
  (⟨"CarvedRinks", "play", "()I"⟩, cX6_play, 2, some .int, 6, 6, 162, 1),
  (⟨"CarvedRinks$GlideText", "isComplete", "()Z"⟩, cX0_isComplete, 3, some .boolean, 0, 2, 41, 0),
  (⟨"CarvedRinks$SavedPonds", "push", "(LCarvedRinks$Pond;)V"⟩, cX4_push, 2, none, 4, 2, 70, 0),
  (⟨"CarvedRinks$GlideText", "playOn", "(LCarvedRinks$Pond;)I"⟩, cX0_playOn, 9, some .int, 0, 5, 134, 0),
  (⟨"CarvedRinks$Pond", "thawOnce", "()I"⟩, cX2_thawOnce, 3, some .int, 2, 2, 61, 0),
  (⟨"CarvedRinks$Pond", "makeSteps", "(III)I"⟩, cX2_makeSteps, 5, some .int, 2, 4, 110, 0),
  (⟨"CarvedRinksLaw", "goBack", "(LCarvedRinks;)I"⟩, cL_goBack, 2, some .int, 8, 7, 130, 2)]
def xM3 : List xMe := [(⟨"CarvedRinks", "goBack", "()I"⟩, cX6_goBack, 1, some .int, 6, 6, 110, 1),
  (⟨"CarvedRinksLaw", "undo", "(LCarvedRinks;)I"⟩, cL_undo, 2, some .int, 8, 7, 130, 2),
  (⟨"CarvedRinks", "undo", "()I"⟩, cX6_undo, 1, some .int, 6, 6, 110, 1),
  (⟨"CarvedRinks$SavedPonds", "popInto", "(LCarvedRinks$Pond;)V"⟩, cX4_popInto, 2, none, 4, 2, 70, 0),
  (⟨"CarvedRinksLaw", "best", "(LCarvedRinks;I)I"⟩, cL_best, 3, some .int, 8, 7, 158, 2),
  (⟨"CarvedRinks", "best", "(I)I"⟩, cX6_best, 2, some .int, 6, 6, 137, 1),
  (⟨"CarvedRinks", "isSkater", "(I)Z"⟩, cX6_isSkater, 1, some .boolean, 6, 0, 0, 0),
  (⟨"CarvedRinksLaw", "acts", "(LCarvedRinks;I)I"⟩, cL_acts, 6, some .int, 8, 8, 204, 4),
  (⟨"CarvedRinks", "thaw", "()I"⟩, cX6_thaw, 1, some .int, 6, 3, 91, 0),
  (⟨"CarvedRinksLaw", "hole", "(LCarvedRinks;II)I"⟩, cL_hole, 4, some .int, 8, 7, 135, 2),
  (⟨"CarvedRinks", "hole", "(II)I"⟩, cX6_hole, 6, some .int, 6, 6, 110, 1),
  (⟨"CarvedRinksLaw", "pay", "(LCarvedRinks;II)I"⟩, cL_pay, 4, some .int, 8, 7, 133, 2),
  (⟨"CarvedRinks", "pay", "(II)I"⟩, cX6_pay, 4, some .int, 6, 6, 110, 1),
  (⟨"CarvedRinksLaw", "set", "(LCarvedRinks;II)I"⟩, cL_set, 4, some .int, 8, 7, 133, 2),
  (⟨"CarvedRinks", "set", "(II)I"⟩, cX6_set, 4, some .int, 6, 6, 110, 1),
  (⟨"CarvedRinks", "isSetting", "(I)Z"⟩, cX6_isSetting, 1, some .boolean, 6, 0, 0, 0),
  (⟨"CarvedRinks", "leastValue", "(I)I"⟩, cX6_leastValue, 1, some .int, 6, 0, 0, 0),
  (⟨"CarvedRinks", "mostValue", "(I)I"⟩, cX6_mostValue, 1, some .int, 6, 0, 0, 0),
  (⟨"CarvedRinks", "keep", "()I"⟩, cX6_keep, 1, some .int, 6, 2, 70, 0),
  (⟨"CarvedRinksLaw", "append", "(LCarvedRinks;I)I"⟩, cL_append, 3, some .int, 8, 7, 131, 2),
  (⟨"CarvedRinks", "append", "(I)I"⟩, cX6_append, 2, some .int, 6, 6, 110, 1),
  (⟨"CarvedRinks$GlideText", "isFull", "()Z"⟩, cX0_isFull, 1, some .boolean, 0, 0, 0, 0),
  (⟨"CarvedRinks$GlideText", "add", "(I)V"⟩, cX0_add, 2, none, 0, 0, 0, 0),
  (⟨"CarvedRinksLaw", "glide", "(LCarvedRinks;III)I"⟩, cL_glide, 5, some .int, 8, 7, 157, 2),
  (⟨"CarvedRinks", "glide", "(III)I"⟩, cX6_glide, 4, some .int, 6, 6, 134, 1),
  (⟨"CarvedRinks", "isDirection", "(I)Z"⟩, cX6_isDirection, 1, some .boolean, 6, 0, 0, 0),
  (⟨"CarvedRinks", "isSteps", "(I)Z"⟩, cX6_isSteps, 1, some .boolean, 6, 0, 0, 0),
  (⟨"CarvedRinksLaw", "hangs", "(LCarvedRinks;)Z"⟩, cL_hangs, 15, some .boolean, 8, 8, 184, 4),
  (⟨"CarvedRinksLaw", "pond", "(LCarvedRinks;III)I"⟩, cL_pond, 5, some .int, 8, 7, 136, 2),
  (⟨"CarvedRinks", "cell", "(III)I"⟩, cX6_cell, 6, some .int, 6, 6, 111, 1)]
def xM4 : List xMe := [(⟨"CarvedRinksLaw", "line", "(LCarvedRinks;IIII)I"⟩, cL_line, 6, some .int, 8, 7, 136, 2),
  (⟨"CarvedRinks", "line", "(IIII)I"⟩, cX6_line, 7, some .int, 6, 6, 110, 1),
  (⟨"CarvedRinks", "isPoint", "(II)Z"⟩, cX6_isPoint, 2, some .boolean, 6, 0, 0, 0),
  (⟨"CarvedRinksLaw", "rink", "(LCarvedRinks;II)I"⟩, cL_rink, 4, some .int, 8, 7, 134, 2),
  (⟨"CarvedRinks", "rink", "(II)I"⟩, cX6_rink, 5, some .int, 6, 6, 110, 1),
  (⟨"CarvedRinks$Pond", "rinkWithRank", "(I)J"⟩, cX2_rinkWithRank, 7, some .long, 2, 2, 52, 0),
  (⟨"CarvedRinksLaw", "skater", "(LCarvedRinks;II)I"⟩, cL_skater, 4, some .int, 8, 7, 144, 2),
  (⟨"CarvedRinks", "skater", "(II)I"⟩, cX6_skater, 3, some .int, 6, 6, 122, 1),
  (⟨"CarvedRinksLaw", "why", "(LCarvedRinks;II)I"⟩, cL_why, 4, some .int, 8, 7, 132, 2),
  (⟨"CarvedRinks", "why", "(II)I"⟩, cX6_why, 3, some .int, 6, 6, 110, 1),
  (⟨"CarvedRinksLaw", "ifGlided", "(LCarvedRinks;IIII)I"⟩, cL_ifGlided, 6, some .int, 8, 7, 159, 2),
  (⟨"CarvedRinks", "ifGlided", "(IIII)I"⟩, cX6_ifGlided, 6, some .int, 6, 6, 134, 1),
  (⟨"CarvedRinksLaw", "refuses", "(LCarvedRinks;I)Z"⟩, cL_refuses, 6, some .boolean, 8, 8, 204, 4),
  (⟨"CarvedRinksLaw", "setting", "(LCarvedRinks;I)I"⟩, cL_setting, 3, some .int, 8, 7, 131, 2),
  (⟨"CarvedRinks", "setting", "(I)I"⟩, cX6_setting, 2, some .int, 6, 6, 110, 1),
  (⟨"CarvedRinksLaw", "law", "([I)Z"⟩, cL_law, 7, some .boolean, 8, 9, 229, 3)]
def xM : List xMe := xM0 ++ (xM1 ++ (xM2 ++ (xM3 ++ (xM4))))
abbrev mX6_init : Nat := 0
abbrev mX2_init : Nat := 1
abbrev mX5_init : Nat := 2
abbrev mX4_init : Nat := 3
abbrev mX0_init : Nat := 4
abbrev mX3_init : Nat := 5
abbrev mX6_clearBuffer : Nat := 6
abbrev mX6_firstError : Nat := 7
abbrev mX0_errorIndex : Nat := 8
abbrev mX0_placeBehind : Nat := 9
abbrev mX0_directionOf : Nat := 10
abbrev mX6_calm : Nat := 11
abbrev mX2_thawsUntilCalm : Nat := 12
abbrev mX6_thawingCells : Nat := 13
abbrev mX6_southOf : Nat := 14
abbrev mX6_northOf : Nat := 15
abbrev mX6_eastOf : Nat := 16
abbrev mX6_westOf : Nat := 17
abbrev mX6_digest : Nat := 18
abbrev mX6_stateNumber : Nat := 19
abbrev mX2_iceCells : Nat := 20
abbrev mJ13_bitCount_95d88 : Nat := 21
abbrev mX2_rinksByGoing : Nat := 22
abbrev mX2_rinksWithin : Nat := 23
abbrev mX6_lowestBit : Nat := 24
abbrev mX2_rinkOf : Nat := 25
abbrev mX3_rinksByJoining : Nat := 26
abbrev mX1_cellsAt : Nat := 27
abbrev mX1_lowerCell : Nat := 28
abbrev mX1_leadsEast : Nat := 29
abbrev mX6_cellBit : Nat := 30
abbrev mX1_higherCell : Nat := 31
abbrev mX2_isCut : Nat := 32
abbrev mX3_join : Nat := 33
abbrev mX6_lowestOf : Nat := 34
abbrev mX3_lowestJoined : Nat := 35
abbrev mJ9_max_7cf53 : Nat := 36
abbrev mJ9_min_7cf53 : Nat := 37
abbrev mX2_rinksOwned : Nat := 38
abbrev mX2_ownedByAny : Nat := 39
abbrev mX2_allPurses : Nat := 40
abbrev mX2_greatestRink : Nat := 41
abbrev mX6_hashCells : Nat := 42
abbrev mX6_cellNumber : Nat := 43
abbrev mX2_isIce : Nat := 44
abbrev mX2_ownerOf : Nat := 45
abbrev mX6_cellsBeside : Nat := 46
abbrev mX2_thawsUntilWater : Nat := 47
abbrev mX6_hashLines : Nat := 48
abbrev mX1_leading : Nat := 49
abbrev mX1_leadingSouth : Nat := 50
abbrev mX1_leadingEast : Nat := 51
abbrev mX6_lineNumber : Nat := 52
abbrev mX6_hashSkaters : Nat := 53
abbrev mX6_skaterNumber : Nat := 54
abbrev mX5_ownedCells : Nat := 55
abbrev mX2_cellsOfRinks : Nat := 56
abbrev mX2_rinksOwnedBy : Nat := 57
abbrev mX2_reasonAgainst : Nat := 58
abbrev mX5_nextX : Nat := 59
abbrev mX5_nextY : Nat := 60
abbrev mX2_isTaken : Nat := 61
abbrev mX2_tollTaker : Nat := 62
abbrev mX6_bestGlide : Nat := 63
abbrev mX2_copyFrom : Nat := 64
abbrev mX5_copyFrom : Nat := 65
abbrev mX2_makeStep : Nat := 66
abbrev mX2_payToll : Nat := 67
abbrev mX5_move : Nat := 68
abbrev mX2_makeWater : Nat := 69
abbrev mX2_cutLine : Nat := 70
abbrev mX2_partRink : Nat := 71
abbrev mX6_hashRinks : Nat := 72
abbrev mX6_rinkNumber : Nat := 73
abbrev mX6_ownedShare : Nat := 74
abbrev mX2_ownedCells : Nat := 75
abbrev mX6_floatingBits : Nat := 76
abbrev mX6_meanRink : Nat := 77
abbrev mX6_hashText : Nat := 78
abbrev mL_cell : Nat := 79
abbrev mL_count : Nat := 80
abbrev mX6_count : Nat := 81
abbrev mL_play : Nat := 82
abbrev mX6_play : Nat := 83
abbrev mX0_isComplete : Nat := 84
abbrev mX4_push : Nat := 85
abbrev mX0_playOn : Nat := 86
abbrev mX2_thawOnce : Nat := 87
abbrev mX2_makeSteps : Nat := 88
abbrev mL_goBack : Nat := 89
abbrev mX6_goBack : Nat := 90
abbrev mL_undo : Nat := 91
abbrev mX6_undo : Nat := 92
abbrev mX4_popInto : Nat := 93
abbrev mL_best : Nat := 94
abbrev mX6_best : Nat := 95
abbrev mX6_isSkater : Nat := 96
abbrev mL_acts : Nat := 97
abbrev mX6_thaw : Nat := 98
abbrev mL_hole : Nat := 99
abbrev mX6_hole : Nat := 100
abbrev mL_pay : Nat := 101
abbrev mX6_pay : Nat := 102
abbrev mL_set : Nat := 103
abbrev mX6_set : Nat := 104
abbrev mX6_isSetting : Nat := 105
abbrev mX6_leastValue : Nat := 106
abbrev mX6_mostValue : Nat := 107
abbrev mX6_keep : Nat := 108
abbrev mL_append : Nat := 109
abbrev mX6_append : Nat := 110
abbrev mX0_isFull : Nat := 111
abbrev mX0_add : Nat := 112
abbrev mL_glide : Nat := 113
abbrev mX6_glide : Nat := 114
abbrev mX6_isDirection : Nat := 115
abbrev mX6_isSteps : Nat := 116
abbrev mL_hangs : Nat := 117
abbrev mL_pond : Nat := 118
abbrev mX6_cell : Nat := 119
abbrev mL_line : Nat := 120
abbrev mX6_line : Nat := 121
abbrev mX6_isPoint : Nat := 122
abbrev mL_rink : Nat := 123
abbrev mX6_rink : Nat := 124
abbrev mX2_rinkWithRank : Nat := 125
abbrev mL_skater : Nat := 126
abbrev mX6_skater : Nat := 127
abbrev mL_why : Nat := 128
abbrev mX6_why : Nat := 129
abbrev mL_ifGlided : Nat := 130
abbrev mX6_ifGlided : Nat := 131
abbrev mL_refuses : Nat := 132
abbrev mL_setting : Nat := 133
abbrev mX6_setting : Nat := 134
abbrev mL_law : Nat := 135
theorem xe_X6_init : xM[0]? = some (⟨"CarvedRinks", "<init>", "()V"⟩, cX6_init, 1, none, 6, 4, 83, 0) := rfl
theorem xe_X2_init : xM[1]? = some (⟨"CarvedRinks$Pond", "<init>", "()V"⟩, cX2_init, 1, none, 2, 2, 42, 0) := rfl
theorem xe_X5_init : xM[2]? = some (⟨"CarvedRinks$Skater", "<init>", "(II)V"⟩, cX5_init, 3, none, 5, 1, 20, 0) := rfl
theorem xe_X4_init : xM[3]? = some (⟨"CarvedRinks$SavedPonds", "<init>", "()V"⟩, cX4_init, 2, none, 4, 3, 62, 0) := rfl
theorem xe_X0_init : xM[4]? = some (⟨"CarvedRinks$GlideText", "<init>", "()V"⟩, cX0_init, 1, none, 0, 1, 20, 0) := rfl
theorem xe_X3_init : xM[5]? = some (⟨"CarvedRinks$RinkJoiner", "<init>", "()V"⟩, cX3_init, 1, none, 3, 1, 20, 0) := rfl
theorem xe_X6_clearBuffer : xM[6]? = some (⟨"CarvedRinks", "clearBuffer", "()I"⟩, cX6_clearBuffer, 2, some .int, 6, 0, 0, 0) := rfl
theorem xe_X6_firstError : xM[7]? = some (⟨"CarvedRinks", "firstError", "()I"⟩, cX6_firstError, 1, some .int, 6, 3, 63, 0) := rfl
theorem xe_X0_errorIndex : xM[8]? = some (⟨"CarvedRinks$GlideText", "errorIndex", "()I"⟩, cX0_errorIndex, 3, some .int, 0, 2, 41, 0) := rfl
theorem xe_X0_placeBehind : xM[9]? = some (⟨"CarvedRinks$GlideText", "placeBehind", "(II)I"⟩, cX0_placeBehind, 2, some .int, 0, 1, 20, 0) := rfl
theorem xe_X0_directionOf : xM[10]? = some (⟨"CarvedRinks$GlideText", "directionOf", "(I)I"⟩, cX0_directionOf, 1, some .int, 0, 0, 0, 0) := rfl
theorem xe_X6_calm : xM[11]? = some (⟨"CarvedRinks", "calm", "()I"⟩, cX6_calm, 1, some .int, 6, 3, 86, 0) := rfl
theorem xe_X2_thawsUntilCalm : xM[12]? = some (⟨"CarvedRinks$Pond", "thawsUntilCalm", "()I"⟩, cX2_thawsUntilCalm, 6, some .int, 2, 2, 61, 0) := rfl
theorem xe_X6_thawingCells : xM[13]? = some (⟨"CarvedRinks", "thawingCells", "(JI)J"⟩, cX6_thawingCells, 21, some .long, 6, 1, 21, 0) := rfl
theorem xe_X6_southOf : xM[14]? = some (⟨"CarvedRinks", "southOf", "(J)J"⟩, cX6_southOf, 2, some .long, 6, 0, 0, 0) := rfl
theorem xe_X6_northOf : xM[15]? = some (⟨"CarvedRinks", "northOf", "(J)J"⟩, cX6_northOf, 2, some .long, 6, 0, 0, 0) := rfl
theorem xe_X6_eastOf : xM[16]? = some (⟨"CarvedRinks", "eastOf", "(J)J"⟩, cX6_eastOf, 2, some .long, 6, 0, 0, 0) := rfl
theorem xe_X6_westOf : xM[17]? = some (⟨"CarvedRinks", "westOf", "(J)J"⟩, cX6_westOf, 2, some .long, 6, 0, 0, 0) := rfl
theorem xe_X6_digest : xM[18]? = some (⟨"CarvedRinks", "digest", "()J"⟩, cX6_digest, 4, some .long, 6, 6, 163, 0) := rfl
theorem xe_X6_stateNumber : xM[19]? = some (⟨"CarvedRinks", "stateNumber", "(I)I"⟩, cX6_stateNumber, 2, some .int, 6, 4, 98, 0) := rfl
theorem xe_X2_iceCells : xM[20]? = some (⟨"CarvedRinks$Pond", "iceCells", "()I"⟩, cX2_iceCells, 1, some .int, 2, 1, 21, 0) := rfl
theorem xe_J13_bitCount_95d88 : xM[21]? = some (⟨"java/lang/Long", "bitCount", "(J)I"⟩, cJ13_bitCount_95d88, 2, some .int, 9, 0, 0, 0) := rfl
theorem xe_X2_rinksByGoing : xM[22]? = some (⟨"CarvedRinks$Pond", "rinksByGoing", "()I"⟩, cX2_rinksByGoing, 1, some .int, 2, 3, 78, 0) := rfl
theorem xe_X2_rinksWithin : xM[23]? = some (⟨"CarvedRinks$Pond", "rinksWithin", "(J)I"⟩, cX2_rinksWithin, 7, some .int, 2, 2, 52, 0) := rfl
theorem xe_X6_lowestBit : xM[24]? = some (⟨"CarvedRinks", "lowestBit", "(J)J"⟩, cX6_lowestBit, 2, some .long, 6, 0, 0, 0) := rfl
theorem xe_X2_rinkOf : xM[25]? = some (⟨"CarvedRinks$Pond", "rinkOf", "(J)J"⟩, cX2_rinkOf, 12, some .long, 2, 1, 21, 0) := rfl
theorem xe_X3_rinksByJoining : xM[26]? = some (⟨"CarvedRinks$RinkJoiner", "rinksByJoining", "(LCarvedRinks$Pond;)I"⟩, cX3_rinksByJoining, 6, some .int, 3, 3, 72, 0) := rfl
theorem xe_X1_cellsAt : xM[27]? = some (⟨"CarvedRinks$Lines", "cellsAt", "(I)J"⟩, cX1_cellsAt, 1, some .long, 1, 2, 43, 0) := rfl
theorem xe_X1_lowerCell : xM[28]? = some (⟨"CarvedRinks$Lines", "lowerCell", "(I)J"⟩, cX1_lowerCell, 2, some .long, 1, 1, 22, 0) := rfl
theorem xe_X1_leadsEast : xM[29]? = some (⟨"CarvedRinks$Lines", "leadsEast", "(I)Z"⟩, cX1_leadsEast, 1, some .boolean, 1, 0, 0, 0) := rfl
theorem xe_X6_cellBit : xM[30]? = some (⟨"CarvedRinks", "cellBit", "(II)J"⟩, cX6_cellBit, 3, some .long, 6, 0, 0, 0) := rfl
theorem xe_X1_higherCell : xM[31]? = some (⟨"CarvedRinks$Lines", "higherCell", "(I)J"⟩, cX1_higherCell, 2, some .long, 1, 1, 22, 0) := rfl
theorem xe_X2_isCut : xM[32]? = some (⟨"CarvedRinks$Pond", "isCut", "(I)Z"⟩, cX2_isCut, 4, some .boolean, 2, 2, 43, 0) := rfl
theorem xe_X3_join : xM[33]? = some (⟨"CarvedRinks$RinkJoiner", "join", "(J)Z"⟩, cX3_join, 5, some .boolean, 3, 2, 48, 0) := rfl
theorem xe_X6_lowestOf : xM[34]? = some (⟨"CarvedRinks", "lowestOf", "(J)I"⟩, cX6_lowestOf, 2, some .int, 6, 1, 21, 0) := rfl
theorem xe_X3_lowestJoined : xM[35]? = some (⟨"CarvedRinks$RinkJoiner", "lowestJoined", "(I)I"⟩, cX3_lowestJoined, 4, some .int, 3, 0, 0, 0) := rfl
theorem xe_J9_max_7cf53 : xM[36]? = some (⟨"java/lang/Math", "max", "(II)I"⟩, cJ9_max_7cf53, 2, some .int, 10, 0, 0, 9) := rfl
theorem xe_J9_min_7cf53 : xM[37]? = some (⟨"java/lang/Math", "min", "(II)I"⟩, cJ9_min_7cf53, 2, some .int, 10, 0, 0, 9) := rfl
theorem xe_X2_rinksOwned : xM[38]? = some (⟨"CarvedRinks$Pond", "rinksOwned", "()I"⟩, cX2_rinksOwned, 1, some .int, 2, 3, 78, 0) := rfl
theorem xe_X2_ownedByAny : xM[39]? = some (⟨"CarvedRinks$Pond", "ownedByAny", "()J"⟩, cX2_ownedByAny, 4, some .long, 2, 0, 0, 0) := rfl
theorem xe_X2_allPurses : xM[40]? = some (⟨"CarvedRinks$Pond", "allPurses", "()I"⟩, cX2_allPurses, 3, some .int, 2, 0, 0, 0) := rfl
theorem xe_X2_greatestRink : xM[41]? = some (⟨"CarvedRinks$Pond", "greatestRink", "()I"⟩, cX2_greatestRink, 7, some .int, 2, 2, 52, 0) := rfl
theorem xe_X6_hashCells : xM[42]? = some (⟨"CarvedRinks", "hashCells", "(J)J"⟩, cX6_hashCells, 7, some .long, 6, 4, 111, 0) := rfl
theorem xe_X6_cellNumber : xM[43]? = some (⟨"CarvedRinks", "cellNumber", "(JI)I"⟩, cX6_cellNumber, 4, some .int, 6, 3, 88, 0) := rfl
theorem xe_X2_isIce : xM[44]? = some (⟨"CarvedRinks$Pond", "isIce", "(J)Z"⟩, cX2_isIce, 3, some .boolean, 2, 0, 0, 0) := rfl
theorem xe_X2_ownerOf : xM[45]? = some (⟨"CarvedRinks$Pond", "ownerOf", "(J)I"⟩, cX2_ownerOf, 4, some .int, 2, 0, 0, 0) := rfl
theorem xe_X6_cellsBeside : xM[46]? = some (⟨"CarvedRinks", "cellsBeside", "(J)J"⟩, cX6_cellsBeside, 2, some .long, 6, 1, 21, 0) := rfl
theorem xe_X2_thawsUntilWater : xM[47]? = some (⟨"CarvedRinks$Pond", "thawsUntilWater", "(J)I"⟩, cX2_thawsUntilWater, 8, some .int, 2, 2, 61, 0) := rfl
theorem xe_X6_hashLines : xM[48]? = some (⟨"CarvedRinks", "hashLines", "(J)J"⟩, cX6_hashLines, 9, some .long, 6, 4, 88, 0) := rfl
theorem xe_X1_leading : xM[49]? = some (⟨"CarvedRinks$Lines", "leading", "(III)I"⟩, cX1_leading, 3, some .int, 1, 1, 22, 0) := rfl
theorem xe_X1_leadingSouth : xM[50]? = some (⟨"CarvedRinks$Lines", "leadingSouth", "(II)I"⟩, cX1_leadingSouth, 3, some .int, 1, 0, 0, 0) := rfl
theorem xe_X1_leadingEast : xM[51]? = some (⟨"CarvedRinks$Lines", "leadingEast", "(II)I"⟩, cX1_leadingEast, 3, some .int, 1, 0, 0, 0) := rfl
theorem xe_X6_lineNumber : xM[52]? = some (⟨"CarvedRinks", "lineNumber", "(II)I"⟩, cX6_lineNumber, 3, some .int, 6, 3, 66, 0) := rfl
theorem xe_X6_hashSkaters : xM[53]? = some (⟨"CarvedRinks", "hashSkaters", "(J)J"⟩, cX6_hashSkaters, 7, some .long, 6, 5, 137, 0) := rfl
theorem xe_X6_skaterNumber : xM[54]? = some (⟨"CarvedRinks", "skaterNumber", "(II)I"⟩, cX6_skaterNumber, 4, some .int, 6, 4, 99, 0) := rfl
theorem xe_X5_ownedCells : xM[55]? = some (⟨"CarvedRinks$Skater", "ownedCells", "()I"⟩, cX5_ownedCells, 1, some .int, 5, 1, 21, 0) := rfl
theorem xe_X2_cellsOfRinks : xM[56]? = some (⟨"CarvedRinks$Pond", "cellsOfRinks", "(I)I"⟩, cX2_cellsOfRinks, 10, some .int, 2, 2, 52, 0) := rfl
theorem xe_X2_rinksOwnedBy : xM[57]? = some (⟨"CarvedRinks$Pond", "rinksOwnedBy", "(I)I"⟩, cX2_rinksOwnedBy, 2, some .int, 2, 3, 78, 0) := rfl
theorem xe_X2_reasonAgainst : xM[58]? = some (⟨"CarvedRinks$Pond", "reasonAgainst", "(II)I"⟩, cX2_reasonAgainst, 8, some .int, 2, 3, 63, 0) := rfl
theorem xe_X5_nextX : xM[59]? = some (⟨"CarvedRinks$Skater", "nextX", "(I)I"⟩, cX5_nextX, 2, some .int, 5, 0, 0, 0) := rfl
theorem xe_X5_nextY : xM[60]? = some (⟨"CarvedRinks$Skater", "nextY", "(I)I"⟩, cX5_nextY, 2, some .int, 5, 0, 0, 0) := rfl
theorem xe_X2_isTaken : xM[61]? = some (⟨"CarvedRinks$Pond", "isTaken", "(II)Z"⟩, cX2_isTaken, 4, some .boolean, 2, 0, 0, 0) := rfl
theorem xe_X2_tollTaker : xM[62]? = some (⟨"CarvedRinks$Pond", "tollTaker", "(IJ)I"⟩, cX2_tollTaker, 5, some .int, 2, 1, 21, 0) := rfl
theorem xe_X6_bestGlide : xM[63]? = some (⟨"CarvedRinks", "bestGlide", "(I)I"⟩, cX6_bestGlide, 8, some .int, 6, 4, 110, 0) := rfl
theorem xe_X2_copyFrom : xM[64]? = some (⟨"CarvedRinks$Pond", "copyFrom", "(LCarvedRinks$Pond;)V"⟩, cX2_copyFrom, 3, none, 2, 1, 48, 0) := rfl
theorem xe_X5_copyFrom : xM[65]? = some (⟨"CarvedRinks$Skater", "copyFrom", "(LCarvedRinks$Skater;)V"⟩, cX5_copyFrom, 2, none, 5, 0, 0, 0) := rfl
theorem xe_X2_makeStep : xM[66]? = some (⟨"CarvedRinks$Pond", "makeStep", "(II)V"⟩, cX2_makeStep, 7, none, 2, 3, 84, 0) := rfl
theorem xe_X2_payToll : xM[67]? = some (⟨"CarvedRinks$Pond", "payToll", "(LCarvedRinks$Skater;I)V"⟩, cX2_payToll, 4, none, 2, 0, 0, 0) := rfl
theorem xe_X5_move : xM[68]? = some (⟨"CarvedRinks$Skater", "move", "(I)V"⟩, cX5_move, 2, none, 5, 1, 21, 0) := rfl
theorem xe_X2_makeWater : xM[69]? = some (⟨"CarvedRinks$Pond", "makeWater", "(J)V"⟩, cX2_makeWater, 4, none, 2, 1, 21, 0) := rfl
theorem xe_X2_cutLine : xM[70]? = some (⟨"CarvedRinks$Pond", "cutLine", "(I)V"⟩, cX2_cutLine, 2, none, 2, 2, 43, 0) := rfl
theorem xe_X2_partRink : xM[71]? = some (⟨"CarvedRinks$Pond", "partRink", "(LCarvedRinks$Skater;I)V"⟩, cX2_partRink, 13, none, 2, 2, 52, 0) := rfl
theorem xe_X6_hashRinks : xM[72]? = some (⟨"CarvedRinks", "hashRinks", "(J)J"⟩, cX6_hashRinks, 11, some .long, 6, 3, 66, 0) := rfl
theorem xe_X6_rinkNumber : xM[73]? = some (⟨"CarvedRinks", "rinkNumber", "(JI)I"⟩, cX6_rinkNumber, 5, some .int, 6, 2, 42, 0) := rfl
theorem xe_X6_ownedShare : xM[74]? = some (⟨"CarvedRinks", "ownedShare", "()D"⟩, cX6_ownedShare, 2, some .double, 6, 2, 43, 0) := rfl
theorem xe_X2_ownedCells : xM[75]? = some (⟨"CarvedRinks$Pond", "ownedCells", "()I"⟩, cX2_ownedCells, 1, some .int, 2, 1, 23, 0) := rfl
theorem xe_X6_floatingBits : xM[76]? = some (⟨"CarvedRinks", "floatingBits", "(DII)J"⟩, cX6_floatingBits, 10, some .long, 6, 0, 0, 0) := rfl
theorem xe_X6_meanRink : xM[77]? = some (⟨"CarvedRinks", "meanRink", "()F"⟩, cX6_meanRink, 2, some .float, 6, 4, 98, 0) := rfl
theorem xe_X6_hashText : xM[78]? = some (⟨"CarvedRinks", "hashText", "(J)J"⟩, cX6_hashText, 6, some .long, 6, 0, 0, 0) := rfl
theorem xe_L_cell : xM[79]? = some (⟨"CarvedRinksLaw", "cell", "([II)I"⟩, cL_cell, 2, some .int, 8, 0, 0, 4) := rfl
theorem xe_L_count : xM[80]? = some (⟨"CarvedRinksLaw", "count", "(LCarvedRinks;I)I"⟩, cL_count, 3, some .int, 8, 7, 140, 2) := rfl
theorem xe_X6_count : xM[81]? = some (⟨"CarvedRinks", "count", "(I)I"⟩, cX6_count, 2, some .int, 6, 6, 119, 1) := rfl
theorem xe_L_play : xM[82]? = some (⟨"CarvedRinksLaw", "play", "(LCarvedRinks;)I"⟩, cL_play, 2, some .int, 8, 7, 183, 2) := rfl
theorem xe_X6_play : xM[83]? = some (⟨"CarvedRinks", "play", "()I"⟩, cX6_play, 2, some .int, 6, 6, 162, 1) := rfl
theorem xe_X0_isComplete : xM[84]? = some (⟨"CarvedRinks$GlideText", "isComplete", "()Z"⟩, cX0_isComplete, 3, some .boolean, 0, 2, 41, 0) := rfl
theorem xe_X4_push : xM[85]? = some (⟨"CarvedRinks$SavedPonds", "push", "(LCarvedRinks$Pond;)V"⟩, cX4_push, 2, none, 4, 2, 70, 0) := rfl
theorem xe_X0_playOn : xM[86]? = some (⟨"CarvedRinks$GlideText", "playOn", "(LCarvedRinks$Pond;)I"⟩, cX0_playOn, 9, some .int, 0, 5, 134, 0) := rfl
theorem xe_X2_thawOnce : xM[87]? = some (⟨"CarvedRinks$Pond", "thawOnce", "()I"⟩, cX2_thawOnce, 3, some .int, 2, 2, 61, 0) := rfl
theorem xe_X2_makeSteps : xM[88]? = some (⟨"CarvedRinks$Pond", "makeSteps", "(III)I"⟩, cX2_makeSteps, 5, some .int, 2, 4, 110, 0) := rfl
theorem xe_L_goBack : xM[89]? = some (⟨"CarvedRinksLaw", "goBack", "(LCarvedRinks;)I"⟩, cL_goBack, 2, some .int, 8, 7, 130, 2) := rfl
theorem xe_X6_goBack : xM[90]? = some (⟨"CarvedRinks", "goBack", "()I"⟩, cX6_goBack, 1, some .int, 6, 6, 110, 1) := rfl
theorem xe_L_undo : xM[91]? = some (⟨"CarvedRinksLaw", "undo", "(LCarvedRinks;)I"⟩, cL_undo, 2, some .int, 8, 7, 130, 2) := rfl
theorem xe_X6_undo : xM[92]? = some (⟨"CarvedRinks", "undo", "()I"⟩, cX6_undo, 1, some .int, 6, 6, 110, 1) := rfl
theorem xe_X4_popInto : xM[93]? = some (⟨"CarvedRinks$SavedPonds", "popInto", "(LCarvedRinks$Pond;)V"⟩, cX4_popInto, 2, none, 4, 2, 70, 0) := rfl
theorem xe_L_best : xM[94]? = some (⟨"CarvedRinksLaw", "best", "(LCarvedRinks;I)I"⟩, cL_best, 3, some .int, 8, 7, 158, 2) := rfl
theorem xe_X6_best : xM[95]? = some (⟨"CarvedRinks", "best", "(I)I"⟩, cX6_best, 2, some .int, 6, 6, 137, 1) := rfl
theorem xe_X6_isSkater : xM[96]? = some (⟨"CarvedRinks", "isSkater", "(I)Z"⟩, cX6_isSkater, 1, some .boolean, 6, 0, 0, 0) := rfl
theorem xe_L_acts : xM[97]? = some (⟨"CarvedRinksLaw", "acts", "(LCarvedRinks;I)I"⟩, cL_acts, 6, some .int, 8, 8, 204, 4) := rfl
theorem xe_X6_thaw : xM[98]? = some (⟨"CarvedRinks", "thaw", "()I"⟩, cX6_thaw, 1, some .int, 6, 3, 91, 0) := rfl
theorem xe_L_hole : xM[99]? = some (⟨"CarvedRinksLaw", "hole", "(LCarvedRinks;II)I"⟩, cL_hole, 4, some .int, 8, 7, 135, 2) := rfl
theorem xe_X6_hole : xM[100]? = some (⟨"CarvedRinks", "hole", "(II)I"⟩, cX6_hole, 6, some .int, 6, 6, 110, 1) := rfl
theorem xe_L_pay : xM[101]? = some (⟨"CarvedRinksLaw", "pay", "(LCarvedRinks;II)I"⟩, cL_pay, 4, some .int, 8, 7, 133, 2) := rfl
theorem xe_X6_pay : xM[102]? = some (⟨"CarvedRinks", "pay", "(II)I"⟩, cX6_pay, 4, some .int, 6, 6, 110, 1) := rfl
theorem xe_L_set : xM[103]? = some (⟨"CarvedRinksLaw", "set", "(LCarvedRinks;II)I"⟩, cL_set, 4, some .int, 8, 7, 133, 2) := rfl
theorem xe_X6_set : xM[104]? = some (⟨"CarvedRinks", "set", "(II)I"⟩, cX6_set, 4, some .int, 6, 6, 110, 1) := rfl
theorem xe_X6_isSetting : xM[105]? = some (⟨"CarvedRinks", "isSetting", "(I)Z"⟩, cX6_isSetting, 1, some .boolean, 6, 0, 0, 0) := rfl
theorem xe_X6_leastValue : xM[106]? = some (⟨"CarvedRinks", "leastValue", "(I)I"⟩, cX6_leastValue, 1, some .int, 6, 0, 0, 0) := rfl
theorem xe_X6_mostValue : xM[107]? = some (⟨"CarvedRinks", "mostValue", "(I)I"⟩, cX6_mostValue, 1, some .int, 6, 0, 0, 0) := rfl
theorem xe_X6_keep : xM[108]? = some (⟨"CarvedRinks", "keep", "()I"⟩, cX6_keep, 1, some .int, 6, 2, 70, 0) := rfl
theorem xe_L_append : xM[109]? = some (⟨"CarvedRinksLaw", "append", "(LCarvedRinks;I)I"⟩, cL_append, 3, some .int, 8, 7, 131, 2) := rfl
theorem xe_X6_append : xM[110]? = some (⟨"CarvedRinks", "append", "(I)I"⟩, cX6_append, 2, some .int, 6, 6, 110, 1) := rfl
theorem xe_X0_isFull : xM[111]? = some (⟨"CarvedRinks$GlideText", "isFull", "()Z"⟩, cX0_isFull, 1, some .boolean, 0, 0, 0, 0) := rfl
theorem xe_X0_add : xM[112]? = some (⟨"CarvedRinks$GlideText", "add", "(I)V"⟩, cX0_add, 2, none, 0, 0, 0, 0) := rfl
theorem xe_L_glide : xM[113]? = some (⟨"CarvedRinksLaw", "glide", "(LCarvedRinks;III)I"⟩, cL_glide, 5, some .int, 8, 7, 157, 2) := rfl
theorem xe_X6_glide : xM[114]? = some (⟨"CarvedRinks", "glide", "(III)I"⟩, cX6_glide, 4, some .int, 6, 6, 134, 1) := rfl
theorem xe_X6_isDirection : xM[115]? = some (⟨"CarvedRinks", "isDirection", "(I)Z"⟩, cX6_isDirection, 1, some .boolean, 6, 0, 0, 0) := rfl
theorem xe_X6_isSteps : xM[116]? = some (⟨"CarvedRinks", "isSteps", "(I)Z"⟩, cX6_isSteps, 1, some .boolean, 6, 0, 0, 0) := rfl
theorem xe_L_hangs : xM[117]? = some (⟨"CarvedRinksLaw", "hangs", "(LCarvedRinks;)Z"⟩, cL_hangs, 15, some .boolean, 8, 8, 184, 4) := rfl
theorem xe_L_pond : xM[118]? = some (⟨"CarvedRinksLaw", "pond", "(LCarvedRinks;III)I"⟩, cL_pond, 5, some .int, 8, 7, 136, 2) := rfl
theorem xe_X6_cell : xM[119]? = some (⟨"CarvedRinks", "cell", "(III)I"⟩, cX6_cell, 6, some .int, 6, 6, 111, 1) := rfl
theorem xe_L_line : xM[120]? = some (⟨"CarvedRinksLaw", "line", "(LCarvedRinks;IIII)I"⟩, cL_line, 6, some .int, 8, 7, 136, 2) := rfl
theorem xe_X6_line : xM[121]? = some (⟨"CarvedRinks", "line", "(IIII)I"⟩, cX6_line, 7, some .int, 6, 6, 110, 1) := rfl
theorem xe_X6_isPoint : xM[122]? = some (⟨"CarvedRinks", "isPoint", "(II)Z"⟩, cX6_isPoint, 2, some .boolean, 6, 0, 0, 0) := rfl
theorem xe_L_rink : xM[123]? = some (⟨"CarvedRinksLaw", "rink", "(LCarvedRinks;II)I"⟩, cL_rink, 4, some .int, 8, 7, 134, 2) := rfl
theorem xe_X6_rink : xM[124]? = some (⟨"CarvedRinks", "rink", "(II)I"⟩, cX6_rink, 5, some .int, 6, 6, 110, 1) := rfl
theorem xe_X2_rinkWithRank : xM[125]? = some (⟨"CarvedRinks$Pond", "rinkWithRank", "(I)J"⟩, cX2_rinkWithRank, 7, some .long, 2, 2, 52, 0) := rfl
theorem xe_L_skater : xM[126]? = some (⟨"CarvedRinksLaw", "skater", "(LCarvedRinks;II)I"⟩, cL_skater, 4, some .int, 8, 7, 144, 2) := rfl
theorem xe_X6_skater : xM[127]? = some (⟨"CarvedRinks", "skater", "(II)I"⟩, cX6_skater, 3, some .int, 6, 6, 122, 1) := rfl
theorem xe_L_why : xM[128]? = some (⟨"CarvedRinksLaw", "why", "(LCarvedRinks;II)I"⟩, cL_why, 4, some .int, 8, 7, 132, 2) := rfl
theorem xe_X6_why : xM[129]? = some (⟨"CarvedRinks", "why", "(II)I"⟩, cX6_why, 3, some .int, 6, 6, 110, 1) := rfl
theorem xe_L_ifGlided : xM[130]? = some (⟨"CarvedRinksLaw", "ifGlided", "(LCarvedRinks;IIII)I"⟩, cL_ifGlided, 6, some .int, 8, 7, 159, 2) := rfl
theorem xe_X6_ifGlided : xM[131]? = some (⟨"CarvedRinks", "ifGlided", "(IIII)I"⟩, cX6_ifGlided, 6, some .int, 6, 6, 134, 1) := rfl
theorem xe_L_refuses : xM[132]? = some (⟨"CarvedRinksLaw", "refuses", "(LCarvedRinks;I)Z"⟩, cL_refuses, 6, some .boolean, 8, 8, 204, 4) := rfl
theorem xe_L_setting : xM[133]? = some (⟨"CarvedRinksLaw", "setting", "(LCarvedRinks;I)I"⟩, cL_setting, 3, some .int, 8, 7, 131, 2) := rfl
theorem xe_X6_setting : xM[134]? = some (⟨"CarvedRinks", "setting", "(I)I"⟩, cX6_setting, 2, some .int, 6, 6, 110, 1) := rfl
theorem xe_L_law : xM[135]? = some (⟨"CarvedRinksLaw", "law", "([I)Z"⟩, cL_law, 7, some .boolean, 8, 9, 229, 3) := rfl
/-- a method's code word by its place -/
def xMpl : List (Nat × Nat) := [(0, 42), (1, 50), (2, 58), (3, 141), (4, 161), (5, 176), (6, 207), (7, 211), (8, 215), (9, 218), (10, 221), (11, 225), (12, 229), (13, 232), (14, 236), (15, 239), (16, 242), (17, 246), (18, 251), (19, 257), (20, 261), (21, 264), (22, 271), (23, 275), (24, 278), (25, 282), (26, 290), (27, 294), (28, 297), (29, 300), (30, 303), (31, 306), (32, 311), (33, 317), (34, 320), (35, 326), (36, 331), (37, 334), (38, 338), (39, 342), (40, 346), (41, 350), (42, 355), (43, 359), (44, 363), (45, 367), (46, 372), (47, 376), (48, 380), (49, 383), (50, 386), (51, 389), (52, 393), (53, 399), (54, 403), (55, 407), (56, 412), (57, 417), (58, 421), (59, 426), (60, 430), (61, 434), (62, 439), (63, 443), (64, 447), (65, 454), (66, 458), (67, 462), (68, 466), (69, 472), (70, 477), (71, 481), (72, 487), (73, 491), (74, 495), (75, 499), (76, 502), (77, 507), (78, 511), (79, 514), (81, 524), (83, 599), (84, 603), (85, 608), (86, 613), (87, 617), (88, 621), (90, 631), (92, 654), (93, 659), (95, 667), (96, 670), (97, 689), (98, 693), (100, 701), (102, 712), (104, 721), (105, 724), (106, 728), (107, 731), (108, 736), (110, 743), (111, 748), (112, 753), (114, 760), (115, 763), (116, 766), (117, 771), (119, 778), (121, 785), (122, 788), (124, 797), (125, 802), (127, 809), (129, 816), (131, 824), (132, 830), (134, 837)]
def xfind {α : Type} : List ((Nat × Nat) × α) → Nat → Nat → Option α
  | [], _, _ => none
  | e :: l, o, i => if e.1.1 = o ∧ e.1.2 = i then some e.2 else xfind l o i
def xFL : List ((Nat × Nat) × (Nat × Nat × Nat)) := [((6, 10), (5, 0, 182)), ((6, 16), (5, 1, 183)), ((6, 19), (5, 2, 184)), ((6, 25), (5, 3, 185)), ((6, 32), (5, 4, 186)), ((6, 39), (5, 5, 187)), ((6, 43), (5, 6, 188)), ((6, 106), (1, 9, 115)), ((6, 112), (1, 5, 107)), ((6, 116), (4, 2, 68)), ((6, 135), (1, 4, 105)), ((6, 151), (0, 1, 166)), ((6, 174), (3, 2, 149)), ((6, 230), (4, 4, 73)), ((6, 289), (1, 0, 97)), ((6, 298), (1, 3, 103)), ((6, 307), (4, 0, 62)), ((6, 310), (4, 1, 65)), ((6, 319), (4, 3, 70)), ((6, 322), (4, 5, 76)), ((6, 331), (1, 1, 99)), ((6, 334), (1, 2, 101)), ((6, 337), (1, 6, 109)), ((6, 340), (1, 7, 111)), ((6, 343), (1, 8, 113)), ((6, 359), (0, 0, 164)), ((0, 11), (0, 0, 163)), ((0, 15), (0, 1, 165)), ((2, 11), (1, 0, 95)), ((2, 17), (1, 1, 98)), ((2, 20), (1, 2, 100)), ((2, 23), (1, 3, 102)), ((2, 27), (1, 4, 104)), ((2, 35), (1, 5, 106)), ((2, 39), (1, 6, 108)), ((2, 43), (1, 7, 110)), ((2, 46), (1, 8, 112)), ((2, 49), (1, 9, 114)), ((2, 69), (4, 0, 61)), ((2, 72), (4, 1, 64)), ((2, 100), (4, 2, 67)), ((2, 131), (4, 6, 78)), ((2, 134), (4, 4, 72)), ((2, 137), (4, 5, 75)), ((3, 9), (2, 0, 178)), ((3, 27), (1, 0, 96)), ((4, 11), (3, 0, 146)), ((4, 16), (3, 1, 147)), ((4, 20), (3, 2, 148)), ((5, 9), (4, 0, 60)), ((5, 15), (4, 1, 63)), ((5, 18), (4, 2, 66)), ((5, 21), (4, 3, 69)), ((5, 24), (4, 4, 71)), ((5, 27), (4, 5, 74)), ((5, 30), (4, 6, 77))]
def xNL : List ((Nat × Nat) × (Nat × Nat)) := [((6, 7), (1, 46)), ((6, 22), (3, 137)), ((6, 29), (0, 157)), ((6, 36), (2, 172)), ((2, 30), (4, 53)), ((4, 9), (1, 143)), ((8, 10), (5, 38))]
def xXL : List ((Nat × Nat) × (Nat × Nat)) := [((6, 51), (0, 671)), ((6, 64), (1, 525)), ((6, 91), (2, 632))]
def xKL : List ((Nat × Nat) × (Value × Nat)) := [((6, 243), (.long (3727), 252)), ((6, 245), (.long (31), 253)), ((6, 293), (.long (-1), 233)), ((6, 362), (.double 4611686018427387904, 503)), ((6, 364), (.long (-72340172838076674), 247)), ((6, 366), (.long (9187201950435737471), 243)), ((2, 9), (.long (-1), 52)), ((3, 56), (.long (-1), 328)), ((8, 7), (.int (47287), 515)), ((8, 8), (.int (2147483647), 516)), ((8, 153), (.int (100000), 838)), ((9, 314), (.long (6148914691236517205), 265)), ((9, 316), (.long (3689348814741910323), 266)), ((9, 318), (.long (1085102592571150095), 267))]
def xCL0 : List ((Nat × Nat) × (Nat × Nat × Nat × Nat × Nat × Nat × Nat)) := [((6, 1), (4, 0, 0, 43, 44, 45, 0)), ((6, 9), (2, 1, 0, 48, 49, 23, 0)), ((6, 24), (2, 3, 0, 139, 140, 25, 0)), ((6, 31), (2, 4, 0, 159, 160, 26, 0)), ((6, 38), (2, 5, 0, 174, 175, 27, 0)), ((6, 47), (0, 96, 1, 668, 669, 22, 0)), ((6, 58), (0, 115, 1, 761, 762, 22, 0)), ((6, 61), (0, 116, 1, 764, 765, 22, 0)), ((6, 69), (1, 85, 1, 605, 606, 607, 25)), ((6, 73), (1, 88, 3, 768, 619, 620, 23)), ((6, 77), (1, 87, 0, 694, 615, 616, 23)), ((6, 81), (0, 30, 2, 702, 302, 22, 0)), ((6, 87), (1, 44, 1, 360, 361, 362, 23)), ((6, 96), (1, 45, 1, 364, 365, 366, 23)), ((6, 100), (1, 69, 1, 705, 470, 471, 23)), ((6, 121), (0, 105, 1, 722, 723, 22, 0)), ((6, 126), (0, 106, 1, 726, 727, 22, 0)), ((6, 130), (0, 107, 1, 729, 730, 22, 0)), ((6, 141), (1, 111, 0, 745, 746, 747, 26)), ((6, 147), (1, 112, 1, 750, 751, 752, 26)), ((6, 154), (1, 8, 0, 212, 213, 214, 26)), ((6, 157), (1, 84, 0, 600, 601, 602, 26)), ((6, 162), (1, 86, 1, 610, 611, 612, 26)), ((6, 166), (1, 64, 1, 444, 445, 446, 23)), ((6, 169), (1, 20, 0, 258, 259, 260, 23)), ((6, 179), (1, 93, 1, 656, 657, 658, 25)), ((6, 184), (1, 43, 2, 356, 358, 6, 22)), ((6, 188), (0, 49, 3, 381, 382, 35, 0)), ((6, 193), (0, 122, 2, 786, 787, 22, 0)), ((6, 201), (1, 52, 2, 390, 392, 8, 22)), ((6, 205), (1, 54, 2, 400, 402, 10, 22)), ((6, 210), (1, 125, 1, 799, 800, 801, 23)), ((6, 214), (1, 73, 2, 488, 490, 18, 22)), ((6, 217), (1, 19, 1, 254, 256, 0, 22)), ((6, 222), (1, 58, 2, 418, 419, 420, 23)), ((6, 227), (1, 55, 0, 404, 405, 406, 24)), ((6, 233), (1, 22, 0, 268, 269, 270, 23)), ((6, 236), (1, 63, 1, 440, 442, 13, 22)), ((6, 239), (1, 12, 0, 226, 227, 228, 23)), ((6, 242), (1, 75, 0, 496, 497, 498, 23)), ((6, 247), (1, 42, 1, 352, 354, 5, 22)), ((6, 251), (1, 48, 1, 377, 379, 7, 22)), ((6, 254), (1, 53, 1, 396, 398, 9, 22)), ((6, 257), (1, 72, 1, 484, 486, 17, 22)), ((6, 260), (1, 74, 0, 492, 493, 494, 22)), ((6, 264), (0, 76, 3, 500, 501, 22, 0)), ((6, 268), (1, 77, 0, 504, 505, 506, 22)), ((6, 272), (1, 78, 1, 508, 510, 19, 22)), ((6, 275), (1, 25, 1, 368, 280, 281, 23)), ((6, 278), (0, 34, 1, 369, 319, 22, 0)), ((6, 281), (0, 21, 1, 322, 263, 33, 0)), ((6, 286), (0, 46, 1, 370, 371, 22, 0)), ((6, 295), (1, 47, 1, 373, 374, 375, 23)), ((6, 301), (1, 32, 1, 394, 309, 310, 23)), ((6, 304), (0, 27, 1, 395, 293, 35, 0)), ((6, 313), (1, 56, 1, 409, 410, 411, 23)), ((6, 316), (1, 57, 1, 414, 415, 416, 23)), ((6, 325), (1, 26, 1, 287, 288, 289, 27)), ((6, 328), (1, 38, 0, 335, 336, 337, 23)), ((6, 346), (1, 40, 0, 343, 344, 345, 23))]
def xCL1 : List ((Nat × Nat) × (Nat × Nat × Nat × Nat × Nat × Nat × Nat)) := [((6, 349), (1, 41, 0, 347, 348, 349, 23)), ((6, 352), (1, 66, 2, 455, 456, 457, 23)), ((6, 356), (0, 24, 1, 321, 277, 22, 0)), ((6, 368), (0, 15, 1, 237, 238, 22, 0)), ((6, 371), (0, 16, 1, 240, 241, 22, 0)), ((6, 374), (0, 14, 1, 234, 235, 22, 0)), ((6, 377), (0, 17, 1, 244, 245, 22, 0)), ((0, 3), (4, 0, 0, 162, 44, 45, 0)), ((0, 19), (0, 9, 2, 216, 217, 26, 0)), ((0, 23), (1, 87, 0, 614, 615, 616, 23)), ((0, 29), (0, 10, 1, 219, 220, 26, 0)), ((0, 33), (1, 88, 3, 618, 619, 620, 23)), ((1, 9), (0, 50, 2, 384, 385, 35, 0)), ((1, 15), (0, 51, 2, 387, 388, 35, 0)), ((1, 18), (0, 29, 1, 298, 299, 35, 0)), ((1, 22), (3, 30, 2, 301, 302, 22, 0)), ((1, 26), (0, 28, 1, 295, 296, 35, 0)), ((1, 30), (0, 31, 1, 304, 305, 35, 0)), ((2, 3), (4, 0, 0, 51, 44, 45, 0)), ((2, 32), (2, 2, 2, 56, 57, 24, 0)), ((2, 52), (5, 0, 5, 448, 450, 449, 0)), ((2, 58), (1, 65, 1, 451, 452, 453, 24)), ((2, 62), (1, 58, 2, 622, 419, 420, 23)), ((2, 66), (1, 66, 2, 623, 456, 457, 23)), ((2, 75), (0, 49, 3, 422, 382, 35, 0)), ((2, 81), (1, 59, 1, 423, 424, 425, 24)), ((2, 85), (1, 60, 1, 427, 428, 429, 24)), ((2, 88), (1, 61, 2, 431, 433, 11, 23)), ((2, 92), (0, 27, 1, 435, 293, 35, 0)), ((2, 96), (1, 62, 2, 436, 438, 12, 23)), ((2, 103), (1, 67, 2, 459, 461, 14, 23)), ((2, 107), (1, 68, 1, 463, 464, 465, 24)), ((2, 111), (1, 69, 1, 469, 470, 471, 23)), ((2, 115), (0, 21, 1, 262, 263, 33, 0)), ((2, 121), (1, 32, 1, 473, 309, 310, 23)), ((2, 125), (1, 70, 1, 474, 476, 15, 23)), ((2, 128), (1, 71, 2, 478, 480, 16, 23)), ((2, 140), (0, 29, 1, 312, 299, 35, 0)), ((2, 143), (0, 31, 1, 313, 305, 35, 0)), ((2, 146), (0, 28, 1, 482, 296, 35, 0)), ((2, 149), (1, 25, 1, 279, 280, 281, 23)), ((2, 153), (1, 45, 1, 413, 365, 366, 23)), ((2, 156), (3, 34, 1, 483, 319, 22, 0)), ((2, 159), (3, 13, 2, 230, 231, 22, 0)), ((2, 163), (3, 14, 1, 283, 235, 22, 0)), ((2, 166), (3, 16, 1, 284, 241, 22, 0)), ((2, 169), (3, 15, 1, 285, 238, 22, 0)), ((2, 172), (3, 17, 1, 286, 245, 22, 0)), ((2, 175), (3, 24, 1, 276, 277, 22, 0)), ((2, 178), (1, 23, 1, 272, 274, 1, 23)), ((2, 181), (1, 39, 0, 339, 341, 4, 23)), ((2, 185), (8, 0, 2, 351, 330, 331, 0)), ((3, 3), (4, 0, 0, 177, 44, 45, 0)), ((3, 15), (1, 20, 0, 291, 259, 260, 23)), ((3, 21), (0, 27, 1, 292, 293, 35, 0)), ((3, 31), (0, 21, 1, 307, 263, 33, 0)), ((3, 37), (1, 32, 1, 308, 309, 310, 23)), ((3, 41), (1, 33, 1, 314, 316, 2, 27)), ((3, 45), (3, 34, 1, 318, 319, 22, 0)), ((3, 48), (1, 35, 1, 323, 325, 3, 27))]
def xCL2 : List ((Nat × Nat) × (Nat × Nat × Nat × Nat × Nat × Nat × Nat)) := [((3, 52), (3, 24, 1, 327, 277, 22, 0)), ((3, 58), (8, 0, 2, 329, 330, 331, 0)), ((3, 64), (9, 0, 2, 332, 333, 334, 0)), ((4, 1), (4, 0, 0, 142, 44, 45, 0)), ((4, 15), (2, 1, 0, 145, 49, 23, 0)), ((4, 23), (1, 64, 1, 609, 445, 446, 23)), ((5, 3), (4, 0, 0, 59, 44, 45, 0)), ((5, 34), (0, 21, 1, 408, 263, 33, 0)), ((5, 40), (1, 59, 1, 467, 424, 425, 24)), ((5, 44), (1, 60, 1, 468, 428, 429, 24)), ((8, 9), (10, 114, 3, 757, 758, 759, 22)), ((8, 19), (10, 100, 2, 698, 699, 700, 22)), ((8, 25), (10, 102, 2, 709, 710, 711, 22)), ((8, 28), (10, 104, 2, 718, 719, 720, 22)), ((8, 31), (10, 119, 3, 775, 776, 777, 22)), ((8, 34), (10, 121, 4, 782, 783, 784, 22)), ((8, 38), (10, 127, 2, 806, 807, 808, 22)), ((8, 41), (10, 124, 2, 794, 795, 796, 22)), ((8, 44), (10, 81, 1, 521, 522, 523, 22)), ((8, 48), (10, 129, 2, 813, 814, 815, 22)), ((8, 51), (10, 110, 1, 740, 741, 742, 22)), ((8, 54), (10, 83, 0, 596, 597, 598, 22)), ((8, 58), (10, 90, 0, 628, 629, 630, 22)), ((8, 61), (10, 92, 0, 651, 652, 653, 22)), ((8, 64), (10, 134, 1, 834, 835, 836, 22)), ((8, 67), (10, 131, 4, 821, 822, 823, 22)), ((8, 70), (10, 95, 1, 664, 665, 666, 22)), ((8, 73), (1, 98, 0, 690, 691, 692, 22)), ((8, 76), (11, 99, 3, 695, 696, 21, 0)), ((8, 81), (11, 101, 3, 706, 707, 21, 0)), ((8, 83), (11, 103, 3, 715, 716, 21, 0)), ((8, 85), (11, 91, 1, 648, 649, 21, 0)), ((8, 88), (1, 108, 0, 733, 734, 735, 22)), ((8, 91), (11, 89, 1, 624, 625, 21, 0)), ((8, 93), (1, 6, 0, 204, 205, 206, 22)), ((8, 96), (11, 109, 2, 737, 738, 21, 0)), ((8, 99), (1, 7, 0, 208, 209, 210, 22)), ((8, 102), (11, 82, 1, 593, 594, 21, 0)), ((8, 104), (11, 113, 4, 754, 755, 21, 0)), ((8, 107), (11, 118, 4, 772, 773, 21, 0)), ((8, 110), (11, 120, 5, 779, 780, 21, 0)), ((8, 113), (11, 80, 2, 517, 518, 21, 0)), ((8, 115), (11, 123, 3, 791, 792, 21, 0)), ((8, 117), (11, 126, 3, 803, 804, 21, 0)), ((8, 119), (11, 128, 3, 810, 811, 21, 0)), ((8, 121), (11, 130, 5, 818, 819, 21, 0)), ((8, 123), (1, 11, 0, 222, 223, 224, 22)), ((8, 126), (1, 74, 0, 826, 493, 494, 22)), ((8, 130), (1, 77, 0, 827, 505, 506, 22)), ((8, 134), (11, 94, 2, 660, 661, 21, 0)), ((8, 136), (11, 133, 2, 831, 832, 21, 0)), ((8, 138), (2, 0, 0, 40, 41, 22, 0)), ((8, 139), (1, 18, 0, 248, 249, 250, 22)), ((8, 143), (12, 117, 1, 769, 770, 21, 0)), ((8, 147), (12, 79, 2, 512, 513, 21, 0)), ((8, 150), (12, 97, 2, 687, 688, 21, 0)), ((8, 154), (12, 132, 2, 828, 829, 21, 0))]
def xCL : List ((Nat × Nat) × (Nat × Nat × Nat × Nat × Nat × Nat × Nat)) := xCL0 ++ (xCL1 ++ (xCL2))
def xNest : List Cond := [(Jvm.Cond.methodLinkNest "CarvedRinks$Pond" (159 : Nat) ({ cls := "CarvedRinks", name := "thawingCells", desc := "(JI)J" } : Jvm.MethodName) "CarvedRinks"), (Jvm.Cond.methodLinkNest "CarvedRinks$Pond" (175 : Nat) ({ cls := "CarvedRinks", name := "lowestBit", desc := "(J)J" } : Jvm.MethodName) "CarvedRinks"), (Jvm.Cond.methodLinkNest "CarvedRinks$Pond" (163 : Nat) ({ cls := "CarvedRinks", name := "southOf", desc := "(J)J" } : Jvm.MethodName) "CarvedRinks"), (Jvm.Cond.methodLinkNest "CarvedRinks$Pond" (166 : Nat) ({ cls := "CarvedRinks", name := "eastOf", desc := "(J)J" } : Jvm.MethodName) "CarvedRinks"), (Jvm.Cond.methodLinkNest "CarvedRinks$Pond" (169 : Nat) ({ cls := "CarvedRinks", name := "northOf", desc := "(J)J" } : Jvm.MethodName) "CarvedRinks"), (Jvm.Cond.methodLinkNest "CarvedRinks$Pond" (172 : Nat) ({ cls := "CarvedRinks", name := "westOf", desc := "(J)J" } : Jvm.MethodName) "CarvedRinks"), (Jvm.Cond.methodLinkNest "CarvedRinks$Lines" (22 : Nat) ({ cls := "CarvedRinks", name := "cellBit", desc := "(II)J" } : Jvm.MethodName) "CarvedRinks"), (Jvm.Cond.methodLinkNest "CarvedRinks$RinkJoiner" (45 : Nat) ({ cls := "CarvedRinks", name := "lowestOf", desc := "(J)I" } : Jvm.MethodName) "CarvedRinks"), (Jvm.Cond.methodLinkNest "CarvedRinks$RinkJoiner" (52 : Nat) ({ cls := "CarvedRinks", name := "lowestBit", desc := "(J)J" } : Jvm.MethodName) "CarvedRinks"), (Jvm.Cond.methodLinkNest "CarvedRinks$Pond" (156 : Nat) ({ cls := "CarvedRinks", name := "lowestOf", desc := "(J)I" } : Jvm.MethodName) "CarvedRinks")]
def xHL : List (Nat × List (Nat × Nat × Nat × Nat × Nat)) := [(80, [(0, 5, 6, 17, 1)]), (82, [(0, 4, 5, 17, 1)]), (89, [(0, 4, 5, 23, 2)]), (91, [(0, 4, 5, 23, 2)]), (94, [(0, 5, 6, 15, 0)]), (99, [(0, 6, 7, 15, 0), (0, 6, 11, 23, 2)]), (101, [(0, 6, 7, 15, 0), (0, 6, 11, 17, 1), (0, 6, 15, 23, 2)]), (103, [(0, 6, 7, 15, 0), (0, 6, 11, 17, 1)]), (109, [(0, 5, 6, 17, 1), (0, 5, 10, 23, 2)]), (113, [(0, 7, 8, 15, 0), (0, 7, 13, 17, 1)]), (118, [(0, 7, 8, 15, 0), (0, 7, 13, 17, 1)]), (120, [(0, 9, 10, 15, 0), (0, 9, 15, 17, 1)]), (123, [(0, 6, 7, 15, 0), (0, 6, 11, 17, 1)]), (126, [(0, 6, 7, 15, 0), (0, 6, 11, 17, 1)]), (128, [(0, 6, 7, 15, 0), (0, 6, 11, 17, 1)]), (130, [(0, 9, 10, 15, 0), (0, 9, 15, 17, 1)]), (133, [(0, 5, 6, 15, 0)])]
