/-! ===== the methods' code words: by program (wip/tools/gen_codew.py) ===== -/
def xMP (f : xMe) : Prop := (f.2.2.2.2.2.2.2 ≤ 1 ∨ f.2.2.2.2.2.2.2 = 4) → Cond.code f.1 f.2.1 f.2.2.1 f.2.2.2.1 ∈ lw_tbl
set_option maxRecDepth 100000 in
theorem xw_X6_init : lw_tbl[42]? = some (.code ⟨"CarvedRinks", "<init>", "()V"⟩ cX6_init 1 (none)) := rfl
set_option maxRecDepth 100000 in
theorem xw_X2_init : lw_tbl[50]? = some (.code ⟨"CarvedRinks$Pond", "<init>", "()V"⟩ cX2_init 1 (none)) := rfl
set_option maxRecDepth 100000 in
theorem xw_X5_init : lw_tbl[58]? = some (.code ⟨"CarvedRinks$Skater", "<init>", "(II)V"⟩ cX5_init 3 (none)) := rfl
set_option maxRecDepth 100000 in
theorem xw_X4_init : lw_tbl[141]? = some (.code ⟨"CarvedRinks$SavedPonds", "<init>", "()V"⟩ cX4_init 2 (none)) := rfl
set_option maxRecDepth 100000 in
theorem xw_X0_init : lw_tbl[161]? = some (.code ⟨"CarvedRinks$GlideText", "<init>", "()V"⟩ cX0_init 1 (none)) := rfl
set_option maxRecDepth 100000 in
theorem xw_X3_init : lw_tbl[176]? = some (.code ⟨"CarvedRinks$RinkJoiner", "<init>", "()V"⟩ cX3_init 1 (none)) := rfl
set_option maxRecDepth 100000 in
theorem xw_X6_clearBuffer : lw_tbl[207]? = some (.code ⟨"CarvedRinks", "clearBuffer", "()I"⟩ cX6_clearBuffer 2 (some .int)) := rfl
set_option maxRecDepth 100000 in
theorem xw_X6_firstError : lw_tbl[211]? = some (.code ⟨"CarvedRinks", "firstError", "()I"⟩ cX6_firstError 1 (some .int)) := rfl
set_option maxRecDepth 100000 in
theorem xw_X0_errorIndex : lw_tbl[215]? = some (.code ⟨"CarvedRinks$GlideText", "errorIndex", "()I"⟩ cX0_errorIndex 3 (some .int)) := rfl
set_option maxRecDepth 100000 in
theorem xw_X0_placeBehind : lw_tbl[218]? = some (.code ⟨"CarvedRinks$GlideText", "placeBehind", "(II)I"⟩ cX0_placeBehind 2 (some .int)) := rfl
set_option maxRecDepth 100000 in
theorem xw_X0_directionOf : lw_tbl[221]? = some (.code ⟨"CarvedRinks$GlideText", "directionOf", "(I)I"⟩ cX0_directionOf 1 (some .int)) := rfl
set_option maxRecDepth 100000 in
theorem xw_X6_calm : lw_tbl[225]? = some (.code ⟨"CarvedRinks", "calm", "()I"⟩ cX6_calm 1 (some .int)) := rfl
set_option maxRecDepth 100000 in
theorem xw_X2_thawsUntilCalm : lw_tbl[229]? = some (.code ⟨"CarvedRinks$Pond", "thawsUntilCalm", "()I"⟩ cX2_thawsUntilCalm 6 (some .int)) := rfl
set_option maxRecDepth 100000 in
theorem xw_X6_thawingCells : lw_tbl[232]? = some (.code ⟨"CarvedRinks", "thawingCells", "(JI)J"⟩ cX6_thawingCells 21 (some .long)) := rfl
set_option maxRecDepth 100000 in
theorem xw_X6_southOf : lw_tbl[236]? = some (.code ⟨"CarvedRinks", "southOf", "(J)J"⟩ cX6_southOf 2 (some .long)) := rfl
set_option maxRecDepth 100000 in
theorem xw_X6_northOf : lw_tbl[239]? = some (.code ⟨"CarvedRinks", "northOf", "(J)J"⟩ cX6_northOf 2 (some .long)) := rfl
set_option maxRecDepth 100000 in
theorem xw_X6_eastOf : lw_tbl[242]? = some (.code ⟨"CarvedRinks", "eastOf", "(J)J"⟩ cX6_eastOf 2 (some .long)) := rfl
set_option maxRecDepth 100000 in
theorem xw_X6_westOf : lw_tbl[246]? = some (.code ⟨"CarvedRinks", "westOf", "(J)J"⟩ cX6_westOf 2 (some .long)) := rfl
set_option maxRecDepth 100000 in
theorem xw_X6_digest : lw_tbl[251]? = some (.code ⟨"CarvedRinks", "digest", "()J"⟩ cX6_digest 4 (some .long)) := rfl
set_option maxRecDepth 100000 in
theorem xw_X6_stateNumber : lw_tbl[257]? = some (.code ⟨"CarvedRinks", "stateNumber", "(I)I"⟩ cX6_stateNumber 2 (some .int)) := rfl
set_option maxRecDepth 100000 in
theorem xw_X2_iceCells : lw_tbl[261]? = some (.code ⟨"CarvedRinks$Pond", "iceCells", "()I"⟩ cX2_iceCells 1 (some .int)) := rfl
set_option maxRecDepth 100000 in
theorem xw_J13_bitCount_95d88 : lw_tbl[264]? = some (.code ⟨"java/lang/Long", "bitCount", "(J)I"⟩ cJ13_bitCount_95d88 2 (some .int)) := rfl
set_option maxRecDepth 100000 in
theorem xw_X2_rinksByGoing : lw_tbl[271]? = some (.code ⟨"CarvedRinks$Pond", "rinksByGoing", "()I"⟩ cX2_rinksByGoing 1 (some .int)) := rfl
set_option maxRecDepth 100000 in
theorem xw_X2_rinksWithin : lw_tbl[275]? = some (.code ⟨"CarvedRinks$Pond", "rinksWithin", "(J)I"⟩ cX2_rinksWithin 7 (some .int)) := rfl
set_option maxRecDepth 100000 in
theorem xw_X6_lowestBit : lw_tbl[278]? = some (.code ⟨"CarvedRinks", "lowestBit", "(J)J"⟩ cX6_lowestBit 2 (some .long)) := rfl
set_option maxRecDepth 100000 in
theorem xw_X2_rinkOf : lw_tbl[282]? = some (.code ⟨"CarvedRinks$Pond", "rinkOf", "(J)J"⟩ cX2_rinkOf 12 (some .long)) := rfl
set_option maxRecDepth 100000 in
theorem xw_X3_rinksByJoining : lw_tbl[290]? = some (.code ⟨"CarvedRinks$RinkJoiner", "rinksByJoining", "(LCarvedRinks$Pond;)I"⟩ cX3_rinksByJoining 6 (some .int)) := rfl
set_option maxRecDepth 100000 in
theorem xw_X1_cellsAt : lw_tbl[294]? = some (.code ⟨"CarvedRinks$Lines", "cellsAt", "(I)J"⟩ cX1_cellsAt 1 (some .long)) := rfl
set_option maxRecDepth 100000 in
theorem xw_X1_lowerCell : lw_tbl[297]? = some (.code ⟨"CarvedRinks$Lines", "lowerCell", "(I)J"⟩ cX1_lowerCell 2 (some .long)) := rfl
set_option maxRecDepth 100000 in
theorem xw_X1_leadsEast : lw_tbl[300]? = some (.code ⟨"CarvedRinks$Lines", "leadsEast", "(I)Z"⟩ cX1_leadsEast 1 (some .boolean)) := rfl
set_option maxRecDepth 100000 in
theorem xw_X6_cellBit : lw_tbl[303]? = some (.code ⟨"CarvedRinks", "cellBit", "(II)J"⟩ cX6_cellBit 3 (some .long)) := rfl
set_option maxRecDepth 100000 in
theorem xw_X1_higherCell : lw_tbl[306]? = some (.code ⟨"CarvedRinks$Lines", "higherCell", "(I)J"⟩ cX1_higherCell 2 (some .long)) := rfl
set_option maxRecDepth 100000 in
theorem xw_X2_isCut : lw_tbl[311]? = some (.code ⟨"CarvedRinks$Pond", "isCut", "(I)Z"⟩ cX2_isCut 4 (some .boolean)) := rfl
set_option maxRecDepth 100000 in
theorem xw_X3_join : lw_tbl[317]? = some (.code ⟨"CarvedRinks$RinkJoiner", "join", "(J)Z"⟩ cX3_join 5 (some .boolean)) := rfl
set_option maxRecDepth 100000 in
theorem xw_X6_lowestOf : lw_tbl[320]? = some (.code ⟨"CarvedRinks", "lowestOf", "(J)I"⟩ cX6_lowestOf 2 (some .int)) := rfl
set_option maxRecDepth 100000 in
theorem xw_X3_lowestJoined : lw_tbl[326]? = some (.code ⟨"CarvedRinks$RinkJoiner", "lowestJoined", "(I)I"⟩ cX3_lowestJoined 4 (some .int)) := rfl
set_option maxRecDepth 100000 in
theorem xw_X2_rinksOwned : lw_tbl[338]? = some (.code ⟨"CarvedRinks$Pond", "rinksOwned", "()I"⟩ cX2_rinksOwned 1 (some .int)) := rfl
set_option maxRecDepth 100000 in
theorem xw_X2_ownedByAny : lw_tbl[342]? = some (.code ⟨"CarvedRinks$Pond", "ownedByAny", "()J"⟩ cX2_ownedByAny 4 (some .long)) := rfl
set_option maxRecDepth 100000 in
theorem xw_X2_allPurses : lw_tbl[346]? = some (.code ⟨"CarvedRinks$Pond", "allPurses", "()I"⟩ cX2_allPurses 3 (some .int)) := rfl
set_option maxRecDepth 100000 in
theorem xw_X2_greatestRink : lw_tbl[350]? = some (.code ⟨"CarvedRinks$Pond", "greatestRink", "()I"⟩ cX2_greatestRink 7 (some .int)) := rfl
set_option maxRecDepth 100000 in
theorem xw_X6_hashCells : lw_tbl[355]? = some (.code ⟨"CarvedRinks", "hashCells", "(J)J"⟩ cX6_hashCells 7 (some .long)) := rfl
set_option maxRecDepth 100000 in
theorem xw_X6_cellNumber : lw_tbl[359]? = some (.code ⟨"CarvedRinks", "cellNumber", "(JI)I"⟩ cX6_cellNumber 4 (some .int)) := rfl
set_option maxRecDepth 100000 in
theorem xw_X2_isIce : lw_tbl[363]? = some (.code ⟨"CarvedRinks$Pond", "isIce", "(J)Z"⟩ cX2_isIce 3 (some .boolean)) := rfl
set_option maxRecDepth 100000 in
theorem xw_X2_ownerOf : lw_tbl[367]? = some (.code ⟨"CarvedRinks$Pond", "ownerOf", "(J)I"⟩ cX2_ownerOf 4 (some .int)) := rfl
set_option maxRecDepth 100000 in
theorem xw_X6_cellsBeside : lw_tbl[372]? = some (.code ⟨"CarvedRinks", "cellsBeside", "(J)J"⟩ cX6_cellsBeside 2 (some .long)) := rfl
set_option maxRecDepth 100000 in
theorem xw_X2_thawsUntilWater : lw_tbl[376]? = some (.code ⟨"CarvedRinks$Pond", "thawsUntilWater", "(J)I"⟩ cX2_thawsUntilWater 8 (some .int)) := rfl
set_option maxRecDepth 100000 in
theorem xw_X6_hashLines : lw_tbl[380]? = some (.code ⟨"CarvedRinks", "hashLines", "(J)J"⟩ cX6_hashLines 9 (some .long)) := rfl
set_option maxRecDepth 100000 in
theorem xw_X1_leading : lw_tbl[383]? = some (.code ⟨"CarvedRinks$Lines", "leading", "(III)I"⟩ cX1_leading 3 (some .int)) := rfl
set_option maxRecDepth 100000 in
theorem xw_X1_leadingSouth : lw_tbl[386]? = some (.code ⟨"CarvedRinks$Lines", "leadingSouth", "(II)I"⟩ cX1_leadingSouth 3 (some .int)) := rfl
set_option maxRecDepth 100000 in
theorem xw_X1_leadingEast : lw_tbl[389]? = some (.code ⟨"CarvedRinks$Lines", "leadingEast", "(II)I"⟩ cX1_leadingEast 3 (some .int)) := rfl
set_option maxRecDepth 100000 in
theorem xw_X6_lineNumber : lw_tbl[393]? = some (.code ⟨"CarvedRinks", "lineNumber", "(II)I"⟩ cX6_lineNumber 3 (some .int)) := rfl
set_option maxRecDepth 100000 in
theorem xw_X6_hashSkaters : lw_tbl[399]? = some (.code ⟨"CarvedRinks", "hashSkaters", "(J)J"⟩ cX6_hashSkaters 7 (some .long)) := rfl
set_option maxRecDepth 100000 in
theorem xw_X6_skaterNumber : lw_tbl[403]? = some (.code ⟨"CarvedRinks", "skaterNumber", "(II)I"⟩ cX6_skaterNumber 4 (some .int)) := rfl
set_option maxRecDepth 100000 in
theorem xw_X5_ownedCells : lw_tbl[407]? = some (.code ⟨"CarvedRinks$Skater", "ownedCells", "()I"⟩ cX5_ownedCells 1 (some .int)) := rfl
set_option maxRecDepth 100000 in
theorem xw_X2_cellsOfRinks : lw_tbl[412]? = some (.code ⟨"CarvedRinks$Pond", "cellsOfRinks", "(I)I"⟩ cX2_cellsOfRinks 10 (some .int)) := rfl
set_option maxRecDepth 100000 in
theorem xw_X2_rinksOwnedBy : lw_tbl[417]? = some (.code ⟨"CarvedRinks$Pond", "rinksOwnedBy", "(I)I"⟩ cX2_rinksOwnedBy 2 (some .int)) := rfl
set_option maxRecDepth 100000 in
theorem xw_X2_reasonAgainst : lw_tbl[421]? = some (.code ⟨"CarvedRinks$Pond", "reasonAgainst", "(II)I"⟩ cX2_reasonAgainst 8 (some .int)) := rfl
set_option maxRecDepth 100000 in
theorem xw_X5_nextX : lw_tbl[426]? = some (.code ⟨"CarvedRinks$Skater", "nextX", "(I)I"⟩ cX5_nextX 2 (some .int)) := rfl
set_option maxRecDepth 100000 in
theorem xw_X5_nextY : lw_tbl[430]? = some (.code ⟨"CarvedRinks$Skater", "nextY", "(I)I"⟩ cX5_nextY 2 (some .int)) := rfl
set_option maxRecDepth 100000 in
theorem xw_X2_isTaken : lw_tbl[434]? = some (.code ⟨"CarvedRinks$Pond", "isTaken", "(II)Z"⟩ cX2_isTaken 4 (some .boolean)) := rfl
set_option maxRecDepth 100000 in
theorem xw_X2_tollTaker : lw_tbl[439]? = some (.code ⟨"CarvedRinks$Pond", "tollTaker", "(IJ)I"⟩ cX2_tollTaker 5 (some .int)) := rfl
set_option maxRecDepth 100000 in
theorem xw_X6_bestGlide : lw_tbl[443]? = some (.code ⟨"CarvedRinks", "bestGlide", "(I)I"⟩ cX6_bestGlide 8 (some .int)) := rfl
set_option maxRecDepth 100000 in
theorem xw_X2_copyFrom : lw_tbl[447]? = some (.code ⟨"CarvedRinks$Pond", "copyFrom", "(LCarvedRinks$Pond;)V"⟩ cX2_copyFrom 3 (none)) := rfl
set_option maxRecDepth 100000 in
theorem xw_X5_copyFrom : lw_tbl[454]? = some (.code ⟨"CarvedRinks$Skater", "copyFrom", "(LCarvedRinks$Skater;)V"⟩ cX5_copyFrom 2 (none)) := rfl
set_option maxRecDepth 100000 in
theorem xw_X2_makeStep : lw_tbl[458]? = some (.code ⟨"CarvedRinks$Pond", "makeStep", "(II)V"⟩ cX2_makeStep 7 (none)) := rfl
set_option maxRecDepth 100000 in
theorem xw_X2_payToll : lw_tbl[462]? = some (.code ⟨"CarvedRinks$Pond", "payToll", "(LCarvedRinks$Skater;I)V"⟩ cX2_payToll 4 (none)) := rfl
set_option maxRecDepth 100000 in
theorem xw_X5_move : lw_tbl[466]? = some (.code ⟨"CarvedRinks$Skater", "move", "(I)V"⟩ cX5_move 2 (none)) := rfl
set_option maxRecDepth 100000 in
theorem xw_X2_makeWater : lw_tbl[472]? = some (.code ⟨"CarvedRinks$Pond", "makeWater", "(J)V"⟩ cX2_makeWater 4 (none)) := rfl
set_option maxRecDepth 100000 in
theorem xw_X2_cutLine : lw_tbl[477]? = some (.code ⟨"CarvedRinks$Pond", "cutLine", "(I)V"⟩ cX2_cutLine 2 (none)) := rfl
set_option maxRecDepth 100000 in
theorem xw_X2_partRink : lw_tbl[481]? = some (.code ⟨"CarvedRinks$Pond", "partRink", "(LCarvedRinks$Skater;I)V"⟩ cX2_partRink 13 (none)) := rfl
set_option maxRecDepth 100000 in
theorem xw_X6_hashRinks : lw_tbl[487]? = some (.code ⟨"CarvedRinks", "hashRinks", "(J)J"⟩ cX6_hashRinks 11 (some .long)) := rfl
set_option maxRecDepth 100000 in
theorem xw_X6_rinkNumber : lw_tbl[491]? = some (.code ⟨"CarvedRinks", "rinkNumber", "(JI)I"⟩ cX6_rinkNumber 5 (some .int)) := rfl
set_option maxRecDepth 100000 in
theorem xw_X6_ownedShare : lw_tbl[495]? = some (.code ⟨"CarvedRinks", "ownedShare", "()D"⟩ cX6_ownedShare 2 (some .double)) := rfl
set_option maxRecDepth 100000 in
theorem xw_X2_ownedCells : lw_tbl[499]? = some (.code ⟨"CarvedRinks$Pond", "ownedCells", "()I"⟩ cX2_ownedCells 1 (some .int)) := rfl
set_option maxRecDepth 100000 in
theorem xw_X6_floatingBits : lw_tbl[502]? = some (.code ⟨"CarvedRinks", "floatingBits", "(DII)J"⟩ cX6_floatingBits 10 (some .long)) := rfl
set_option maxRecDepth 100000 in
theorem xw_X6_meanRink : lw_tbl[507]? = some (.code ⟨"CarvedRinks", "meanRink", "()F"⟩ cX6_meanRink 2 (some .float)) := rfl
set_option maxRecDepth 100000 in
theorem xw_X6_hashText : lw_tbl[511]? = some (.code ⟨"CarvedRinks", "hashText", "(J)J"⟩ cX6_hashText 6 (some .long)) := rfl
set_option maxRecDepth 100000 in
theorem xw_L_cell : lw_tbl[514]? = some (.code ⟨"CarvedRinksLaw", "cell", "([II)I"⟩ cL_cell 2 (some .int)) := rfl
set_option maxRecDepth 100000 in
theorem xw_X6_count : lw_tbl[524]? = some (.code ⟨"CarvedRinks", "count", "(I)I"⟩ cX6_count 2 (some .int)) := rfl
set_option maxRecDepth 100000 in
theorem xw_X6_play : lw_tbl[599]? = some (.code ⟨"CarvedRinks", "play", "()I"⟩ cX6_play 2 (some .int)) := rfl
set_option maxRecDepth 100000 in
theorem xw_X0_isComplete : lw_tbl[603]? = some (.code ⟨"CarvedRinks$GlideText", "isComplete", "()Z"⟩ cX0_isComplete 3 (some .boolean)) := rfl
set_option maxRecDepth 100000 in
theorem xw_X4_push : lw_tbl[608]? = some (.code ⟨"CarvedRinks$SavedPonds", "push", "(LCarvedRinks$Pond;)V"⟩ cX4_push 2 (none)) := rfl
set_option maxRecDepth 100000 in
theorem xw_X0_playOn : lw_tbl[613]? = some (.code ⟨"CarvedRinks$GlideText", "playOn", "(LCarvedRinks$Pond;)I"⟩ cX0_playOn 9 (some .int)) := rfl
set_option maxRecDepth 100000 in
theorem xw_X2_thawOnce : lw_tbl[617]? = some (.code ⟨"CarvedRinks$Pond", "thawOnce", "()I"⟩ cX2_thawOnce 3 (some .int)) := rfl
set_option maxRecDepth 100000 in
theorem xw_X2_makeSteps : lw_tbl[621]? = some (.code ⟨"CarvedRinks$Pond", "makeSteps", "(III)I"⟩ cX2_makeSteps 5 (some .int)) := rfl
set_option maxRecDepth 100000 in
theorem xw_X6_goBack : lw_tbl[631]? = some (.code ⟨"CarvedRinks", "goBack", "()I"⟩ cX6_goBack 1 (some .int)) := rfl
set_option maxRecDepth 100000 in
theorem xw_X6_undo : lw_tbl[654]? = some (.code ⟨"CarvedRinks", "undo", "()I"⟩ cX6_undo 1 (some .int)) := rfl
set_option maxRecDepth 100000 in
theorem xw_X4_popInto : lw_tbl[659]? = some (.code ⟨"CarvedRinks$SavedPonds", "popInto", "(LCarvedRinks$Pond;)V"⟩ cX4_popInto 2 (none)) := rfl
set_option maxRecDepth 100000 in
theorem xw_X6_best : lw_tbl[667]? = some (.code ⟨"CarvedRinks", "best", "(I)I"⟩ cX6_best 2 (some .int)) := rfl
set_option maxRecDepth 100000 in
theorem xw_X6_isSkater : lw_tbl[670]? = some (.code ⟨"CarvedRinks", "isSkater", "(I)Z"⟩ cX6_isSkater 1 (some .boolean)) := rfl
set_option maxRecDepth 100000 in
theorem xw_L_acts : lw_tbl[689]? = some (.code ⟨"CarvedRinksLaw", "acts", "(LCarvedRinks;I)I"⟩ cL_acts 6 (some .int)) := rfl
set_option maxRecDepth 100000 in
theorem xw_X6_thaw : lw_tbl[693]? = some (.code ⟨"CarvedRinks", "thaw", "()I"⟩ cX6_thaw 1 (some .int)) := rfl
set_option maxRecDepth 100000 in
theorem xw_X6_hole : lw_tbl[701]? = some (.code ⟨"CarvedRinks", "hole", "(II)I"⟩ cX6_hole 6 (some .int)) := rfl
set_option maxRecDepth 100000 in
theorem xw_X6_pay : lw_tbl[712]? = some (.code ⟨"CarvedRinks", "pay", "(II)I"⟩ cX6_pay 4 (some .int)) := rfl
set_option maxRecDepth 100000 in
theorem xw_X6_set : lw_tbl[721]? = some (.code ⟨"CarvedRinks", "set", "(II)I"⟩ cX6_set 4 (some .int)) := rfl
set_option maxRecDepth 100000 in
theorem xw_X6_isSetting : lw_tbl[724]? = some (.code ⟨"CarvedRinks", "isSetting", "(I)Z"⟩ cX6_isSetting 1 (some .boolean)) := rfl
set_option maxRecDepth 100000 in
theorem xw_X6_leastValue : lw_tbl[728]? = some (.code ⟨"CarvedRinks", "leastValue", "(I)I"⟩ cX6_leastValue 1 (some .int)) := rfl
set_option maxRecDepth 100000 in
theorem xw_X6_mostValue : lw_tbl[731]? = some (.code ⟨"CarvedRinks", "mostValue", "(I)I"⟩ cX6_mostValue 1 (some .int)) := rfl
set_option maxRecDepth 100000 in
theorem xw_X6_keep : lw_tbl[736]? = some (.code ⟨"CarvedRinks", "keep", "()I"⟩ cX6_keep 1 (some .int)) := rfl
set_option maxRecDepth 100000 in
theorem xw_X6_append : lw_tbl[743]? = some (.code ⟨"CarvedRinks", "append", "(I)I"⟩ cX6_append 2 (some .int)) := rfl
set_option maxRecDepth 100000 in
theorem xw_X0_isFull : lw_tbl[748]? = some (.code ⟨"CarvedRinks$GlideText", "isFull", "()Z"⟩ cX0_isFull 1 (some .boolean)) := rfl
set_option maxRecDepth 100000 in
theorem xw_X0_add : lw_tbl[753]? = some (.code ⟨"CarvedRinks$GlideText", "add", "(I)V"⟩ cX0_add 2 (none)) := rfl
set_option maxRecDepth 100000 in
theorem xw_X6_glide : lw_tbl[760]? = some (.code ⟨"CarvedRinks", "glide", "(III)I"⟩ cX6_glide 4 (some .int)) := rfl
set_option maxRecDepth 100000 in
theorem xw_X6_isDirection : lw_tbl[763]? = some (.code ⟨"CarvedRinks", "isDirection", "(I)Z"⟩ cX6_isDirection 1 (some .boolean)) := rfl
set_option maxRecDepth 100000 in
theorem xw_X6_isSteps : lw_tbl[766]? = some (.code ⟨"CarvedRinks", "isSteps", "(I)Z"⟩ cX6_isSteps 1 (some .boolean)) := rfl
set_option maxRecDepth 100000 in
theorem xw_L_hangs : lw_tbl[771]? = some (.code ⟨"CarvedRinksLaw", "hangs", "(LCarvedRinks;)Z"⟩ cL_hangs 15 (some .boolean)) := rfl
set_option maxRecDepth 100000 in
theorem xw_X6_cell : lw_tbl[778]? = some (.code ⟨"CarvedRinks", "cell", "(III)I"⟩ cX6_cell 6 (some .int)) := rfl
set_option maxRecDepth 100000 in
theorem xw_X6_line : lw_tbl[785]? = some (.code ⟨"CarvedRinks", "line", "(IIII)I"⟩ cX6_line 7 (some .int)) := rfl
set_option maxRecDepth 100000 in
theorem xw_X6_isPoint : lw_tbl[788]? = some (.code ⟨"CarvedRinks", "isPoint", "(II)Z"⟩ cX6_isPoint 2 (some .boolean)) := rfl
set_option maxRecDepth 100000 in
theorem xw_X6_rink : lw_tbl[797]? = some (.code ⟨"CarvedRinks", "rink", "(II)I"⟩ cX6_rink 5 (some .int)) := rfl
set_option maxRecDepth 100000 in
theorem xw_X2_rinkWithRank : lw_tbl[802]? = some (.code ⟨"CarvedRinks$Pond", "rinkWithRank", "(I)J"⟩ cX2_rinkWithRank 7 (some .long)) := rfl
set_option maxRecDepth 100000 in
theorem xw_X6_skater : lw_tbl[809]? = some (.code ⟨"CarvedRinks", "skater", "(II)I"⟩ cX6_skater 3 (some .int)) := rfl
set_option maxRecDepth 100000 in
theorem xw_X6_why : lw_tbl[816]? = some (.code ⟨"CarvedRinks", "why", "(II)I"⟩ cX6_why 3 (some .int)) := rfl
set_option maxRecDepth 100000 in
theorem xw_X6_ifGlided : lw_tbl[824]? = some (.code ⟨"CarvedRinks", "ifGlided", "(IIII)I"⟩ cX6_ifGlided 6 (some .int)) := rfl
set_option maxRecDepth 100000 in
theorem xw_L_refuses : lw_tbl[830]? = some (.code ⟨"CarvedRinksLaw", "refuses", "(LCarvedRinks;I)Z"⟩ cL_refuses 6 (some .boolean)) := rfl
set_option maxRecDepth 100000 in
theorem xw_X6_setting : lw_tbl[837]? = some (.code ⟨"CarvedRinks", "setting", "(I)I"⟩ cX6_setting 2 (some .int)) := rfl
theorem xP0 : ∀ f ∈ xM0, xMP f := List.forall_mem_cons.mpr ⟨fun _ => List.mem_of_getElem? xw_X6_init, List.forall_mem_cons.mpr ⟨fun _ => List.mem_of_getElem? xw_X2_init, List.forall_mem_cons.mpr ⟨fun _ => List.mem_of_getElem? xw_X5_init, List.forall_mem_cons.mpr ⟨fun _ => List.mem_of_getElem? xw_X4_init, List.forall_mem_cons.mpr ⟨fun _ => List.mem_of_getElem? xw_X0_init, List.forall_mem_cons.mpr ⟨fun _ => List.mem_of_getElem? xw_X3_init, List.forall_mem_cons.mpr ⟨fun _ => List.mem_of_getElem? xw_X6_clearBuffer, List.forall_mem_cons.mpr ⟨fun _ => List.mem_of_getElem? xw_X6_firstError, List.forall_mem_cons.mpr ⟨fun _ => List.mem_of_getElem? xw_X0_errorIndex, List.forall_mem_cons.mpr ⟨fun _ => List.mem_of_getElem? xw_X0_placeBehind, List.forall_mem_cons.mpr ⟨fun _ => List.mem_of_getElem? xw_X0_directionOf, List.forall_mem_cons.mpr ⟨fun _ => List.mem_of_getElem? xw_X6_calm, List.forall_mem_cons.mpr ⟨fun _ => List.mem_of_getElem? xw_X2_thawsUntilCalm, List.forall_mem_cons.mpr ⟨fun _ => List.mem_of_getElem? xw_X6_thawingCells, List.forall_mem_cons.mpr ⟨fun _ => List.mem_of_getElem? xw_X6_southOf, List.forall_mem_cons.mpr ⟨fun _ => List.mem_of_getElem? xw_X6_northOf, List.forall_mem_cons.mpr ⟨fun _ => List.mem_of_getElem? xw_X6_eastOf, List.forall_mem_cons.mpr ⟨fun _ => List.mem_of_getElem? xw_X6_westOf, List.forall_mem_cons.mpr ⟨fun _ => List.mem_of_getElem? xw_X6_digest, List.forall_mem_cons.mpr ⟨fun _ => List.mem_of_getElem? xw_X6_stateNumber, List.forall_mem_cons.mpr ⟨fun _ => List.mem_of_getElem? xw_X2_iceCells, List.forall_mem_cons.mpr ⟨fun _ => List.mem_of_getElem? xw_J13_bitCount_95d88, List.forall_mem_cons.mpr ⟨fun _ => List.mem_of_getElem? xw_X2_rinksByGoing, List.forall_mem_cons.mpr ⟨fun _ => List.mem_of_getElem? xw_X2_rinksWithin, List.forall_mem_cons.mpr ⟨fun _ => List.mem_of_getElem? xw_X6_lowestBit, List.forall_mem_cons.mpr ⟨fun _ => List.mem_of_getElem? xw_X2_rinkOf, List.forall_mem_cons.mpr ⟨fun _ => List.mem_of_getElem? xw_X3_rinksByJoining, List.forall_mem_cons.mpr ⟨fun _ => List.mem_of_getElem? xw_X1_cellsAt, List.forall_mem_cons.mpr ⟨fun _ => List.mem_of_getElem? xw_X1_lowerCell, List.forall_mem_cons.mpr ⟨fun _ => List.mem_of_getElem? xw_X1_leadsEast, fun _ h => absurd h List.not_mem_nil⟩⟩⟩⟩⟩⟩⟩⟩⟩⟩⟩⟩⟩⟩⟩⟩⟩⟩⟩⟩⟩⟩⟩⟩⟩⟩⟩⟩⟩⟩
theorem xP1 : ∀ f ∈ xM1, xMP f := List.forall_mem_cons.mpr ⟨fun _ => List.mem_of_getElem? xw_X6_cellBit, List.forall_mem_cons.mpr ⟨fun _ => List.mem_of_getElem? xw_X1_higherCell, List.forall_mem_cons.mpr ⟨fun _ => List.mem_of_getElem? xw_X2_isCut, List.forall_mem_cons.mpr ⟨fun _ => List.mem_of_getElem? xw_X3_join, List.forall_mem_cons.mpr ⟨fun _ => List.mem_of_getElem? xw_X6_lowestOf, List.forall_mem_cons.mpr ⟨fun _ => List.mem_of_getElem? xw_X3_lowestJoined, List.forall_mem_cons.mpr ⟨fun h => absurd h (by decide), List.forall_mem_cons.mpr ⟨fun h => absurd h (by decide), List.forall_mem_cons.mpr ⟨fun _ => List.mem_of_getElem? xw_X2_rinksOwned, List.forall_mem_cons.mpr ⟨fun _ => List.mem_of_getElem? xw_X2_ownedByAny, List.forall_mem_cons.mpr ⟨fun _ => List.mem_of_getElem? xw_X2_allPurses, List.forall_mem_cons.mpr ⟨fun _ => List.mem_of_getElem? xw_X2_greatestRink, List.forall_mem_cons.mpr ⟨fun _ => List.mem_of_getElem? xw_X6_hashCells, List.forall_mem_cons.mpr ⟨fun _ => List.mem_of_getElem? xw_X6_cellNumber, List.forall_mem_cons.mpr ⟨fun _ => List.mem_of_getElem? xw_X2_isIce, List.forall_mem_cons.mpr ⟨fun _ => List.mem_of_getElem? xw_X2_ownerOf, List.forall_mem_cons.mpr ⟨fun _ => List.mem_of_getElem? xw_X6_cellsBeside, List.forall_mem_cons.mpr ⟨fun _ => List.mem_of_getElem? xw_X2_thawsUntilWater, List.forall_mem_cons.mpr ⟨fun _ => List.mem_of_getElem? xw_X6_hashLines, List.forall_mem_cons.mpr ⟨fun _ => List.mem_of_getElem? xw_X1_leading, List.forall_mem_cons.mpr ⟨fun _ => List.mem_of_getElem? xw_X1_leadingSouth, List.forall_mem_cons.mpr ⟨fun _ => List.mem_of_getElem? xw_X1_leadingEast, List.forall_mem_cons.mpr ⟨fun _ => List.mem_of_getElem? xw_X6_lineNumber, List.forall_mem_cons.mpr ⟨fun _ => List.mem_of_getElem? xw_X6_hashSkaters, List.forall_mem_cons.mpr ⟨fun _ => List.mem_of_getElem? xw_X6_skaterNumber, List.forall_mem_cons.mpr ⟨fun _ => List.mem_of_getElem? xw_X5_ownedCells, List.forall_mem_cons.mpr ⟨fun _ => List.mem_of_getElem? xw_X2_cellsOfRinks, List.forall_mem_cons.mpr ⟨fun _ => List.mem_of_getElem? xw_X2_rinksOwnedBy, List.forall_mem_cons.mpr ⟨fun _ => List.mem_of_getElem? xw_X2_reasonAgainst, List.forall_mem_cons.mpr ⟨fun _ => List.mem_of_getElem? xw_X5_nextX, fun _ h => absurd h List.not_mem_nil⟩⟩⟩⟩⟩⟩⟩⟩⟩⟩⟩⟩⟩⟩⟩⟩⟩⟩⟩⟩⟩⟩⟩⟩⟩⟩⟩⟩⟩⟩
theorem xP2 : ∀ f ∈ xM2, xMP f := List.forall_mem_cons.mpr ⟨fun _ => List.mem_of_getElem? xw_X5_nextY, List.forall_mem_cons.mpr ⟨fun _ => List.mem_of_getElem? xw_X2_isTaken, List.forall_mem_cons.mpr ⟨fun _ => List.mem_of_getElem? xw_X2_tollTaker, List.forall_mem_cons.mpr ⟨fun _ => List.mem_of_getElem? xw_X6_bestGlide, List.forall_mem_cons.mpr ⟨fun _ => List.mem_of_getElem? xw_X2_copyFrom, List.forall_mem_cons.mpr ⟨fun _ => List.mem_of_getElem? xw_X5_copyFrom, List.forall_mem_cons.mpr ⟨fun _ => List.mem_of_getElem? xw_X2_makeStep, List.forall_mem_cons.mpr ⟨fun _ => List.mem_of_getElem? xw_X2_payToll, List.forall_mem_cons.mpr ⟨fun _ => List.mem_of_getElem? xw_X5_move, List.forall_mem_cons.mpr ⟨fun _ => List.mem_of_getElem? xw_X2_makeWater, List.forall_mem_cons.mpr ⟨fun _ => List.mem_of_getElem? xw_X2_cutLine, List.forall_mem_cons.mpr ⟨fun _ => List.mem_of_getElem? xw_X2_partRink, List.forall_mem_cons.mpr ⟨fun _ => List.mem_of_getElem? xw_X6_hashRinks, List.forall_mem_cons.mpr ⟨fun _ => List.mem_of_getElem? xw_X6_rinkNumber, List.forall_mem_cons.mpr ⟨fun _ => List.mem_of_getElem? xw_X6_ownedShare, List.forall_mem_cons.mpr ⟨fun _ => List.mem_of_getElem? xw_X2_ownedCells, List.forall_mem_cons.mpr ⟨fun _ => List.mem_of_getElem? xw_X6_floatingBits, List.forall_mem_cons.mpr ⟨fun _ => List.mem_of_getElem? xw_X6_meanRink, List.forall_mem_cons.mpr ⟨fun _ => List.mem_of_getElem? xw_X6_hashText, List.forall_mem_cons.mpr ⟨fun _ => List.mem_of_getElem? xw_L_cell, List.forall_mem_cons.mpr ⟨fun h => absurd h (by decide), List.forall_mem_cons.mpr ⟨fun _ => List.mem_of_getElem? xw_X6_count, List.forall_mem_cons.mpr ⟨fun h => absurd h (by decide), List.forall_mem_cons.mpr ⟨fun _ => List.mem_of_getElem? xw_X6_play, List.forall_mem_cons.mpr ⟨fun _ => List.mem_of_getElem? xw_X0_isComplete, List.forall_mem_cons.mpr ⟨fun _ => List.mem_of_getElem? xw_X4_push, List.forall_mem_cons.mpr ⟨fun _ => List.mem_of_getElem? xw_X0_playOn, List.forall_mem_cons.mpr ⟨fun _ => List.mem_of_getElem? xw_X2_thawOnce, List.forall_mem_cons.mpr ⟨fun _ => List.mem_of_getElem? xw_X2_makeSteps, List.forall_mem_cons.mpr ⟨fun h => absurd h (by decide), fun _ h => absurd h List.not_mem_nil⟩⟩⟩⟩⟩⟩⟩⟩⟩⟩⟩⟩⟩⟩⟩⟩⟩⟩⟩⟩⟩⟩⟩⟩⟩⟩⟩⟩⟩⟩
theorem xP3 : ∀ f ∈ xM3, xMP f := List.forall_mem_cons.mpr ⟨fun _ => List.mem_of_getElem? xw_X6_goBack, List.forall_mem_cons.mpr ⟨fun h => absurd h (by decide), List.forall_mem_cons.mpr ⟨fun _ => List.mem_of_getElem? xw_X6_undo, List.forall_mem_cons.mpr ⟨fun _ => List.mem_of_getElem? xw_X4_popInto, List.forall_mem_cons.mpr ⟨fun h => absurd h (by decide), List.forall_mem_cons.mpr ⟨fun _ => List.mem_of_getElem? xw_X6_best, List.forall_mem_cons.mpr ⟨fun _ => List.mem_of_getElem? xw_X6_isSkater, List.forall_mem_cons.mpr ⟨fun _ => List.mem_of_getElem? xw_L_acts, List.forall_mem_cons.mpr ⟨fun _ => List.mem_of_getElem? xw_X6_thaw, List.forall_mem_cons.mpr ⟨fun h => absurd h (by decide), List.forall_mem_cons.mpr ⟨fun _ => List.mem_of_getElem? xw_X6_hole, List.forall_mem_cons.mpr ⟨fun h => absurd h (by decide), List.forall_mem_cons.mpr ⟨fun _ => List.mem_of_getElem? xw_X6_pay, List.forall_mem_cons.mpr ⟨fun h => absurd h (by decide), List.forall_mem_cons.mpr ⟨fun _ => List.mem_of_getElem? xw_X6_set, List.forall_mem_cons.mpr ⟨fun _ => List.mem_of_getElem? xw_X6_isSetting, List.forall_mem_cons.mpr ⟨fun _ => List.mem_of_getElem? xw_X6_leastValue, List.forall_mem_cons.mpr ⟨fun _ => List.mem_of_getElem? xw_X6_mostValue, List.forall_mem_cons.mpr ⟨fun _ => List.mem_of_getElem? xw_X6_keep, List.forall_mem_cons.mpr ⟨fun h => absurd h (by decide), List.forall_mem_cons.mpr ⟨fun _ => List.mem_of_getElem? xw_X6_append, List.forall_mem_cons.mpr ⟨fun _ => List.mem_of_getElem? xw_X0_isFull, List.forall_mem_cons.mpr ⟨fun _ => List.mem_of_getElem? xw_X0_add, List.forall_mem_cons.mpr ⟨fun h => absurd h (by decide), List.forall_mem_cons.mpr ⟨fun _ => List.mem_of_getElem? xw_X6_glide, List.forall_mem_cons.mpr ⟨fun _ => List.mem_of_getElem? xw_X6_isDirection, List.forall_mem_cons.mpr ⟨fun _ => List.mem_of_getElem? xw_X6_isSteps, List.forall_mem_cons.mpr ⟨fun _ => List.mem_of_getElem? xw_L_hangs, List.forall_mem_cons.mpr ⟨fun h => absurd h (by decide), List.forall_mem_cons.mpr ⟨fun _ => List.mem_of_getElem? xw_X6_cell, fun _ h => absurd h List.not_mem_nil⟩⟩⟩⟩⟩⟩⟩⟩⟩⟩⟩⟩⟩⟩⟩⟩⟩⟩⟩⟩⟩⟩⟩⟩⟩⟩⟩⟩⟩⟩
theorem xP4 : ∀ f ∈ xM4, xMP f := List.forall_mem_cons.mpr ⟨fun h => absurd h (by decide), List.forall_mem_cons.mpr ⟨fun _ => List.mem_of_getElem? xw_X6_line, List.forall_mem_cons.mpr ⟨fun _ => List.mem_of_getElem? xw_X6_isPoint, List.forall_mem_cons.mpr ⟨fun h => absurd h (by decide), List.forall_mem_cons.mpr ⟨fun _ => List.mem_of_getElem? xw_X6_rink, List.forall_mem_cons.mpr ⟨fun _ => List.mem_of_getElem? xw_X2_rinkWithRank, List.forall_mem_cons.mpr ⟨fun h => absurd h (by decide), List.forall_mem_cons.mpr ⟨fun _ => List.mem_of_getElem? xw_X6_skater, List.forall_mem_cons.mpr ⟨fun h => absurd h (by decide), List.forall_mem_cons.mpr ⟨fun _ => List.mem_of_getElem? xw_X6_why, List.forall_mem_cons.mpr ⟨fun h => absurd h (by decide), List.forall_mem_cons.mpr ⟨fun _ => List.mem_of_getElem? xw_X6_ifGlided, List.forall_mem_cons.mpr ⟨fun _ => List.mem_of_getElem? xw_L_refuses, List.forall_mem_cons.mpr ⟨fun h => absurd h (by decide), List.forall_mem_cons.mpr ⟨fun _ => List.mem_of_getElem? xw_X6_setting, List.forall_mem_cons.mpr ⟨fun h => absurd h (by decide), fun _ h => absurd h List.not_mem_nil⟩⟩⟩⟩⟩⟩⟩⟩⟩⟩⟩⟩⟩⟩⟩⟩
theorem xP : ∀ f ∈ xM, xMP f := List.forall_mem_append.mpr ⟨xP0, List.forall_mem_append.mpr ⟨xP1, List.forall_mem_append.mpr ⟨xP2, List.forall_mem_append.mpr ⟨xP3, xP4⟩⟩⟩⟩
