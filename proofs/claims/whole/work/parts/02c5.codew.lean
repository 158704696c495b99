/-! ===== the methods' code words: by program (wip/tools/gen_codew.py) ===== -/
def xMP (f : xMe) : Prop := f.2.2.2.2.2.2.2 ≤ 1 → Cond.code f.1 f.2.1 f.2.2.1 f.2.2.2.1 ∈ lw_tbl
set_option maxRecDepth 100000 in
theorem xw_X6_init : lw_tbl[83]? = some (.code ⟨"CarvedRinks", "<init>", "()V"⟩ cX6_init 1 (none)) := rfl
set_option maxRecDepth 100000 in
theorem xw_X2_init : lw_tbl[91]? = some (.code ⟨"CarvedRinks$Pond", "<init>", "()V"⟩ cX2_init 1 (none)) := rfl
set_option maxRecDepth 100000 in
theorem xw_X5_init : lw_tbl[99]? = some (.code ⟨"CarvedRinks$Skater", "<init>", "(II)V"⟩ cX5_init 3 (none)) := rfl
set_option maxRecDepth 100000 in
theorem xw_X4_init : lw_tbl[182]? = some (.code ⟨"CarvedRinks$SavedPonds", "<init>", "()V"⟩ cX4_init 2 (none)) := rfl
set_option maxRecDepth 100000 in
theorem xw_X0_init : lw_tbl[202]? = some (.code ⟨"CarvedRinks$GlideText", "<init>", "()V"⟩ cX0_init 1 (none)) := rfl
set_option maxRecDepth 100000 in
theorem xw_X3_init : lw_tbl[217]? = some (.code ⟨"CarvedRinks$RinkJoiner", "<init>", "()V"⟩ cX3_init 1 (none)) := rfl
set_option maxRecDepth 100000 in
theorem xw_X6_thaw : lw_tbl[248]? = some (.code ⟨"CarvedRinks", "thaw", "()I"⟩ cX6_thaw 1 (some .int)) := rfl
set_option maxRecDepth 100000 in
theorem xw_X4_push : lw_tbl[252]? = some (.code ⟨"CarvedRinks$SavedPonds", "push", "(LCarvedRinks$Pond;)V"⟩ cX4_push 2 (none)) := rfl
set_option maxRecDepth 100000 in
theorem xw_X2_copyFrom : lw_tbl[256]? = some (.code ⟨"CarvedRinks$Pond", "copyFrom", "(LCarvedRinks$Pond;)V"⟩ cX2_copyFrom 3 (none)) := rfl
set_option maxRecDepth 100000 in
theorem xw_X5_copyFrom : lw_tbl[263]? = some (.code ⟨"CarvedRinks$Skater", "copyFrom", "(LCarvedRinks$Skater;)V"⟩ cX5_copyFrom 2 (none)) := rfl
set_option maxRecDepth 100000 in
theorem xw_X2_thawOnce : lw_tbl[267]? = some (.code ⟨"CarvedRinks$Pond", "thawOnce", "()I"⟩ cX2_thawOnce 3 (some .int)) := rfl
set_option maxRecDepth 100000 in
theorem xw_X6_thawingCells : lw_tbl[270]? = some (.code ⟨"CarvedRinks", "thawingCells", "(JI)J"⟩ cX6_thawingCells 21 (some .long)) := rfl
set_option maxRecDepth 100000 in
theorem xw_X6_southOf : lw_tbl[274]? = some (.code ⟨"CarvedRinks", "southOf", "(J)J"⟩ cX6_southOf 2 (some .long)) := rfl
set_option maxRecDepth 100000 in
theorem xw_X6_northOf : lw_tbl[277]? = some (.code ⟨"CarvedRinks", "northOf", "(J)J"⟩ cX6_northOf 2 (some .long)) := rfl
set_option maxRecDepth 100000 in
theorem xw_X6_eastOf : lw_tbl[280]? = some (.code ⟨"CarvedRinks", "eastOf", "(J)J"⟩ cX6_eastOf 2 (some .long)) := rfl
set_option maxRecDepth 100000 in
theorem xw_X6_westOf : lw_tbl[284]? = some (.code ⟨"CarvedRinks", "westOf", "(J)J"⟩ cX6_westOf 2 (some .long)) := rfl
set_option maxRecDepth 100000 in
theorem xw_X2_makeWater : lw_tbl[289]? = some (.code ⟨"CarvedRinks$Pond", "makeWater", "(J)V"⟩ cX2_makeWater 4 (none)) := rfl
set_option maxRecDepth 100000 in
theorem xw_J13_bitCount_95d88 : lw_tbl[292]? = some (.code ⟨"java/lang/Long", "bitCount", "(J)I"⟩ cJ13_bitCount_95d88 2 (some .int)) := rfl
set_option maxRecDepth 100000 in
theorem xw_X6_clearBuffer : lw_tbl[299]? = some (.code ⟨"CarvedRinks", "clearBuffer", "()I"⟩ cX6_clearBuffer 2 (some .int)) := rfl
set_option maxRecDepth 100000 in
theorem xw_X6_firstError : lw_tbl[303]? = some (.code ⟨"CarvedRinks", "firstError", "()I"⟩ cX6_firstError 1 (some .int)) := rfl
set_option maxRecDepth 100000 in
theorem xw_X0_errorIndex : lw_tbl[307]? = some (.code ⟨"CarvedRinks$GlideText", "errorIndex", "()I"⟩ cX0_errorIndex 3 (some .int)) := rfl
set_option maxRecDepth 100000 in
theorem xw_X0_placeBehind : lw_tbl[310]? = some (.code ⟨"CarvedRinks$GlideText", "placeBehind", "(II)I"⟩ cX0_placeBehind 2 (some .int)) := rfl
set_option maxRecDepth 100000 in
theorem xw_X0_directionOf : lw_tbl[313]? = some (.code ⟨"CarvedRinks$GlideText", "directionOf", "(I)I"⟩ cX0_directionOf 1 (some .int)) := rfl
set_option maxRecDepth 100000 in
theorem xw_X6_keep : lw_tbl[317]? = some (.code ⟨"CarvedRinks", "keep", "()I"⟩ cX6_keep 1 (some .int)) := rfl
set_option maxRecDepth 100000 in
theorem xw_X2_iceCells : lw_tbl[322]? = some (.code ⟨"CarvedRinks$Pond", "iceCells", "()I"⟩ cX2_iceCells 1 (some .int)) := rfl
set_option maxRecDepth 100000 in
theorem xw_X6_calm : lw_tbl[326]? = some (.code ⟨"CarvedRinks", "calm", "()I"⟩ cX6_calm 1 (some .int)) := rfl
set_option maxRecDepth 100000 in
theorem xw_X2_thawsUntilCalm : lw_tbl[330]? = some (.code ⟨"CarvedRinks$Pond", "thawsUntilCalm", "()I"⟩ cX2_thawsUntilCalm 6 (some .int)) := rfl
set_option maxRecDepth 100000 in
theorem xw_X6_ownedShare : lw_tbl[334]? = some (.code ⟨"CarvedRinks", "ownedShare", "()D"⟩ cX6_ownedShare 2 (some .double)) := rfl
set_option maxRecDepth 100000 in
theorem xw_X2_ownedCells : lw_tbl[338]? = some (.code ⟨"CarvedRinks$Pond", "ownedCells", "()I"⟩ cX2_ownedCells 1 (some .int)) := rfl
set_option maxRecDepth 100000 in
theorem xw_X2_ownedByAny : lw_tbl[342]? = some (.code ⟨"CarvedRinks$Pond", "ownedByAny", "()J"⟩ cX2_ownedByAny 4 (some .long)) := rfl
set_option maxRecDepth 100000 in
theorem xw_X6_meanRink : lw_tbl[346]? = some (.code ⟨"CarvedRinks", "meanRink", "()F"⟩ cX6_meanRink 2 (some .float)) := rfl
set_option maxRecDepth 100000 in
theorem xw_X2_rinksByGoing : lw_tbl[350]? = some (.code ⟨"CarvedRinks$Pond", "rinksByGoing", "()I"⟩ cX2_rinksByGoing 1 (some .int)) := rfl
set_option maxRecDepth 100000 in
theorem xw_X2_rinksWithin : lw_tbl[354]? = some (.code ⟨"CarvedRinks$Pond", "rinksWithin", "(J)I"⟩ cX2_rinksWithin 7 (some .int)) := rfl
set_option maxRecDepth 100000 in
theorem xw_X6_lowestBit : lw_tbl[357]? = some (.code ⟨"CarvedRinks", "lowestBit", "(J)J"⟩ cX6_lowestBit 2 (some .long)) := rfl
set_option maxRecDepth 100000 in
theorem xw_X2_rinkOf : lw_tbl[361]? = some (.code ⟨"CarvedRinks$Pond", "rinkOf", "(J)J"⟩ cX2_rinkOf 12 (some .long)) := rfl
set_option maxRecDepth 100000 in
theorem xw_X6_digest : lw_tbl[369]? = some (.code ⟨"CarvedRinks", "digest", "()J"⟩ cX6_digest 4 (some .long)) := rfl
set_option maxRecDepth 100000 in
theorem xw_X6_stateNumber : lw_tbl[375]? = some (.code ⟨"CarvedRinks", "stateNumber", "(I)I"⟩ cX6_stateNumber 2 (some .int)) := rfl
set_option maxRecDepth 100000 in
theorem xw_X3_rinksByJoining : lw_tbl[379]? = some (.code ⟨"CarvedRinks$RinkJoiner", "rinksByJoining", "(LCarvedRinks$Pond;)I"⟩ cX3_rinksByJoining 6 (some .int)) := rfl
set_option maxRecDepth 100000 in
theorem xw_X1_cellsAt : lw_tbl[383]? = some (.code ⟨"CarvedRinks$Lines", "cellsAt", "(I)J"⟩ cX1_cellsAt 1 (some .long)) := rfl
set_option maxRecDepth 100000 in
theorem xw_X1_lowerCell : lw_tbl[386]? = some (.code ⟨"CarvedRinks$Lines", "lowerCell", "(I)J"⟩ cX1_lowerCell 2 (some .long)) := rfl
set_option maxRecDepth 100000 in
theorem xw_X1_leadsEast : lw_tbl[389]? = some (.code ⟨"CarvedRinks$Lines", "leadsEast", "(I)Z"⟩ cX1_leadsEast 1 (some .boolean)) := rfl
set_option maxRecDepth 100000 in
theorem xw_X6_cellBit : lw_tbl[392]? = some (.code ⟨"CarvedRinks", "cellBit", "(II)J"⟩ cX6_cellBit 3 (some .long)) := rfl
set_option maxRecDepth 100000 in
theorem xw_X1_higherCell : lw_tbl[395]? = some (.code ⟨"CarvedRinks$Lines", "higherCell", "(I)J"⟩ cX1_higherCell 2 (some .long)) := rfl
set_option maxRecDepth 100000 in
theorem xw_X2_isCut : lw_tbl[400]? = some (.code ⟨"CarvedRinks$Pond", "isCut", "(I)Z"⟩ cX2_isCut 4 (some .boolean)) := rfl
set_option maxRecDepth 100000 in
theorem xw_X3_join : lw_tbl[406]? = some (.code ⟨"CarvedRinks$RinkJoiner", "join", "(J)Z"⟩ cX3_join 5 (some .boolean)) := rfl
set_option maxRecDepth 100000 in
theorem xw_X6_lowestOf : lw_tbl[409]? = some (.code ⟨"CarvedRinks", "lowestOf", "(J)I"⟩ cX6_lowestOf 2 (some .int)) := rfl
set_option maxRecDepth 100000 in
theorem xw_X3_lowestJoined : lw_tbl[415]? = some (.code ⟨"CarvedRinks$RinkJoiner", "lowestJoined", "(I)I"⟩ cX3_lowestJoined 4 (some .int)) := rfl
set_option maxRecDepth 100000 in
theorem xw_X2_rinksOwned : lw_tbl[427]? = some (.code ⟨"CarvedRinks$Pond", "rinksOwned", "()I"⟩ cX2_rinksOwned 1 (some .int)) := rfl
set_option maxRecDepth 100000 in
theorem xw_X2_allPurses : lw_tbl[431]? = some (.code ⟨"CarvedRinks$Pond", "allPurses", "()I"⟩ cX2_allPurses 3 (some .int)) := rfl
set_option maxRecDepth 100000 in
theorem xw_X2_greatestRink : lw_tbl[435]? = some (.code ⟨"CarvedRinks$Pond", "greatestRink", "()I"⟩ cX2_greatestRink 7 (some .int)) := rfl
set_option maxRecDepth 100000 in
theorem xw_X6_hashCells : lw_tbl[440]? = some (.code ⟨"CarvedRinks", "hashCells", "(J)J"⟩ cX6_hashCells 7 (some .long)) := rfl
set_option maxRecDepth 100000 in
theorem xw_X6_cellNumber : lw_tbl[444]? = some (.code ⟨"CarvedRinks", "cellNumber", "(JI)I"⟩ cX6_cellNumber 4 (some .int)) := rfl
set_option maxRecDepth 100000 in
theorem xw_X2_isIce : lw_tbl[448]? = some (.code ⟨"CarvedRinks$Pond", "isIce", "(J)Z"⟩ cX2_isIce 3 (some .boolean)) := rfl
set_option maxRecDepth 100000 in
theorem xw_X2_ownerOf : lw_tbl[452]? = some (.code ⟨"CarvedRinks$Pond", "ownerOf", "(J)I"⟩ cX2_ownerOf 4 (some .int)) := rfl
set_option maxRecDepth 100000 in
theorem xw_X6_cellsBeside : lw_tbl[457]? = some (.code ⟨"CarvedRinks", "cellsBeside", "(J)J"⟩ cX6_cellsBeside 2 (some .long)) := rfl
set_option maxRecDepth 100000 in
theorem xw_X2_thawsUntilWater : lw_tbl[461]? = some (.code ⟨"CarvedRinks$Pond", "thawsUntilWater", "(J)I"⟩ cX2_thawsUntilWater 8 (some .int)) := rfl
set_option maxRecDepth 100000 in
theorem xw_X6_hashLines : lw_tbl[465]? = some (.code ⟨"CarvedRinks", "hashLines", "(J)J"⟩ cX6_hashLines 9 (some .long)) := rfl
set_option maxRecDepth 100000 in
theorem xw_X1_leading : lw_tbl[468]? = some (.code ⟨"CarvedRinks$Lines", "leading", "(III)I"⟩ cX1_leading 3 (some .int)) := rfl
set_option maxRecDepth 100000 in
theorem xw_X1_leadingSouth : lw_tbl[471]? = some (.code ⟨"CarvedRinks$Lines", "leadingSouth", "(II)I"⟩ cX1_leadingSouth 3 (some .int)) := rfl
set_option maxRecDepth 100000 in
theorem xw_X1_leadingEast : lw_tbl[474]? = some (.code ⟨"CarvedRinks$Lines", "leadingEast", "(II)I"⟩ cX1_leadingEast 3 (some .int)) := rfl
set_option maxRecDepth 100000 in
theorem xw_X6_lineNumber : lw_tbl[478]? = some (.code ⟨"CarvedRinks", "lineNumber", "(II)I"⟩ cX6_lineNumber 3 (some .int)) := rfl
set_option maxRecDepth 100000 in
theorem xw_X6_hashSkaters : lw_tbl[484]? = some (.code ⟨"CarvedRinks", "hashSkaters", "(J)J"⟩ cX6_hashSkaters 7 (some .long)) := rfl
set_option maxRecDepth 100000 in
theorem xw_X6_skaterNumber : lw_tbl[488]? = some (.code ⟨"CarvedRinks", "skaterNumber", "(II)I"⟩ cX6_skaterNumber 4 (some .int)) := rfl
set_option maxRecDepth 100000 in
theorem xw_X5_ownedCells : lw_tbl[492]? = some (.code ⟨"CarvedRinks$Skater", "ownedCells", "()I"⟩ cX5_ownedCells 1 (some .int)) := rfl
set_option maxRecDepth 100000 in
theorem xw_X2_cellsOfRinks : lw_tbl[497]? = some (.code ⟨"CarvedRinks$Pond", "cellsOfRinks", "(I)I"⟩ cX2_cellsOfRinks 10 (some .int)) := rfl
set_option maxRecDepth 100000 in
theorem xw_X2_rinksOwnedBy : lw_tbl[502]? = some (.code ⟨"CarvedRinks$Pond", "rinksOwnedBy", "(I)I"⟩ cX2_rinksOwnedBy 2 (some .int)) := rfl
set_option maxRecDepth 100000 in
theorem xw_X2_reasonAgainst : lw_tbl[506]? = some (.code ⟨"CarvedRinks$Pond", "reasonAgainst", "(II)I"⟩ cX2_reasonAgainst 8 (some .int)) := rfl
set_option maxRecDepth 100000 in
theorem xw_X5_nextX : lw_tbl[511]? = some (.code ⟨"CarvedRinks$Skater", "nextX", "(I)I"⟩ cX5_nextX 2 (some .int)) := rfl
set_option maxRecDepth 100000 in
theorem xw_X5_nextY : lw_tbl[515]? = some (.code ⟨"CarvedRinks$Skater", "nextY", "(I)I"⟩ cX5_nextY 2 (some .int)) := rfl
set_option maxRecDepth 100000 in
theorem xw_X2_isTaken : lw_tbl[519]? = some (.code ⟨"CarvedRinks$Pond", "isTaken", "(II)Z"⟩ cX2_isTaken 4 (some .boolean)) := rfl
set_option maxRecDepth 100000 in
theorem xw_X2_tollTaker : lw_tbl[524]? = some (.code ⟨"CarvedRinks$Pond", "tollTaker", "(IJ)I"⟩ cX2_tollTaker 5 (some .int)) := rfl
set_option maxRecDepth 100000 in
theorem xw_X6_bestGlide : lw_tbl[528]? = some (.code ⟨"CarvedRinks", "bestGlide", "(I)I"⟩ cX6_bestGlide 8 (some .int)) := rfl
set_option maxRecDepth 100000 in
theorem xw_X2_makeStep : lw_tbl[532]? = some (.code ⟨"CarvedRinks$Pond", "makeStep", "(II)V"⟩ cX2_makeStep 7 (none)) := rfl
set_option maxRecDepth 100000 in
theorem xw_X2_payToll : lw_tbl[536]? = some (.code ⟨"CarvedRinks$Pond", "payToll", "(LCarvedRinks$Skater;I)V"⟩ cX2_payToll 4 (none)) := rfl
set_option maxRecDepth 100000 in
theorem xw_X5_move : lw_tbl[540]? = some (.code ⟨"CarvedRinks$Skater", "move", "(I)V"⟩ cX5_move 2 (none)) := rfl
set_option maxRecDepth 100000 in
theorem xw_X2_cutLine : lw_tbl[547]? = some (.code ⟨"CarvedRinks$Pond", "cutLine", "(I)V"⟩ cX2_cutLine 2 (none)) := rfl
set_option maxRecDepth 100000 in
theorem xw_X2_partRink : lw_tbl[551]? = some (.code ⟨"CarvedRinks$Pond", "partRink", "(LCarvedRinks$Skater;I)V"⟩ cX2_partRink 13 (none)) := rfl
set_option maxRecDepth 100000 in
theorem xw_X6_hashRinks : lw_tbl[557]? = some (.code ⟨"CarvedRinks", "hashRinks", "(J)J"⟩ cX6_hashRinks 11 (some .long)) := rfl
set_option maxRecDepth 100000 in
theorem xw_X6_rinkNumber : lw_tbl[561]? = some (.code ⟨"CarvedRinks", "rinkNumber", "(JI)I"⟩ cX6_rinkNumber 5 (some .int)) := rfl
set_option maxRecDepth 100000 in
theorem xw_X6_floatingBits : lw_tbl[565]? = some (.code ⟨"CarvedRinks", "floatingBits", "(DII)J"⟩ cX6_floatingBits 10 (some .long)) := rfl
set_option maxRecDepth 100000 in
theorem xw_X6_hashText : lw_tbl[571]? = some (.code ⟨"CarvedRinks", "hashText", "(J)J"⟩ cX6_hashText 6 (some .long)) := rfl
set_option maxRecDepth 100000 in
theorem xw_X6_glide : lw_tbl[580]? = some (.code ⟨"CarvedRinks", "glide", "(III)I"⟩ cX6_glide 4 (some .int)) := rfl
set_option maxRecDepth 100000 in
theorem xw_X6_isSkater : lw_tbl[583]? = some (.code ⟨"CarvedRinks", "isSkater", "(I)Z"⟩ cX6_isSkater 1 (some .boolean)) := rfl
set_option maxRecDepth 100000 in
theorem xw_X6_isDirection : lw_tbl[654]? = some (.code ⟨"CarvedRinks", "isDirection", "(I)Z"⟩ cX6_isDirection 1 (some .boolean)) := rfl
set_option maxRecDepth 100000 in
theorem xw_X6_isSteps : lw_tbl[657]? = some (.code ⟨"CarvedRinks", "isSteps", "(I)Z"⟩ cX6_isSteps 1 (some .boolean)) := rfl
set_option maxRecDepth 100000 in
theorem xw_X2_makeSteps : lw_tbl[677]? = some (.code ⟨"CarvedRinks$Pond", "makeSteps", "(III)I"⟩ cX2_makeSteps 5 (some .int)) := rfl
set_option maxRecDepth 100000 in
theorem xw_X6_hole : lw_tbl[687]? = some (.code ⟨"CarvedRinks", "hole", "(II)I"⟩ cX6_hole 6 (some .int)) := rfl
set_option maxRecDepth 100000 in
theorem xw_X6_pay : lw_tbl[713]? = some (.code ⟨"CarvedRinks", "pay", "(II)I"⟩ cX6_pay 4 (some .int)) := rfl
set_option maxRecDepth 100000 in
theorem xw_X6_set : lw_tbl[722]? = some (.code ⟨"CarvedRinks", "set", "(II)I"⟩ cX6_set 4 (some .int)) := rfl
set_option maxRecDepth 100000 in
theorem xw_X6_isSetting : lw_tbl[725]? = some (.code ⟨"CarvedRinks", "isSetting", "(I)Z"⟩ cX6_isSetting 1 (some .boolean)) := rfl
set_option maxRecDepth 100000 in
theorem xw_X6_leastValue : lw_tbl[729]? = some (.code ⟨"CarvedRinks", "leastValue", "(I)I"⟩ cX6_leastValue 1 (some .int)) := rfl
set_option maxRecDepth 100000 in
theorem xw_X6_mostValue : lw_tbl[732]? = some (.code ⟨"CarvedRinks", "mostValue", "(I)I"⟩ cX6_mostValue 1 (some .int)) := rfl
set_option maxRecDepth 100000 in
theorem xw_X6_append : lw_tbl[740]? = some (.code ⟨"CarvedRinks", "append", "(I)I"⟩ cX6_append 2 (some .int)) := rfl
set_option maxRecDepth 100000 in
theorem xw_X0_isFull : lw_tbl[745]? = some (.code ⟨"CarvedRinks$GlideText", "isFull", "()Z"⟩ cX0_isFull 1 (some .boolean)) := rfl
set_option maxRecDepth 100000 in
theorem xw_X0_add : lw_tbl[750]? = some (.code ⟨"CarvedRinks$GlideText", "add", "(I)V"⟩ cX0_add 2 (none)) := rfl
set_option maxRecDepth 100000 in
theorem xw_X6_play : lw_tbl[757]? = some (.code ⟨"CarvedRinks", "play", "()I"⟩ cX6_play 2 (some .int)) := rfl
set_option maxRecDepth 100000 in
theorem xw_X0_isComplete : lw_tbl[761]? = some (.code ⟨"CarvedRinks$GlideText", "isComplete", "()Z"⟩ cX0_isComplete 3 (some .boolean)) := rfl
set_option maxRecDepth 100000 in
theorem xw_X0_playOn : lw_tbl[766]? = some (.code ⟨"CarvedRinks$GlideText", "playOn", "(LCarvedRinks$Pond;)I"⟩ cX0_playOn 9 (some .int)) := rfl
set_option maxRecDepth 100000 in
theorem xw_X6_goBack : lw_tbl[775]? = some (.code ⟨"CarvedRinks", "goBack", "()I"⟩ cX6_goBack 1 (some .int)) := rfl
set_option maxRecDepth 100000 in
theorem xw_X6_undo : lw_tbl[783]? = some (.code ⟨"CarvedRinks", "undo", "()I"⟩ cX6_undo 1 (some .int)) := rfl
set_option maxRecDepth 100000 in
theorem xw_X4_popInto : lw_tbl[788]? = some (.code ⟨"CarvedRinks$SavedPonds", "popInto", "(LCarvedRinks$Pond;)V"⟩ cX4_popInto 2 (none)) := rfl
set_option maxRecDepth 100000 in
theorem xw_X6_cell : lw_tbl[795]? = some (.code ⟨"CarvedRinks", "cell", "(III)I"⟩ cX6_cell 6 (some .int)) := rfl
set_option maxRecDepth 100000 in
theorem xw_X6_line : lw_tbl[803]? = some (.code ⟨"CarvedRinks", "line", "(IIII)I"⟩ cX6_line 7 (some .int)) := rfl
set_option maxRecDepth 100000 in
theorem xw_X6_isPoint : lw_tbl[806]? = some (.code ⟨"CarvedRinks", "isPoint", "(II)Z"⟩ cX6_isPoint 2 (some .boolean)) := rfl
set_option maxRecDepth 100000 in
theorem xw_X6_skater : lw_tbl[815]? = some (.code ⟨"CarvedRinks", "skater", "(II)I"⟩ cX6_skater 3 (some .int)) := rfl
set_option maxRecDepth 100000 in
theorem xw_X6_rink : lw_tbl[822]? = some (.code ⟨"CarvedRinks", "rink", "(II)I"⟩ cX6_rink 5 (some .int)) := rfl
set_option maxRecDepth 100000 in
theorem xw_X2_rinkWithRank : lw_tbl[827]? = some (.code ⟨"CarvedRinks$Pond", "rinkWithRank", "(I)J"⟩ cX2_rinkWithRank 7 (some .long)) := rfl
set_option maxRecDepth 100000 in
theorem xw_X6_count : lw_tbl[834]? = some (.code ⟨"CarvedRinks", "count", "(I)I"⟩ cX6_count 2 (some .int)) := rfl
set_option maxRecDepth 100000 in
theorem xw_X6_setting : lw_tbl[841]? = some (.code ⟨"CarvedRinks", "setting", "(I)I"⟩ cX6_setting 2 (some .int)) := rfl
set_option maxRecDepth 100000 in
theorem xw_X6_why : lw_tbl[848]? = some (.code ⟨"CarvedRinks", "why", "(II)I"⟩ cX6_why 3 (some .int)) := rfl
set_option maxRecDepth 100000 in
theorem xw_X6_ifGlided : lw_tbl[856]? = some (.code ⟨"CarvedRinks", "ifGlided", "(IIII)I"⟩ cX6_ifGlided 6 (some .int)) := rfl
set_option maxRecDepth 100000 in
theorem xw_X6_best : lw_tbl[864]? = some (.code ⟨"CarvedRinks", "best", "(I)I"⟩ cX6_best 2 (some .int)) := rfl
set_option maxRecDepth 100000 in
theorem xw_X7_init : lw_tbl[869]? = some (.code ⟨"CarvedRinksModel", "<init>", "()V"⟩ cX7_init 2 (none)) := rfl
set_option maxRecDepth 100000 in
theorem xw_X7_of : lw_tbl[873]? = some (.code ⟨"CarvedRinksModel", "of", "(II)I"⟩ cX7_of 2 (some .int)) := rfl
set_option maxRecDepth 100000 in
theorem xw_X7_thrown : lw_tbl[918]? = some (.code ⟨"CarvedRinksModel", "thrown", "()I"⟩ cX7_thrown 1 (some .int)) := rfl
set_option maxRecDepth 100000 in
theorem xw_X7_glide : lw_tbl[922]? = some (.code ⟨"CarvedRinksModel", "glide", "(III)I"⟩ cX7_glide 4 (some .int)) := rfl
set_option maxRecDepth 100000 in
theorem xw_X7_isSkater : lw_tbl[925]? = some (.code ⟨"CarvedRinksModel", "isSkater", "(I)Z"⟩ cX7_isSkater 1 (some .boolean)) := rfl
set_option maxRecDepth 100000 in
theorem xw_X7_in : lw_tbl[928]? = some (.code ⟨"CarvedRinksModel", "in", "(III)Z"⟩ cX7_in 3 (some .boolean)) := rfl
set_option maxRecDepth 100000 in
theorem xw_X7_refused : lw_tbl[932]? = some (.code ⟨"CarvedRinksModel", "refused", "(I)Z"⟩ cX7_refused 2 (some .boolean)) := rfl
set_option maxRecDepth 100000 in
theorem xw_X7_saves : lw_tbl[936]? = some (.code ⟨"CarvedRinksModel", "saves", "()V"⟩ cX7_saves 2 (none)) := rfl
set_option maxRecDepth 100000 in
theorem xw_X7_glides : lw_tbl[940]? = some (.code ⟨"CarvedRinksModel", "glides", "(III)I"⟩ cX7_glides 5 (some .int)) := rfl
set_option maxRecDepth 100000 in
theorem xw_X7_bar : lw_tbl[944]? = some (.code ⟨"CarvedRinksModel", "bar", "(II)I"⟩ cX7_bar 9 (some .int)) := rfl
set_option maxRecDepth 100000 in
theorem xw_X7_lineFrom : lw_tbl[947]? = some (.code ⟨"CarvedRinksModel", "lineFrom", "(III)I"⟩ cX7_lineFrom 3 (some .int)) := rfl
set_option maxRecDepth 100000 in
theorem xw_X7_iceBeside : lw_tbl[951]? = some (.code ⟨"CarvedRinksModel", "iceBeside", "(I)I"⟩ cX7_iceBeside 2 (some .int)) := rfl
set_option maxRecDepth 100000 in
theorem xw_X7_beside : lw_tbl[954]? = some (.code ⟨"CarvedRinksModel", "beside", "(IZ)I"⟩ cX7_beside 2 (some .int)) := rfl
set_option maxRecDepth 100000 in
theorem xw_X7_cellAt : lw_tbl[957]? = some (.code ⟨"CarvedRinksModel", "cellAt", "(II)I"⟩ cX7_cellAt 2 (some .int)) := rfl
set_option maxRecDepth 100000 in
theorem xw_X7_isCell : lw_tbl[960]? = some (.code ⟨"CarvedRinksModel", "isCell", "(II)Z"⟩ cX7_isCell 2 (some .boolean)) := rfl
set_option maxRecDepth 100000 in
theorem xw_X7_isIce : lw_tbl[964]? = some (.code ⟨"CarvedRinksModel", "isIce", "(I)Z"⟩ cX7_isIce 2 (some .boolean)) := rfl
set_option maxRecDepth 100000 in
theorem xw_X7_toll : lw_tbl[968]? = some (.code ⟨"CarvedRinksModel", "toll", "(II)I"⟩ cX7_toll 4 (some .int)) := rfl
set_option maxRecDepth 100000 in
theorem xw_X7_steps : lw_tbl[972]? = some (.code ⟨"CarvedRinksModel", "steps", "(II)V"⟩ cX7_steps 6 (none)) := rfl
set_option maxRecDepth 100000 in
theorem xw_X7_melts : lw_tbl[976]? = some (.code ⟨"CarvedRinksModel", "melts", "(I)V"⟩ cX7_melts 2 (none)) := rfl
set_option maxRecDepth 100000 in
theorem xw_X7_isOpen : lw_tbl[980]? = some (.code ⟨"CarvedRinksModel", "isOpen", "(I)Z"⟩ cX7_isOpen 2 (some .boolean)) := rfl
set_option maxRecDepth 100000 in
theorem xw_X7_parts : lw_tbl[984]? = some (.code ⟨"CarvedRinksModel", "parts", "(II)V"⟩ cX7_parts 9 (none)) := rfl
set_option maxRecDepth 100000 in
theorem xw_X7_labels : lw_tbl[988]? = some (.code ⟨"CarvedRinksModel", "labels", "()V"⟩ cX7_labels 5 (none)) := rfl
set_option maxRecDepth 100000 in
theorem xw_X7_sizeOf : lw_tbl[992]? = some (.code ⟨"CarvedRinksModel", "sizeOf", "(I)I"⟩ cX7_sizeOf 4 (some .int)) := rfl
set_option maxRecDepth 100000 in
theorem xw_X7_thaw : lw_tbl[996]? = some (.code ⟨"CarvedRinksModel", "thaw", "()I"⟩ cX7_thaw 1 (some .int)) := rfl
set_option maxRecDepth 100000 in
theorem xw_X7_thaws : lw_tbl[1000]? = some (.code ⟨"CarvedRinksModel", "thaws", "()I"⟩ cX7_thaws 3 (some .int)) := rfl
set_option maxRecDepth 100000 in
theorem xw_X7_waterBeside : lw_tbl[1004]? = some (.code ⟨"CarvedRinksModel", "waterBeside", "(I)I"⟩ cX7_waterBeside 7 (some .int)) := rfl
set_option maxRecDepth 100000 in
theorem xw_X7_hole : lw_tbl[1008]? = some (.code ⟨"CarvedRinksModel", "hole", "(II)I"⟩ cX7_hole 4 (some .int)) := rfl
set_option maxRecDepth 100000 in
theorem xw_X7_pay : lw_tbl[1012]? = some (.code ⟨"CarvedRinksModel", "pay", "(II)I"⟩ cX7_pay 3 (some .int)) := rfl
set_option maxRecDepth 100000 in
theorem xw_X7_set : lw_tbl[1016]? = some (.code ⟨"CarvedRinksModel", "set", "(II)I"⟩ cX7_set 4 (some .int)) := rfl
set_option maxRecDepth 100000 in
theorem xw_X7_isSetting : lw_tbl[1019]? = some (.code ⟨"CarvedRinksModel", "isSetting", "(I)Z"⟩ cX7_isSetting 1 (some .boolean)) := rfl
set_option maxRecDepth 100000 in
theorem xw_X7_append : lw_tbl[1023]? = some (.code ⟨"CarvedRinksModel", "append", "(I)I"⟩ cX7_append 2 (some .int)) := rfl
set_option maxRecDepth 100000 in
theorem xw_X7_clearBuffer : lw_tbl[1027]? = some (.code ⟨"CarvedRinksModel", "clearBuffer", "()I"⟩ cX7_clearBuffer 2 (some .int)) := rfl
set_option maxRecDepth 100000 in
theorem xw_X7_firstError : lw_tbl[1031]? = some (.code ⟨"CarvedRinksModel", "firstError", "()I"⟩ cX7_firstError 1 (some .int)) := rfl
set_option maxRecDepth 100000 in
theorem xw_X7_error : lw_tbl[1035]? = some (.code ⟨"CarvedRinksModel", "error", "()I"⟩ cX7_error 3 (some .int)) := rfl
set_option maxRecDepth 100000 in
theorem xw_X7_isRight : lw_tbl[1038]? = some (.code ⟨"CarvedRinksModel", "isRight", "(II)Z"⟩ cX7_isRight 2 (some .boolean)) := rfl
set_option maxRecDepth 100000 in
theorem xw_X7_directionOf : lw_tbl[1041]? = some (.code ⟨"CarvedRinksModel", "directionOf", "(I)I"⟩ cX7_directionOf 1 (some .int)) := rfl
set_option maxRecDepth 100000 in
theorem xw_X7_play : lw_tbl[1045]? = some (.code ⟨"CarvedRinksModel", "play", "()I"⟩ cX7_play 6 (some .int)) := rfl
set_option maxRecDepth 100000 in
theorem xw_X7_isWhole : lw_tbl[1049]? = some (.code ⟨"CarvedRinksModel", "isWhole", "()Z"⟩ cX7_isWhole 1 (some .boolean)) := rfl
set_option maxRecDepth 100000 in
theorem xw_X7_keep : lw_tbl[1053]? = some (.code ⟨"CarvedRinksModel", "keep", "()I"⟩ cX7_keep 2 (some .int)) := rfl
set_option maxRecDepth 100000 in
theorem xw_X7_ice : lw_tbl[1057]? = some (.code ⟨"CarvedRinksModel", "ice", "()I"⟩ cX7_ice 3 (some .int)) := rfl
set_option maxRecDepth 100000 in
theorem xw_X7_goBack : lw_tbl[1061]? = some (.code ⟨"CarvedRinksModel", "goBack", "()I"⟩ cX7_goBack 2 (some .int)) := rfl
set_option maxRecDepth 100000 in
theorem xw_X7_undo : lw_tbl[1065]? = some (.code ⟨"CarvedRinksModel", "undo", "()I"⟩ cX7_undo 2 (some .int)) := rfl
set_option maxRecDepth 100000 in
theorem xw_X7_cell : lw_tbl[1069]? = some (.code ⟨"CarvedRinksModel", "cell", "(III)I"⟩ cX7_cell 4 (some .int)) := rfl
set_option maxRecDepth 100000 in
theorem xw_X7_ofCell : lw_tbl[1073]? = some (.code ⟨"CarvedRinksModel", "ofCell", "(II)I"⟩ cX7_ofCell 3 (some .int)) := rfl
set_option maxRecDepth 100000 in
theorem xw_X7_thawsOf : lw_tbl[1077]? = some (.code ⟨"CarvedRinksModel", "thawsOf", "(I)I"⟩ cX7_thawsOf 5 (some .int)) := rfl
set_option maxRecDepth 100000 in
theorem xw_X7_putAside : lw_tbl[1081]? = some (.code ⟨"CarvedRinksModel", "putAside", "()V"⟩ cX7_putAside 2 (none)) := rfl
set_option maxRecDepth 100000 in
theorem xw_X7_putBack : lw_tbl[1085]? = some (.code ⟨"CarvedRinksModel", "putBack", "()V"⟩ cX7_putBack 2 (none)) := rfl
set_option maxRecDepth 100000 in
theorem xw_X7_line : lw_tbl[1089]? = some (.code ⟨"CarvedRinksModel", "line", "(IIII)I"⟩ cX7_line 7 (some .int)) := rfl
set_option maxRecDepth 100000 in
theorem xw_X7_ofLine : lw_tbl[1093]? = some (.code ⟨"CarvedRinksModel", "ofLine", "(II)I"⟩ cX7_ofLine 3 (some .int)) := rfl
set_option maxRecDepth 100000 in
theorem xw_X7_skater : lw_tbl[1097]? = some (.code ⟨"CarvedRinksModel", "skater", "(II)I"⟩ cX7_skater 3 (some .int)) := rfl
set_option maxRecDepth 100000 in
theorem xw_X7_ofSkater : lw_tbl[1101]? = some (.code ⟨"CarvedRinksModel", "ofSkater", "(II)I"⟩ cX7_ofSkater 3 (some .int)) := rfl
set_option maxRecDepth 100000 in
theorem xw_X7_ownedBy : lw_tbl[1105]? = some (.code ⟨"CarvedRinksModel", "ownedBy", "(I)I"⟩ cX7_ownedBy 4 (some .int)) := rfl
set_option maxRecDepth 100000 in
theorem xw_X7_rinksOf : lw_tbl[1109]? = some (.code ⟨"CarvedRinksModel", "rinksOf", "(IZ)I"⟩ cX7_rinksOf 5 (some .int)) := rfl
set_option maxRecDepth 100000 in
theorem xw_X7_rink : lw_tbl[1113]? = some (.code ⟨"CarvedRinksModel", "rink", "(II)I"⟩ cX7_rink 4 (some .int)) := rfl
set_option maxRecDepth 100000 in
theorem xw_X7_lowestOf : lw_tbl[1117]? = some (.code ⟨"CarvedRinksModel", "lowestOf", "(I)I"⟩ cX7_lowestOf 4 (some .int)) := rfl
set_option maxRecDepth 100000 in
theorem xw_X7_ofRink : lw_tbl[1121]? = some (.code ⟨"CarvedRinksModel", "ofRink", "(II)I"⟩ cX7_ofRink 3 (some .int)) := rfl
set_option maxRecDepth 100000 in
theorem xw_X7_count : lw_tbl[1125]? = some (.code ⟨"CarvedRinksModel", "count", "(I)I"⟩ cX7_count 2 (some .int)) := rfl
set_option maxRecDepth 100000 in
theorem xw_X7_counts : lw_tbl[1129]? = some (.code ⟨"CarvedRinksModel", "counts", "(I)I"⟩ cX7_counts 2 (some .int)) := rfl
set_option maxRecDepth 100000 in
theorem xw_X7_rinks : lw_tbl[1133]? = some (.code ⟨"CarvedRinksModel", "rinks", "()I"⟩ cX7_rinks 3 (some .int)) := rfl
set_option maxRecDepth 100000 in
theorem xw_X7_byJoining : lw_tbl[1137]? = some (.code ⟨"CarvedRinksModel", "byJoining", "()I"⟩ cX7_byJoining 6 (some .int)) := rfl
set_option maxRecDepth 100000 in
theorem xw_X7_owned : lw_tbl[1141]? = some (.code ⟨"CarvedRinksModel", "owned", "()I"⟩ cX7_owned 3 (some .int)) := rfl
set_option maxRecDepth 100000 in
theorem xw_X7_cuts : lw_tbl[1145]? = some (.code ⟨"CarvedRinksModel", "cuts", "()I"⟩ cX7_cuts 3 (some .int)) := rfl
set_option maxRecDepth 100000 in
theorem xw_X7_greatest : lw_tbl[1149]? = some (.code ⟨"CarvedRinksModel", "greatest", "()I"⟩ cX7_greatest 4 (some .int)) := rfl
set_option maxRecDepth 100000 in
theorem xw_X7_setting : lw_tbl[1153]? = some (.code ⟨"CarvedRinksModel", "setting", "(I)I"⟩ cX7_setting 2 (some .int)) := rfl
set_option maxRecDepth 100000 in
theorem xw_X7_why : lw_tbl[1157]? = some (.code ⟨"CarvedRinksModel", "why", "(II)I"⟩ cX7_why 3 (some .int)) := rfl
set_option maxRecDepth 100000 in
theorem xw_X7_ifGlided : lw_tbl[1161]? = some (.code ⟨"CarvedRinksModel", "ifGlided", "(IIII)I"⟩ cX7_ifGlided 9 (some .int)) := rfl
set_option maxRecDepth 100000 in
theorem xw_X7_best : lw_tbl[1165]? = some (.code ⟨"CarvedRinksModel", "best", "(I)I"⟩ cX7_best 2 (some .int)) := rfl
set_option maxRecDepth 100000 in
theorem xw_X7_bestOf : lw_tbl[1169]? = some (.code ⟨"CarvedRinksModel", "bestOf", "(I)I"⟩ cX7_bestOf 8 (some .int)) := rfl
set_option maxRecDepth 100000 in
theorem xw_X7_calm : lw_tbl[1173]? = some (.code ⟨"CarvedRinksModel", "calm", "()I"⟩ cX7_calm 1 (some .int)) := rfl
set_option maxRecDepth 100000 in
theorem xw_X7_ownedShare : lw_tbl[1177]? = some (.code ⟨"CarvedRinksModel", "ownedShare", "()D"⟩ cX7_ownedShare 1 (some .double)) := rfl
set_option maxRecDepth 100000 in
theorem xw_X7_share : lw_tbl[1181]? = some (.code ⟨"CarvedRinksModel", "share", "()D"⟩ cX7_share 1 (some .double)) := rfl
set_option maxRecDepth 100000 in
theorem xw_X7_ownedCells : lw_tbl[1185]? = some (.code ⟨"CarvedRinksModel", "ownedCells", "()I"⟩ cX7_ownedCells 1 (some .int)) := rfl
set_option maxRecDepth 100000 in
theorem xw_X7_meanRink : lw_tbl[1189]? = some (.code ⟨"CarvedRinksModel", "meanRink", "()F"⟩ cX7_meanRink 1 (some .float)) := rfl
set_option maxRecDepth 100000 in
theorem xw_X7_mean : lw_tbl[1193]? = some (.code ⟨"CarvedRinksModel", "mean", "()F"⟩ cX7_mean 1 (some .float)) := rfl
set_option maxRecDepth 100000 in
theorem xw_X7_digest : lw_tbl[1197]? = some (.code ⟨"CarvedRinksModel", "digest", "()J"⟩ cX7_digest 7 (some .long)) := rfl
set_option maxRecDepth 100000 in
theorem xw_Jxe99ae_doubleToLongBits_ccdee : lw_tbl[1202]? = some (.code ⟨"java/lang/Double", "doubleToLongBits", "(D)J"⟩ cJxe99ae_doubleToLongBits_ccdee 2 (some .long)) := rfl
set_option maxRecDepth 100000 in
theorem xw_Jxe99ae_isNaN_b9ae7 : lw_tbl[1205]? = some (.code ⟨"java/lang/Double", "isNaN", "(D)Z"⟩ cJxe99ae_isNaN_b9ae7 2 (some .boolean)) := rfl
set_option maxRecDepth 100000 in
theorem xw_Jxf58ca_floatToIntBits_5c35a : lw_tbl[1212]? = some (.code ⟨"java/lang/Float", "floatToIntBits", "(F)I"⟩ cJxf58ca_floatToIntBits_5c35a 1 (some .int)) := rfl
set_option maxRecDepth 100000 in
theorem xw_Jxf58ca_isNaN_12338 : lw_tbl[1215]? = some (.code ⟨"java/lang/Float", "isNaN", "(F)Z"⟩ cJxf58ca_isNaN_12338 1 (some .boolean)) := rfl
theorem xP0 : ∀ f ∈ xM0, xMP f := List.forall_mem_cons.mpr ⟨fun _ => List.mem_of_getElem? xw_X6_init, List.forall_mem_cons.mpr ⟨fun _ => List.mem_of_getElem? xw_X2_init, List.forall_mem_cons.mpr ⟨fun _ => List.mem_of_getElem? xw_X5_init, List.forall_mem_cons.mpr ⟨fun _ => List.mem_of_getElem? xw_X4_init, List.forall_mem_cons.mpr ⟨fun _ => List.mem_of_getElem? xw_X0_init, List.forall_mem_cons.mpr ⟨fun _ => List.mem_of_getElem? xw_X3_init, List.forall_mem_cons.mpr ⟨fun _ => List.mem_of_getElem? xw_X6_thaw, List.forall_mem_cons.mpr ⟨fun _ => List.mem_of_getElem? xw_X4_push, List.forall_mem_cons.mpr ⟨fun _ => List.mem_of_getElem? xw_X2_copyFrom, List.forall_mem_cons.mpr ⟨fun _ => List.mem_of_getElem? xw_X5_copyFrom, List.forall_mem_cons.mpr ⟨fun _ => List.mem_of_getElem? xw_X2_thawOnce, List.forall_mem_cons.mpr ⟨fun _ => List.mem_of_getElem? xw_X6_thawingCells, List.forall_mem_cons.mpr ⟨fun _ => List.mem_of_getElem? xw_X6_southOf, List.forall_mem_cons.mpr ⟨fun _ => List.mem_of_getElem? xw_X6_northOf, List.forall_mem_cons.mpr ⟨fun _ => List.mem_of_getElem? xw_X6_eastOf, List.forall_mem_cons.mpr ⟨fun _ => List.mem_of_getElem? xw_X6_westOf, List.forall_mem_cons.mpr ⟨fun _ => List.mem_of_getElem? xw_X2_makeWater, List.forall_mem_cons.mpr ⟨fun _ => List.mem_of_getElem? xw_J13_bitCount_95d88, List.forall_mem_cons.mpr ⟨fun _ => List.mem_of_getElem? xw_X6_clearBuffer, List.forall_mem_cons.mpr ⟨fun _ => List.mem_of_getElem? xw_X6_firstError, List.forall_mem_cons.mpr ⟨fun _ => List.mem_of_getElem? xw_X0_errorIndex, List.forall_mem_cons.mpr ⟨fun _ => List.mem_of_getElem? xw_X0_placeBehind, List.forall_mem_cons.mpr ⟨fun _ => List.mem_of_getElem? xw_X0_directionOf, List.forall_mem_cons.mpr ⟨fun _ => List.mem_of_getElem? xw_X6_keep, List.forall_mem_cons.mpr ⟨fun _ => List.mem_of_getElem? xw_X2_iceCells, List.forall_mem_cons.mpr ⟨fun _ => List.mem_of_getElem? xw_X6_calm, List.forall_mem_cons.mpr ⟨fun _ => List.mem_of_getElem? xw_X2_thawsUntilCalm, List.forall_mem_cons.mpr ⟨fun _ => List.mem_of_getElem? xw_X6_ownedShare, List.forall_mem_cons.mpr ⟨fun _ => List.mem_of_getElem? xw_X2_ownedCells, List.forall_mem_cons.mpr ⟨fun _ => List.mem_of_getElem? xw_X2_ownedByAny, fun _ h => absurd h List.not_mem_nil⟩⟩⟩⟩⟩⟩⟩⟩⟩⟩⟩⟩⟩⟩⟩⟩⟩⟩⟩⟩⟩⟩⟩⟩⟩⟩⟩⟩⟩⟩
theorem xP1 : ∀ f ∈ xM1, xMP f := List.forall_mem_cons.mpr ⟨fun _ => List.mem_of_getElem? xw_X6_meanRink, List.forall_mem_cons.mpr ⟨fun _ => List.mem_of_getElem? xw_X2_rinksByGoing, List.forall_mem_cons.mpr ⟨fun _ => List.mem_of_getElem? xw_X2_rinksWithin, List.forall_mem_cons.mpr ⟨fun _ => List.mem_of_getElem? xw_X6_lowestBit, List.forall_mem_cons.mpr ⟨fun _ => List.mem_of_getElem? xw_X2_rinkOf, List.forall_mem_cons.mpr ⟨fun _ => List.mem_of_getElem? xw_X6_digest, List.forall_mem_cons.mpr ⟨fun _ => List.mem_of_getElem? xw_X6_stateNumber, List.forall_mem_cons.mpr ⟨fun _ => List.mem_of_getElem? xw_X3_rinksByJoining, List.forall_mem_cons.mpr ⟨fun _ => List.mem_of_getElem? xw_X1_cellsAt, List.forall_mem_cons.mpr ⟨fun _ => List.mem_of_getElem? xw_X1_lowerCell, List.forall_mem_cons.mpr ⟨fun _ => List.mem_of_getElem? xw_X1_leadsEast, List.forall_mem_cons.mpr ⟨fun _ => List.mem_of_getElem? xw_X6_cellBit, List.forall_mem_cons.mpr ⟨fun _ => List.mem_of_getElem? xw_X1_higherCell, List.forall_mem_cons.mpr ⟨fun _ => List.mem_of_getElem? xw_X2_isCut, List.forall_mem_cons.mpr ⟨fun _ => List.mem_of_getElem? xw_X3_join, List.forall_mem_cons.mpr ⟨fun _ => List.mem_of_getElem? xw_X6_lowestOf, List.forall_mem_cons.mpr ⟨fun _ => List.mem_of_getElem? xw_X3_lowestJoined, List.forall_mem_cons.mpr ⟨fun h => absurd h (by decide), List.forall_mem_cons.mpr ⟨fun h => absurd h (by decide), List.forall_mem_cons.mpr ⟨fun _ => List.mem_of_getElem? xw_X2_rinksOwned, List.forall_mem_cons.mpr ⟨fun _ => List.mem_of_getElem? xw_X2_allPurses, List.forall_mem_cons.mpr ⟨fun _ => List.mem_of_getElem? xw_X2_greatestRink, List.forall_mem_cons.mpr ⟨fun _ => List.mem_of_getElem? xw_X6_hashCells, List.forall_mem_cons.mpr ⟨fun _ => List.mem_of_getElem? xw_X6_cellNumber, List.forall_mem_cons.mpr ⟨fun _ => List.mem_of_getElem? xw_X2_isIce, List.forall_mem_cons.mpr ⟨fun _ => List.mem_of_getElem? xw_X2_ownerOf, List.forall_mem_cons.mpr ⟨fun _ => List.mem_of_getElem? xw_X6_cellsBeside, List.forall_mem_cons.mpr ⟨fun _ => List.mem_of_getElem? xw_X2_thawsUntilWater, List.forall_mem_cons.mpr ⟨fun _ => List.mem_of_getElem? xw_X6_hashLines, List.forall_mem_cons.mpr ⟨fun _ => List.mem_of_getElem? xw_X1_leading, fun _ h => absurd h List.not_mem_nil⟩⟩⟩⟩⟩⟩⟩⟩⟩⟩⟩⟩⟩⟩⟩⟩⟩⟩⟩⟩⟩⟩⟩⟩⟩⟩⟩⟩⟩⟩
theorem xP2 : ∀ f ∈ xM2, xMP f := List.forall_mem_cons.mpr ⟨fun _ => List.mem_of_getElem? xw_X1_leadingSouth, List.forall_mem_cons.mpr ⟨fun _ => List.mem_of_getElem? xw_X1_leadingEast, List.forall_mem_cons.mpr ⟨fun _ => List.mem_of_getElem? xw_X6_lineNumber, List.forall_mem_cons.mpr ⟨fun _ => List.mem_of_getElem? xw_X6_hashSkaters, List.forall_mem_cons.mpr ⟨fun _ => List.mem_of_getElem? xw_X6_skaterNumber, List.forall_mem_cons.mpr ⟨fun _ => List.mem_of_getElem? xw_X5_ownedCells, List.forall_mem_cons.mpr ⟨fun _ => List.mem_of_getElem? xw_X2_cellsOfRinks, List.forall_mem_cons.mpr ⟨fun _ => List.mem_of_getElem? xw_X2_rinksOwnedBy, List.forall_mem_cons.mpr ⟨fun _ => List.mem_of_getElem? xw_X2_reasonAgainst, List.forall_mem_cons.mpr ⟨fun _ => List.mem_of_getElem? xw_X5_nextX, List.forall_mem_cons.mpr ⟨fun _ => List.mem_of_getElem? xw_X5_nextY, List.forall_mem_cons.mpr ⟨fun _ => List.mem_of_getElem? xw_X2_isTaken, List.forall_mem_cons.mpr ⟨fun _ => List.mem_of_getElem? xw_X2_tollTaker, List.forall_mem_cons.mpr ⟨fun _ => List.mem_of_getElem? xw_X6_bestGlide, List.forall_mem_cons.mpr ⟨fun _ => List.mem_of_getElem? xw_X2_makeStep, List.forall_mem_cons.mpr ⟨fun _ => List.mem_of_getElem? xw_X2_payToll, List.forall_mem_cons.mpr ⟨fun _ => List.mem_of_getElem? xw_X5_move, List.forall_mem_cons.mpr ⟨fun _ => List.mem_of_getElem? xw_X2_cutLine, List.forall_mem_cons.mpr ⟨fun _ => List.mem_of_getElem? xw_X2_partRink, List.forall_mem_cons.mpr ⟨fun _ => List.mem_of_getElem? xw_X6_hashRinks, List.forall_mem_cons.mpr ⟨fun _ => List.mem_of_getElem? xw_X6_rinkNumber, List.forall_mem_cons.mpr ⟨fun _ => List.mem_of_getElem? xw_X6_floatingBits, List.forall_mem_cons.mpr ⟨fun _ => List.mem_of_getElem? xw_X6_hashText, List.forall_mem_cons.mpr ⟨fun h => absurd h (by decide), List.forall_mem_cons.mpr ⟨fun _ => List.mem_of_getElem? xw_X6_glide, List.forall_mem_cons.mpr ⟨fun _ => List.mem_of_getElem? xw_X6_isSkater, List.forall_mem_cons.mpr ⟨fun _ => List.mem_of_getElem? xw_X6_isDirection, List.forall_mem_cons.mpr ⟨fun _ => List.mem_of_getElem? xw_X6_isSteps, List.forall_mem_cons.mpr ⟨fun _ => List.mem_of_getElem? xw_X2_makeSteps, List.forall_mem_cons.mpr ⟨fun h => absurd h (by decide), fun _ h => absurd h List.not_mem_nil⟩⟩⟩⟩⟩⟩⟩⟩⟩⟩⟩⟩⟩⟩⟩⟩⟩⟩⟩⟩⟩⟩⟩⟩⟩⟩⟩⟩⟩⟩
theorem xP3 : ∀ f ∈ xM3, xMP f := List.forall_mem_cons.mpr ⟨fun _ => List.mem_of_getElem? xw_X6_hole, List.forall_mem_cons.mpr ⟨fun h => absurd h (by decide), List.forall_mem_cons.mpr ⟨fun _ => List.mem_of_getElem? xw_X6_pay, List.forall_mem_cons.mpr ⟨fun h => absurd h (by decide), List.forall_mem_cons.mpr ⟨fun _ => List.mem_of_getElem? xw_X6_set, List.forall_mem_cons.mpr ⟨fun _ => List.mem_of_getElem? xw_X6_isSetting, List.forall_mem_cons.mpr ⟨fun _ => List.mem_of_getElem? xw_X6_leastValue, List.forall_mem_cons.mpr ⟨fun _ => List.mem_of_getElem? xw_X6_mostValue, List.forall_mem_cons.mpr ⟨fun h => absurd h (by decide), List.forall_mem_cons.mpr ⟨fun _ => List.mem_of_getElem? xw_X6_append, List.forall_mem_cons.mpr ⟨fun _ => List.mem_of_getElem? xw_X0_isFull, List.forall_mem_cons.mpr ⟨fun _ => List.mem_of_getElem? xw_X0_add, List.forall_mem_cons.mpr ⟨fun h => absurd h (by decide), List.forall_mem_cons.mpr ⟨fun _ => List.mem_of_getElem? xw_X6_play, List.forall_mem_cons.mpr ⟨fun _ => List.mem_of_getElem? xw_X0_isComplete, List.forall_mem_cons.mpr ⟨fun _ => List.mem_of_getElem? xw_X0_playOn, List.forall_mem_cons.mpr ⟨fun h => absurd h (by decide), List.forall_mem_cons.mpr ⟨fun _ => List.mem_of_getElem? xw_X6_goBack, List.forall_mem_cons.mpr ⟨fun h => absurd h (by decide), List.forall_mem_cons.mpr ⟨fun _ => List.mem_of_getElem? xw_X6_undo, List.forall_mem_cons.mpr ⟨fun _ => List.mem_of_getElem? xw_X4_popInto, List.forall_mem_cons.mpr ⟨fun h => absurd h (by decide), List.forall_mem_cons.mpr ⟨fun _ => List.mem_of_getElem? xw_X6_cell, List.forall_mem_cons.mpr ⟨fun h => absurd h (by decide), List.forall_mem_cons.mpr ⟨fun _ => List.mem_of_getElem? xw_X6_line, List.forall_mem_cons.mpr ⟨fun _ => List.mem_of_getElem? xw_X6_isPoint, List.forall_mem_cons.mpr ⟨fun h => absurd h (by decide), List.forall_mem_cons.mpr ⟨fun _ => List.mem_of_getElem? xw_X6_skater, List.forall_mem_cons.mpr ⟨fun h => absurd h (by decide), List.forall_mem_cons.mpr ⟨fun _ => List.mem_of_getElem? xw_X6_rink, fun _ h => absurd h List.not_mem_nil⟩⟩⟩⟩⟩⟩⟩⟩⟩⟩⟩⟩⟩⟩⟩⟩⟩⟩⟩⟩⟩⟩⟩⟩⟩⟩⟩⟩⟩⟩
theorem xP4 : ∀ f ∈ xM4, xMP f := List.forall_mem_cons.mpr ⟨fun _ => List.mem_of_getElem? xw_X2_rinkWithRank, List.forall_mem_cons.mpr ⟨fun h => absurd h (by decide), List.forall_mem_cons.mpr ⟨fun _ => List.mem_of_getElem? xw_X6_count, List.forall_mem_cons.mpr ⟨fun h => absurd h (by decide), List.forall_mem_cons.mpr ⟨fun _ => List.mem_of_getElem? xw_X6_setting, List.forall_mem_cons.mpr ⟨fun h => absurd h (by decide), List.forall_mem_cons.mpr ⟨fun _ => List.mem_of_getElem? xw_X6_why, List.forall_mem_cons.mpr ⟨fun h => absurd h (by decide), List.forall_mem_cons.mpr ⟨fun _ => List.mem_of_getElem? xw_X6_ifGlided, List.forall_mem_cons.mpr ⟨fun h => absurd h (by decide), List.forall_mem_cons.mpr ⟨fun _ => List.mem_of_getElem? xw_X6_best, List.forall_mem_cons.mpr ⟨fun _ => List.mem_of_getElem? xw_X7_init, List.forall_mem_cons.mpr ⟨fun _ => List.mem_of_getElem? xw_X7_of, List.forall_mem_cons.mpr ⟨fun _ => List.mem_of_getElem? xw_X7_thrown, List.forall_mem_cons.mpr ⟨fun _ => List.mem_of_getElem? xw_X7_glide, List.forall_mem_cons.mpr ⟨fun _ => List.mem_of_getElem? xw_X7_isSkater, List.forall_mem_cons.mpr ⟨fun _ => List.mem_of_getElem? xw_X7_in, List.forall_mem_cons.mpr ⟨fun _ => List.mem_of_getElem? xw_X7_refused, List.forall_mem_cons.mpr ⟨fun _ => List.mem_of_getElem? xw_X7_saves, List.forall_mem_cons.mpr ⟨fun _ => List.mem_of_getElem? xw_X7_glides, List.forall_mem_cons.mpr ⟨fun _ => List.mem_of_getElem? xw_X7_bar, List.forall_mem_cons.mpr ⟨fun _ => List.mem_of_getElem? xw_X7_lineFrom, List.forall_mem_cons.mpr ⟨fun _ => List.mem_of_getElem? xw_X7_iceBeside, List.forall_mem_cons.mpr ⟨fun _ => List.mem_of_getElem? xw_X7_beside, List.forall_mem_cons.mpr ⟨fun _ => List.mem_of_getElem? xw_X7_cellAt, List.forall_mem_cons.mpr ⟨fun _ => List.mem_of_getElem? xw_X7_isCell, List.forall_mem_cons.mpr ⟨fun _ => List.mem_of_getElem? xw_X7_isIce, List.forall_mem_cons.mpr ⟨fun _ => List.mem_of_getElem? xw_X7_toll, List.forall_mem_cons.mpr ⟨fun _ => List.mem_of_getElem? xw_X7_steps, List.forall_mem_cons.mpr ⟨fun _ => List.mem_of_getElem? xw_X7_melts, fun _ h => absurd h List.not_mem_nil⟩⟩⟩⟩⟩⟩⟩⟩⟩⟩⟩⟩⟩⟩⟩⟩⟩⟩⟩⟩⟩⟩⟩⟩⟩⟩⟩⟩⟩⟩
theorem xP5 : ∀ f ∈ xM5, xMP f := List.forall_mem_cons.mpr ⟨fun _ => List.mem_of_getElem? xw_X7_isOpen, List.forall_mem_cons.mpr ⟨fun _ => List.mem_of_getElem? xw_X7_parts, List.forall_mem_cons.mpr ⟨fun _ => List.mem_of_getElem? xw_X7_labels, List.forall_mem_cons.mpr ⟨fun _ => List.mem_of_getElem? xw_X7_sizeOf, List.forall_mem_cons.mpr ⟨fun _ => List.mem_of_getElem? xw_X7_thaw, List.forall_mem_cons.mpr ⟨fun _ => List.mem_of_getElem? xw_X7_thaws, List.forall_mem_cons.mpr ⟨fun _ => List.mem_of_getElem? xw_X7_waterBeside, List.forall_mem_cons.mpr ⟨fun _ => List.mem_of_getElem? xw_X7_hole, List.forall_mem_cons.mpr ⟨fun _ => List.mem_of_getElem? xw_X7_pay, List.forall_mem_cons.mpr ⟨fun _ => List.mem_of_getElem? xw_X7_set, List.forall_mem_cons.mpr ⟨fun _ => List.mem_of_getElem? xw_X7_isSetting, List.forall_mem_cons.mpr ⟨fun _ => List.mem_of_getElem? xw_X7_append, List.forall_mem_cons.mpr ⟨fun _ => List.mem_of_getElem? xw_X7_clearBuffer, List.forall_mem_cons.mpr ⟨fun _ => List.mem_of_getElem? xw_X7_firstError, List.forall_mem_cons.mpr ⟨fun _ => List.mem_of_getElem? xw_X7_error, List.forall_mem_cons.mpr ⟨fun _ => List.mem_of_getElem? xw_X7_isRight, List.forall_mem_cons.mpr ⟨fun _ => List.mem_of_getElem? xw_X7_directionOf, List.forall_mem_cons.mpr ⟨fun _ => List.mem_of_getElem? xw_X7_play, List.forall_mem_cons.mpr ⟨fun _ => List.mem_of_getElem? xw_X7_isWhole, List.forall_mem_cons.mpr ⟨fun _ => List.mem_of_getElem? xw_X7_keep, List.forall_mem_cons.mpr ⟨fun _ => List.mem_of_getElem? xw_X7_ice, List.forall_mem_cons.mpr ⟨fun _ => List.mem_of_getElem? xw_X7_goBack, List.forall_mem_cons.mpr ⟨fun _ => List.mem_of_getElem? xw_X7_undo, List.forall_mem_cons.mpr ⟨fun _ => List.mem_of_getElem? xw_X7_cell, List.forall_mem_cons.mpr ⟨fun _ => List.mem_of_getElem? xw_X7_ofCell, List.forall_mem_cons.mpr ⟨fun _ => List.mem_of_getElem? xw_X7_thawsOf, List.forall_mem_cons.mpr ⟨fun _ => List.mem_of_getElem? xw_X7_putAside, List.forall_mem_cons.mpr ⟨fun _ => List.mem_of_getElem? xw_X7_putBack, List.forall_mem_cons.mpr ⟨fun _ => List.mem_of_getElem? xw_X7_line, List.forall_mem_cons.mpr ⟨fun _ => List.mem_of_getElem? xw_X7_ofLine, fun _ h => absurd h List.not_mem_nil⟩⟩⟩⟩⟩⟩⟩⟩⟩⟩⟩⟩⟩⟩⟩⟩⟩⟩⟩⟩⟩⟩⟩⟩⟩⟩⟩⟩⟩⟩
theorem xP6 : ∀ f ∈ xM6, xMP f := List.forall_mem_cons.mpr ⟨fun _ => List.mem_of_getElem? xw_X7_skater, List.forall_mem_cons.mpr ⟨fun _ => List.mem_of_getElem? xw_X7_ofSkater, List.forall_mem_cons.mpr ⟨fun _ => List.mem_of_getElem? xw_X7_ownedBy, List.forall_mem_cons.mpr ⟨fun _ => List.mem_of_getElem? xw_X7_rinksOf, List.forall_mem_cons.mpr ⟨fun _ => List.mem_of_getElem? xw_X7_rink, List.forall_mem_cons.mpr ⟨fun _ => List.mem_of_getElem? xw_X7_lowestOf, List.forall_mem_cons.mpr ⟨fun _ => List.mem_of_getElem? xw_X7_ofRink, List.forall_mem_cons.mpr ⟨fun _ => List.mem_of_getElem? xw_X7_count, List.forall_mem_cons.mpr ⟨fun _ => List.mem_of_getElem? xw_X7_counts, List.forall_mem_cons.mpr ⟨fun _ => List.mem_of_getElem? xw_X7_rinks, List.forall_mem_cons.mpr ⟨fun _ => List.mem_of_getElem? xw_X7_byJoining, List.forall_mem_cons.mpr ⟨fun _ => List.mem_of_getElem? xw_X7_owned, List.forall_mem_cons.mpr ⟨fun _ => List.mem_of_getElem? xw_X7_cuts, List.forall_mem_cons.mpr ⟨fun _ => List.mem_of_getElem? xw_X7_greatest, List.forall_mem_cons.mpr ⟨fun _ => List.mem_of_getElem? xw_X7_setting, List.forall_mem_cons.mpr ⟨fun _ => List.mem_of_getElem? xw_X7_why, List.forall_mem_cons.mpr ⟨fun _ => List.mem_of_getElem? xw_X7_ifGlided, List.forall_mem_cons.mpr ⟨fun _ => List.mem_of_getElem? xw_X7_best, List.forall_mem_cons.mpr ⟨fun _ => List.mem_of_getElem? xw_X7_bestOf, List.forall_mem_cons.mpr ⟨fun _ => List.mem_of_getElem? xw_X7_calm, List.forall_mem_cons.mpr ⟨fun _ => List.mem_of_getElem? xw_X7_ownedShare, List.forall_mem_cons.mpr ⟨fun _ => List.mem_of_getElem? xw_X7_share, List.forall_mem_cons.mpr ⟨fun _ => List.mem_of_getElem? xw_X7_ownedCells, List.forall_mem_cons.mpr ⟨fun _ => List.mem_of_getElem? xw_X7_meanRink, List.forall_mem_cons.mpr ⟨fun _ => List.mem_of_getElem? xw_X7_mean, List.forall_mem_cons.mpr ⟨fun _ => List.mem_of_getElem? xw_X7_digest, List.forall_mem_cons.mpr ⟨fun _ => List.mem_of_getElem? xw_Jxe99ae_doubleToLongBits_ccdee, List.forall_mem_cons.mpr ⟨fun _ => List.mem_of_getElem? xw_Jxe99ae_isNaN_b9ae7, List.forall_mem_cons.mpr ⟨fun _ => List.mem_of_getElem? xw_Jxf58ca_floatToIntBits_5c35a, List.forall_mem_cons.mpr ⟨fun _ => List.mem_of_getElem? xw_Jxf58ca_isNaN_12338, fun _ h => absurd h List.not_mem_nil⟩⟩⟩⟩⟩⟩⟩⟩⟩⟩⟩⟩⟩⟩⟩⟩⟩⟩⟩⟩⟩⟩⟩⟩⟩⟩⟩⟩⟩⟩
theorem xP7 : ∀ f ∈ xM7, xMP f := List.forall_mem_cons.mpr ⟨fun h => absurd h (by decide), fun _ h => absurd h List.not_mem_nil⟩
theorem xP : ∀ f ∈ xM, xMP f := List.forall_mem_append.mpr ⟨xP0, List.forall_mem_append.mpr ⟨xP1, List.forall_mem_append.mpr ⟨xP2, List.forall_mem_append.mpr ⟨xP3, List.forall_mem_append.mpr ⟨xP4, List.forall_mem_append.mpr ⟨xP5, List.forall_mem_append.mpr ⟨xP6, xP7⟩⟩⟩⟩⟩⟩⟩
