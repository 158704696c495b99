/-! ===== entries: by program (wip/tools/gen_entry.py) ===== -/
theorem e_X6_init {σ : xS} {x0 : Nat} : xC1 mX6_init [.ref x0] σ = xR mX6_init 0 [some (.ref x0)] [] σ := rfl
theorem e_X2_init {σ : xS} {x0 : Nat} : xC1 mX2_init [.ref x0] σ = xR mX2_init 0 [some (.ref x0)] [] σ := rfl
theorem e_X5_init {σ : xS} {x0 : Nat} {x1 : Int32} {x2 : Int32} : xC1 mX5_init [.ref x0, .int x1, .int x2] σ = xR mX5_init 0 [some (.ref x0), some (.int x1), some (.int x2)] [] σ := rfl
theorem e_X4_init {σ : xS} {x0 : Nat} : xC1 mX4_init [.ref x0] σ = xR mX4_init 0 [some (.ref x0), none] [] σ := rfl
theorem e_X0_init {σ : xS} {x0 : Nat} : xC1 mX0_init [.ref x0] σ = xR mX0_init 0 [some (.ref x0)] [] σ := rfl
theorem e_X3_init {σ : xS} {x0 : Nat} : xC1 mX3_init [.ref x0] σ = xR mX3_init 0 [some (.ref x0)] [] σ := rfl
theorem e_X6_clearBuffer {σ : xS} {x0 : Nat} : xC1 mX6_clearBuffer [.ref x0] σ = xR mX6_clearBuffer 0 [some (.ref x0), none] [] σ := rfl
theorem e_X6_firstError {σ : xS} {x0 : Nat} : xC1 mX6_firstError [.ref x0] σ = xR mX6_firstError 0 [some (.ref x0)] [] σ := rfl
theorem e_X0_errorIndex {σ : xS} {x0 : Nat} : xC1 mX0_errorIndex [.ref x0] σ = xR mX0_errorIndex 0 [some (.ref x0), none, none] [] σ := rfl
theorem e_X0_placeBehind {σ : xS} {x0 : Int32} {x1 : Int32} : xC1 mX0_placeBehind [.int x0, .int x1] σ = xR mX0_placeBehind 0 [some (.int x0), some (.int x1)] [] σ := rfl
theorem e_X0_directionOf {σ : xS} {x0 : Int32} : xC1 mX0_directionOf [.int x0] σ = xR mX0_directionOf 0 [some (.int x0)] [] σ := rfl
theorem e_X6_calm {σ : xS} {x0 : Nat} : xC1 mX6_calm [.ref x0] σ = xR mX6_calm 0 [some (.ref x0)] [] σ := rfl
theorem e_X2_thawsUntilCalm {σ : xS} {x0 : Nat} : xC1 mX2_thawsUntilCalm [.ref x0] σ = xR mX2_thawsUntilCalm 0 [some (.ref x0), none, none, none, none, none] [] σ := rfl
theorem e_X6_thawingCells {σ : xS} {x0 : Int64} {x1 : Int32} : xC1 mX6_thawingCells [.long x0, .int x1] σ = xR mX6_thawingCells 0 [some (.long x0), none, some (.int x1), none, none, none, none, none, none, none, none, none, none, none, none, none, none, none, none, none, none] [] σ := rfl
theorem e_X6_southOf {σ : xS} {x0 : Int64} : xC1 mX6_southOf [.long x0] σ = xR mX6_southOf 0 [some (.long x0), none] [] σ := rfl
theorem e_X6_northOf {σ : xS} {x0 : Int64} : xC1 mX6_northOf [.long x0] σ = xR mX6_northOf 0 [some (.long x0), none] [] σ := rfl
theorem e_X6_eastOf {σ : xS} {x0 : Int64} : xC1 mX6_eastOf [.long x0] σ = xR mX6_eastOf 0 [some (.long x0), none] [] σ := rfl
theorem e_X6_westOf {σ : xS} {x0 : Int64} : xC1 mX6_westOf [.long x0] σ = xR mX6_westOf 0 [some (.long x0), none] [] σ := rfl
theorem e_X6_digest {σ : xS} {x0 : Nat} : xC1 mX6_digest [.ref x0] σ = xR mX6_digest 0 [some (.ref x0), none, none, none] [] σ := rfl
theorem e_X6_stateNumber {σ : xS} {x0 : Nat} {x1 : Int32} : xC1 mX6_stateNumber [.ref x0, .int x1] σ = xR mX6_stateNumber 0 [some (.ref x0), some (.int x1)] [] σ := rfl
theorem e_X2_iceCells {σ : xS} {x0 : Nat} : xC1 mX2_iceCells [.ref x0] σ = xR mX2_iceCells 0 [some (.ref x0)] [] σ := rfl
theorem e_J13_bitCount_95d88 {σ : xS} {x0 : Int64} : xC1 mJ13_bitCount_95d88 [.long x0] σ = xR mJ13_bitCount_95d88 0 [some (.long x0), none] [] σ := rfl
theorem e_X2_rinksByGoing {σ : xS} {x0 : Nat} : xC1 mX2_rinksByGoing [.ref x0] σ = xR mX2_rinksByGoing 0 [some (.ref x0)] [] σ := rfl
theorem e_X2_rinksWithin {σ : xS} {x0 : Nat} {x1 : Int64} : xC1 mX2_rinksWithin [.ref x0, .long x1] σ = xR mX2_rinksWithin 0 [some (.ref x0), some (.long x1), none, none, none, none, none] [] σ := rfl
theorem e_X6_lowestBit {σ : xS} {x0 : Int64} : xC1 mX6_lowestBit [.long x0] σ = xR mX6_lowestBit 0 [some (.long x0), none] [] σ := rfl
theorem e_X2_rinkOf {σ : xS} {x0 : Nat} {x1 : Int64} : xC1 mX2_rinkOf [.ref x0, .long x1] σ = xR mX2_rinkOf 0 [some (.ref x0), some (.long x1), none, none, none, none, none, none, none, none, none, none] [] σ := rfl
theorem e_X3_rinksByJoining {σ : xS} {x0 : Nat} {x1 : Nat} : xC1 mX3_rinksByJoining [.ref x0, .ref x1] σ = xR mX3_rinksByJoining 0 [some (.ref x0), some (.ref x1), none, none, none, none] [] σ := rfl
theorem e_X1_cellsAt {σ : xS} {x0 : Int32} : xC1 mX1_cellsAt [.int x0] σ = xR mX1_cellsAt 0 [some (.int x0)] [] σ := rfl
theorem e_X1_lowerCell {σ : xS} {x0 : Int32} : xC1 mX1_lowerCell [.int x0] σ = xR mX1_lowerCell 0 [some (.int x0), none] [] σ := rfl
theorem e_X1_leadsEast {σ : xS} {x0 : Int32} : xC1 mX1_leadsEast [.int x0] σ = xR mX1_leadsEast 0 [some (.int x0)] [] σ := rfl
theorem e_X6_cellBit {σ : xS} {x0 : Int32} {x1 : Int32} : xC1 mX6_cellBit [.int x0, .int x1] σ = xR mX6_cellBit 0 [some (.int x0), some (.int x1), none] [] σ := rfl
theorem e_X1_higherCell {σ : xS} {x0 : Int32} : xC1 mX1_higherCell [.int x0] σ = xR mX1_higherCell 0 [some (.int x0), none] [] σ := rfl
theorem e_X2_isCut {σ : xS} {x0 : Nat} {x1 : Int32} : xC1 mX2_isCut [.ref x0, .int x1] σ = xR mX2_isCut 0 [some (.ref x0), some (.int x1), none, none] [] σ := rfl
theorem e_X3_join {σ : xS} {x0 : Nat} {x1 : Int64} : xC1 mX3_join [.ref x0, .long x1] σ = xR mX3_join 0 [some (.ref x0), some (.long x1), none, none, none] [] σ := rfl
theorem e_X6_lowestOf {σ : xS} {x0 : Int64} : xC1 mX6_lowestOf [.long x0] σ = xR mX6_lowestOf 0 [some (.long x0), none] [] σ := rfl
theorem e_X3_lowestJoined {σ : xS} {x0 : Nat} {x1 : Int32} : xC1 mX3_lowestJoined [.ref x0, .int x1] σ = xR mX3_lowestJoined 0 [some (.ref x0), some (.int x1), none, none] [] σ := rfl
theorem e_X2_rinksOwned {σ : xS} {x0 : Nat} : xC1 mX2_rinksOwned [.ref x0] σ = xR mX2_rinksOwned 0 [some (.ref x0)] [] σ := rfl
theorem e_X2_ownedByAny {σ : xS} {x0 : Nat} : xC1 mX2_ownedByAny [.ref x0] σ = xR mX2_ownedByAny 0 [some (.ref x0), none, none, none] [] σ := rfl
theorem e_X2_allPurses {σ : xS} {x0 : Nat} : xC1 mX2_allPurses [.ref x0] σ = xR mX2_allPurses 0 [some (.ref x0), none, none] [] σ := rfl
theorem e_X2_greatestRink {σ : xS} {x0 : Nat} : xC1 mX2_greatestRink [.ref x0] σ = xR mX2_greatestRink 0 [some (.ref x0), none, none, none, none, none, none] [] σ := rfl
theorem e_X6_hashCells {σ : xS} {x0 : Nat} {x1 : Int64} : xC1 mX6_hashCells [.ref x0, .long x1] σ = xR mX6_hashCells 0 [some (.ref x0), some (.long x1), none, none, none, none, none] [] σ := rfl
theorem e_X6_cellNumber {σ : xS} {x0 : Nat} {x1 : Int64} {x2 : Int32} : xC1 mX6_cellNumber [.ref x0, .long x1, .int x2] σ = xR mX6_cellNumber 0 [some (.ref x0), some (.long x1), none, some (.int x2)] [] σ := rfl
theorem e_X2_isIce {σ : xS} {x0 : Nat} {x1 : Int64} : xC1 mX2_isIce [.ref x0, .long x1] σ = xR mX2_isIce 0 [some (.ref x0), some (.long x1), none] [] σ := rfl
theorem e_X2_ownerOf {σ : xS} {x0 : Nat} {x1 : Int64} : xC1 mX2_ownerOf [.ref x0, .long x1] σ = xR mX2_ownerOf 0 [some (.ref x0), some (.long x1), none, none] [] σ := rfl
theorem e_X6_cellsBeside {σ : xS} {x0 : Int64} : xC1 mX6_cellsBeside [.long x0] σ = xR mX6_cellsBeside 0 [some (.long x0), none] [] σ := rfl
theorem e_X2_thawsUntilWater {σ : xS} {x0 : Nat} {x1 : Int64} : xC1 mX2_thawsUntilWater [.ref x0, .long x1] σ = xR mX2_thawsUntilWater 0 [some (.ref x0), some (.long x1), none, none, none, none, none, none] [] σ := rfl
theorem e_X6_hashLines {σ : xS} {x0 : Nat} {x1 : Int64} : xC1 mX6_hashLines [.ref x0, .long x1] σ = xR mX6_hashLines 0 [some (.ref x0), some (.long x1), none, none, none, none, none, none, none] [] σ := rfl
theorem e_X1_leading {σ : xS} {x0 : Int32} {x1 : Int32} {x2 : Int32} : xC1 mX1_leading [.int x0, .int x1, .int x2] σ = xR mX1_leading 0 [some (.int x0), some (.int x1), some (.int x2)] [] σ := rfl
theorem e_X1_leadingSouth {σ : xS} {x0 : Int32} {x1 : Int32} : xC1 mX1_leadingSouth [.int x0, .int x1] σ = xR mX1_leadingSouth 0 [some (.int x0), some (.int x1), none] [] σ := rfl
theorem e_X1_leadingEast {σ : xS} {x0 : Int32} {x1 : Int32} : xC1 mX1_leadingEast [.int x0, .int x1] σ = xR mX1_leadingEast 0 [some (.int x0), some (.int x1), none] [] σ := rfl
theorem e_X6_lineNumber {σ : xS} {x0 : Nat} {x1 : Int32} {x2 : Int32} : xC1 mX6_lineNumber [.ref x0, .int x1, .int x2] σ = xR mX6_lineNumber 0 [some (.ref x0), some (.int x1), some (.int x2)] [] σ := rfl
theorem e_X6_hashSkaters {σ : xS} {x0 : Nat} {x1 : Int64} : xC1 mX6_hashSkaters [.ref x0, .long x1] σ = xR mX6_hashSkaters 0 [some (.ref x0), some (.long x1), none, none, none, none, none] [] σ := rfl
theorem e_X6_skaterNumber {σ : xS} {x0 : Nat} {x1 : Int32} {x2 : Int32} : xC1 mX6_skaterNumber [.ref x0, .int x1, .int x2] σ = xR mX6_skaterNumber 0 [some (.ref x0), some (.int x1), some (.int x2), none] [] σ := rfl
theorem e_X5_ownedCells {σ : xS} {x0 : Nat} : xC1 mX5_ownedCells [.ref x0] σ = xR mX5_ownedCells 0 [some (.ref x0)] [] σ := rfl
theorem e_X2_cellsOfRinks {σ : xS} {x0 : Nat} {x1 : Int32} : xC1 mX2_cellsOfRinks [.ref x0, .int x1] σ = xR mX2_cellsOfRinks 0 [some (.ref x0), some (.int x1), none, none, none, none, none, none, none, none] [] σ := rfl
theorem e_X2_rinksOwnedBy {σ : xS} {x0 : Nat} {x1 : Int32} : xC1 mX2_rinksOwnedBy [.ref x0, .int x1] σ = xR mX2_rinksOwnedBy 0 [some (.ref x0), some (.int x1)] [] σ := rfl
theorem e_X2_reasonAgainst {σ : xS} {x0 : Nat} {x1 : Int32} {x2 : Int32} : xC1 mX2_reasonAgainst [.ref x0, .int x1, .int x2] σ = xR mX2_reasonAgainst 0 [some (.ref x0), some (.int x1), some (.int x2), none, none, none, none, none] [] σ := rfl
theorem e_X5_nextX {σ : xS} {x0 : Nat} {x1 : Int32} : xC1 mX5_nextX [.ref x0, .int x1] σ = xR mX5_nextX 0 [some (.ref x0), some (.int x1)] [] σ := rfl
theorem e_X5_nextY {σ : xS} {x0 : Nat} {x1 : Int32} : xC1 mX5_nextY [.ref x0, .int x1] σ = xR mX5_nextY 0 [some (.ref x0), some (.int x1)] [] σ := rfl
theorem e_X2_isTaken {σ : xS} {x0 : Nat} {x1 : Int32} {x2 : Int32} : xC1 mX2_isTaken [.ref x0, .int x1, .int x2] σ = xR mX2_isTaken 0 [some (.ref x0), some (.int x1), some (.int x2), none] [] σ := rfl
theorem e_X2_tollTaker {σ : xS} {x0 : Nat} {x1 : Int32} {x2 : Int64} : xC1 mX2_tollTaker [.ref x0, .int x1, .long x2] σ = xR mX2_tollTaker 0 [some (.ref x0), some (.int x1), some (.long x2), none, none] [] σ := rfl
theorem e_X6_bestGlide {σ : xS} {x0 : Nat} {x1 : Int32} : xC1 mX6_bestGlide [.ref x0, .int x1] σ = xR mX6_bestGlide 0 [some (.ref x0), some (.int x1), none, none, none, none, none, none] [] σ := rfl
theorem e_X2_copyFrom {σ : xS} {x0 : Nat} {x1 : Nat} : xC1 mX2_copyFrom [.ref x0, .ref x1] σ = xR mX2_copyFrom 0 [some (.ref x0), some (.ref x1), none] [] σ := rfl
theorem e_X5_copyFrom {σ : xS} {x0 : Nat} {x1 : Nat} : xC1 mX5_copyFrom [.ref x0, .ref x1] σ = xR mX5_copyFrom 0 [some (.ref x0), some (.ref x1)] [] σ := rfl
theorem e_X2_makeStep {σ : xS} {x0 : Nat} {x1 : Int32} {x2 : Int32} : xC1 mX2_makeStep [.ref x0, .int x1, .int x2] σ = xR mX2_makeStep 0 [some (.ref x0), some (.int x1), some (.int x2), none, none, none, none] [] σ := rfl
theorem e_X2_payToll {σ : xS} {x0 : Nat} {x1 : Nat} {x2 : Int32} : xC1 mX2_payToll [.ref x0, .ref x1, .int x2] σ = xR mX2_payToll 0 [some (.ref x0), some (.ref x1), some (.int x2), none] [] σ := rfl
theorem e_X5_move {σ : xS} {x0 : Nat} {x1 : Int32} : xC1 mX5_move [.ref x0, .int x1] σ = xR mX5_move 0 [some (.ref x0), some (.int x1)] [] σ := rfl
theorem e_X2_makeWater {σ : xS} {x0 : Nat} {x1 : Int64} : xC1 mX2_makeWater [.ref x0, .long x1] σ = xR mX2_makeWater 0 [some (.ref x0), some (.long x1), none, none] [] σ := rfl
theorem e_X2_cutLine {σ : xS} {x0 : Nat} {x1 : Int32} : xC1 mX2_cutLine [.ref x0, .int x1] σ = xR mX2_cutLine 0 [some (.ref x0), some (.int x1)] [] σ := rfl
theorem e_X2_partRink {σ : xS} {x0 : Nat} {x1 : Nat} {x2 : Int32} : xC1 mX2_partRink [.ref x0, .ref x1, .int x2] σ = xR mX2_partRink 0 [some (.ref x0), some (.ref x1), some (.int x2), none, none, none, none, none, none, none, none, none, none] [] σ := rfl
theorem e_X6_hashRinks {σ : xS} {x0 : Nat} {x1 : Int64} : xC1 mX6_hashRinks [.ref x0, .long x1] σ = xR mX6_hashRinks 0 [some (.ref x0), some (.long x1), none, none, none, none, none, none, none, none, none] [] σ := rfl
theorem e_X6_rinkNumber {σ : xS} {x0 : Nat} {x1 : Int64} {x2 : Int32} : xC1 mX6_rinkNumber [.ref x0, .long x1, .int x2] σ = xR mX6_rinkNumber 0 [some (.ref x0), some (.long x1), none, some (.int x2), none] [] σ := rfl
theorem e_X6_ownedShare {σ : xS} {x0 : Nat} : xC1 mX6_ownedShare [.ref x0] σ = xR mX6_ownedShare 0 [some (.ref x0), none] [] σ := rfl
theorem e_X2_ownedCells {σ : xS} {x0 : Nat} : xC1 mX2_ownedCells [.ref x0] σ = xR mX2_ownedCells 0 [some (.ref x0)] [] σ := rfl
theorem e_X6_floatingBits {σ : xS} {x0 : UInt64} {x1 : Int32} {x2 : Int32} : xC1 mX6_floatingBits [.double x0, .int x1, .int x2] σ = xR mX6_floatingBits 0 [some (.double x0), none, some (.int x1), some (.int x2), none, none, none, none, none, none] [] σ := rfl
theorem e_X6_meanRink {σ : xS} {x0 : Nat} : xC1 mX6_meanRink [.ref x0] σ = xR mX6_meanRink 0 [some (.ref x0), none] [] σ := rfl
theorem e_X6_hashText {σ : xS} {x0 : Nat} {x1 : Int64} : xC1 mX6_hashText [.ref x0, .long x1] σ = xR mX6_hashText 0 [some (.ref x0), some (.long x1), none, none, none, none] [] σ := rfl
theorem e_L_cell {σ : xS} {x0 : Nat} {x1 : Int32} : xC1 mL_cell [.ref x0, .int x1] σ = xR mL_cell 0 [some (.ref x0), some (.int x1)] [] σ := rfl
theorem e_L_count {σ : xS} {x0 : Nat} {x1 : Int32} : xC1 mL_count [.ref x0, .int x1] σ = xR mL_count 0 [some (.ref x0), some (.int x1), none] [] σ := rfl
theorem e_X6_count {σ : xS} {x0 : Nat} {x1 : Int32} : xC1 mX6_count [.ref x0, .int x1] σ = xR mX6_count 0 [some (.ref x0), some (.int x1)] [] σ := rfl
theorem e_L_play {σ : xS} {x0 : Nat} : xC1 mL_play [.ref x0] σ = xR mL_play 0 [some (.ref x0), none] [] σ := rfl
theorem e_X6_play {σ : xS} {x0 : Nat} : xC1 mX6_play [.ref x0] σ = xR mX6_play 0 [some (.ref x0), none] [] σ := rfl
theorem e_X0_isComplete {σ : xS} {x0 : Nat} : xC1 mX0_isComplete [.ref x0] σ = xR mX0_isComplete 0 [some (.ref x0), none, none] [] σ := rfl
theorem e_X4_push {σ : xS} {x0 : Nat} {x1 : Nat} : xC1 mX4_push [.ref x0, .ref x1] σ = xR mX4_push 0 [some (.ref x0), some (.ref x1)] [] σ := rfl
theorem e_X0_playOn {σ : xS} {x0 : Nat} {x1 : Nat} : xC1 mX0_playOn [.ref x0, .ref x1] σ = xR mX0_playOn 0 [some (.ref x0), some (.ref x1), none, none, none, none, none, none, none] [] σ := rfl
theorem e_X2_thawOnce {σ : xS} {x0 : Nat} : xC1 mX2_thawOnce [.ref x0] σ = xR mX2_thawOnce 0 [some (.ref x0), none, none] [] σ := rfl
theorem e_X2_makeSteps {σ : xS} {x0 : Nat} {x1 : Int32} {x2 : Int32} {x3 : Int32} : xC1 mX2_makeSteps [.ref x0, .int x1, .int x2, .int x3] σ = xR mX2_makeSteps 0 [some (.ref x0), some (.int x1), some (.int x2), some (.int x3), none] [] σ := rfl
theorem e_L_goBack {σ : xS} {x0 : Nat} : xC1 mL_goBack [.ref x0] σ = xR mL_goBack 0 [some (.ref x0), none] [] σ := rfl
theorem e_X6_goBack {σ : xS} {x0 : Nat} : xC1 mX6_goBack [.ref x0] σ = xR mX6_goBack 0 [some (.ref x0)] [] σ := rfl
theorem e_L_undo {σ : xS} {x0 : Nat} : xC1 mL_undo [.ref x0] σ = xR mL_undo 0 [some (.ref x0), none] [] σ := rfl
theorem e_X6_undo {σ : xS} {x0 : Nat} : xC1 mX6_undo [.ref x0] σ = xR mX6_undo 0 [some (.ref x0)] [] σ := rfl
theorem e_X4_popInto {σ : xS} {x0 : Nat} {x1 : Nat} : xC1 mX4_popInto [.ref x0, .ref x1] σ = xR mX4_popInto 0 [some (.ref x0), some (.ref x1)] [] σ := rfl
theorem e_L_best {σ : xS} {x0 : Nat} {x1 : Int32} : xC1 mL_best [.ref x0, .int x1] σ = xR mL_best 0 [some (.ref x0), some (.int x1), none] [] σ := rfl
theorem e_X6_best {σ : xS} {x0 : Nat} {x1 : Int32} : xC1 mX6_best [.ref x0, .int x1] σ = xR mX6_best 0 [some (.ref x0), some (.int x1)] [] σ := rfl
theorem e_X6_isSkater {σ : xS} {x0 : Int32} : xC1 mX6_isSkater [.int x0] σ = xR mX6_isSkater 0 [some (.int x0)] [] σ := rfl
theorem e_L_acts {σ : xS} {x0 : Nat} {x1 : Int32} : xC1 mL_acts [.ref x0, .int x1] σ = xR mL_acts 0 [some (.ref x0), some (.int x1), none, none, none, none] [] σ := rfl
theorem e_X6_thaw {σ : xS} {x0 : Nat} : xC1 mX6_thaw [.ref x0] σ = xR mX6_thaw 0 [some (.ref x0)] [] σ := rfl
theorem e_L_hole {σ : xS} {x0 : Nat} {x1 : Int32} {x2 : Int32} : xC1 mL_hole [.ref x0, .int x1, .int x2] σ = xR mL_hole 0 [some (.ref x0), some (.int x1), some (.int x2), none] [] σ := rfl
theorem e_X6_hole {σ : xS} {x0 : Nat} {x1 : Int32} {x2 : Int32} : xC1 mX6_hole [.ref x0, .int x1, .int x2] σ = xR mX6_hole 0 [some (.ref x0), some (.int x1), some (.int x2), none, none, none] [] σ := rfl
theorem e_L_pay {σ : xS} {x0 : Nat} {x1 : Int32} {x2 : Int32} : xC1 mL_pay [.ref x0, .int x1, .int x2] σ = xR mL_pay 0 [some (.ref x0), some (.int x1), some (.int x2), none] [] σ := rfl
theorem e_X6_pay {σ : xS} {x0 : Nat} {x1 : Int32} {x2 : Int32} : xC1 mX6_pay [.ref x0, .int x1, .int x2] σ = xR mX6_pay 0 [some (.ref x0), some (.int x1), some (.int x2), none] [] σ := rfl
theorem e_L_set {σ : xS} {x0 : Nat} {x1 : Int32} {x2 : Int32} : xC1 mL_set [.ref x0, .int x1, .int x2] σ = xR mL_set 0 [some (.ref x0), some (.int x1), some (.int x2), none] [] σ := rfl
theorem e_X6_set {σ : xS} {x0 : Nat} {x1 : Int32} {x2 : Int32} : xC1 mX6_set [.ref x0, .int x1, .int x2] σ = xR mX6_set 0 [some (.ref x0), some (.int x1), some (.int x2), none] [] σ := rfl
theorem e_X6_isSetting {σ : xS} {x0 : Int32} : xC1 mX6_isSetting [.int x0] σ = xR mX6_isSetting 0 [some (.int x0)] [] σ := rfl
theorem e_X6_leastValue {σ : xS} {x0 : Int32} : xC1 mX6_leastValue [.int x0] σ = xR mX6_leastValue 0 [some (.int x0)] [] σ := rfl
theorem e_X6_mostValue {σ : xS} {x0 : Int32} : xC1 mX6_mostValue [.int x0] σ = xR mX6_mostValue 0 [some (.int x0)] [] σ := rfl
theorem e_X6_keep {σ : xS} {x0 : Nat} : xC1 mX6_keep [.ref x0] σ = xR mX6_keep 0 [some (.ref x0)] [] σ := rfl
theorem e_L_append {σ : xS} {x0 : Nat} {x1 : Int32} : xC1 mL_append [.ref x0, .int x1] σ = xR mL_append 0 [some (.ref x0), some (.int x1), none] [] σ := rfl
theorem e_X6_append {σ : xS} {x0 : Nat} {x1 : Int32} : xC1 mX6_append [.ref x0, .int x1] σ = xR mX6_append 0 [some (.ref x0), some (.int x1)] [] σ := rfl
theorem e_X0_isFull {σ : xS} {x0 : Nat} : xC1 mX0_isFull [.ref x0] σ = xR mX0_isFull 0 [some (.ref x0)] [] σ := rfl
theorem e_X0_add {σ : xS} {x0 : Nat} {x1 : Int32} : xC1 mX0_add [.ref x0, .int x1] σ = xR mX0_add 0 [some (.ref x0), some (.int x1)] [] σ := rfl
theorem e_L_glide {σ : xS} {x0 : Nat} {x1 : Int32} {x2 : Int32} {x3 : Int32} : xC1 mL_glide [.ref x0, .int x1, .int x2, .int x3] σ = xR mL_glide 0 [some (.ref x0), some (.int x1), some (.int x2), some (.int x3), none] [] σ := rfl
theorem e_X6_glide {σ : xS} {x0 : Nat} {x1 : Int32} {x2 : Int32} {x3 : Int32} : xC1 mX6_glide [.ref x0, .int x1, .int x2, .int x3] σ = xR mX6_glide 0 [some (.ref x0), some (.int x1), some (.int x2), some (.int x3)] [] σ := rfl
theorem e_X6_isDirection {σ : xS} {x0 : Int32} : xC1 mX6_isDirection [.int x0] σ = xR mX6_isDirection 0 [some (.int x0)] [] σ := rfl
theorem e_X6_isSteps {σ : xS} {x0 : Int32} : xC1 mX6_isSteps [.int x0] σ = xR mX6_isSteps 0 [some (.int x0)] [] σ := rfl
theorem e_L_hangs {σ : xS} {x0 : Nat} : xC1 mL_hangs [.ref x0] σ = xR mL_hangs 0 [some (.ref x0), none, none, none, none, none, none, none, none, none, none, none, none, none, none] [] σ := rfl
theorem e_L_pond {σ : xS} {x0 : Nat} {x1 : Int32} {x2 : Int32} {x3 : Int32} : xC1 mL_pond [.ref x0, .int x1, .int x2, .int x3] σ = xR mL_pond 0 [some (.ref x0), some (.int x1), some (.int x2), some (.int x3), none] [] σ := rfl
theorem e_X6_cell {σ : xS} {x0 : Nat} {x1 : Int32} {x2 : Int32} {x3 : Int32} : xC1 mX6_cell [.ref x0, .int x1, .int x2, .int x3] σ = xR mX6_cell 0 [some (.ref x0), some (.int x1), some (.int x2), some (.int x3), none, none] [] σ := rfl
theorem e_L_line {σ : xS} {x0 : Nat} {x1 : Int32} {x2 : Int32} {x3 : Int32} {x4 : Int32} : xC1 mL_line [.ref x0, .int x1, .int x2, .int x3, .int x4] σ = xR mL_line 0 [some (.ref x0), some (.int x1), some (.int x2), some (.int x3), some (.int x4), none] [] σ := rfl
theorem e_X6_line {σ : xS} {x0 : Nat} {x1 : Int32} {x2 : Int32} {x3 : Int32} {x4 : Int32} : xC1 mX6_line [.ref x0, .int x1, .int x2, .int x3, .int x4] σ = xR mX6_line 0 [some (.ref x0), some (.int x1), some (.int x2), some (.int x3), some (.int x4), none, none] [] σ := rfl
theorem e_X6_isPoint {σ : xS} {x0 : Int32} {x1 : Int32} : xC1 mX6_isPoint [.int x0, .int x1] σ = xR mX6_isPoint 0 [some (.int x0), some (.int x1)] [] σ := rfl
theorem e_L_rink {σ : xS} {x0 : Nat} {x1 : Int32} {x2 : Int32} : xC1 mL_rink [.ref x0, .int x1, .int x2] σ = xR mL_rink 0 [some (.ref x0), some (.int x1), some (.int x2), none] [] σ := rfl
theorem e_X6_rink {σ : xS} {x0 : Nat} {x1 : Int32} {x2 : Int32} : xC1 mX6_rink [.ref x0, .int x1, .int x2] σ = xR mX6_rink 0 [some (.ref x0), some (.int x1), some (.int x2), none, none] [] σ := rfl
theorem e_X2_rinkWithRank {σ : xS} {x0 : Nat} {x1 : Int32} : xC1 mX2_rinkWithRank [.ref x0, .int x1] σ = xR mX2_rinkWithRank 0 [some (.ref x0), some (.int x1), none, none, none, none, none] [] σ := rfl
theorem e_L_skater {σ : xS} {x0 : Nat} {x1 : Int32} {x2 : Int32} : xC1 mL_skater [.ref x0, .int x1, .int x2] σ = xR mL_skater 0 [some (.ref x0), some (.int x1), some (.int x2), none] [] σ := rfl
theorem e_X6_skater {σ : xS} {x0 : Nat} {x1 : Int32} {x2 : Int32} : xC1 mX6_skater [.ref x0, .int x1, .int x2] σ = xR mX6_skater 0 [some (.ref x0), some (.int x1), some (.int x2)] [] σ := rfl
theorem e_L_why {σ : xS} {x0 : Nat} {x1 : Int32} {x2 : Int32} : xC1 mL_why [.ref x0, .int x1, .int x2] σ = xR mL_why 0 [some (.ref x0), some (.int x1), some (.int x2), none] [] σ := rfl
theorem e_X6_why {σ : xS} {x0 : Nat} {x1 : Int32} {x2 : Int32} : xC1 mX6_why [.ref x0, .int x1, .int x2] σ = xR mX6_why 0 [some (.ref x0), some (.int x1), some (.int x2)] [] σ := rfl
theorem e_L_ifGlided {σ : xS} {x0 : Nat} {x1 : Int32} {x2 : Int32} {x3 : Int32} {x4 : Int32} : xC1 mL_ifGlided [.ref x0, .int x1, .int x2, .int x3, .int x4] σ = xR mL_ifGlided 0 [some (.ref x0), some (.int x1), some (.int x2), some (.int x3), some (.int x4), none] [] σ := rfl
theorem e_X6_ifGlided {σ : xS} {x0 : Nat} {x1 : Int32} {x2 : Int32} {x3 : Int32} {x4 : Int32} : xC1 mX6_ifGlided [.ref x0, .int x1, .int x2, .int x3, .int x4] σ = xR mX6_ifGlided 0 [some (.ref x0), some (.int x1), some (.int x2), some (.int x3), some (.int x4), none] [] σ := rfl
theorem e_L_refuses {σ : xS} {x0 : Nat} {x1 : Int32} : xC1 mL_refuses [.ref x0, .int x1] σ = xR mL_refuses 0 [some (.ref x0), some (.int x1), none, none, none, none] [] σ := rfl
theorem e_L_setting {σ : xS} {x0 : Nat} {x1 : Int32} : xC1 mL_setting [.ref x0, .int x1] σ = xR mL_setting 0 [some (.ref x0), some (.int x1), none] [] σ := rfl
theorem e_X6_setting {σ : xS} {x0 : Nat} {x1 : Int32} : xC1 mX6_setting [.ref x0, .int x1] σ = xR mX6_setting 0 [some (.ref x0), some (.int x1)] [] σ := rfl
