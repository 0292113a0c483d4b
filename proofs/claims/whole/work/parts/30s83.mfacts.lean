/-! facts of the methods: by wip/whole/gen4.py -/
def mm_mk (M : mm_M) (q : Nat × Nat × Nat × Nat) : Bool := mm_at q.2.1 (.initialized (mm_nm M.1)) && mm_at q.2.2.1 (if M.2.2.2.2.2.2.1 = 1 then .static M.2.1 else .instanceMethod M.2.1) && (decide (M.2.2.2.2.2.2.1 = 1 ∨ M.2.2.2.2.2.2.1 = 2) || mm_at q.2.2.2 (.selects (mm_nm M.1) M.2.1 M.2.1)) && decide (M.2.1.cls = mm_nm M.1) && decide (M.2.2.2.2.2.2.1 = 2 → M.2.1.name = "<init>") && (decide (M.1 = 15) || plainName M.2.1.cls) && decide (M.2.1.cls ≠ "java/lang/invoke/MethodHandle" ∧ M.2.1.cls ≠ "java/lang/invoke/VarHandle" ∧ (parseMethodDescriptor M.2.1.desc).map (fun d => d.parameters.length) = some M.2.2.2.2.2.1) && decide (M.2.2.2.1 ≤ 40)
theorem mm_mk_X0_init : mm_mk mX0_init (269, 67, 268, 0) = true := by decide +kernel
set_option maxRecDepth 100000 in
theorem mm_mc_X0_init : lw_tbl[269]? = some (.code yX0_init cX0_init 2 none) := rfl
theorem mm_mk_X0_store : mm_mk mX0_store (834, 67, 832, 833) = true := by decide +kernel
set_option maxRecDepth 100000 in
theorem mm_mc_X0_store : lw_tbl[834]? = some (.code yX0_store cX0_store 4 (some .int)) := rfl
theorem mm_mk_X0_changed : mm_mk mX0_changed (844, 67, 842, 843) = true := by decide +kernel
set_option maxRecDepth 100000 in
theorem mm_mc_X0_changed : lw_tbl[844]? = some (.code yX0_changed cX0_changed 4 (some .long)) := rfl
theorem mm_mk_X0_pairs : mm_mk mX0_pairs (852, 67, 850, 851) = true := by decide +kernel
set_option maxRecDepth 100000 in
theorem mm_mc_X0_pairs : lw_tbl[852]? = some (.code yX0_pairs cX0_pairs 6 (some .int)) := rfl
theorem mm_mk_X0_listFirst : mm_mk mX0_listFirst (856, 67, 855, 0) = true := by decide +kernel
set_option maxRecDepth 100000 in
theorem mm_mc_X0_listFirst : lw_tbl[856]? = some (.code yX0_listFirst cX0_listFirst 5 (some .int)) := rfl
theorem mm_mk_X0_leastTogether : mm_mk mX0_leastTogether (862, 67, 861, 17) = true := by decide +kernel
set_option maxRecDepth 100000 in
theorem mm_mc_X0_leastTogether : lw_tbl[862]? = some (.code yX0_leastTogether cX0_leastTogether 10 (some .int)) := rfl
theorem mm_mk_X0_distance : mm_mk mX0_distance (871, 67, 870, 0) = true := by decide +kernel
set_option maxRecDepth 100000 in
theorem mm_mc_X0_distance : lw_tbl[871]? = some (.code yX0_distance cX0_distance 2 (some .int)) := rfl
theorem mm_mk_X1_init : mm_mk mX1_init (92, 61, 91, 0) = true := by decide +kernel
set_option maxRecDepth 100000 in
theorem mm_mc_X1_init : lw_tbl[92]? = some (.code yX1_init cX1_init 2 none) := rfl
theorem mm_mk_X1_sweepAt : mm_mk mX1_sweepAt (412, 61, 410, 411) = true := by decide +kernel
set_option maxRecDepth 100000 in
theorem mm_mc_X1_sweepAt : lw_tbl[412]? = some (.code yX1_sweepAt cX1_sweepAt 2 (some (.object "RoomsCaught$Sweep"))) := rfl
theorem mm_mk_X1_addSweep : mm_mk mX1_addSweep (404, 61, 402, 403) = true := by decide +kernel
set_option maxRecDepth 100000 in
theorem mm_mc_X1_addSweep : lw_tbl[404]? = some (.code yX1_addSweep cX1_addSweep 1 (some .int)) := rfl
theorem mm_mk_X1_place : mm_mk mX1_place (438, 61, 436, 437) = true := by decide +kernel
set_option maxRecDepth 100000 in
theorem mm_mc_X1_place : lw_tbl[438]? = some (.code yX1_place cX1_place 4 (some .int)) := rfl
theorem mm_mk_X1_remove : mm_mk mX1_remove (526, 61, 524, 525) = true := by decide +kernel
set_option maxRecDepth 100000 in
theorem mm_mc_X1_remove : lw_tbl[526]? = some (.code yX1_remove cX1_remove 2 (some .int)) := rfl
theorem mm_mk_X1_lookAgain : mm_mk mX1_lookAgain (481, 61, 480, 2) = true := by decide +kernel
set_option maxRecDepth 100000 in
theorem mm_mc_X1_lookAgain : lw_tbl[481]? = some (.code yX1_lookAgain cX1_lookAgain 2 none) := rfl
theorem mm_mk_X1_countHits : mm_mk mX1_countHits (1043, 61, 1041, 1042) = true := by decide +kernel
set_option maxRecDepth 100000 in
theorem mm_mc_X1_countHits : lw_tbl[1043]? = some (.code yX1_countHits cX1_countHits 3 (some .int)) := rfl
theorem mm_mk_X1_allOf : mm_mk mX1_allOf (493, 61, 491, 492) = true := by decide +kernel
set_option maxRecDepth 100000 in
theorem mm_mc_X1_allOf : lw_tbl[493]? = some (.code yX1_allOf cX1_allOf 2 (some .long)) := rfl
theorem mm_mk_X1_kindOf : mm_mk mX1_kindOf (594, 61, 592, 593) = true := by decide +kernel
set_option maxRecDepth 100000 in
theorem mm_mc_X1_kindOf : lw_tbl[594]? = some (.code yX1_kindOf cX1_kindOf 2 (some .int)) := rfl
theorem mm_mk_X1_leadTo : mm_mk mX1_leadTo (608, 61, 606, 607) = true := by decide +kernel
set_option maxRecDepth 100000 in
theorem mm_mc_X1_leadTo : lw_tbl[608]? = some (.code yX1_leadTo cX1_leadTo 6 (some .int)) := rfl
theorem mm_mk_X1_hasMarkAt : mm_mk mX1_hasMarkAt (817, 61, 815, 816) = true := by decide +kernel
set_option maxRecDepth 100000 in
theorem mm_mc_X1_hasMarkAt : lw_tbl[817]? = some (.code yX1_hasMarkAt cX1_hasMarkAt 4 (some .boolean)) := rfl
theorem mm_mk_X1_tryOut : mm_mk mX1_tryOut (576, 61, 574, 575) = true := by decide +kernel
set_option maxRecDepth 100000 in
theorem mm_mc_X1_tryOut : lw_tbl[576]? = some (.code yX1_tryOut cX1_tryOut 4 (some .boolean)) := rfl
theorem mm_mk_X1_catchesOfTrial : mm_mk mX1_catchesOfTrial (542, 61, 540, 541) = true := by decide +kernel
set_option maxRecDepth 100000 in
theorem mm_mc_X1_catchesOfTrial : lw_tbl[542]? = some (.code yX1_catchesOfTrial cX1_catchesOfTrial 1 (some .int)) := rfl
theorem mm_mk_X1_quarrelsOfTrial : mm_mk mX1_quarrelsOfTrial (552, 61, 550, 551) = true := by decide +kernel
set_option maxRecDepth 100000 in
theorem mm_mc_X1_quarrelsOfTrial : lw_tbl[552]? = some (.code yX1_quarrelsOfTrial cX1_quarrelsOfTrial 3 (some .int)) := rfl
theorem mm_mk_X1_barsOfTrial : mm_mk mX1_barsOfTrial (586, 61, 584, 585) = true := by decide +kernel
set_option maxRecDepth 100000 in
theorem mm_mc_X1_barsOfTrial : lw_tbl[586]? = some (.code yX1_barsOfTrial cX1_barsOfTrial 4 (some .int)) := rfl
theorem mm_mk_X1_findWay : mm_mk mX1_findWay (538, 61, 536, 537) = true := by decide +kernel
set_option maxRecDepth 100000 in
theorem mm_mc_X1_findWay : lw_tbl[538]? = some (.code yX1_findWay cX1_findWay 8 (some .int)) := rfl
theorem mm_mk_X2_init : mm_mk mX2_init (291, 68, 290, 0) = true := by decide +kernel
set_option maxRecDepth 100000 in
theorem mm_mc_X2_init : lw_tbl[291]? = some (.code yX2_init cX2_init 1 none) := rfl
theorem mm_mk_X2_tell : mm_mk mX2_tell (903, 68, 901, 902) = true := by decide +kernel
set_option maxRecDepth 100000 in
theorem mm_mc_X2_tell : lw_tbl[903]? = some (.code yX2_tell cX2_tell 5 (some .int)) := rfl
theorem mm_mk_X2_isJoin : mm_mk mX2_isJoin (945, 68, 943, 944) = true := by decide +kernel
set_option maxRecDepth 100000 in
theorem mm_mc_X2_isJoin : lw_tbl[945]? = some (.code yX2_isJoin cX2_isJoin 2 (some .boolean)) := rfl
theorem mm_mk_X2_beginOf : mm_mk mX2_beginOf (954, 68, 952, 953) = true := by decide +kernel
set_option maxRecDepth 100000 in
theorem mm_mc_X2_beginOf : lw_tbl[954]? = some (.code yX2_beginOf cX2_beginOf 3 (some .int)) := rfl
theorem mm_mk_X2_tellsOf : mm_mk mX2_tellsOf (983, 68, 981, 982) = true := by decide +kernel
set_option maxRecDepth 100000 in
theorem mm_mc_X2_tellsOf : lw_tbl[983]? = some (.code yX2_tellsOf cX2_tellsOf 3 (some .int)) := rfl
theorem mm_mk_X2_looseOf : mm_mk mX2_looseOf (995, 68, 993, 994) = true := by decide +kernel
set_option maxRecDepth 100000 in
theorem mm_mc_X2_looseOf : lw_tbl[995]? = some (.code yX2_looseOf cX2_looseOf 2 (some .int)) := rfl
theorem mm_mk_X2_isAtPeace : mm_mk mX2_isAtPeace (911, 68, 909, 910) = true := by decide +kernel
set_option maxRecDepth 100000 in
theorem mm_mc_X2_isAtPeace : lw_tbl[911]? = some (.code yX2_isAtPeace cX2_isAtPeace 3 (some .boolean)) := rfl
theorem mm_mk_X2_loosen : mm_mk mX2_loosen (915, 68, 914, 18) = true := by decide +kernel
set_option maxRecDepth 100000 in
theorem mm_mc_X2_loosen : lw_tbl[915]? = some (.code yX2_loosen cX2_loosen 3 none) := rfl
theorem mm_mk_X2_tie : mm_mk mX2_tie (919, 68, 918, 19) = true := by decide +kernel
set_option maxRecDepth 100000 in
theorem mm_mc_X2_tie : lw_tbl[919]? = some (.code yX2_tie cX2_tie 9 (some .boolean)) := rfl
theorem mm_mk_X2_bestSet : mm_mk mX2_bestSet (927, 68, 925, 926) = true := by decide +kernel
set_option maxRecDepth 100000 in
theorem mm_mc_X2_bestSet : lw_tbl[927]? = some (.code yX2_bestSet cX2_bestSet 3 (some .int)) := rfl
theorem mm_mk_X2_search : mm_mk mX2_search (930, 68, 929, 0) = true := by decide +kernel
set_option maxRecDepth 100000 in
theorem mm_mc_X2_search : lw_tbl[930]? = some (.code yX2_search cX2_search 7 none) := rfl
theorem mm_mk_X2_copyDown : mm_mk mX2_copyDown (934, 68, 933, 20) = true := by decide +kernel
set_option maxRecDepth 100000 in
theorem mm_mc_X2_copyDown : lw_tbl[934]? = some (.code yX2_copyDown cX2_copyDown 2 none) := rfl
theorem mm_mk_X3_init : mm_mk mX3_init (349, 70, 348, 0) = true := by decide +kernel
set_option maxRecDepth 100000 in
theorem mm_mc_X3_init : lw_tbl[349]? = some (.code yX3_init cX3_init 1 none) := rfl
theorem mm_mk_X3_tell : mm_mk mX3_tell (1008, 70, 1006, 1007) = true := by decide +kernel
set_option maxRecDepth 100000 in
theorem mm_mc_X3_tell : lw_tbl[1008]? = some (.code yX3_tell cX3_tell 4 (some .int)) := rfl
theorem mm_mk_X3_lackOf : mm_mk mX3_lackOf (1020, 70, 1019, 23) = true := by decide +kernel
set_option maxRecDepth 100000 in
theorem mm_mc_X3_lackOf : lw_tbl[1020]? = some (.code yX3_lackOf cX3_lackOf 2 (some .int)) := rfl
theorem mm_mk_X3_holdingWith : mm_mk mX3_holdingWith (1016, 70, 1014, 1015) = true := by decide +kernel
set_option maxRecDepth 100000 in
theorem mm_mc_X3_holdingWith : lw_tbl[1016]? = some (.code yX3_holdingWith cX3_holdingWith 4 (some .int)) := rfl
theorem mm_mk_X3_leastSpan : mm_mk mX3_leastSpan (1030, 70, 1028, 1029) = true := by decide +kernel
set_option maxRecDepth 100000 in
theorem mm_mc_X3_leastSpan : lw_tbl[1030]? = some (.code yX3_leastSpan cX3_leastSpan 5 (some .int)) := rfl
theorem mm_mk_X3_isEnough : mm_mk mX3_isEnough (1034, 70, 1033, 24) = true := by decide +kernel
set_option maxRecDepth 100000 in
theorem mm_mc_X3_isEnough : lw_tbl[1034]? = some (.code yX3_isEnough cX3_isEnough 3 (some .boolean)) := rfl
theorem mm_mk_X4_init : mm_mk mX4_init (132, 63, 131, 0) = true := by decide +kernel
set_option maxRecDepth 100000 in
theorem mm_mc_X4_init : lw_tbl[132]? = some (.code yX4_init cX4_init 1 none) := rfl
theorem mm_mk_X4_survey : mm_mk mX4_survey (498, 63, 496, 497) = true := by decide +kernel
set_option maxRecDepth 100000 in
theorem mm_mc_X4_survey : lw_tbl[498]? = some (.code yX4_survey cX4_survey 5 none) := rfl
theorem mm_mk_X4_betweenTwo : mm_mk mX4_betweenTwo (501, 63, 500, 0) = true := by decide +kernel
set_option maxRecDepth 100000 in
theorem mm_mc_X4_betweenTwo : lw_tbl[501]? = some (.code yX4_betweenTwo cX4_betweenTwo 10 (some .long)) := rfl
theorem mm_mk_X4_beside : mm_mk mX4_beside (507, 63, 506, 0) = true := by decide +kernel
set_option maxRecDepth 100000 in
theorem mm_mc_X4_beside : lw_tbl[507]? = some (.code yX4_beside cX4_beside 2 (some .long)) := rfl
theorem mm_mk_X4_findRooms : mm_mk mX4_findRooms (512, 63, 511, 3) = true := by decide +kernel
set_option maxRecDepth 100000 in
theorem mm_mc_X4_findRooms : lw_tbl[512]? = some (.code yX4_findRooms cX4_findRooms 10 none) := rfl
theorem mm_mk_X4_spreadFrom : mm_mk mX4_spreadFrom (518, 63, 517, 0) = true := by decide +kernel
set_option maxRecDepth 100000 in
theorem mm_mc_X4_spreadFrom : lw_tbl[518]? = some (.code yX4_spreadFrom cX4_spreadFrom 9 (some .long)) := rfl
theorem mm_mk_X4_isRoom : mm_mk mX4_isRoom (661, 63, 659, 660) = true := by decide +kernel
set_option maxRecDepth 100000 in
theorem mm_mc_X4_isRoom : lw_tbl[661]? = some (.code yX4_isRoom cX4_isRoom 2 (some .boolean)) := rfl
theorem mm_mk_X4_roomOf : mm_mk mX4_roomOf (649, 63, 647, 648) = true := by decide +kernel
set_option maxRecDepth 100000 in
theorem mm_mc_X4_roomOf : lw_tbl[649]? = some (.code yX4_roomOf cX4_roomOf 3 (some .int)) := rfl
theorem mm_mk_X4_cellsOfRoom : mm_mk mX4_cellsOfRoom (657, 63, 655, 656) = true := by decide +kernel
set_option maxRecDepth 100000 in
theorem mm_mc_X4_cellsOfRoom : lw_tbl[657]? = some (.code yX4_cellsOfRoom cX4_cellsOfRoom 2 (some .long)) := rfl
theorem mm_mk_X4_doorsBetween : mm_mk mX4_doorsBetween (670, 63, 668, 669) = true := by decide +kernel
set_option maxRecDepth 100000 in
theorem mm_mc_X4_doorsBetween : lw_tbl[670]? = some (.code yX4_doorsBetween cX4_doorsBetween 8 (some .int)) := rfl
theorem mm_mk_X4_roomsBehind : mm_mk mX4_roomsBehind (675, 63, 674, 8) = true := by decide +kernel
set_option maxRecDepth 100000 in
theorem mm_mc_X4_roomsBehind : lw_tbl[675]? = some (.code yX4_roomsBehind cX4_roomsBehind 8 (some .long)) := rfl
theorem mm_mk_X4_allCorners : mm_mk mX4_allCorners (636, 63, 634, 635) = true := by decide +kernel
set_option maxRecDepth 100000 in
theorem mm_mc_X4_allCorners : lw_tbl[636]? = some (.code yX4_allCorners cX4_allCorners 5 (some .long)) := rfl
theorem mm_mk_X4_findWall : mm_mk mX4_findWall (616, 63, 614, 615) = true := by decide +kernel
set_option maxRecDepth 100000 in
theorem mm_mc_X4_findWall : lw_tbl[616]? = some (.code yX4_findWall cX4_findWall 6 (some .int)) := rfl
theorem mm_mk_X4_cellOn : mm_mk mX4_cellOn (624, 63, 623, 0) = true := by decide +kernel
set_option maxRecDepth 100000 in
theorem mm_mc_X4_cellOn : lw_tbl[624]? = some (.code yX4_cellOn cX4_cellOn 2 (some .int)) := rfl
theorem mm_mk_X4_isHitOn : mm_mk mX4_isHitOn (620, 63, 619, 6) = true := by decide +kernel
set_option maxRecDepth 100000 in
theorem mm_mc_X4_isHitOn : lw_tbl[620]? = some (.code yX4_isHitOn cX4_isHitOn 3 (some .boolean)) := rfl
theorem mm_mk_X4_runFrom : mm_mk mX4_runFrom (628, 63, 627, 7) = true := by decide +kernel
set_option maxRecDepth 100000 in
theorem mm_mc_X4_runFrom : lw_tbl[628]? = some (.code yX4_runFrom cX4_runFrom 4 (some .int)) := rfl
theorem mm_mk_X5_init : mm_mk mX5_init (100, 62, 99, 0) = true := by decide +kernel
set_option maxRecDepth 100000 in
theorem mm_mc_X5_init : lw_tbl[100]? = some (.code yX5_init cX5_init 1 none) := rfl
theorem mm_mk_X5_draw : mm_mk mX5_draw (442, 62, 440, 441) = true := by decide +kernel
set_option maxRecDepth 100000 in
theorem mm_mc_X5_draw : lw_tbl[442]? = some (.code yX5_draw cX5_draw 8 none) := rfl
theorem mm_mk_X5_measure : mm_mk mX5_measure (446, 62, 445, 0) = true := by decide +kernel
set_option maxRecDepth 100000 in
theorem mm_mc_X5_measure : lw_tbl[446]? = some (.code yX5_measure cX5_measure 6 none) := rfl
theorem mm_mk_X5_drawBeam : mm_mk mX5_drawBeam (465, 62, 464, 1) = true := by decide +kernel
set_option maxRecDepth 100000 in
theorem mm_mc_X5_drawBeam : lw_tbl[465]? = some (.code yX5_drawBeam cX5_drawBeam 5 none) := rfl
theorem mm_mk_X5_lay : mm_mk mX5_lay (477, 62, 475, 476) = true := by decide +kernel
set_option maxRecDepth 100000 in
theorem mm_mc_X5_lay : lw_tbl[477]? = some (.code yX5_lay cX5_lay 4 (some .boolean)) := rfl
theorem mm_mk_X5_hitCells : mm_mk mX5_hitCells (485, 62, 483, 484) = true := by decide +kernel
set_option maxRecDepth 100000 in
theorem mm_mc_X5_hitCells : lw_tbl[485]? = some (.code yX5_hitCells cX5_hitCells 1 (some .long)) := rfl
theorem mm_mk_X5_beamCells : mm_mk mX5_beamCells (489, 62, 487, 488) = true := by decide +kernel
set_option maxRecDepth 100000 in
theorem mm_mc_X5_beamCells : lw_tbl[489]? = some (.code yX5_beamCells cX5_beamCells 1 (some .long)) := rfl
theorem mm_mk_X5_cellsOfMark : mm_mk mX5_cellsOfMark (567, 62, 566, 5) = true := by decide +kernel
set_option maxRecDepth 100000 in
theorem mm_mc_X5_cellsOfMark : lw_tbl[567]? = some (.code yX5_cellsOfMark cX5_cellsOfMark 2 (some .long)) := rfl
theorem mm_mk_X5_quarrelsWith : mm_mk mX5_quarrelsWith (556, 62, 554, 555) = true := by decide +kernel
set_option maxRecDepth 100000 in
theorem mm_mc_X5_quarrelsWith : lw_tbl[556]? = some (.code yX5_quarrelsWith cX5_quarrelsWith 2 (some .int)) := rfl
theorem mm_mk_X5_markQuarrelsWith : mm_mk mX5_markQuarrelsWith (563, 62, 562, 4) = true := by decide +kernel
set_option maxRecDepth 100000 in
theorem mm_mc_X5_markQuarrelsWith : lw_tbl[563]? = some (.code yX5_markQuarrelsWith cX5_markQuarrelsWith 6 (some .int)) := rfl
theorem mm_mk_X5_hasMarkAt : mm_mk mX5_hasMarkAt (821, 62, 819, 820) = true := by decide +kernel
set_option maxRecDepth 100000 in
theorem mm_mc_X5_hasMarkAt : lw_tbl[821]? = some (.code yX5_hasMarkAt cX5_hasMarkAt 3 (some .boolean)) := rfl
theorem mm_mk_X6_init : mm_mk mX6_init (331, 69, 330, 0) = true := by decide +kernel
set_option maxRecDepth 100000 in
theorem mm_mc_X6_init : lw_tbl[331]? = some (.code yX6_init cX6_init 1 none) := rfl
theorem mm_mk_X6_append : mm_mk mX6_append (950, 69, 948, 949) = true := by decide +kernel
set_option maxRecDepth 100000 in
theorem mm_mc_X6_append : lw_tbl[950]? = some (.code yX6_append cX6_append 4 (some .int)) := rfl
theorem mm_mk_X6_clear : mm_mk mX6_clear (966, 69, 964, 965) = true := by decide +kernel
set_option maxRecDepth 100000 in
theorem mm_mc_X6_clear : lw_tbl[966]? = some (.code yX6_clear cX6_clear 2 (some .int)) := rfl
theorem mm_mk_X6_endOfRow : mm_mk mX6_endOfRow (958, 69, 957, 21) = true := by decide +kernel
set_option maxRecDepth 100000 in
theorem mm_mc_X6_endOfRow : lw_tbl[958]? = some (.code yX6_endOfRow cX6_endOfRow 2 (some .int)) := rfl
theorem mm_mk_X6_isClosed : mm_mk mX6_isClosed (974, 69, 972, 973) = true := by decide +kernel
set_option maxRecDepth 100000 in
theorem mm_mc_X6_isClosed : lw_tbl[974]? = some (.code yX6_isClosed cX6_isClosed 2 (some .boolean)) := rfl
theorem mm_mk_X6_missOf : mm_mk mX6_missOf (979, 69, 977, 978) = true := by decide +kernel
set_option maxRecDepth 100000 in
theorem mm_mc_X6_missOf : lw_tbl[979]? = some (.code yX6_missOf cX6_missOf 4 (some .int)) := rfl
theorem mm_mk_X6_looseTogether : mm_mk mX6_looseTogether (991, 69, 990, 22) = true := by decide +kernel
set_option maxRecDepth 100000 in
theorem mm_mc_X6_looseTogether : lw_tbl[991]? = some (.code yX6_looseTogether cX6_looseTogether 4 (some .int)) := rfl
theorem mm_mk_X6_spreadPart : mm_mk mX6_spreadPart (987, 69, 985, 986) = true := by decide +kernel
set_option maxRecDepth 100000 in
theorem mm_mc_X6_spreadPart : lw_tbl[987]? = some (.code yX6_spreadPart cX6_spreadPart 7 (some .int)) := rfl
theorem mm_mk_X7_init : mm_mk mX7_init (152, 64, 151, 0) = true := by decide +kernel
set_option maxRecDepth 100000 in
theorem mm_mc_X7_init : lw_tbl[152]? = some (.code yX7_init cX7_init 1 none) := rfl
theorem mm_mk_X7_hasHitAt : mm_mk mX7_hasHitAt (420, 64, 418, 419) = true := by decide +kernel
set_option maxRecDepth 100000 in
theorem mm_mc_X7_hasHitAt : lw_tbl[420]? = some (.code yX7_hasHitAt cX7_hasHitAt 4 (some .boolean)) := rfl
theorem mm_mk_X7_addHit : mm_mk mX7_addHit (424, 64, 422, 423) = true := by decide +kernel
set_option maxRecDepth 100000 in
theorem mm_mc_X7_addHit : lw_tbl[424]? = some (.code yX7_addHit cX7_addHit 4 (some .int)) := rfl
theorem mm_mk_X8_init : mm_mk mX8_init (222, 65, 221, 0) = true := by decide +kernel
set_option maxRecDepth 100000 in
theorem mm_mc_X8_init : lw_tbl[222]? = some (.code yX8_init cX8_init 1 none) := rfl
theorem mm_mk_X8_append : mm_mk mX8_append (683, 65, 681, 682) = true := by decide +kernel
set_option maxRecDepth 100000 in
theorem mm_mc_X8_append : lw_tbl[683]? = some (.code yX8_append cX8_append 5 (some .int)) := rfl
theorem mm_mk_X8_clear : mm_mk mX8_clear (692, 65, 690, 691) = true := by decide +kernel
set_option maxRecDepth 100000 in
theorem mm_mc_X8_clear : lw_tbl[692]? = some (.code yX8_clear cX8_clear 2 (some .int)) := rfl
theorem mm_mk_X8_readInto : mm_mk mX8_readInto (700, 65, 698, 699) = true := by decide +kernel
set_option maxRecDepth 100000 in
theorem mm_mc_X8_readInto : lw_tbl[700]? = some (.code yX8_readInto cX8_readInto 3 (some .int)) := rfl
theorem mm_mk_X8_readLine : mm_mk mX8_readLine (704, 65, 703, 9) = true := by decide +kernel
set_option maxRecDepth 100000 in
theorem mm_mc_X8_readLine : lw_tbl[704]? = some (.code yX8_readLine cX8_readLine 6 (some .boolean)) := rfl
theorem mm_mk_X8_wordKind : mm_mk mX8_wordKind (722, 65, 721, 12) = true := by decide +kernel
set_option maxRecDepth 100000 in
theorem mm_mc_X8_wordKind : lw_tbl[722]? = some (.code yX8_wordKind cX8_wordKind 1 (some .int)) := rfl
theorem mm_mk_X8_isWord : mm_mk mX8_isWord (727, 65, 726, 13) = true := by decide +kernel
set_option maxRecDepth 100000 in
theorem mm_mc_X8_isWord : lw_tbl[727]? = some (.code yX8_isWord cX8_isWord 3 (some .boolean)) := rfl
theorem mm_mk_X8_readNumber : mm_mk mX8_readNumber (781, 65, 780, 14) = true := by decide +kernel
set_option maxRecDepth 100000 in
theorem mm_mc_X8_readNumber : lw_tbl[781]? = some (.code yX8_readNumber cX8_readNumber 4 (some .int)) := rfl
theorem mm_mk_X8_nextToken : mm_mk mX8_nextToken (708, 65, 707, 10) = true := by decide +kernel
set_option maxRecDepth 100000 in
theorem mm_mc_X8_nextToken : lw_tbl[708]? = some (.code yX8_nextToken cX8_nextToken 2 none) := rfl
theorem mm_mk_X8_endOfRow : mm_mk mX8_endOfRow (718, 65, 717, 11) = true := by decide +kernel
set_option maxRecDepth 100000 in
theorem mm_mc_X8_endOfRow : lw_tbl[718]? = some (.code yX8_endOfRow cX8_endOfRow 4 (some .int)) := rfl
theorem mm_mk_X8_isLetter : mm_mk mX8_isLetter (711, 65, 710, 0) = true := by decide +kernel
set_option maxRecDepth 100000 in
theorem mm_mc_X8_isLetter : lw_tbl[711]? = some (.code yX8_isLetter cX8_isLetter 1 (some .boolean)) := rfl
theorem mm_mk_X8_isDigit : mm_mk mX8_isDigit (714, 65, 713, 0) = true := by decide +kernel
set_option maxRecDepth 100000 in
theorem mm_mc_X8_isDigit : lw_tbl[714]? = some (.code yX8_isDigit cX8_isDigit 1 (some .boolean)) := rfl
theorem mm_mk_X9_init : mm_mk mX9_init (242, 66, 241, 0) = true := by decide +kernel
set_option maxRecDepth 100000 in
theorem mm_mc_X9_init : lw_tbl[242]? = some (.code yX9_init cX9_init 1 none) := rfl
theorem mm_mk_X9_addLine : mm_mk mX9_addLine (786, 66, 784, 785) = true := by decide +kernel
set_option maxRecDepth 100000 in
theorem mm_mc_X9_addLine : lw_tbl[786]? = some (.code yX9_addLine cX9_addLine 5 (some .boolean)) := rfl
theorem mm_mk_X9_findFit : mm_mk mX9_findFit (799, 66, 797, 798) = true := by decide +kernel
set_option maxRecDepth 100000 in
theorem mm_mc_X9_findFit : lw_tbl[799]? = some (.code yX9_findFit cX9_findFit 7 (some .int)) := rfl
theorem mm_mk_X9_costAt : mm_mk mX9_costAt (803, 66, 802, 15) = true := by decide +kernel
set_option maxRecDepth 100000 in
theorem mm_mc_X9_costAt : lw_tbl[803]? = some (.code yX9_costAt cX9_costAt 9 (some .int)) := rfl
theorem mm_mk_X9_costOf : mm_mk mX9_costOf (812, 66, 811, 16) = true := by decide +kernel
set_option maxRecDepth 100000 in
theorem mm_mc_X9_costOf : lw_tbl[812]? = some (.code yX9_costOf cX9_costOf 6 (some .int)) := rfl
theorem mm_mk_X10_init : mm_mk mX10_init (84, 60, 83, 0) = true := by decide +kernel
set_option maxRecDepth 100000 in
theorem mm_mc_X10_init : lw_tbl[84]? = some (.code yX10_init cX10_init 1 none) := rfl
theorem mm_mk_X10_sweep : mm_mk mX10_sweep (400, 60, 398, 399) = true := by decide +kernel
set_option maxRecDepth 100000 in
theorem mm_mc_X10_sweep : lw_tbl[400]? = some (.code yX10_sweep cX10_sweep 1 (some .int)) := rfl
theorem mm_mk_X10_hit : mm_mk mX10_hit (408, 60, 406, 407) = true := by decide +kernel
set_option maxRecDepth 100000 in
theorem mm_mc_X10_hit : lw_tbl[408]? = some (.code yX10_hit cX10_hit 7 (some .int)) := rfl
theorem mm_mk_X10_stand : mm_mk mX10_stand (428, 60, 426, 427) = true := by decide +kernel
set_option maxRecDepth 100000 in
theorem mm_mc_X10_stand : lw_tbl[428]? = some (.code yX10_stand cX10_stand 5 (some .int)) := rfl
theorem mm_mk_X10_part : mm_mk mX10_part (522, 60, 520, 521) = true := by decide +kernel
set_option maxRecDepth 100000 in
theorem mm_mc_X10_part : lw_tbl[522]? = some (.code yX10_part cX10_part 3 (some .int)) := rfl
theorem mm_mk_X10_set : mm_mk mX10_set (530, 60, 528, 529) = true := by decide +kernel
set_option maxRecDepth 100000 in
theorem mm_mc_X10_set : lw_tbl[530]? = some (.code yX10_set cX10_set 4 (some .int)) := rfl
theorem mm_mk_X10_way : mm_mk mX10_way (534, 60, 532, 533) = true := by decide +kernel
set_option maxRecDepth 100000 in
theorem mm_mc_X10_way : lw_tbl[534]? = some (.code yX10_way cX10_way 4 (some .int)) := rfl
theorem mm_mk_X10_fits : mm_mk mX10_fits (572, 60, 570, 571) = true := by decide +kernel
set_option maxRecDepth 100000 in
theorem mm_mc_X10_fits : lw_tbl[572]? = some (.code yX10_fits cX10_fits 6 (some .int)) := rfl
theorem mm_mk_X10_bars : mm_mk mX10_bars (582, 60, 580, 581) = true := by decide +kernel
set_option maxRecDepth 100000 in
theorem mm_mc_X10_bars : lw_tbl[582]? = some (.code yX10_bars cX10_bars 5 (some .int)) := rfl
theorem mm_mk_X10_cell : mm_mk mX10_cell (590, 60, 588, 589) = true := by decide +kernel
set_option maxRecDepth 100000 in
theorem mm_mc_X10_cell : lw_tbl[590]? = some (.code yX10_cell cX10_cell 2 (some .int)) := rfl
theorem mm_mk_X10_cells : mm_mk mX10_cells (599, 60, 597, 598) = true := by decide +kernel
set_option maxRecDepth 100000 in
theorem mm_mc_X10_cells : lw_tbl[599]? = some (.code yX10_cells cX10_cells 2 (some .long)) := rfl
theorem mm_mk_X10_lead : mm_mk mX10_lead (604, 60, 602, 603) = true := by decide +kernel
set_option maxRecDepth 100000 in
theorem mm_mc_X10_lead : lw_tbl[604]? = some (.code yX10_lead cX10_lead 3 (some .int)) := rfl
theorem mm_mk_X10_wall : mm_mk mX10_wall (612, 60, 610, 611) = true := by decide +kernel
set_option maxRecDepth 100000 in
theorem mm_mc_X10_wall : lw_tbl[612]? = some (.code yX10_wall cX10_wall 2 (some .int)) := rfl
theorem mm_mk_X10_corners : mm_mk mX10_corners (632, 60, 630, 631) = true := by decide +kernel
set_option maxRecDepth 100000 in
theorem mm_mc_X10_corners : lw_tbl[632]? = some (.code yX10_corners cX10_corners 1 (some .long)) := rfl
theorem mm_mk_X10_doors : mm_mk mX10_doors (641, 60, 639, 640) = true := by decide +kernel
set_option maxRecDepth 100000 in
theorem mm_mc_X10_doors : lw_tbl[641]? = some (.code yX10_doors cX10_doors 1 (some .long)) := rfl
theorem mm_mk_X10_room : mm_mk mX10_room (645, 60, 643, 644) = true := by decide +kernel
set_option maxRecDepth 100000 in
theorem mm_mc_X10_room : lw_tbl[645]? = some (.code yX10_room cX10_room 2 (some .int)) := rfl
theorem mm_mk_X10_rooms : mm_mk mX10_rooms (653, 60, 651, 652) = true := by decide +kernel
set_option maxRecDepth 100000 in
theorem mm_mc_X10_rooms : lw_tbl[653]? = some (.code yX10_rooms cX10_rooms 2 (some .long)) := rfl
theorem mm_mk_X10_away : mm_mk mX10_away (665, 60, 663, 664) = true := by decide +kernel
set_option maxRecDepth 100000 in
theorem mm_mc_X10_away : lw_tbl[665]? = some (.code yX10_away cX10_away 4 (some .int)) := rfl
theorem mm_mk_X10_write : mm_mk mX10_write (679, 60, 677, 678) = true := by decide +kernel
set_option maxRecDepth 100000 in
theorem mm_mc_X10_write : lw_tbl[679]? = some (.code yX10_write cX10_write 4 (some .int)) := rfl
theorem mm_mk_X10_erase : mm_mk mX10_erase (688, 60, 686, 687) = true := by decide +kernel
set_option maxRecDepth 100000 in
theorem mm_mc_X10_erase : lw_tbl[688]? = some (.code yX10_erase cX10_erase 1 (some .int)) := rfl
theorem mm_mk_X10_fault : mm_mk mX10_fault (696, 60, 694, 695) = true := by decide +kernel
set_option maxRecDepth 100000 in
theorem mm_mc_X10_fault : lw_tbl[696]? = some (.code yX10_fault cX10_fault 1 (some .int)) := rfl
theorem mm_mk_X10_thing : mm_mk mX10_thing (791, 60, 789, 790) = true := by decide +kernel
set_option maxRecDepth 100000 in
theorem mm_mc_X10_thing : lw_tbl[791]? = some (.code yX10_thing cX10_thing 2 (some .int)) := rfl
theorem mm_mk_X10_fit : mm_mk mX10_fit (795, 60, 793, 794) = true := by decide +kernel
set_option maxRecDepth 100000 in
theorem mm_mc_X10_fit : lw_tbl[795]? = some (.code yX10_fit cX10_fit 2 (some .int)) := rfl
theorem mm_mk_X10_keep : mm_mk mX10_keep (827, 60, 825, 826) = true := by decide +kernel
set_option maxRecDepth 100000 in
theorem mm_mc_X10_keep : lw_tbl[827]? = some (.code yX10_keep cX10_keep 2 (some .int)) := rfl
theorem mm_mk_X10_since : mm_mk mX10_since (840, 60, 838, 839) = true := by decide +kernel
set_option maxRecDepth 100000 in
theorem mm_mc_X10_since : lw_tbl[840]? = some (.code yX10_since cX10_since 4 (some .long)) := rfl
theorem mm_mk_X10_moved : mm_mk mX10_moved (848, 60, 846, 847) = true := by decide +kernel
set_option maxRecDepth 100000 in
theorem mm_mc_X10_moved : lw_tbl[848]? = some (.code yX10_moved cX10_moved 4 (some .int)) := rfl
theorem mm_mk_X10_see : mm_mk mX10_see (876, 60, 874, 875) = true := by decide +kernel
set_option maxRecDepth 100000 in
theorem mm_mc_X10_see : lw_tbl[876]? = some (.code yX10_see cX10_see 3 (some .int)) := rfl
theorem mm_mk_X10_next : mm_mk mX10_next (890, 60, 888, 889) = true := by decide +kernel
set_option maxRecDepth 100000 in
theorem mm_mc_X10_next : lw_tbl[890]? = some (.code yX10_next cX10_next 11 (some .int)) := rfl
theorem mm_mk_X10_join : mm_mk mX10_join (896, 60, 894, 895) = true := by decide +kernel
set_option maxRecDepth 100000 in
theorem mm_mc_X10_join : lw_tbl[896]? = some (.code yX10_join cX10_join 5 (some .int)) := rfl
theorem mm_mk_X10_agrees : mm_mk mX10_agrees (907, 60, 905, 906) = true := by decide +kernel
set_option maxRecDepth 100000 in
theorem mm_mc_X10_agrees : lw_tbl[907]? = some (.code yX10_agrees cX10_agrees 2 (some .int)) := rfl
theorem mm_mk_X10_kept : mm_mk mX10_kept (923, 60, 921, 922) = true := by decide +kernel
set_option maxRecDepth 100000 in
theorem mm_mc_X10_kept : lw_tbl[923]? = some (.code yX10_kept cX10_kept 1 (some .int)) := rfl
theorem mm_mk_X10_loop : mm_mk mX10_loop (941, 60, 939, 940) = true := by decide +kernel
set_option maxRecDepth 100000 in
theorem mm_mc_X10_loop : lw_tbl[941]? = some (.code yX10_loop cX10_loop 3 (some .int)) := rfl
theorem mm_mk_X10_unloop : mm_mk mX10_unloop (962, 60, 960, 961) = true := by decide +kernel
set_option maxRecDepth 100000 in
theorem mm_mc_X10_unloop : lw_tbl[962]? = some (.code yX10_unloop cX10_unloop 1 (some .int)) := rfl
theorem mm_mk_X10_spread : mm_mk mX10_spread (970, 60, 968, 969) = true := by decide +kernel
set_option maxRecDepth 100000 in
theorem mm_mc_X10_spread : lw_tbl[970]? = some (.code yX10_spread cX10_spread 3 (some .int)) := rfl
theorem mm_mk_X10_length : mm_mk mX10_length (1004, 60, 1002, 1003) = true := by decide +kernel
set_option maxRecDepth 100000 in
theorem mm_mc_X10_length : lw_tbl[1004]? = some (.code yX10_length cX10_length 5 (some .int)) := rfl
theorem mm_mk_X10_held : mm_mk mX10_held (1012, 60, 1010, 1011) = true := by decide +kernel
set_option maxRecDepth 100000 in
theorem mm_mc_X10_held : lw_tbl[1012]? = some (.code yX10_held cX10_held 2 (some .int)) := rfl
theorem mm_mk_X10_span : mm_mk mX10_span (1026, 60, 1024, 1025) = true := by decide +kernel
set_option maxRecDepth 100000 in
theorem mm_mc_X10_span : lw_tbl[1026]? = some (.code yX10_span cX10_span 2 (some .int)) := rfl
theorem mm_mk_X10_count : mm_mk mX10_count (1039, 60, 1037, 1038) = true := by decide +kernel
set_option maxRecDepth 100000 in
theorem mm_mc_X10_count : lw_tbl[1039]? = some (.code yX10_count cX10_count 2 (some .int)) := rfl
theorem mm_mk_X10_isWithin : mm_mk mX10_isWithin (415, 60, 414, 0) = true := by decide +kernel
set_option maxRecDepth 100000 in
theorem mm_mc_X10_isWithin : lw_tbl[415]? = some (.code yX10_isWithin cX10_isWithin 3 (some .boolean)) := rfl
theorem mm_mk_X10_isCell : mm_mk mX10_isCell (431, 60, 430, 0) = true := by decide +kernel
set_option maxRecDepth 100000 in
theorem mm_mc_X10_isCell : lw_tbl[431]? = some (.code yX10_isCell cX10_isCell 1 (some .boolean)) := rfl
theorem mm_mk_X10_isInHall : mm_mk mX10_isInHall (808, 60, 807, 0) = true := by decide +kernel
set_option maxRecDepth 100000 in
theorem mm_mc_X10_isInHall : lw_tbl[808]? = some (.code yX10_isInHall cX10_isInHall 2 (some .boolean)) := rfl
theorem mm_mk_X10_isTurn : mm_mk mX10_isTurn (434, 60, 433, 0) = true := by decide +kernel
set_option maxRecDepth 100000 in
theorem mm_mc_X10_isTurn : lw_tbl[434]? = some (.code yX10_isTurn cX10_isTurn 1 (some .boolean)) := rfl
theorem mm_mk_X10_isCatch : mm_mk mX10_isCatch (830, 60, 829, 0) = true := by decide +kernel
set_option maxRecDepth 100000 in
theorem mm_mc_X10_isCatch : lw_tbl[830]? = some (.code yX10_isCatch cX10_isCatch 1 (some .boolean)) := rfl
theorem mm_mk_X10_isSpot : mm_mk mX10_isSpot (899, 60, 898, 0) = true := by decide +kernel
set_option maxRecDepth 100000 in
theorem mm_mc_X10_isSpot : lw_tbl[899]? = some (.code yX10_isSpot cX10_isSpot 1 (some .boolean)) := rfl
theorem mm_mk_X10_has : mm_mk mX10_has (515, 60, 514, 0) = true := by decide +kernel
set_option maxRecDepth 100000 in
theorem mm_mc_X10_has : lw_tbl[515]? = some (.code yX10_has cX10_has 3 (some .boolean)) := rfl
theorem mm_mk_X10_bitOf : mm_mk mX10_bitOf (461, 60, 460, 0) = true := by decide +kernel
set_option maxRecDepth 100000 in
theorem mm_mc_X10_bitOf : lw_tbl[461]? = some (.code yX10_bitOf cX10_bitOf 2 (some .long)) := rfl
theorem mm_mk_X10_turnedX : mm_mk mX10_turnedX (449, 60, 448, 0) = true := by decide +kernel
set_option maxRecDepth 100000 in
theorem mm_mc_X10_turnedX : lw_tbl[449]? = some (.code yX10_turnedX cX10_turnedX 3 (some .int)) := rfl
theorem mm_mk_X10_turnedY : mm_mk mX10_turnedY (452, 60, 451, 0) = true := by decide +kernel
set_option maxRecDepth 100000 in
theorem mm_mc_X10_turnedY : lw_tbl[452]? = some (.code yX10_turnedY cX10_turnedY 3 (some .int)) := rfl
theorem mm_mk_X10_stepsOf : mm_mk mX10_stepsOf (468, 60, 467, 0) = true := by decide +kernel
set_option maxRecDepth 100000 in
theorem mm_mc_X10_stepsOf : lw_tbl[468]? = some (.code yX10_stepsOf cX10_stepsOf 4 (some .int)) := rfl
theorem mm_mk_X10_hiddenFrom : mm_mk mX10_hiddenFrom (880, 60, 879, 0) = true := by decide +kernel
set_option maxRecDepth 100000 in
theorem mm_mc_X10_hiddenFrom : lw_tbl[880]? = some (.code yX10_hiddenFrom cX10_hiddenFrom 6 (some .long)) := rfl
theorem mm_mk_X10_behind : mm_mk mX10_behind (883, 60, 882, 0) = true := by decide +kernel
set_option maxRecDepth 100000 in
theorem mm_mc_X10_behind : lw_tbl[883]? = some (.code yX10_behind cX10_behind 10 (some .long)) := rfl
theorem mm_mk_X10_greatestDivisor : mm_mk mX10_greatestDivisor (999, 60, 998, 0) = true := by decide +kernel
set_option maxRecDepth 100000 in
theorem mm_mc_X10_greatestDivisor : lw_tbl[999]? = some (.code yX10_greatestDivisor cX10_greatestDivisor 6 (some .int)) := rfl
theorem mm_mk_X11_init : mm_mk mX11_init (1048, 71, 1047, 0) = true := by decide +kernel
set_option maxRecDepth 100000 in
theorem mm_mc_X11_init : lw_tbl[1048]? = some (.code yX11_init cX11_init 1 none) := rfl
theorem mm_mk_X11_in : mm_mk mX11_in (1215, 71, 1214, 0) = true := by decide +kernel
set_option maxRecDepth 100000 in
theorem mm_mc_X11_in : lw_tbl[1215]? = some (.code yX11_in cX11_in 3 (some .boolean)) := rfl
theorem mm_mk_X11_isSweep : mm_mk mX11_isSweep (1212, 71, 1211, 25) = true := by decide +kernel
set_option maxRecDepth 100000 in
theorem mm_mc_X11_isSweep : lw_tbl[1212]? = some (.code yX11_isSweep cX11_isSweep 2 (some .boolean)) := rfl
theorem mm_mk_X11_isCell : mm_mk mX11_isCell (1222, 71, 1221, 0) = true := by decide +kernel
set_option maxRecDepth 100000 in
theorem mm_mc_X11_isCell : lw_tbl[1222]? = some (.code yX11_isCell cX11_isCell 1 (some .boolean)) := rfl
theorem mm_mk_X11_common : mm_mk mX11_common (1238, 71, 1237, 0) = true := by decide +kernel
set_option maxRecDepth 100000 in
theorem mm_mc_X11_common : lw_tbl[1238]? = some (.code yX11_common cX11_common 5 (some .int)) := rfl
theorem mm_mk_X11_has : mm_mk mX11_has (1341, 71, 1340, 0) = true := by decide +kernel
set_option maxRecDepth 100000 in
theorem mm_mc_X11_has : lw_tbl[1341]? = some (.code yX11_has cX11_has 3 (some .boolean)) := rfl
theorem mm_mk_X11_sweep : mm_mk mX11_sweep (1204, 71, 1202, 1203) = true := by decide +kernel
set_option maxRecDepth 100000 in
theorem mm_mc_X11_sweep : lw_tbl[1204]? = some (.code yX11_sweep cX11_sweep 1 (some .int)) := rfl
theorem mm_mk_X11_hit : mm_mk mX11_hit (1208, 71, 1206, 1207) = true := by decide +kernel
set_option maxRecDepth 100000 in
theorem mm_mc_X11_hit : lw_tbl[1208]? = some (.code yX11_hit cX11_hit 6 (some .int)) := rfl
theorem mm_mk_X11_turnX : mm_mk mX11_turnX (1232, 71, 1231, 0) = true := by decide +kernel
set_option maxRecDepth 100000 in
theorem mm_mc_X11_turnX : lw_tbl[1232]? = some (.code yX11_turnX cX11_turnX 3 (some .int)) := rfl
theorem mm_mk_X11_turnY : mm_mk mX11_turnY (1235, 71, 1234, 0) = true := by decide +kernel
set_option maxRecDepth 100000 in
theorem mm_mc_X11_turnY : lw_tbl[1235]? = some (.code yX11_turnY cX11_turnY 3 (some .int)) := rfl
theorem mm_mk_X11_placed : mm_mk mX11_placed (1229, 71, 1228, 0) = true := by decide +kernel
set_option maxRecDepth 100000 in
theorem mm_mc_X11_placed : lw_tbl[1229]? = some (.code yX11_placed cX11_placed 6 (some .int)) := rfl
theorem mm_mk_X11_lay : mm_mk mX11_lay (1226, 71, 1225, 26) = true := by decide +kernel
set_option maxRecDepth 100000 in
theorem mm_mc_X11_lay : lw_tbl[1226]? = some (.code yX11_lay cX11_lay 11 (some .boolean)) := rfl
theorem mm_mk_X11_layAll : mm_mk mX11_layAll (1258, 71, 1257, 28) = true := by decide +kernel
set_option maxRecDepth 100000 in
theorem mm_mc_X11_layAll : lw_tbl[1258]? = some (.code yX11_layAll cX11_layAll 2 none) := rfl
theorem mm_mk_X11_standing : mm_mk mX11_standing (1242, 71, 1241, 27) = true := by decide +kernel
set_option maxRecDepth 100000 in
theorem mm_mc_X11_standing : lw_tbl[1242]? = some (.code yX11_standing cX11_standing 3 (some .int)) := rfl
theorem mm_mk_X11_stand : mm_mk mX11_stand (1219, 71, 1217, 1218) = true := by decide +kernel
set_option maxRecDepth 100000 in
theorem mm_mc_X11_stand : lw_tbl[1219]? = some (.code yX11_stand cX11_stand 4 (some .int)) := rfl
theorem mm_mk_X11_part : mm_mk mX11_part (1246, 71, 1244, 1245) = true := by decide +kernel
set_option maxRecDepth 100000 in
theorem mm_mc_X11_part : lw_tbl[1246]? = some (.code yX11_part cX11_part 3 (some .int)) := rfl
theorem mm_mk_X11_set : mm_mk mX11_set (1250, 71, 1248, 1249) = true := by decide +kernel
set_option maxRecDepth 100000 in
theorem mm_mc_X11_set : lw_tbl[1250]? = some (.code yX11_set cX11_set 4 (some .int)) := rfl
theorem mm_mk_X11_catches : mm_mk mX11_catches (1262, 71, 1261, 29) = true := by decide +kernel
set_option maxRecDepth 100000 in
theorem mm_mc_X11_catches : lw_tbl[1262]? = some (.code yX11_catches cX11_catches 6 (some .int)) := rfl
theorem mm_mk_X11_quarrels : mm_mk mX11_quarrels (1270, 71, 1269, 31) = true := by decide +kernel
set_option maxRecDepth 100000 in
theorem mm_mc_X11_quarrels : lw_tbl[1270]? = some (.code yX11_quarrels cX11_quarrels 7 (some .int)) := rfl
theorem mm_mk_X11_quarrelsOf : mm_mk mX11_quarrelsOf (1266, 71, 1265, 30) = true := by decide +kernel
set_option maxRecDepth 100000 in
theorem mm_mc_X11_quarrelsOf : lw_tbl[1266]? = some (.code yX11_quarrelsOf cX11_quarrelsOf 4 (some .int)) := rfl
theorem mm_mk_X11_way : mm_mk mX11_way (1254, 71, 1252, 1253) = true := by decide +kernel
set_option maxRecDepth 100000 in
theorem mm_mc_X11_way : lw_tbl[1254]? = some (.code yX11_way cX11_way 5 (some .int)) := rfl
theorem mm_mk_X11_fits : mm_mk mX11_fits (1274, 71, 1272, 1273) = true := by decide +kernel
set_option maxRecDepth 100000 in
theorem mm_mc_X11_fits : lw_tbl[1274]? = some (.code yX11_fits cX11_fits 5 (some .int)) := rfl
theorem mm_mk_X11_bars : mm_mk mX11_bars (1278, 71, 1276, 1277) = true := by decide +kernel
set_option maxRecDepth 100000 in
theorem mm_mc_X11_bars : lw_tbl[1278]? = some (.code yX11_bars cX11_bars 7 (some .int)) := rfl
theorem mm_mk_X11_look : mm_mk mX11_look (1286, 71, 1285, 32) = true := by decide +kernel
set_option maxRecDepth 100000 in
theorem mm_mc_X11_look : lw_tbl[1286]? = some (.code yX11_look cX11_look 5 none) := rfl
theorem mm_mk_X11_cell : mm_mk mX11_cell (1282, 71, 1280, 1281) = true := by decide +kernel
set_option maxRecDepth 100000 in
theorem mm_mc_X11_cell : lw_tbl[1282]? = some (.code yX11_cell cX11_cell 2 (some .int)) := rfl
theorem mm_mk_X11_cellsOf : mm_mk mX11_cellsOf (1294, 71, 1293, 33) = true := by decide +kernel
set_option maxRecDepth 100000 in
theorem mm_mc_X11_cellsOf : lw_tbl[1294]? = some (.code yX11_cellsOf cX11_cellsOf 5 (some .long)) := rfl
theorem mm_mk_X11_cells : mm_mk mX11_cells (1290, 71, 1288, 1289) = true := by decide +kernel
set_option maxRecDepth 100000 in
theorem mm_mc_X11_cells : lw_tbl[1290]? = some (.code yX11_cells cX11_cells 2 (some .long)) := rfl
theorem mm_mk_X11_lead : mm_mk mX11_lead (1298, 71, 1296, 1297) = true := by decide +kernel
set_option maxRecDepth 100000 in
theorem mm_mc_X11_lead : lw_tbl[1298]? = some (.code yX11_lead cX11_lead 6 (some .int)) := rfl
theorem mm_mk_X11_findWalls : mm_mk mX11_findWalls (1310, 71, 1309, 35) = true := by decide +kernel
set_option maxRecDepth 100000 in
theorem mm_mc_X11_findWalls : lw_tbl[1310]? = some (.code yX11_findWalls cX11_findWalls 9 (some .long)) := rfl
theorem mm_mk_X11_findAllWalls : mm_mk mX11_findAllWalls (1306, 71, 1305, 34) = true := by decide +kernel
set_option maxRecDepth 100000 in
theorem mm_mc_X11_findAllWalls : lw_tbl[1306]? = some (.code yX11_findAllWalls cX11_findAllWalls 1 none) := rfl
theorem mm_mk_X11_wall : mm_mk mX11_wall (1302, 71, 1300, 1301) = true := by decide +kernel
set_option maxRecDepth 100000 in
theorem mm_mc_X11_wall : lw_tbl[1302]? = some (.code yX11_wall cX11_wall 2 (some .int)) := rfl
theorem mm_mk_X11_corners : mm_mk mX11_corners (1314, 71, 1312, 1313) = true := by decide +kernel
set_option maxRecDepth 100000 in
theorem mm_mc_X11_corners : lw_tbl[1314]? = some (.code yX11_corners cX11_corners 1 (some .long)) := rfl
theorem mm_mk_X11_beside : mm_mk mX11_beside (1330, 71, 1329, 38) = true := by decide +kernel
set_option maxRecDepth 100000 in
theorem mm_mc_X11_beside : lw_tbl[1330]? = some (.code yX11_beside cX11_beside 5 (some .int)) := rfl
theorem mm_mk_X11_isHitBeside : mm_mk mX11_isHitBeside (1326, 71, 1325, 37) = true := by decide +kernel
set_option maxRecDepth 100000 in
theorem mm_mc_X11_isHitBeside : lw_tbl[1326]? = some (.code yX11_isHitBeside cX11_isHitBeside 4 (some .boolean)) := rfl
theorem mm_mk_X11_findDoors : mm_mk mX11_findDoors (1322, 71, 1321, 36) = true := by decide +kernel
set_option maxRecDepth 100000 in
theorem mm_mc_X11_findDoors : lw_tbl[1322]? = some (.code yX11_findDoors cX11_findDoors 7 none) := rfl
theorem mm_mk_X11_doors : mm_mk mX11_doors (1318, 71, 1316, 1317) = true := by decide +kernel
set_option maxRecDepth 100000 in
theorem mm_mc_X11_doors : lw_tbl[1318]? = some (.code yX11_doors cX11_doors 1 (some .long)) := rfl
theorem mm_mk_X11_partOf : mm_mk mX11_partOf (1345, 71, 1344, 40) = true := by decide +kernel
set_option maxRecDepth 100000 in
theorem mm_mc_X11_partOf : lw_tbl[1345]? = some (.code yX11_partOf cX11_partOf 8 (some .long)) := rfl
theorem mm_mk_X11_isClosed : mm_mk mX11_isClosed (1349, 71, 1348, 41) = true := by decide +kernel
set_option maxRecDepth 100000 in
theorem mm_mc_X11_isClosed : lw_tbl[1349]? = some (.code yX11_isClosed cX11_isClosed 7 (some .boolean)) := rfl
theorem mm_mk_X11_findRooms : mm_mk mX11_findRooms (1338, 71, 1337, 39) = true := by decide +kernel
set_option maxRecDepth 100000 in
theorem mm_mc_X11_findRooms : lw_tbl[1338]? = some (.code yX11_findRooms cX11_findRooms 6 none) := rfl
theorem mm_mk_X11_roomOf : mm_mk mX11_roomOf (1353, 71, 1352, 42) = true := by decide +kernel
set_option maxRecDepth 100000 in
theorem mm_mc_X11_roomOf : lw_tbl[1353]? = some (.code yX11_roomOf cX11_roomOf 4 (some .int)) := rfl
theorem mm_mk_X11_room : mm_mk mX11_room (1334, 71, 1332, 1333) = true := by decide +kernel
set_option maxRecDepth 100000 in
theorem mm_mc_X11_room : lw_tbl[1334]? = some (.code yX11_room cX11_room 2 (some .int)) := rfl
theorem mm_mk_X11_rooms : mm_mk mX11_rooms (1357, 71, 1355, 1356) = true := by decide +kernel
set_option maxRecDepth 100000 in
theorem mm_mc_X11_rooms : lw_tbl[1357]? = some (.code yX11_rooms cX11_rooms 2 (some .long)) := rfl
theorem mm_mk_X11_away : mm_mk mX11_away (1361, 71, 1359, 1360) = true := by decide +kernel
set_option maxRecDepth 100000 in
theorem mm_mc_X11_away : lw_tbl[1361]? = some (.code yX11_away cX11_away 9 (some .int)) := rfl
theorem mm_mk_X11_write : mm_mk mX11_write (1365, 71, 1363, 1364) = true := by decide +kernel
set_option maxRecDepth 100000 in
theorem mm_mc_X11_write : lw_tbl[1365]? = some (.code yX11_write cX11_write 5 (some .int)) := rfl
theorem mm_mk_X11_erase : mm_mk mX11_erase (1370, 71, 1368, 1369) = true := by decide +kernel
set_option maxRecDepth 100000 in
theorem mm_mc_X11_erase : lw_tbl[1370]? = some (.code yX11_erase cX11_erase 2 (some .int)) := rfl
theorem mm_mk_X11_nextToken : mm_mk mX11_nextToken (1386, 71, 1385, 45) = true := by decide +kernel
set_option maxRecDepth 100000 in
theorem mm_mc_X11_nextToken : lw_tbl[1386]? = some (.code yX11_nextToken cX11_nextToken 1 none) := rfl
theorem mm_mk_X11_fails : mm_mk mX11_fails (1399, 71, 1398, 46) = true := by decide +kernel
set_option maxRecDepth 100000 in
theorem mm_mc_X11_fails : lw_tbl[1399]? = some (.code yX11_fails cX11_fails 1 (some .boolean)) := rfl
theorem mm_mk_X11_isNumber : mm_mk mX11_isNumber (1403, 71, 1402, 47) = true := by decide +kernel
set_option maxRecDepth 100000 in
theorem mm_mc_X11_isNumber : lw_tbl[1403]? = some (.code yX11_isNumber cX11_isNumber 4 (some .boolean)) := rfl
theorem mm_mk_X11_isLine : mm_mk mX11_isLine (1382, 71, 1381, 44) = true := by decide +kernel
set_option maxRecDepth 100000 in
theorem mm_mc_X11_isLine : lw_tbl[1382]? = some (.code yX11_isLine cX11_isLine 3 (some .boolean)) := rfl
theorem mm_mk_X11_isRead : mm_mk mX11_isRead (1378, 71, 1377, 43) = true := by decide +kernel
set_option maxRecDepth 100000 in
theorem mm_mc_X11_isRead : lw_tbl[1378]? = some (.code yX11_isRead cX11_isRead 2 (some .boolean)) := rfl
theorem mm_mk_X11_fault : mm_mk mX11_fault (1374, 71, 1372, 1373) = true := by decide +kernel
set_option maxRecDepth 100000 in
theorem mm_mc_X11_fault : lw_tbl[1374]? = some (.code yX11_fault cX11_fault 1 (some .int)) := rfl
theorem mm_mk_X11_thing : mm_mk mX11_thing (1407, 71, 1405, 1406) = true := by decide +kernel
set_option maxRecDepth 100000 in
theorem mm_mc_X11_thing : lw_tbl[1407]? = some (.code yX11_thing cX11_thing 2 (some .int)) := rfl
theorem mm_mk_X11_isMarked : mm_mk mX11_isMarked (1419, 71, 1418, 49) = true := by decide +kernel
set_option maxRecDepth 100000 in
theorem mm_mc_X11_isMarked : lw_tbl[1419]? = some (.code yX11_isMarked cX11_isMarked 5 (some .boolean)) := rfl
theorem mm_mk_X11_costOf : mm_mk mX11_costOf (1415, 71, 1414, 48) = true := by decide +kernel
set_option maxRecDepth 100000 in
theorem mm_mc_X11_costOf : lw_tbl[1415]? = some (.code yX11_costOf cX11_costOf 7 (some .int)) := rfl
theorem mm_mk_X11_fit : mm_mk mX11_fit (1411, 71, 1409, 1410) = true := by decide +kernel
set_option maxRecDepth 100000 in
theorem mm_mc_X11_fit : lw_tbl[1411]? = some (.code yX11_fit cX11_fit 5 (some .int)) := rfl
theorem mm_mk_X11_isCatch : mm_mk mX11_isCatch (1426, 71, 1425, 0) = true := by decide +kernel
set_option maxRecDepth 100000 in
theorem mm_mc_X11_isCatch : lw_tbl[1426]? = some (.code yX11_isCatch cX11_isCatch 1 (some .boolean)) := rfl
theorem mm_mk_X11_keep : mm_mk mX11_keep (1423, 71, 1421, 1422) = true := by decide +kernel
set_option maxRecDepth 100000 in
theorem mm_mc_X11_keep : lw_tbl[1423]? = some (.code yX11_keep cX11_keep 4 (some .int)) := rfl
theorem mm_mk_X11_isSince : mm_mk mX11_isSince (1434, 71, 1433, 50) = true := by decide +kernel
set_option maxRecDepth 100000 in
theorem mm_mc_X11_isSince : lw_tbl[1434]? = some (.code yX11_isSince cX11_isSince 7 (some .boolean)) := rfl
theorem mm_mk_X11_since : mm_mk mX11_since (1430, 71, 1428, 1429) = true := by decide +kernel
set_option maxRecDepth 100000 in
theorem mm_mc_X11_since : lw_tbl[1430]? = some (.code yX11_since cX11_since 8 (some .long)) := rfl
theorem mm_mk_X11_apart : mm_mk mX11_apart (1447, 71, 1446, 52) = true := by decide +kernel
set_option maxRecDepth 100000 in
theorem mm_mc_X11_apart : lw_tbl[1447]? = some (.code yX11_apart cX11_apart 5 (some .int)) := rfl
theorem mm_mk_X11_gather : mm_mk mX11_gather (1442, 71, 1441, 51) = true := by decide +kernel
set_option maxRecDepth 100000 in
theorem mm_mc_X11_gather : lw_tbl[1442]? = some (.code yX11_gather cX11_gather 7 (some .int)) := rfl
theorem mm_mk_X11_moved : mm_mk mX11_moved (1438, 71, 1436, 1437) = true := by decide +kernel
set_option maxRecDepth 100000 in
theorem mm_mc_X11_moved : lw_tbl[1438]? = some (.code yX11_moved cX11_moved 16 (some .int)) := rfl
theorem mm_mk_X11_isSeen : mm_mk mX11_isSeen (1455, 71, 1454, 53) = true := by decide +kernel
set_option maxRecDepth 100000 in
theorem mm_mc_X11_isSeen : lw_tbl[1455]? = some (.code yX11_isSeen cX11_isSeen 8 (some .boolean)) := rfl
theorem mm_mk_X11_see : mm_mk mX11_see (1451, 71, 1449, 1450) = true := by decide +kernel
set_option maxRecDepth 100000 in
theorem mm_mc_X11_see : lw_tbl[1451]? = some (.code yX11_see cX11_see 3 (some .int)) := rfl
theorem mm_mk_X11_next : mm_mk mX11_next (1459, 71, 1457, 1458) = true := by decide +kernel
set_option maxRecDepth 100000 in
theorem mm_mc_X11_next : lw_tbl[1459]? = some (.code yX11_next cX11_next 10 (some .int)) := rfl
theorem mm_mk_X11_isSpot : mm_mk mX11_isSpot (1466, 71, 1465, 0) = true := by decide +kernel
set_option maxRecDepth 100000 in
theorem mm_mc_X11_isSpot : lw_tbl[1466]? = some (.code yX11_isSpot cX11_isSpot 1 (some .boolean)) := rfl
theorem mm_mk_X11_join : mm_mk mX11_join (1463, 71, 1461, 1462) = true := by decide +kernel
set_option maxRecDepth 100000 in
theorem mm_mc_X11_join : lw_tbl[1463]? = some (.code yX11_join cX11_join 5 (some .int)) := rfl
theorem mm_mk_X11_doAgree : mm_mk mX11_doAgree (1474, 71, 1473, 54) = true := by decide +kernel
set_option maxRecDepth 100000 in
theorem mm_mc_X11_doAgree : lw_tbl[1474]? = some (.code yX11_doAgree cX11_doAgree 9 (some .boolean)) := rfl
theorem mm_mk_X11_agrees : mm_mk mX11_agrees (1470, 71, 1468, 1469) = true := by decide +kernel
set_option maxRecDepth 100000 in
theorem mm_mc_X11_agrees : lw_tbl[1470]? = some (.code yX11_agrees cX11_agrees 2 (some .int)) := rfl
theorem mm_mk_X11_kept : mm_mk mX11_kept (1478, 71, 1476, 1477) = true := by decide +kernel
set_option maxRecDepth 100000 in
theorem mm_mc_X11_kept : lw_tbl[1478]? = some (.code yX11_kept cX11_kept 6 (some .int)) := rfl
theorem mm_mk_X11_beginOf : mm_mk mX11_beginOf (1498, 71, 1497, 56) = true := by decide +kernel
set_option maxRecDepth 100000 in
theorem mm_mc_X11_beginOf : lw_tbl[1498]? = some (.code yX11_beginOf cX11_beginOf 2 (some .int)) := rfl
theorem mm_mk_X11_endOf : mm_mk mX11_endOf (1486, 71, 1485, 55) = true := by decide +kernel
set_option maxRecDepth 100000 in
theorem mm_mc_X11_endOf : lw_tbl[1486]? = some (.code yX11_endOf cX11_endOf 2 (some .int)) := rfl
theorem mm_mk_X11_loop : mm_mk mX11_loop (1482, 71, 1480, 1481) = true := by decide +kernel
set_option maxRecDepth 100000 in
theorem mm_mc_X11_loop : lw_tbl[1482]? = some (.code yX11_loop cX11_loop 4 (some .int)) := rfl
theorem mm_mk_X11_unloop : mm_mk mX11_unloop (1490, 71, 1488, 1489) = true := by decide +kernel
set_option maxRecDepth 100000 in
theorem mm_mc_X11_unloop : lw_tbl[1490]? = some (.code yX11_unloop cX11_unloop 2 (some .int)) := rfl
theorem mm_mk_X11_toldBy : mm_mk mX11_toldBy (1503, 71, 1502, 57) = true := by decide +kernel
set_option maxRecDepth 100000 in
theorem mm_mc_X11_toldBy : lw_tbl[1503]? = some (.code yX11_toldBy cX11_toldBy 2 (some .int)) := rfl
theorem mm_mk_X11_spread : mm_mk mX11_spread (1494, 71, 1492, 1493) = true := by decide +kernel
set_option maxRecDepth 100000 in
theorem mm_mc_X11_spread : lw_tbl[1494]? = some (.code yX11_spread cX11_spread 7 (some .int)) := rfl
theorem mm_mk_X11_length : mm_mk mX11_length (1507, 71, 1505, 1506) = true := by decide +kernel
set_option maxRecDepth 100000 in
theorem mm_mc_X11_length : lw_tbl[1507]? = some (.code yX11_length cX11_length 4 (some .int)) := rfl
theorem mm_mk_X11_heldBy : mm_mk mX11_heldBy (1515, 71, 1514, 58) = true := by decide +kernel
set_option maxRecDepth 100000 in
theorem mm_mc_X11_heldBy : lw_tbl[1515]? = some (.code yX11_heldBy cX11_heldBy 4 (some .int)) := rfl
theorem mm_mk_X11_held : mm_mk mX11_held (1511, 71, 1509, 1510) = true := by decide +kernel
set_option maxRecDepth 100000 in
theorem mm_mc_X11_held : lw_tbl[1511]? = some (.code yX11_held cX11_held 2 (some .int)) := rfl
theorem mm_mk_X11_span : mm_mk mX11_span (1519, 71, 1517, 1518) = true := by decide +kernel
set_option maxRecDepth 100000 in
theorem mm_mc_X11_span : lw_tbl[1519]? = some (.code yX11_span cX11_span 4 (some .int)) := rfl
theorem mm_mk_X11_count : mm_mk mX11_count (1523, 71, 1521, 1522) = true := by decide +kernel
set_option maxRecDepth 100000 in
theorem mm_mc_X11_count : lw_tbl[1523]? = some (.code yX11_count cX11_count 4 (some .int)) := rfl
theorem mm_mk_J6_bitCount_0f7a4 : mm_mk mJ6_bitCount_0f7a4 (865, 78, 864, 0) = true := by decide +kernel
set_option maxRecDepth 100000 in
theorem mm_mc_J6_bitCount_0f7a4 : lw_tbl[865]? = some (.code yJ6_bitCount_0f7a4 cJ6_bitCount_0f7a4 1 (some .int)) := rfl
theorem mm_mk_J13_bitCount_95d88 : mm_mk mJ13_bitCount_95d88 (545, 73, 544, 0) = true := by decide +kernel
set_option maxRecDepth 100000 in
theorem mm_mc_J13_bitCount_95d88 : lw_tbl[545]? = some (.code yJ13_bitCount_95d88 cJ13_bitCount_95d88 2 (some .int)) := rfl
theorem mm_mk_J9_abs_0f7a4 : mm_mk mJ9_abs_0f7a4 (471, 72, 470, 0) = true := by decide +kernel
set_option maxRecDepth 100000 in
theorem mm_mc_J9_abs_0f7a4 : lw_tbl[471]? = some (.code yJ9_abs_0f7a4 cJ9_abs_0f7a4 1 (some .int)) := rfl
theorem mm_mk_J9_max_7cf53 : mm_mk mJ9_max_7cf53 (458, 72, 457, 0) = true := by decide +kernel
set_option maxRecDepth 100000 in
theorem mm_mc_J9_max_7cf53 : lw_tbl[458]? = some (.code yJ9_max_7cf53 cJ9_max_7cf53 2 (some .int)) := rfl
theorem mm_mk_J9_min_7cf53 : mm_mk mJ9_min_7cf53 (455, 72, 454, 0) = true := by decide +kernel
set_option maxRecDepth 100000 in
theorem mm_mc_J9_min_7cf53 : lw_tbl[455]? = some (.code yJ9_min_7cf53 cJ9_min_7cf53 2 (some .int)) := rfl
