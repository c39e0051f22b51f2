def wsL_drawn : List Cond := .code yL_drawn cL_drawn 3 (some .int) :: ([.constant RL 7 (1073741823)])
def wsL_does_r1 : List Cond := [Cond.classLink RL 42 "java/lang/IndexOutOfBoundsException", Cond.classLink RL 44 "java/lang/IllegalArgumentException", Cond.classLink RL 46 "java/lang/IllegalStateException", Cond.methodLink RL 8 yX4_comes, Cond.instanceMethod yX4_comes, Cond.selects RX4 yX4_comes yX4_comes, Cond.initialized RX4, Cond.code yX4_comes cX4_comes 3 (some .int), Cond.classLink RX4 36 "java/lang/IllegalStateException", Cond.initialized "java/lang/IllegalStateException", Cond.fieldLink RX4 51 "TesseraeRow$Lot" "isThere" "Z", Cond.fieldLink RX4 57 "TesseraeRow$Lot" "left" "I", Cond.methodLink RX4 47 yX4_needLot, Cond.instanceMethod yX4_needLot, Cond.selects RX4 yX4_needLot yX4_needLot, Cond.code yX4_needLot cX4_needLot 3 (some (.object "TesseraeRow$Lot")), Cond.classLink RX4 184 "java/lang/IndexOutOfBoundsException", Cond.initialized "java/lang/IndexOutOfBoundsException", Cond.fieldLink RX4 11 "TesseraeRow" "lots" "[LTesseraeRow$Lot;", Cond.methodLink RL 14 yX4_fill, Cond.instanceMethod yX4_fill, Cond.selects RX4 yX4_fill yX4_fill, Cond.code yX4_fill cX4_fill 2 (some .int), Cond.methodLink RX4 88 yX4_needPicture]
def wsL_does_r2 : List Cond := [Cond.instanceMethod yX4_needPicture, Cond.selects RX4 yX4_needPicture yX4_needPicture, Cond.code yX4_needPicture cX4_needPicture 3 (some (.object "TesseraeRow$Picture")), Cond.fieldLink RX4 17 "TesseraeRow" "pictures" "[LTesseraeRow$Picture;", Cond.methodLink RX4 96 yX3_fillGaps, Cond.instanceMethod yX3_fillGaps, Cond.selects RX3 yX3_fillGaps yX3_fillGaps, Cond.initialized RX3, Cond.code yX3_fillGaps cX3_fillGaps 5 (some .int), Cond.fieldLink RX3 23 "TesseraeRow$Picture" "cells" "[LTesseraeRow$Cell;", Cond.fieldLink RX3 107 "TesseraeRow$Cell" "round" "I", Cond.methodLink RX3 104 yX0_isDone, Cond.instanceMethod yX0_isDone, Cond.selects RX0 yX0_isDone yX0_isDone, Cond.initialized RX0, Cond.code yX0_isDone cX0_isDone 1 (some .boolean), Cond.fieldLink RX0 9 "TesseraeRow$Cell" "kind" "I", Cond.methodLink RX3 110 yX3_fillRound, Cond.instanceMethod yX3_fillRound, Cond.selects RX3 yX3_fillRound yX3_fillRound, Cond.code yX3_fillRound cX3_fillRound 7 (some .int), Cond.methodLink RX3 114 yX3_fillCell, Cond.instanceMethod yX3_fillCell, Cond.selects RX3 yX3_fillCell yX3_fillCell]
def wsL_does_r3 : List Cond := [Cond.code yX3_fillCell cX3_fillCell 8 (some .boolean), Cond.fieldLink RX3 81 "TesseraeRow$Cell" "y" "I", Cond.fieldLink RX3 78 "TesseraeRow$Cell" "x" "I", Cond.fieldLink RX3 39 "TesseraeRow$Cell" "wanted" "I", Cond.methodLink RX3 92 yX3_cellAt, Cond.instanceMethod yX3_cellAt, Cond.selects RX3 yX3_cellAt yX3_cellAt, Cond.code yX3_cellAt cX3_cellAt 3 (some (.object "TesseraeRow$Cell")), Cond.fieldLink RX3 15 "TesseraeRow$Picture" "width" "I", Cond.fieldLink RX3 18 "TesseraeRow$Picture" "height" "I", Cond.methodLink RL 17 yX4_design, Cond.instanceMethod yX4_design, Cond.selects RX4 yX4_design yX4_design, Cond.code yX4_design cX4_design 3 (some .int), Cond.methodLink RX4 100 yX3_designFrom, Cond.instanceMethod yX3_designFrom, Cond.selects RX3 yX3_designFrom yX3_designFrom, Cond.code yX3_designFrom cX3_designFrom 6 none, Cond.fieldLink RX3 42 "TesseraeRow$Cell" "brought" "F", Cond.fieldLink RX3 46 "TesseraeRow$Cell" "aim" "F", Cond.fieldLink RX3 30 "TesseraeRow$Cell" "kind" "I", Cond.methodLink RX3 33 yX0_takeBack, Cond.instanceMethod yX0_takeBack, Cond.selects RX0 yX0_takeBack yX0_takeBack]
def wsL_does_r4 : List Cond := [Cond.code yX0_takeBack cX0_takeBack 1 none, Cond.fieldLink RX0 24 "TesseraeRow$Cell" "lot" "LTesseraeRow$Lot;", Cond.fieldLink RX0 33 "TesseraeRow$Lot" "promised" "I", Cond.fieldLink RX0 28 "TesseraeRow$Lot" "left" "I", Cond.methodLink RX3 36 yX3_forgetBrought, Cond.instanceMethod yX3_forgetBrought, Cond.selects RX3 yX3_forgetBrought yX3_forgetBrought, Cond.code yX3_forgetBrought cX3_forgetBrought 5 none, Cond.methodLink RX3 49 yX3_promiseNearest, Cond.static yX3_promiseNearest, Cond.code yX3_promiseNearest cX3_promiseNearest 9 none, Cond.fieldLink RX3 67 "TesseraeRow$Lot" "tone" "F", Cond.methodLink RX3 61 yX2_canPromise, Cond.instanceMethod yX2_canPromise, Cond.selects RX2 yX2_canPromise yX2_canPromise, Cond.initialized RX2, Cond.code yX2_canPromise cX2_canPromise 1 (some .boolean), Cond.fieldLink RX2 23 "TesseraeRow$Lot" "isThere" "Z", Cond.fieldLink RX2 17 "TesseraeRow$Lot" "left" "I", Cond.methodLink RX3 70 yX3_distance, Cond.static yX3_distance, Cond.code yX3_distance cX3_distance 3 (some .float), Cond.methodLink RX3 74 yX0_promise, Cond.instanceMethod yX0_promise]
def wsL_does_r5 : List Cond := [Cond.selects RX0 yX0_promise yX0_promise, Cond.code yX0_promise cX0_promise 2 none, Cond.methodLink RX3 53 yX0_lackBehind, Cond.instanceMethod yX0_lackBehind, Cond.selects RX0 yX0_lackBehind yX0_lackBehind, Cond.code yX0_lackBehind cX0_lackBehind 2 (some .float), Cond.fieldLink RX0 45 "TesseraeRow$Lot" "tone" "F", Cond.methodLink RX3 57 yX3_passOn, Cond.instanceMethod yX3_passOn, Cond.selects RX3 yX3_passOn yX3_passOn, Cond.code yX3_passOn cX3_passOn 3 none, Cond.constantFloat RX3 84 (1054867456), Cond.constantFloat RX3 89 (1044381696), Cond.constantFloat RX3 90 (1050673152), Cond.constantFloat RX3 91 (1031798784), Cond.methodLink RX3 85 yX3_bringTo, Cond.instanceMethod yX3_bringTo, Cond.selects RX3 yX3_bringTo yX3_bringTo, Cond.code yX3_bringTo cX3_bringTo 5 none, Cond.methodLink RX3 96 yX0_bring, Cond.instanceMethod yX0_bring, Cond.selects RX0 yX0_bring yX0_bring, Cond.code yX0_bring cX0_bring 2 none, Cond.fieldLink RX0 49 "TesseraeRow$Cell" "brought" "F"]
def wsL_does_r6 : List Cond := [Cond.methodLink RX4 92 yX3_count, Cond.instanceMethod yX3_count, Cond.selects RX3 yX3_count yX3_count, Cond.code yX3_count cX3_count 7 (some .int), Cond.methodLink RL 20 yX4_send, Cond.instanceMethod yX4_send, Cond.selects RX4 yX4_send yX4_send, Cond.code yX4_send cX4_send 6 (some .int), Cond.fieldLink RX4 120 "TesseraeRow$Crew" "at" "LTesseraeRow$Picture;", Cond.methodLink RX4 113 yX4_needCrew, Cond.instanceMethod yX4_needCrew, Cond.selects RX4 yX4_needCrew yX4_needCrew, Cond.code yX4_needCrew cX4_needCrew 3 (some (.object "TesseraeRow$Crew")), Cond.fieldLink RX4 23 "TesseraeRow" "crews" "[LTesseraeRow$Crew;", Cond.methodLink RX4 117 yX1_pictureNumber, Cond.instanceMethod yX1_pictureNumber, Cond.selects RX1 yX1_pictureNumber yX1_pictureNumber, Cond.initialized RX1, Cond.code yX1_pictureNumber cX1_pictureNumber 1 (some .int), Cond.fieldLink RX1 27 "TesseraeRow$Crew" "at" "LTesseraeRow$Picture;", Cond.fieldLink RX1 31 "TesseraeRow$Picture" "number" "I", Cond.methodLink RL 24 yX4_tray, Cond.instanceMethod yX4_tray, Cond.selects RX4 yX4_tray yX4_tray]
def wsL_does_r7 : List Cond := [Cond.code yX4_tray cX4_tray 5 (some .int), Cond.fieldLink RX4 130 "TesseraeRow$Crew" "onTray" "I", Cond.fieldLink RX4 133 "TesseraeRow$Crew" "material" "I", Cond.methodLink RX4 28 yX4_needRange, Cond.static yX4_needRange, Cond.code yX4_needRange cX4_needRange 3 none, Cond.classLink RX4 104 "java/lang/IllegalArgumentException", Cond.initialized "java/lang/IllegalArgumentException", Cond.methodLink RL 27 yX4_pass, Cond.instanceMethod yX4_pass, Cond.selects RX4 yX4_pass yX4_pass, Cond.code yX4_pass cX4_pass 5 (some .int), Cond.fieldLink RX4 140 "TesseraeRow" "now" "I", Cond.methodLink RX4 143 yX1_layFor, Cond.instanceMethod yX1_layFor, Cond.selects RX1 yX1_layFor yX1_layFor, Cond.code yX1_layFor cX1_layFor 3 (some .int), Cond.fieldLink RX1 9 "TesseraeRow$Crew" "rate" "I", Cond.fieldLink RX1 48 "TesseraeRow$Crew" "laid" "I", Cond.methodLink RX1 44 yX1_layNext, Cond.instanceMethod yX1_layNext, Cond.selects RX1 yX1_layNext yX1_layNext, Cond.code yX1_layNext cX1_layNext 3 (some .boolean), Cond.fieldLink RX1 55 "TesseraeRow$Cell" "kind" "I"]
def wsL_does_r8 : List Cond := [Cond.fieldLink RX1 60 "TesseraeRow$Cell" "lot" "LTesseraeRow$Lot;", Cond.fieldLink RX1 64 "TesseraeRow$Cell" "y" "I", Cond.fieldLink RX1 15 "TesseraeRow$Crew" "dry" "I", Cond.methodLink RX1 51 yX3_firstUndone, Cond.instanceMethod yX3_firstUndone, Cond.selects RX3 yX3_firstUndone yX3_firstUndone, Cond.code yX3_firstUndone cX3_firstUndone 5 (some (.object "TesseraeRow$Cell")), Cond.methodLink RX1 39 yX1_hasOnTray, Cond.instanceMethod yX1_hasOnTray, Cond.selects RX1 yX1_hasOnTray yX1_hasOnTray, Cond.code yX1_hasOnTray cX1_hasOnTray 3 (some .boolean), Cond.fieldLink RX1 36 "TesseraeRow$Crew" "onTray" "I", Cond.fieldLink RX1 23 "TesseraeRow$Crew" "tray" "[LTesseraeRow$Lot;", Cond.methodLink RX1 67 yX3_isDryRow, Cond.instanceMethod yX3_isDryRow, Cond.selects RX3 yX3_isDryRow yX3_isDryRow, Cond.code yX3_isDryRow cX3_isDryRow 6 (some .boolean), Cond.fieldLink RX3 118 "TesseraeRow$Cell" "laidAt" "I", Cond.fieldLink RX3 121 "TesseraeRow$Cell" "dryAt" "I", Cond.methodLink RX1 71 yX0_lay, Cond.instanceMethod yX0_lay, Cond.selects RX0 yX0_lay yX0_lay, Cond.code yX0_lay cX0_lay 3 none, Cond.fieldLink RX0 36 "TesseraeRow$Lot" "laid" "I"]
def wsL_does_r9 : List Cond := [Cond.fieldLink RX0 39 "TesseraeRow$Cell" "laidAt" "I", Cond.fieldLink RX0 42 "TesseraeRow$Cell" "dryAt" "I", Cond.methodLink RL 30 yX4_edge, Cond.instanceMethod yX4_edge, Cond.selects RX4 yX4_edge yX4_edge, Cond.code yX4_edge cX4_edge 2 (some .int), Cond.methodLink RX4 168 yX3_greatestEdge, Cond.instanceMethod yX3_greatestEdge, Cond.selects RX3 yX3_greatestEdge yX3_greatestEdge, Cond.code yX3_greatestEdge cX3_greatestEdge 9 (some .float), Cond.methodLink RX3 124 yX3_edgeBetween, Cond.static yX3_edgeBetween, Cond.code yX3_edgeBetween cX3_edgeBetween 4 (some .float), Cond.methodLink RX3 128 yX0_stoneTone, Cond.instanceMethod yX0_stoneTone, Cond.selects RX0 yX0_stoneTone yX0_stoneTone, Cond.code yX0_stoneTone cX0_stoneTone 1 (some .float), Cond.fieldLink RX0 21 "TesseraeRow$Cell" "wanted" "I", Cond.methodLink RX4 157 yX4_bitsOf, Cond.static yX4_bitsOf, Cond.code yX4_bitsOf cX4_bitsOf 4 (some .int), Cond.constantFloat RX4 199 (1056964608), Cond.constantFloat RX4 200 (1258291200), Cond.constant RX4 201 (-2147483648)]
def wsL_does_r10 : List Cond := [Cond.methodLink RL 33 yX4_ofLot, Cond.instanceMethod yX4_ofLot, Cond.selects RX4 yX4_ofLot yX4_ofLot, Cond.code yX4_ofLot cX4_ofLot 4 (some .int), Cond.fieldLink RX4 172 "TesseraeRow$Lot" "promised" "I", Cond.fieldLink RX4 175 "TesseraeRow$Lot" "laid" "I", Cond.fieldLink RX4 178 "TesseraeRow$Lot" "tone" "F", Cond.methodLink RL 36 yX4_ofPicture, Cond.instanceMethod yX4_ofPicture, Cond.selects RX4 yX4_ofPicture yX4_ofPicture, Cond.code yX4_ofPicture cX4_ofPicture 4 (some .int), Cond.methodLink RL 39 yX4_ofCrew, Cond.instanceMethod yX4_ofCrew, Cond.selects RX4 yX4_ofCrew yX4_ofCrew, Cond.code yX4_ofCrew cX4_ofCrew 4 (some .int), Cond.fieldLink RX4 181 "TesseraeRow$Crew" "laid" "I"]
def wsL_does : List Cond := .codeWith yL_does cL_does 5 (some .int) [(0, 129, 130, 42), (0, 129, 136, 44), (0, 129, 142, 46)] :: ((wsL_does_r1 ++ (wsL_does_r2 ++ (wsL_does_r3 ++ (wsL_does_r4 ++ (wsL_does_r5 ++ (wsL_does_r6 ++ (wsL_does_r7 ++ (wsL_does_r8 ++ (wsL_does_r9 ++ wsL_does_r10))))))))) ++ wsX20 ++ wsX40 ++ wsX30 ++ wsX00 ++ wsX10 ++ (vx_atS RX4 40 "java/lang/IllegalStateException" ["java/lang/RuntimeException", "java/lang/Exception"]).filter goodWord ++ (vx_atS RX4 188 "java/lang/IndexOutOfBoundsException" ["java/lang/RuntimeException", "java/lang/Exception"]).filter goodWord ++ (vx_atS RX4 108 "java/lang/IllegalArgumentException" ["java/lang/RuntimeException", "java/lang/Exception"]).filter goodWord)
def wsL_adds_r1 : List Cond := [Cond.classLink RL 44 "java/lang/IllegalArgumentException", Cond.classLink RL 46 "java/lang/IllegalStateException", Cond.methodLink RL 48 yX4_lot, Cond.instanceMethod yX4_lot, Cond.selects RX4 yX4_lot yX4_lot, Cond.initialized RX4, Cond.code yX4_lot cX4_lot 6 (some .int), Cond.classLink RX4 36 "java/lang/IllegalStateException", Cond.initialized "java/lang/IllegalStateException", Cond.fieldLink RX4 32 "TesseraeRow" "lotCount" "I", Cond.fieldLink RX4 11 "TesseraeRow" "lots" "[LTesseraeRow$Lot;", Cond.classLink RX4 9 RX2, Cond.instantiable RX2 7, Cond.initialized RX2, Cond.constantFloat RX4 43 (1120403456), Cond.methodLink RX4 28 yX4_needRange, Cond.static yX4_needRange, Cond.code yX4_needRange cX4_needRange 3 none, Cond.classLink RX4 104 "java/lang/IllegalArgumentException", Cond.initialized "java/lang/IllegalArgumentException", Cond.methodLink RX4 44 yX2_init, Cond.instanceMethod yX2_init, Cond.code yX2_init cX2_init 6 none, Cond.methodLink RX2 1 objectInit]
def wsL_adds_r2 : List Cond := [Cond.instanceMethod objectInit, Cond.code objectInit ⟨#[0xb1]⟩ 1 none, Cond.fieldLink RX2 7 "TesseraeRow$Lot" "number" "I", Cond.fieldLink RX2 13 "TesseraeRow$Lot" "tone" "F", Cond.fieldLink RX2 17 "TesseraeRow$Lot" "left" "I", Cond.fieldLink RX2 20 "TesseraeRow$Lot" "material" "I", Cond.fieldLink RX2 23 "TesseraeRow$Lot" "isThere" "Z"]
def wsL_adds : List Cond := .codeWith yL_adds cL_adds 6 (some .int) [(0, 9, 10, 44), (0, 9, 16, 46)] :: ((wsL_adds_r1 ++ wsL_adds_r2) ++ wsX40 ++ wsX20 ++ (vx_atS RX4 40 "java/lang/IllegalStateException" ["java/lang/RuntimeException", "java/lang/Exception"]).filter goodWord ++ (vx_atS RX4 108 "java/lang/IllegalArgumentException" ["java/lang/RuntimeException", "java/lang/Exception"]).filter goodWord)
def wsL_tells_r1 : List Cond := [Cond.classLink RL 42 "java/lang/IndexOutOfBoundsException", Cond.classLink RL 44 "java/lang/IllegalArgumentException", Cond.classLink RL 46 "java/lang/IllegalStateException", Cond.methodLink RL 52 yX4_picture, Cond.instanceMethod yX4_picture, Cond.selects RX4 yX4_picture yX4_picture, Cond.initialized RX4, Cond.code yX4_picture cX4_picture 5 (some .int), Cond.classLink RX4 36 "java/lang/IllegalStateException", Cond.initialized "java/lang/IllegalStateException", Cond.fieldLink RX4 60 "TesseraeRow" "pictureCount" "I", Cond.fieldLink RX4 17 "TesseraeRow" "pictures" "[LTesseraeRow$Picture;", Cond.classLink RX4 15 RX3, Cond.instantiable RX3 4, Cond.initialized RX3, Cond.methodLink RX4 28 yX4_needRange, Cond.static yX4_needRange, Cond.code yX4_needRange cX4_needRange 3 none, Cond.classLink RX4 104 "java/lang/IllegalArgumentException", Cond.initialized "java/lang/IllegalArgumentException", Cond.methodLink RX4 65 yX3_init, Cond.instanceMethod yX3_init, Cond.code yX3_init cX3_init 8 none, Cond.methodLink RX3 3 objectInit]
def wsL_tells_r2 : List Cond := [Cond.instanceMethod objectInit, Cond.code objectInit ⟨#[0xb1]⟩ 1 none, Cond.fieldLink RX3 9 "TesseraeRow$Picture" "number" "I", Cond.fieldLink RX3 15 "TesseraeRow$Picture" "width" "I", Cond.fieldLink RX3 18 "TesseraeRow$Picture" "height" "I", Cond.classLink RX3 21 RX0, Cond.fieldLink RX3 23 "TesseraeRow$Picture" "cells" "[LTesseraeRow$Cell;", Cond.instantiable RX0 10, Cond.initialized RX0, Cond.methodLink RX3 27 yX0_init, Cond.instanceMethod yX0_init, Cond.code yX0_init cX0_init 4 none, Cond.methodLink RX0 3 objectInit, Cond.fieldLink RX0 9 "TesseraeRow$Cell" "kind" "I", Cond.fieldLink RX0 15 "TesseraeRow$Cell" "x" "I", Cond.fieldLink RX0 18 "TesseraeRow$Cell" "y" "I", Cond.fieldLink RX0 21 "TesseraeRow$Cell" "wanted" "I", Cond.methodLink RL 56 yX4_share, Cond.instanceMethod yX4_share, Cond.selects RX4 yX4_share yX4_share, Cond.code yX4_share cX4_share 7 (some .int), Cond.methodLink RX4 88 yX4_needPicture, Cond.instanceMethod yX4_needPicture, Cond.selects RX4 yX4_needPicture yX4_needPicture]
def wsL_tells_r3 : List Cond := [Cond.code yX4_needPicture cX4_needPicture 3 (some (.object "TesseraeRow$Picture")), Cond.classLink RX4 184 "java/lang/IndexOutOfBoundsException", Cond.initialized "java/lang/IndexOutOfBoundsException", Cond.methodLink RX4 47 yX4_needLot, Cond.instanceMethod yX4_needLot, Cond.selects RX4 yX4_needLot yX4_needLot, Cond.code yX4_needLot cX4_needLot 3 (some (.object "TesseraeRow$Lot")), Cond.fieldLink RX4 11 "TesseraeRow" "lots" "[LTesseraeRow$Lot;", Cond.methodLink RX4 109 yX3_giveOddCells, Cond.instanceMethod yX3_giveOddCells, Cond.selects RX3 yX3_giveOddCells yX3_giveOddCells, Cond.code yX3_giveOddCells cX3_giveOddCells 8 (some .int), Cond.fieldLink RX3 78 "TesseraeRow$Cell" "x" "I", Cond.fieldLink RX3 81 "TesseraeRow$Cell" "y" "I", Cond.methodLink RX3 100 yX0_isPromised, Cond.instanceMethod yX0_isPromised, Cond.selects RX0 yX0_isPromised yX0_isPromised, Cond.code yX0_isPromised cX0_isPromised 2 (some .boolean), Cond.fieldLink RX0 24 "TesseraeRow$Cell" "lot" "LTesseraeRow$Lot;", Cond.methodLink RX3 61 yX2_canPromise, Cond.instanceMethod yX2_canPromise, Cond.selects RX2 yX2_canPromise yX2_canPromise, Cond.initialized RX2, Cond.code yX2_canPromise cX2_canPromise 1 (some .boolean)]
def wsL_tells_r4 : List Cond := [Cond.fieldLink RX2 23 "TesseraeRow$Lot" "isThere" "Z", Cond.fieldLink RX2 17 "TesseraeRow$Lot" "left" "I", Cond.methodLink RX3 33 yX0_takeBack, Cond.instanceMethod yX0_takeBack, Cond.selects RX0 yX0_takeBack yX0_takeBack, Cond.code yX0_takeBack cX0_takeBack 1 none, Cond.fieldLink RX0 33 "TesseraeRow$Lot" "promised" "I", Cond.fieldLink RX0 28 "TesseraeRow$Lot" "left" "I", Cond.methodLink RX3 74 yX0_promise, Cond.instanceMethod yX0_promise, Cond.selects RX0 yX0_promise yX0_promise, Cond.code yX0_promise cX0_promise 2 none, Cond.methodLink RL 59 yX4_crew, Cond.instanceMethod yX4_crew, Cond.selects RX4 yX4_crew yX4_crew, Cond.code yX4_crew cX4_crew 6 (some .int), Cond.fieldLink RX4 124 "TesseraeRow$Crew" "rate" "I", Cond.fieldLink RX4 127 "TesseraeRow$Crew" "dry" "I", Cond.methodLink RX4 113 yX4_needCrew, Cond.instanceMethod yX4_needCrew, Cond.selects RX4 yX4_needCrew yX4_needCrew, Cond.code yX4_needCrew cX4_needCrew 3 (some (.object "TesseraeRow$Crew")), Cond.fieldLink RX4 23 "TesseraeRow" "crews" "[LTesseraeRow$Crew;"]
def wsL_tells : List Cond := .codeWith yL_tells cL_tells 6 (some .int) [(0, 39, 40, 42), (0, 39, 46, 44), (0, 39, 52, 46)] :: ((wsL_tells_r1 ++ (wsL_tells_r2 ++ (wsL_tells_r3 ++ wsL_tells_r4))) ++ wsX40 ++ wsX30 ++ wsX00 ++ wsX20 ++ wsX10 ++ (vx_atS RX4 40 "java/lang/IllegalStateException" ["java/lang/RuntimeException", "java/lang/Exception"]).filter goodWord ++ (vx_atS RX4 108 "java/lang/IllegalArgumentException" ["java/lang/RuntimeException", "java/lang/Exception"]).filter goodWord ++ (vx_atS RX4 188 "java/lang/IndexOutOfBoundsException" ["java/lang/RuntimeException", "java/lang/Exception"]).filter goodWord)
def wsL_cell_r1 : List Cond := [Cond.classLink RL 42 "java/lang/IndexOutOfBoundsException", Cond.classLink RL 44 "java/lang/IllegalArgumentException", Cond.classLink RL 46 "java/lang/IllegalStateException", Cond.methodLink RL 62 yX4_cell, Cond.instanceMethod yX4_cell, Cond.selects RX4 yX4_cell yX4_cell, Cond.initialized RX4, Cond.code yX4_cell cX4_cell 7 (some .int), Cond.classLink RX4 36 "java/lang/IllegalStateException", Cond.initialized "java/lang/IllegalStateException", Cond.fieldLink RX4 80 "TesseraeRow$Cell" "wanted" "I", Cond.methodLink RX4 68 yX4_needCell, Cond.instanceMethod yX4_needCell, Cond.selects RX4 yX4_needCell yX4_needCell, Cond.code yX4_needCell cX4_needCell 5 (some (.object "TesseraeRow$Cell")), Cond.classLink RX4 184 "java/lang/IndexOutOfBoundsException", Cond.initialized "java/lang/IndexOutOfBoundsException", Cond.methodLink RX4 88 yX4_needPicture, Cond.instanceMethod yX4_needPicture, Cond.selects RX4 yX4_needPicture yX4_needPicture, Cond.code yX4_needPicture cX4_needPicture 3 (some (.object "TesseraeRow$Picture")), Cond.fieldLink RX4 17 "TesseraeRow" "pictures" "[LTesseraeRow$Picture;", Cond.methodLink RX4 191 yX3_cellAt, Cond.instanceMethod yX3_cellAt]
def wsL_cell_r2 : List Cond := [Cond.selects RX3 yX3_cellAt yX3_cellAt, Cond.initialized RX3, Cond.code yX3_cellAt cX3_cellAt 3 (some (.object "TesseraeRow$Cell")), Cond.fieldLink RX3 15 "TesseraeRow$Picture" "width" "I", Cond.fieldLink RX3 18 "TesseraeRow$Picture" "height" "I", Cond.fieldLink RX3 23 "TesseraeRow$Picture" "cells" "[LTesseraeRow$Cell;", Cond.methodLink RX4 28 yX4_needRange, Cond.static yX4_needRange, Cond.code yX4_needRange cX4_needRange 3 none, Cond.classLink RX4 104 "java/lang/IllegalArgumentException", Cond.initialized "java/lang/IllegalArgumentException", Cond.methodLink RX4 72 yX0_isDone, Cond.instanceMethod yX0_isDone, Cond.selects RX0 yX0_isDone yX0_isDone, Cond.initialized RX0, Cond.code yX0_isDone cX0_isDone 1 (some .boolean), Cond.fieldLink RX0 9 "TesseraeRow$Cell" "kind" "I", Cond.methodLink RL 66 yX4_old, Cond.instanceMethod yX4_old, Cond.selects RX4 yX4_old yX4_old, Cond.code yX4_old cX4_old 6 (some .int), Cond.fieldLink RX4 83 "TesseraeRow$Cell" "kind" "I", Cond.methodLink RX4 92 yX3_count, Cond.instanceMethod yX3_count]
def wsL_cell_r3 : List Cond := [Cond.selects RX3 yX3_count yX3_count, Cond.code yX3_count cX3_count 7 (some .int), Cond.fieldLink RX3 30 "TesseraeRow$Cell" "kind" "I", Cond.methodLink RL 69 yX4_ofCell, Cond.instanceMethod yX4_ofCell, Cond.selects RX4 yX4_ofCell yX4_ofCell, Cond.code yX4_ofCell cX4_ofCell 6 (some .int), Cond.fieldLink RX4 146 "TesseraeRow$Cell" "lot" "LTesseraeRow$Lot;", Cond.fieldLink RX4 150 "TesseraeRow$Lot" "number" "I", Cond.fieldLink RX4 153 "TesseraeRow$Cell" "aim" "F", Cond.fieldLink RX4 161 "TesseraeRow$Cell" "laidAt" "I", Cond.methodLink RX4 157 yX4_bitsOf, Cond.static yX4_bitsOf, Cond.code yX4_bitsOf cX4_bitsOf 4 (some .int), Cond.constantFloat RX4 199 (1056964608), Cond.constantFloat RX4 200 (1258291200), Cond.constant RX4 201 (-2147483648)]
def wsL_cell : List Cond := .codeWith yL_cell cL_cell 7 (some .int) [(0, 45, 46, 42), (0, 45, 52, 44), (0, 45, 58, 46)] :: ((wsL_cell_r1 ++ (wsL_cell_r2 ++ wsL_cell_r3)) ++ wsX00 ++ wsX40 ++ wsX30 ++ wsX20 ++ (vx_atS RX4 40 "java/lang/IllegalStateException" ["java/lang/RuntimeException", "java/lang/Exception"]).filter goodWord ++ (vx_atS RX4 188 "java/lang/IndexOutOfBoundsException" ["java/lang/RuntimeException", "java/lang/Exception"]).filter goodWord ++ (vx_atS RX4 108 "java/lang/IllegalArgumentException" ["java/lang/RuntimeException", "java/lang/Exception"]).filter goodWord)
def wsL_aimAnew_r1 : List Cond := [Cond.classLink RL 42 "java/lang/IndexOutOfBoundsException", Cond.methodLink RL 72 yX4_aimAnew, Cond.instanceMethod yX4_aimAnew, Cond.selects RX4 yX4_aimAnew yX4_aimAnew, Cond.initialized RX4, Cond.code yX4_aimAnew cX4_aimAnew 5 (some .int), Cond.methodLink RX4 68 yX4_needCell, Cond.instanceMethod yX4_needCell, Cond.selects RX4 yX4_needCell yX4_needCell, Cond.code yX4_needCell cX4_needCell 5 (some (.object "TesseraeRow$Cell")), Cond.classLink RX4 184 "java/lang/IndexOutOfBoundsException", Cond.initialized "java/lang/IndexOutOfBoundsException", Cond.methodLink RX4 88 yX4_needPicture, Cond.instanceMethod yX4_needPicture, Cond.selects RX4 yX4_needPicture yX4_needPicture, Cond.code yX4_needPicture cX4_needPicture 3 (some (.object "TesseraeRow$Picture")), Cond.fieldLink RX4 17 "TesseraeRow" "pictures" "[LTesseraeRow$Picture;", Cond.methodLink RX4 191 yX3_cellAt, Cond.instanceMethod yX3_cellAt, Cond.selects RX3 yX3_cellAt yX3_cellAt, Cond.initialized RX3, Cond.code yX3_cellAt cX3_cellAt 3 (some (.object "TesseraeRow$Cell")), Cond.fieldLink RX3 15 "TesseraeRow$Picture" "width" "I", Cond.fieldLink RX3 18 "TesseraeRow$Picture" "height" "I"]
def wsL_aimAnew_r2 : List Cond := [Cond.fieldLink RX3 23 "TesseraeRow$Picture" "cells" "[LTesseraeRow$Cell;", Cond.methodLink RX4 164 yX3_aimByNow, Cond.instanceMethod yX3_aimByNow, Cond.selects RX3 yX3_aimByNow yX3_aimByNow, Cond.code yX3_aimByNow cX3_aimByNow 7 (some .float), Cond.fieldLink RX3 39 "TesseraeRow$Cell" "wanted" "I", Cond.fieldLink RX3 42 "TesseraeRow$Cell" "brought" "F", Cond.methodLink RX3 36 yX3_forgetBrought, Cond.instanceMethod yX3_forgetBrought, Cond.selects RX3 yX3_forgetBrought yX3_forgetBrought, Cond.code yX3_forgetBrought cX3_forgetBrought 5 none, Cond.methodLink RX3 53 yX0_lackBehind, Cond.instanceMethod yX0_lackBehind, Cond.selects RX0 yX0_lackBehind yX0_lackBehind, Cond.initialized RX0, Cond.code yX0_lackBehind cX0_lackBehind 2 (some .float), Cond.fieldLink RX0 24 "TesseraeRow$Cell" "lot" "LTesseraeRow$Lot;", Cond.fieldLink RX0 45 "TesseraeRow$Lot" "tone" "F", Cond.methodLink RX3 57 yX3_passOn, Cond.instanceMethod yX3_passOn, Cond.selects RX3 yX3_passOn yX3_passOn, Cond.code yX3_passOn cX3_passOn 3 none, Cond.fieldLink RX3 78 "TesseraeRow$Cell" "x" "I", Cond.fieldLink RX3 81 "TesseraeRow$Cell" "y" "I"]
def wsL_aimAnew_r3 : List Cond := [Cond.constantFloat RX3 84 (1054867456), Cond.constantFloat RX3 89 (1044381696), Cond.constantFloat RX3 90 (1050673152), Cond.constantFloat RX3 91 (1031798784), Cond.methodLink RX3 85 yX3_bringTo, Cond.instanceMethod yX3_bringTo, Cond.selects RX3 yX3_bringTo yX3_bringTo, Cond.code yX3_bringTo cX3_bringTo 5 none, Cond.methodLink RX3 92 yX3_cellAt, Cond.methodLink RX3 96 yX0_bring, Cond.instanceMethod yX0_bring, Cond.selects RX0 yX0_bring yX0_bring, Cond.code yX0_bring cX0_bring 2 none, Cond.fieldLink RX0 49 "TesseraeRow$Cell" "brought" "F", Cond.methodLink RX4 157 yX4_bitsOf, Cond.static yX4_bitsOf, Cond.code yX4_bitsOf cX4_bitsOf 4 (some .int), Cond.constantFloat RX4 199 (1056964608), Cond.constantFloat RX4 200 (1258291200), Cond.constant RX4 201 (-2147483648)]
def wsL_aimAnew : List Cond := .codeWith yL_aimAnew cL_aimAnew 5 (some .int) [(0, 7, 8, 42)] :: ((wsL_aimAnew_r1 ++ (wsL_aimAnew_r2 ++ wsL_aimAnew_r3)) ++ wsX40 ++ wsX30 ++ wsX00 ++ wsX20 ++ (vx_atS RX4 188 "java/lang/IndexOutOfBoundsException" ["java/lang/RuntimeException", "java/lang/Exception"]).filter goodWord)
def wsL_areAlike_r1 : List Cond := [Cond.methodLink RL 75 yL_does, Cond.static yL_does, Cond.initialized RL, Cond.codeWith yL_does cL_does 5 (some .int) [(0, 129, 130, 42), (0, 129, 136, 44), (0, 129, 142, 46)], Cond.classLink RL 42 "java/lang/IndexOutOfBoundsException", Cond.classLink RL 44 "java/lang/IllegalArgumentException", Cond.classLink RL 46 "java/lang/IllegalStateException", Cond.methodLink RL 8 yX4_comes, Cond.instanceMethod yX4_comes, Cond.selects RX4 yX4_comes yX4_comes, Cond.initialized RX4, Cond.code yX4_comes cX4_comes 3 (some .int), Cond.classLink RX4 36 "java/lang/IllegalStateException", Cond.initialized "java/lang/IllegalStateException", Cond.fieldLink RX4 51 "TesseraeRow$Lot" "isThere" "Z", Cond.fieldLink RX4 57 "TesseraeRow$Lot" "left" "I", Cond.methodLink RX4 47 yX4_needLot, Cond.instanceMethod yX4_needLot, Cond.selects RX4 yX4_needLot yX4_needLot, Cond.code yX4_needLot cX4_needLot 3 (some (.object "TesseraeRow$Lot")), Cond.classLink RX4 184 "java/lang/IndexOutOfBoundsException", Cond.initialized "java/lang/IndexOutOfBoundsException", Cond.fieldLink RX4 11 "TesseraeRow" "lots" "[LTesseraeRow$Lot;", Cond.methodLink RL 14 yX4_fill]
def wsL_areAlike_r2 : List Cond := [Cond.instanceMethod yX4_fill, Cond.selects RX4 yX4_fill yX4_fill, Cond.code yX4_fill cX4_fill 2 (some .int), Cond.methodLink RX4 88 yX4_needPicture, Cond.instanceMethod yX4_needPicture, Cond.selects RX4 yX4_needPicture yX4_needPicture, Cond.code yX4_needPicture cX4_needPicture 3 (some (.object "TesseraeRow$Picture")), Cond.fieldLink RX4 17 "TesseraeRow" "pictures" "[LTesseraeRow$Picture;", Cond.methodLink RX4 96 yX3_fillGaps, Cond.instanceMethod yX3_fillGaps, Cond.selects RX3 yX3_fillGaps yX3_fillGaps, Cond.initialized RX3, Cond.code yX3_fillGaps cX3_fillGaps 5 (some .int), Cond.fieldLink RX3 23 "TesseraeRow$Picture" "cells" "[LTesseraeRow$Cell;", Cond.fieldLink RX3 107 "TesseraeRow$Cell" "round" "I", Cond.methodLink RX3 104 yX0_isDone, Cond.instanceMethod yX0_isDone, Cond.selects RX0 yX0_isDone yX0_isDone, Cond.initialized RX0, Cond.code yX0_isDone cX0_isDone 1 (some .boolean), Cond.fieldLink RX0 9 "TesseraeRow$Cell" "kind" "I", Cond.methodLink RX3 110 yX3_fillRound, Cond.instanceMethod yX3_fillRound, Cond.selects RX3 yX3_fillRound yX3_fillRound]
def wsL_areAlike_r3 : List Cond := [Cond.code yX3_fillRound cX3_fillRound 7 (some .int), Cond.methodLink RX3 114 yX3_fillCell, Cond.instanceMethod yX3_fillCell, Cond.selects RX3 yX3_fillCell yX3_fillCell, Cond.code yX3_fillCell cX3_fillCell 8 (some .boolean), Cond.fieldLink RX3 81 "TesseraeRow$Cell" "y" "I", Cond.fieldLink RX3 78 "TesseraeRow$Cell" "x" "I", Cond.fieldLink RX3 39 "TesseraeRow$Cell" "wanted" "I", Cond.methodLink RX3 92 yX3_cellAt, Cond.instanceMethod yX3_cellAt, Cond.selects RX3 yX3_cellAt yX3_cellAt, Cond.code yX3_cellAt cX3_cellAt 3 (some (.object "TesseraeRow$Cell")), Cond.fieldLink RX3 15 "TesseraeRow$Picture" "width" "I", Cond.fieldLink RX3 18 "TesseraeRow$Picture" "height" "I", Cond.methodLink RL 17 yX4_design, Cond.instanceMethod yX4_design, Cond.selects RX4 yX4_design yX4_design, Cond.code yX4_design cX4_design 3 (some .int), Cond.methodLink RX4 100 yX3_designFrom, Cond.instanceMethod yX3_designFrom, Cond.selects RX3 yX3_designFrom yX3_designFrom, Cond.code yX3_designFrom cX3_designFrom 6 none, Cond.fieldLink RX3 42 "TesseraeRow$Cell" "brought" "F", Cond.fieldLink RX3 46 "TesseraeRow$Cell" "aim" "F"]
def wsL_areAlike_r4 : List Cond := [Cond.fieldLink RX3 30 "TesseraeRow$Cell" "kind" "I", Cond.methodLink RX3 33 yX0_takeBack, Cond.instanceMethod yX0_takeBack, Cond.selects RX0 yX0_takeBack yX0_takeBack, Cond.code yX0_takeBack cX0_takeBack 1 none, Cond.fieldLink RX0 24 "TesseraeRow$Cell" "lot" "LTesseraeRow$Lot;", Cond.fieldLink RX0 33 "TesseraeRow$Lot" "promised" "I", Cond.fieldLink RX0 28 "TesseraeRow$Lot" "left" "I", Cond.methodLink RX3 36 yX3_forgetBrought, Cond.instanceMethod yX3_forgetBrought, Cond.selects RX3 yX3_forgetBrought yX3_forgetBrought, Cond.code yX3_forgetBrought cX3_forgetBrought 5 none, Cond.methodLink RX3 49 yX3_promiseNearest, Cond.static yX3_promiseNearest, Cond.code yX3_promiseNearest cX3_promiseNearest 9 none, Cond.fieldLink RX3 67 "TesseraeRow$Lot" "tone" "F", Cond.methodLink RX3 61 yX2_canPromise, Cond.instanceMethod yX2_canPromise, Cond.selects RX2 yX2_canPromise yX2_canPromise, Cond.initialized RX2, Cond.code yX2_canPromise cX2_canPromise 1 (some .boolean), Cond.fieldLink RX2 23 "TesseraeRow$Lot" "isThere" "Z", Cond.fieldLink RX2 17 "TesseraeRow$Lot" "left" "I", Cond.methodLink RX3 70 yX3_distance]
def wsL_areAlike_r5 : List Cond := [Cond.static yX3_distance, Cond.code yX3_distance cX3_distance 3 (some .float), Cond.methodLink RX3 74 yX0_promise, Cond.instanceMethod yX0_promise, Cond.selects RX0 yX0_promise yX0_promise, Cond.code yX0_promise cX0_promise 2 none, Cond.methodLink RX3 53 yX0_lackBehind, Cond.instanceMethod yX0_lackBehind, Cond.selects RX0 yX0_lackBehind yX0_lackBehind, Cond.code yX0_lackBehind cX0_lackBehind 2 (some .float), Cond.fieldLink RX0 45 "TesseraeRow$Lot" "tone" "F", Cond.methodLink RX3 57 yX3_passOn, Cond.instanceMethod yX3_passOn, Cond.selects RX3 yX3_passOn yX3_passOn, Cond.code yX3_passOn cX3_passOn 3 none, Cond.constantFloat RX3 84 (1054867456), Cond.constantFloat RX3 89 (1044381696), Cond.constantFloat RX3 90 (1050673152), Cond.constantFloat RX3 91 (1031798784), Cond.methodLink RX3 85 yX3_bringTo, Cond.instanceMethod yX3_bringTo, Cond.selects RX3 yX3_bringTo yX3_bringTo, Cond.code yX3_bringTo cX3_bringTo 5 none, Cond.methodLink RX3 96 yX0_bring]
def wsL_areAlike_r6 : List Cond := [Cond.instanceMethod yX0_bring, Cond.selects RX0 yX0_bring yX0_bring, Cond.code yX0_bring cX0_bring 2 none, Cond.fieldLink RX0 49 "TesseraeRow$Cell" "brought" "F", Cond.methodLink RX4 92 yX3_count, Cond.instanceMethod yX3_count, Cond.selects RX3 yX3_count yX3_count, Cond.code yX3_count cX3_count 7 (some .int), Cond.methodLink RL 20 yX4_send, Cond.instanceMethod yX4_send, Cond.selects RX4 yX4_send yX4_send, Cond.code yX4_send cX4_send 6 (some .int), Cond.fieldLink RX4 120 "TesseraeRow$Crew" "at" "LTesseraeRow$Picture;", Cond.methodLink RX4 113 yX4_needCrew, Cond.instanceMethod yX4_needCrew, Cond.selects RX4 yX4_needCrew yX4_needCrew, Cond.code yX4_needCrew cX4_needCrew 3 (some (.object "TesseraeRow$Crew")), Cond.fieldLink RX4 23 "TesseraeRow" "crews" "[LTesseraeRow$Crew;", Cond.methodLink RX4 117 yX1_pictureNumber, Cond.instanceMethod yX1_pictureNumber, Cond.selects RX1 yX1_pictureNumber yX1_pictureNumber, Cond.initialized RX1, Cond.code yX1_pictureNumber cX1_pictureNumber 1 (some .int), Cond.fieldLink RX1 27 "TesseraeRow$Crew" "at" "LTesseraeRow$Picture;"]
def wsL_areAlike_r7 : List Cond := [Cond.fieldLink RX1 31 "TesseraeRow$Picture" "number" "I", Cond.methodLink RL 24 yX4_tray, Cond.instanceMethod yX4_tray, Cond.selects RX4 yX4_tray yX4_tray, Cond.code yX4_tray cX4_tray 5 (some .int), Cond.fieldLink RX4 130 "TesseraeRow$Crew" "onTray" "I", Cond.fieldLink RX4 133 "TesseraeRow$Crew" "material" "I", Cond.methodLink RX4 28 yX4_needRange, Cond.static yX4_needRange, Cond.code yX4_needRange cX4_needRange 3 none, Cond.classLink RX4 104 "java/lang/IllegalArgumentException", Cond.initialized "java/lang/IllegalArgumentException", Cond.methodLink RL 27 yX4_pass, Cond.instanceMethod yX4_pass, Cond.selects RX4 yX4_pass yX4_pass, Cond.code yX4_pass cX4_pass 5 (some .int), Cond.fieldLink RX4 140 "TesseraeRow" "now" "I", Cond.methodLink RX4 143 yX1_layFor, Cond.instanceMethod yX1_layFor, Cond.selects RX1 yX1_layFor yX1_layFor, Cond.code yX1_layFor cX1_layFor 3 (some .int), Cond.fieldLink RX1 9 "TesseraeRow$Crew" "rate" "I", Cond.fieldLink RX1 48 "TesseraeRow$Crew" "laid" "I", Cond.methodLink RX1 44 yX1_layNext]
def wsL_areAlike_r8 : List Cond := [Cond.instanceMethod yX1_layNext, Cond.selects RX1 yX1_layNext yX1_layNext, Cond.code yX1_layNext cX1_layNext 3 (some .boolean), Cond.fieldLink RX1 55 "TesseraeRow$Cell" "kind" "I", Cond.fieldLink RX1 60 "TesseraeRow$Cell" "lot" "LTesseraeRow$Lot;", Cond.fieldLink RX1 64 "TesseraeRow$Cell" "y" "I", Cond.fieldLink RX1 15 "TesseraeRow$Crew" "dry" "I", Cond.methodLink RX1 51 yX3_firstUndone, Cond.instanceMethod yX3_firstUndone, Cond.selects RX3 yX3_firstUndone yX3_firstUndone, Cond.code yX3_firstUndone cX3_firstUndone 5 (some (.object "TesseraeRow$Cell")), Cond.methodLink RX1 39 yX1_hasOnTray, Cond.instanceMethod yX1_hasOnTray, Cond.selects RX1 yX1_hasOnTray yX1_hasOnTray, Cond.code yX1_hasOnTray cX1_hasOnTray 3 (some .boolean), Cond.fieldLink RX1 36 "TesseraeRow$Crew" "onTray" "I", Cond.fieldLink RX1 23 "TesseraeRow$Crew" "tray" "[LTesseraeRow$Lot;", Cond.methodLink RX1 67 yX3_isDryRow, Cond.instanceMethod yX3_isDryRow, Cond.selects RX3 yX3_isDryRow yX3_isDryRow, Cond.code yX3_isDryRow cX3_isDryRow 6 (some .boolean), Cond.fieldLink RX3 118 "TesseraeRow$Cell" "laidAt" "I", Cond.fieldLink RX3 121 "TesseraeRow$Cell" "dryAt" "I", Cond.methodLink RX1 71 yX0_lay]
def wsL_areAlike_r9 : List Cond := [Cond.instanceMethod yX0_lay, Cond.selects RX0 yX0_lay yX0_lay, Cond.code yX0_lay cX0_lay 3 none, Cond.fieldLink RX0 36 "TesseraeRow$Lot" "laid" "I", Cond.fieldLink RX0 39 "TesseraeRow$Cell" "laidAt" "I", Cond.fieldLink RX0 42 "TesseraeRow$Cell" "dryAt" "I", Cond.methodLink RL 30 yX4_edge, Cond.instanceMethod yX4_edge, Cond.selects RX4 yX4_edge yX4_edge, Cond.code yX4_edge cX4_edge 2 (some .int), Cond.methodLink RX4 168 yX3_greatestEdge, Cond.instanceMethod yX3_greatestEdge, Cond.selects RX3 yX3_greatestEdge yX3_greatestEdge, Cond.code yX3_greatestEdge cX3_greatestEdge 9 (some .float), Cond.methodLink RX3 124 yX3_edgeBetween, Cond.static yX3_edgeBetween, Cond.code yX3_edgeBetween cX3_edgeBetween 4 (some .float), Cond.methodLink RX3 128 yX0_stoneTone, Cond.instanceMethod yX0_stoneTone, Cond.selects RX0 yX0_stoneTone yX0_stoneTone, Cond.code yX0_stoneTone cX0_stoneTone 1 (some .float), Cond.fieldLink RX0 21 "TesseraeRow$Cell" "wanted" "I", Cond.methodLink RX4 157 yX4_bitsOf, Cond.static yX4_bitsOf]
def wsL_areAlike_r10 : List Cond := [Cond.code yX4_bitsOf cX4_bitsOf 4 (some .int), Cond.constantFloat RX4 199 (1056964608), Cond.constantFloat RX4 200 (1258291200), Cond.constant RX4 201 (-2147483648), Cond.methodLink RL 33 yX4_ofLot, Cond.instanceMethod yX4_ofLot, Cond.selects RX4 yX4_ofLot yX4_ofLot, Cond.code yX4_ofLot cX4_ofLot 4 (some .int), Cond.fieldLink RX4 172 "TesseraeRow$Lot" "promised" "I", Cond.fieldLink RX4 175 "TesseraeRow$Lot" "laid" "I", Cond.fieldLink RX4 178 "TesseraeRow$Lot" "tone" "F", Cond.methodLink RL 36 yX4_ofPicture, Cond.instanceMethod yX4_ofPicture, Cond.selects RX4 yX4_ofPicture yX4_ofPicture, Cond.code yX4_ofPicture cX4_ofPicture 4 (some .int), Cond.methodLink RL 39 yX4_ofCrew, Cond.instanceMethod yX4_ofCrew, Cond.selects RX4 yX4_ofCrew yX4_ofCrew, Cond.code yX4_ofCrew cX4_ofCrew 4 (some .int), Cond.fieldLink RX4 181 "TesseraeRow$Crew" "laid" "I", Cond.methodLink RL 81 yL_cell, Cond.static yL_cell, Cond.codeWith yL_cell cL_cell 7 (some .int) [(0, 45, 46, 42), (0, 45, 52, 44), (0, 45, 58, 46)], Cond.methodLink RL 62 yX4_cell]
def wsL_areAlike_r11 : List Cond := [Cond.instanceMethod yX4_cell, Cond.selects RX4 yX4_cell yX4_cell, Cond.code yX4_cell cX4_cell 7 (some .int), Cond.fieldLink RX4 80 "TesseraeRow$Cell" "wanted" "I", Cond.methodLink RX4 68 yX4_needCell, Cond.instanceMethod yX4_needCell, Cond.selects RX4 yX4_needCell yX4_needCell, Cond.code yX4_needCell cX4_needCell 5 (some (.object "TesseraeRow$Cell")), Cond.methodLink RX4 191 yX3_cellAt, Cond.methodLink RX4 72 yX0_isDone, Cond.methodLink RL 66 yX4_old, Cond.instanceMethod yX4_old, Cond.selects RX4 yX4_old yX4_old, Cond.code yX4_old cX4_old 6 (some .int), Cond.fieldLink RX4 83 "TesseraeRow$Cell" "kind" "I", Cond.methodLink RL 69 yX4_ofCell, Cond.instanceMethod yX4_ofCell, Cond.selects RX4 yX4_ofCell yX4_ofCell, Cond.code yX4_ofCell cX4_ofCell 6 (some .int), Cond.fieldLink RX4 146 "TesseraeRow$Cell" "lot" "LTesseraeRow$Lot;", Cond.fieldLink RX4 150 "TesseraeRow$Lot" "number" "I", Cond.fieldLink RX4 153 "TesseraeRow$Cell" "aim" "F", Cond.fieldLink RX4 161 "TesseraeRow$Cell" "laidAt" "I", Cond.methodLink RL 84 yL_aimAnew]
def wsL_areAlike_r12 : List Cond := [Cond.static yL_aimAnew, Cond.codeWith yL_aimAnew cL_aimAnew 5 (some .int) [(0, 7, 8, 42)], Cond.methodLink RL 72 yX4_aimAnew, Cond.instanceMethod yX4_aimAnew, Cond.selects RX4 yX4_aimAnew yX4_aimAnew, Cond.code yX4_aimAnew cX4_aimAnew 5 (some .int), Cond.methodLink RX4 164 yX3_aimByNow, Cond.instanceMethod yX3_aimByNow, Cond.selects RX3 yX3_aimByNow yX3_aimByNow, Cond.code yX3_aimByNow cX3_aimByNow 7 (some .float)]
def wsL_areAlike : List Cond := .code yL_areAlike cL_areAlike 10 (some .boolean) :: ((wsL_areAlike_r1 ++ (wsL_areAlike_r2 ++ (wsL_areAlike_r3 ++ (wsL_areAlike_r4 ++ (wsL_areAlike_r5 ++ (wsL_areAlike_r6 ++ (wsL_areAlike_r7 ++ (wsL_areAlike_r8 ++ (wsL_areAlike_r9 ++ (wsL_areAlike_r10 ++ (wsL_areAlike_r11 ++ wsL_areAlike_r12))))))))))) ++ wsX20 ++ wsX40 ++ wsX30 ++ wsX00 ++ wsX10 ++ (vx_atS RX4 40 "java/lang/IllegalStateException" ["java/lang/RuntimeException", "java/lang/Exception"]).filter goodWord ++ (vx_atS RX4 188 "java/lang/IndexOutOfBoundsException" ["java/lang/RuntimeException", "java/lang/Exception"]).filter goodWord ++ (vx_atS RX4 108 "java/lang/IllegalArgumentException" ["java/lang/RuntimeException", "java/lang/Exception"]).filter goodWord)
def wsL_law0_r1 : List Cond := [Cond.classLink RL 9 RX4, Cond.instantiable RX4 6, Cond.initialized RX4, Cond.methodLink RL 86 yX4_init, Cond.instanceMethod yX4_init, Cond.code yX4_init cX4_init 2 none, Cond.methodLink RX4 1 objectInit, Cond.instanceMethod objectInit, Cond.code objectInit ⟨#[0xb1]⟩ 1 none, Cond.classLink RX4 9 RX2, Cond.fieldLink RX4 11 "TesseraeRow" "lots" "[LTesseraeRow$Lot;", Cond.classLink RX4 15 RX3, Cond.fieldLink RX4 17 "TesseraeRow" "pictures" "[LTesseraeRow$Picture;", Cond.classLink RX4 21 RX1, Cond.fieldLink RX4 23 "TesseraeRow" "crews" "[LTesseraeRow$Crew;", Cond.instantiable RX1 7, Cond.initialized RX1, Cond.instanceMethod yX1_init, Cond.code yX1_init cX1_init 1 none, Cond.methodLink RX1 3 objectInit, Cond.fieldLink RX1 9 "TesseraeRow$Crew" "rate" "I", Cond.fieldLink RX1 15 "TesseraeRow$Crew" "dry" "I", Cond.fieldLink RX1 18 "TesseraeRow$Crew" "material" "I", Cond.classLink RX1 21 RX2]
def wsL_law0_r2 : List Cond := [Cond.fieldLink RX1 23 "TesseraeRow$Crew" "tray" "[LTesseraeRow$Lot;", Cond.methodLink RL 87 yL_drawn, Cond.static yL_drawn, Cond.initialized RL, Cond.code yL_drawn cL_drawn 3 (some .int), Cond.constant RL 7 (1073741823), Cond.methodLink RL 91 yL_tells, Cond.static yL_tells, Cond.codeWith yL_tells cL_tells 6 (some .int) [(0, 39, 40, 42), (0, 39, 46, 44), (0, 39, 52, 46)], Cond.classLink RL 42 "java/lang/IndexOutOfBoundsException", Cond.classLink RL 44 "java/lang/IllegalArgumentException", Cond.classLink RL 46 "java/lang/IllegalStateException", Cond.methodLink RL 52 yX4_picture, Cond.instanceMethod yX4_picture, Cond.selects RX4 yX4_picture yX4_picture, Cond.code yX4_picture cX4_picture 5 (some .int), Cond.classLink RX4 36 "java/lang/IllegalStateException", Cond.initialized "java/lang/IllegalStateException", Cond.fieldLink RX4 60 "TesseraeRow" "pictureCount" "I", Cond.instantiable RX3 4, Cond.initialized RX3, Cond.methodLink RX4 28 yX4_needRange, Cond.static yX4_needRange, Cond.code yX4_needRange cX4_needRange 3 none]
def wsL_law0_r3 : List Cond := [Cond.classLink RX4 104 "java/lang/IllegalArgumentException", Cond.initialized "java/lang/IllegalArgumentException", Cond.methodLink RX4 65 yX3_init, Cond.instanceMethod yX3_init, Cond.code yX3_init cX3_init 8 none, Cond.methodLink RX3 3 objectInit, Cond.fieldLink RX3 9 "TesseraeRow$Picture" "number" "I", Cond.fieldLink RX3 15 "TesseraeRow$Picture" "width" "I", Cond.fieldLink RX3 18 "TesseraeRow$Picture" "height" "I", Cond.classLink RX3 21 RX0, Cond.fieldLink RX3 23 "TesseraeRow$Picture" "cells" "[LTesseraeRow$Cell;", Cond.instantiable RX0 10, Cond.initialized RX0, Cond.methodLink RX3 27 yX0_init, Cond.instanceMethod yX0_init, Cond.code yX0_init cX0_init 4 none, Cond.methodLink RX0 3 objectInit, Cond.fieldLink RX0 9 "TesseraeRow$Cell" "kind" "I", Cond.fieldLink RX0 15 "TesseraeRow$Cell" "x" "I", Cond.fieldLink RX0 18 "TesseraeRow$Cell" "y" "I", Cond.fieldLink RX0 21 "TesseraeRow$Cell" "wanted" "I", Cond.methodLink RL 56 yX4_share, Cond.instanceMethod yX4_share, Cond.selects RX4 yX4_share yX4_share]
def wsL_law0_r4 : List Cond := [Cond.code yX4_share cX4_share 7 (some .int), Cond.methodLink RX4 88 yX4_needPicture, Cond.instanceMethod yX4_needPicture, Cond.selects RX4 yX4_needPicture yX4_needPicture, Cond.code yX4_needPicture cX4_needPicture 3 (some (.object "TesseraeRow$Picture")), Cond.classLink RX4 184 "java/lang/IndexOutOfBoundsException", Cond.initialized "java/lang/IndexOutOfBoundsException", Cond.methodLink RX4 47 yX4_needLot, Cond.instanceMethod yX4_needLot, Cond.selects RX4 yX4_needLot yX4_needLot, Cond.code yX4_needLot cX4_needLot 3 (some (.object "TesseraeRow$Lot")), Cond.methodLink RX4 109 yX3_giveOddCells, Cond.instanceMethod yX3_giveOddCells, Cond.selects RX3 yX3_giveOddCells yX3_giveOddCells, Cond.code yX3_giveOddCells cX3_giveOddCells 8 (some .int), Cond.fieldLink RX3 78 "TesseraeRow$Cell" "x" "I", Cond.fieldLink RX3 81 "TesseraeRow$Cell" "y" "I", Cond.methodLink RX3 100 yX0_isPromised, Cond.instanceMethod yX0_isPromised, Cond.selects RX0 yX0_isPromised yX0_isPromised, Cond.code yX0_isPromised cX0_isPromised 2 (some .boolean), Cond.fieldLink RX0 24 "TesseraeRow$Cell" "lot" "LTesseraeRow$Lot;", Cond.methodLink RX3 61 yX2_canPromise, Cond.instanceMethod yX2_canPromise]
def wsL_law0_r5 : List Cond := [Cond.selects RX2 yX2_canPromise yX2_canPromise, Cond.initialized RX2, Cond.code yX2_canPromise cX2_canPromise 1 (some .boolean), Cond.fieldLink RX2 23 "TesseraeRow$Lot" "isThere" "Z", Cond.fieldLink RX2 17 "TesseraeRow$Lot" "left" "I", Cond.methodLink RX3 33 yX0_takeBack, Cond.instanceMethod yX0_takeBack, Cond.selects RX0 yX0_takeBack yX0_takeBack, Cond.code yX0_takeBack cX0_takeBack 1 none, Cond.fieldLink RX0 33 "TesseraeRow$Lot" "promised" "I", Cond.fieldLink RX0 28 "TesseraeRow$Lot" "left" "I", Cond.methodLink RX3 74 yX0_promise, Cond.instanceMethod yX0_promise, Cond.selects RX0 yX0_promise yX0_promise, Cond.code yX0_promise cX0_promise 2 none, Cond.methodLink RL 59 yX4_crew, Cond.instanceMethod yX4_crew, Cond.selects RX4 yX4_crew yX4_crew, Cond.code yX4_crew cX4_crew 6 (some .int), Cond.fieldLink RX4 124 "TesseraeRow$Crew" "rate" "I", Cond.fieldLink RX4 127 "TesseraeRow$Crew" "dry" "I", Cond.methodLink RX4 113 yX4_needCrew, Cond.instanceMethod yX4_needCrew, Cond.selects RX4 yX4_needCrew yX4_needCrew]
def wsL_law0_r6 : List Cond := [Cond.code yX4_needCrew cX4_needCrew 3 (some (.object "TesseraeRow$Crew")), Cond.methodLink RL 81 yL_cell, Cond.static yL_cell, Cond.codeWith yL_cell cL_cell 7 (some .int) [(0, 45, 46, 42), (0, 45, 52, 44), (0, 45, 58, 46)], Cond.methodLink RL 62 yX4_cell, Cond.instanceMethod yX4_cell, Cond.selects RX4 yX4_cell yX4_cell, Cond.code yX4_cell cX4_cell 7 (some .int), Cond.fieldLink RX4 80 "TesseraeRow$Cell" "wanted" "I", Cond.methodLink RX4 68 yX4_needCell, Cond.instanceMethod yX4_needCell, Cond.selects RX4 yX4_needCell yX4_needCell, Cond.code yX4_needCell cX4_needCell 5 (some (.object "TesseraeRow$Cell")), Cond.methodLink RX4 191 yX3_cellAt, Cond.instanceMethod yX3_cellAt, Cond.selects RX3 yX3_cellAt yX3_cellAt, Cond.code yX3_cellAt cX3_cellAt 3 (some (.object "TesseraeRow$Cell")), Cond.methodLink RX4 72 yX0_isDone, Cond.instanceMethod yX0_isDone, Cond.selects RX0 yX0_isDone yX0_isDone, Cond.code yX0_isDone cX0_isDone 1 (some .boolean), Cond.methodLink RL 66 yX4_old, Cond.instanceMethod yX4_old, Cond.selects RX4 yX4_old yX4_old]
def wsL_law0_r7 : List Cond := [Cond.code yX4_old cX4_old 6 (some .int), Cond.fieldLink RX4 83 "TesseraeRow$Cell" "kind" "I", Cond.methodLink RX4 92 yX3_count, Cond.instanceMethod yX3_count, Cond.selects RX3 yX3_count yX3_count, Cond.code yX3_count cX3_count 7 (some .int), Cond.fieldLink RX3 30 "TesseraeRow$Cell" "kind" "I", Cond.methodLink RL 69 yX4_ofCell, Cond.instanceMethod yX4_ofCell, Cond.selects RX4 yX4_ofCell yX4_ofCell, Cond.code yX4_ofCell cX4_ofCell 6 (some .int), Cond.fieldLink RX4 146 "TesseraeRow$Cell" "lot" "LTesseraeRow$Lot;", Cond.fieldLink RX4 150 "TesseraeRow$Lot" "number" "I", Cond.fieldLink RX4 153 "TesseraeRow$Cell" "aim" "F", Cond.fieldLink RX4 161 "TesseraeRow$Cell" "laidAt" "I", Cond.methodLink RX4 157 yX4_bitsOf, Cond.static yX4_bitsOf, Cond.code yX4_bitsOf cX4_bitsOf 4 (some .int), Cond.constantFloat RX4 199 (1056964608), Cond.constantFloat RX4 200 (1258291200), Cond.constant RX4 201 (-2147483648), Cond.methodLink RL 95 yL_adds, Cond.static yL_adds, Cond.codeWith yL_adds cL_adds 6 (some .int) [(0, 9, 10, 44), (0, 9, 16, 46)]]
def wsL_law0_r8 : List Cond := [Cond.methodLink RL 48 yX4_lot, Cond.instanceMethod yX4_lot, Cond.selects RX4 yX4_lot yX4_lot, Cond.code yX4_lot cX4_lot 6 (some .int), Cond.fieldLink RX4 32 "TesseraeRow" "lotCount" "I", Cond.instantiable RX2 7, Cond.constantFloat RX4 43 (1120403456), Cond.methodLink RX4 44 yX2_init, Cond.instanceMethod yX2_init, Cond.code yX2_init cX2_init 6 none, Cond.methodLink RX2 1 objectInit, Cond.fieldLink RX2 7 "TesseraeRow$Lot" "number" "I", Cond.fieldLink RX2 13 "TesseraeRow$Lot" "tone" "F", Cond.fieldLink RX2 20 "TesseraeRow$Lot" "material" "I", Cond.methodLink RL 75 yL_does, Cond.static yL_does, Cond.codeWith yL_does cL_does 5 (some .int) [(0, 129, 130, 42), (0, 129, 136, 44), (0, 129, 142, 46)], Cond.methodLink RL 8 yX4_comes, Cond.instanceMethod yX4_comes, Cond.selects RX4 yX4_comes yX4_comes, Cond.code yX4_comes cX4_comes 3 (some .int), Cond.fieldLink RX4 51 "TesseraeRow$Lot" "isThere" "Z", Cond.fieldLink RX4 57 "TesseraeRow$Lot" "left" "I", Cond.methodLink RL 14 yX4_fill]
def wsL_law0_r9 : List Cond := [Cond.instanceMethod yX4_fill, Cond.selects RX4 yX4_fill yX4_fill, Cond.code yX4_fill cX4_fill 2 (some .int), Cond.methodLink RX4 96 yX3_fillGaps, Cond.instanceMethod yX3_fillGaps, Cond.selects RX3 yX3_fillGaps yX3_fillGaps, Cond.code yX3_fillGaps cX3_fillGaps 5 (some .int), Cond.fieldLink RX3 107 "TesseraeRow$Cell" "round" "I", Cond.methodLink RX3 104 yX0_isDone, Cond.methodLink RX3 110 yX3_fillRound, Cond.instanceMethod yX3_fillRound, Cond.selects RX3 yX3_fillRound yX3_fillRound, Cond.code yX3_fillRound cX3_fillRound 7 (some .int), Cond.methodLink RX3 114 yX3_fillCell, Cond.instanceMethod yX3_fillCell, Cond.selects RX3 yX3_fillCell yX3_fillCell, Cond.code yX3_fillCell cX3_fillCell 8 (some .boolean), Cond.fieldLink RX3 39 "TesseraeRow$Cell" "wanted" "I", Cond.methodLink RX3 92 yX3_cellAt, Cond.methodLink RL 17 yX4_design, Cond.instanceMethod yX4_design, Cond.selects RX4 yX4_design yX4_design, Cond.code yX4_design cX4_design 3 (some .int), Cond.methodLink RX4 100 yX3_designFrom]
def wsL_law0_r10 : List Cond := [Cond.instanceMethod yX3_designFrom, Cond.selects RX3 yX3_designFrom yX3_designFrom, Cond.code yX3_designFrom cX3_designFrom 6 none, Cond.fieldLink RX3 42 "TesseraeRow$Cell" "brought" "F", Cond.fieldLink RX3 46 "TesseraeRow$Cell" "aim" "F", Cond.methodLink RX3 36 yX3_forgetBrought, Cond.instanceMethod yX3_forgetBrought, Cond.selects RX3 yX3_forgetBrought yX3_forgetBrought, Cond.code yX3_forgetBrought cX3_forgetBrought 5 none, Cond.methodLink RX3 49 yX3_promiseNearest, Cond.static yX3_promiseNearest, Cond.code yX3_promiseNearest cX3_promiseNearest 9 none, Cond.fieldLink RX3 67 "TesseraeRow$Lot" "tone" "F", Cond.methodLink RX3 70 yX3_distance, Cond.static yX3_distance, Cond.code yX3_distance cX3_distance 3 (some .float), Cond.methodLink RX3 53 yX0_lackBehind, Cond.instanceMethod yX0_lackBehind, Cond.selects RX0 yX0_lackBehind yX0_lackBehind, Cond.code yX0_lackBehind cX0_lackBehind 2 (some .float), Cond.fieldLink RX0 45 "TesseraeRow$Lot" "tone" "F", Cond.methodLink RX3 57 yX3_passOn, Cond.instanceMethod yX3_passOn, Cond.selects RX3 yX3_passOn yX3_passOn]
def wsL_law0_r11 : List Cond := [Cond.code yX3_passOn cX3_passOn 3 none, Cond.constantFloat RX3 84 (1054867456), Cond.constantFloat RX3 89 (1044381696), Cond.constantFloat RX3 90 (1050673152), Cond.constantFloat RX3 91 (1031798784), Cond.methodLink RX3 85 yX3_bringTo, Cond.instanceMethod yX3_bringTo, Cond.selects RX3 yX3_bringTo yX3_bringTo, Cond.code yX3_bringTo cX3_bringTo 5 none, Cond.methodLink RX3 96 yX0_bring, Cond.instanceMethod yX0_bring, Cond.selects RX0 yX0_bring yX0_bring, Cond.code yX0_bring cX0_bring 2 none, Cond.fieldLink RX0 49 "TesseraeRow$Cell" "brought" "F", Cond.methodLink RL 20 yX4_send, Cond.instanceMethod yX4_send, Cond.selects RX4 yX4_send yX4_send, Cond.code yX4_send cX4_send 6 (some .int), Cond.fieldLink RX4 120 "TesseraeRow$Crew" "at" "LTesseraeRow$Picture;", Cond.methodLink RX4 117 yX1_pictureNumber, Cond.instanceMethod yX1_pictureNumber, Cond.selects RX1 yX1_pictureNumber yX1_pictureNumber, Cond.code yX1_pictureNumber cX1_pictureNumber 1 (some .int), Cond.fieldLink RX1 27 "TesseraeRow$Crew" "at" "LTesseraeRow$Picture;"]
def wsL_law0_r12 : List Cond := [Cond.fieldLink RX1 31 "TesseraeRow$Picture" "number" "I", Cond.methodLink RL 24 yX4_tray, Cond.instanceMethod yX4_tray, Cond.selects RX4 yX4_tray yX4_tray, Cond.code yX4_tray cX4_tray 5 (some .int), Cond.fieldLink RX4 130 "TesseraeRow$Crew" "onTray" "I", Cond.fieldLink RX4 133 "TesseraeRow$Crew" "material" "I", Cond.methodLink RL 27 yX4_pass, Cond.instanceMethod yX4_pass, Cond.selects RX4 yX4_pass yX4_pass, Cond.code yX4_pass cX4_pass 5 (some .int), Cond.fieldLink RX4 140 "TesseraeRow" "now" "I", Cond.methodLink RX4 143 yX1_layFor, Cond.instanceMethod yX1_layFor, Cond.selects RX1 yX1_layFor yX1_layFor, Cond.code yX1_layFor cX1_layFor 3 (some .int), Cond.fieldLink RX1 48 "TesseraeRow$Crew" "laid" "I", Cond.methodLink RX1 44 yX1_layNext, Cond.instanceMethod yX1_layNext, Cond.selects RX1 yX1_layNext yX1_layNext, Cond.code yX1_layNext cX1_layNext 3 (some .boolean), Cond.fieldLink RX1 55 "TesseraeRow$Cell" "kind" "I", Cond.fieldLink RX1 60 "TesseraeRow$Cell" "lot" "LTesseraeRow$Lot;", Cond.fieldLink RX1 64 "TesseraeRow$Cell" "y" "I"]
def wsL_law0_r13 : List Cond := [Cond.methodLink RX1 51 yX3_firstUndone, Cond.instanceMethod yX3_firstUndone, Cond.selects RX3 yX3_firstUndone yX3_firstUndone, Cond.code yX3_firstUndone cX3_firstUndone 5 (some (.object "TesseraeRow$Cell")), Cond.methodLink RX1 39 yX1_hasOnTray, Cond.instanceMethod yX1_hasOnTray, Cond.selects RX1 yX1_hasOnTray yX1_hasOnTray, Cond.code yX1_hasOnTray cX1_hasOnTray 3 (some .boolean), Cond.fieldLink RX1 36 "TesseraeRow$Crew" "onTray" "I", Cond.methodLink RX1 67 yX3_isDryRow, Cond.instanceMethod yX3_isDryRow, Cond.selects RX3 yX3_isDryRow yX3_isDryRow, Cond.code yX3_isDryRow cX3_isDryRow 6 (some .boolean), Cond.fieldLink RX3 118 "TesseraeRow$Cell" "laidAt" "I", Cond.fieldLink RX3 121 "TesseraeRow$Cell" "dryAt" "I", Cond.methodLink RX1 71 yX0_lay, Cond.instanceMethod yX0_lay, Cond.selects RX0 yX0_lay yX0_lay, Cond.code yX0_lay cX0_lay 3 none, Cond.fieldLink RX0 36 "TesseraeRow$Lot" "laid" "I", Cond.fieldLink RX0 39 "TesseraeRow$Cell" "laidAt" "I", Cond.fieldLink RX0 42 "TesseraeRow$Cell" "dryAt" "I", Cond.methodLink RL 30 yX4_edge, Cond.instanceMethod yX4_edge]
def wsL_law0_r14 : List Cond := [Cond.selects RX4 yX4_edge yX4_edge, Cond.code yX4_edge cX4_edge 2 (some .int), Cond.methodLink RX4 168 yX3_greatestEdge, Cond.instanceMethod yX3_greatestEdge, Cond.selects RX3 yX3_greatestEdge yX3_greatestEdge, Cond.code yX3_greatestEdge cX3_greatestEdge 9 (some .float), Cond.methodLink RX3 124 yX3_edgeBetween, Cond.static yX3_edgeBetween, Cond.code yX3_edgeBetween cX3_edgeBetween 4 (some .float), Cond.methodLink RX3 128 yX0_stoneTone, Cond.instanceMethod yX0_stoneTone, Cond.selects RX0 yX0_stoneTone yX0_stoneTone, Cond.code yX0_stoneTone cX0_stoneTone 1 (some .float), Cond.methodLink RL 33 yX4_ofLot, Cond.instanceMethod yX4_ofLot, Cond.selects RX4 yX4_ofLot yX4_ofLot, Cond.code yX4_ofLot cX4_ofLot 4 (some .int), Cond.fieldLink RX4 172 "TesseraeRow$Lot" "promised" "I", Cond.fieldLink RX4 175 "TesseraeRow$Lot" "laid" "I", Cond.fieldLink RX4 178 "TesseraeRow$Lot" "tone" "F", Cond.methodLink RL 36 yX4_ofPicture, Cond.instanceMethod yX4_ofPicture, Cond.selects RX4 yX4_ofPicture yX4_ofPicture, Cond.code yX4_ofPicture cX4_ofPicture 4 (some .int)]
def wsL_law0_r15 : List Cond := [Cond.methodLink RL 39 yX4_ofCrew, Cond.instanceMethod yX4_ofCrew, Cond.selects RX4 yX4_ofCrew yX4_ofCrew, Cond.code yX4_ofCrew cX4_ofCrew 4 (some .int), Cond.fieldLink RX4 181 "TesseraeRow$Crew" "laid" "I", Cond.methodLink RL 99 yL_areAlike, Cond.static yL_areAlike, Cond.code yL_areAlike cL_areAlike 10 (some .boolean), Cond.methodLink RL 84 yL_aimAnew, Cond.static yL_aimAnew, Cond.codeWith yL_aimAnew cL_aimAnew 5 (some .int) [(0, 7, 8, 42)], Cond.methodLink RL 72 yX4_aimAnew, Cond.instanceMethod yX4_aimAnew, Cond.selects RX4 yX4_aimAnew yX4_aimAnew, Cond.code yX4_aimAnew cX4_aimAnew 5 (some .int), Cond.methodLink RX4 164 yX3_aimByNow, Cond.instanceMethod yX3_aimByNow, Cond.selects RX3 yX3_aimByNow yX3_aimByNow, Cond.code yX3_aimByNow cX3_aimByNow 7 (some .float)]
def wsL_law0 : List Cond := (wsL_law0_r1 ++ (wsL_law0_r2 ++ (wsL_law0_r3 ++ (wsL_law0_r4 ++ (wsL_law0_r5 ++ (wsL_law0_r6 ++ (wsL_law0_r7 ++ (wsL_law0_r8 ++ (wsL_law0_r9 ++ (wsL_law0_r10 ++ (wsL_law0_r11 ++ (wsL_law0_r12 ++ (wsL_law0_r13 ++ (wsL_law0_r14 ++ wsL_law0_r15)))))))))))))) ++ wsX40 ++ wsX10 ++ wsX30 ++ wsX00 ++ wsX20 ++ ([] : List Cond)
def wsL_law : List Cond := wsL_law0 ++ (vx_atS RX4 40 "java/lang/IllegalStateException" ["java/lang/RuntimeException", "java/lang/Exception"]).filter goodWord ++ (vx_atS RX4 108 "java/lang/IllegalArgumentException" ["java/lang/RuntimeException", "java/lang/Exception"]).filter goodWord ++ (vx_atS RX4 188 "java/lang/IndexOutOfBoundsException" ["java/lang/RuntimeException", "java/lang/Exception"]).filter goodWord
set_option maxRecDepth 100000 in
theorem wsL_law0_r1_in : ∀ w ∈ wsL_law0_r1, w ∈ lw_tbl := fun w h => (goodIn_p wsL_law0_r1 [27, 30, 40] (by decide +kernel) (by decide +kernel) w h).1
set_option maxRecDepth 100000 in
theorem wsL_law0_r2_in : ∀ w ∈ wsL_law0_r2, w ∈ lw_tbl := fun w h => (goodIn_p wsL_law0_r2 [92, 424, 295] (by decide +kernel) (by decide +kernel) w h).1
set_option maxRecDepth 100000 in
theorem wsL_law0_r3_in : ∀ w ∈ wsL_law0_r3, w ∈ lw_tbl := fun w h => (goodIn_p wsL_law0_r3 [428, 435] (by decide +kernel) (by decide +kernel) w h).1
set_option maxRecDepth 100000 in
theorem wsL_law0_r4_in : ∀ w ∈ wsL_law0_r4, w ∈ lw_tbl := fun w h => (goodIn_p wsL_law0_r4 [500, 199, 107, 505, 509] (by decide +kernel) (by decide +kernel) w h).1
set_option maxRecDepth 100000 in
theorem wsL_law0_r5_in : ∀ w ∈ wsL_law0_r5, w ∈ lw_tbl := fun w h => (goodIn_p wsL_law0_r5 [244, 233, 251, 513] (by decide +kernel) (by decide +kernel) w h).1
set_option maxRecDepth 100000 in
theorem wsL_law0_r6_in : ∀ w ∈ wsL_law0_r6, w ∈ lw_tbl := fun w h => (goodIn_p wsL_law0_r6 [283, 520, 524, 221, 208] (by decide +kernel) (by decide +kernel) w h).1
set_option maxRecDepth 100000 in
theorem wsL_law0_r7_in : ∀ w ∈ wsL_law0_r7, w ∈ lw_tbl := fun w h => (goodIn_p wsL_law0_r7 [532, 275, 537, 357] (by decide +kernel) (by decide +kernel) w h).1
set_option maxRecDepth 100000 in
theorem wsL_law0_r8_in : ∀ w ∈ wsL_law0_r8, w ∈ lw_tbl := fun w h => (goodIn_p wsL_law0_r8 [379, 385, 103] (by decide +kernel) (by decide +kernel) w h).1
set_option maxRecDepth 100000 in
theorem wsL_law0_r9_in : ∀ w ∈ wsL_law0_r9, w ∈ lw_tbl := fun w h => (goodIn_p wsL_law0_r9 [195, 204, 213, 217, 225] (by decide +kernel) (by decide +kernel) w h).1
set_option maxRecDepth 100000 in
theorem wsL_law0_r10_in : ∀ w ∈ wsL_law0_r10, w ∈ lw_tbl := fun w h => (goodIn_p wsL_law0_r10 [229, 237, 240, 247, 255] (by decide +kernel) (by decide +kernel) w h).1
set_option maxRecDepth 100000 in
theorem wsL_law0_r11_in : ∀ w ∈ wsL_law0_r11, w ∈ lw_tbl := fun w h => (goodIn_p wsL_law0_r11 [259, 264, 268, 279, 288] (by decide +kernel) (by decide +kernel) w h).1
set_option maxRecDepth 100000 in
theorem wsL_law0_r12_in : ∀ w ∈ wsL_law0_r12, w ∈ lw_tbl := fun w h => (goodIn_p wsL_law0_r12 [292, 315, 319, 323] (by decide +kernel) (by decide +kernel) w h).1
set_option maxRecDepth 100000 in
theorem wsL_law0_r13_in : ∀ w ∈ wsL_law0_r13, w ∈ lw_tbl := fun w h => (goodIn_p wsL_law0_r13 [327, 331, 335, 339] (by decide +kernel) (by decide +kernel) w h).1
set_option maxRecDepth 100000 in
theorem wsL_law0_r14_in : ∀ w ∈ wsL_law0_r14, w ∈ lw_tbl := fun w h => (goodIn_p wsL_law0_r14 [343, 347, 350, 354, 364, 368] (by decide +kernel) (by decide +kernel) w h).1
set_option maxRecDepth 100000 in
theorem wsL_law0_r15_in : ∀ w ∈ wsL_law0_r15, w ∈ lw_tbl := fun w h => (goodIn_p wsL_law0_r15 [372, 540, 547, 551] (by decide +kernel) (by decide +kernel) w h).1
set_option maxRecDepth 100000 in
theorem wsX00_in : ∀ w ∈ wsX00, w ∈ lw_tbl := by decide +kernel
set_option maxRecDepth 100000 in
theorem wsX10_in : ∀ w ∈ wsX10, w ∈ lw_tbl := by decide +kernel
set_option maxRecDepth 100000 in
theorem wsX20_in : ∀ w ∈ wsX20, w ∈ lw_tbl := by decide +kernel
set_option maxRecDepth 100000 in
theorem wsX30_in : ∀ w ∈ wsX30, w ∈ lw_tbl := by decide +kernel
set_option maxRecDepth 100000 in
theorem wsX40_in : ∀ w ∈ wsX40, w ∈ lw_tbl := by decide +kernel
set_option maxRecDepth 100000 in
theorem wsX50_in : ∀ w ∈ wsX50, w ∈ lw_tbl := by decide +kernel
theorem wsL_law_in0 : ∀ w ∈ wsL_law0, w ∈ lw_tbl := (List.forall_mem_append.mpr ⟨(List.forall_mem_append.mpr ⟨(List.forall_mem_append.mpr ⟨(List.forall_mem_append.mpr ⟨(List.forall_mem_append.mpr ⟨(List.forall_mem_append.mpr ⟨(List.forall_mem_append.mpr ⟨wsL_law0_r1_in, (List.forall_mem_append.mpr ⟨wsL_law0_r2_in, (List.forall_mem_append.mpr ⟨wsL_law0_r3_in, (List.forall_mem_append.mpr ⟨wsL_law0_r4_in, (List.forall_mem_append.mpr ⟨wsL_law0_r5_in, (List.forall_mem_append.mpr ⟨wsL_law0_r6_in, (List.forall_mem_append.mpr ⟨wsL_law0_r7_in, (List.forall_mem_append.mpr ⟨wsL_law0_r8_in, (List.forall_mem_append.mpr ⟨wsL_law0_r9_in, (List.forall_mem_append.mpr ⟨wsL_law0_r10_in, (List.forall_mem_append.mpr ⟨wsL_law0_r11_in, (List.forall_mem_append.mpr ⟨wsL_law0_r12_in, (List.forall_mem_append.mpr ⟨wsL_law0_r13_in, (List.forall_mem_append.mpr ⟨wsL_law0_r14_in, wsL_law0_r15_in⟩)⟩)⟩)⟩)⟩)⟩)⟩)⟩)⟩)⟩)⟩)⟩)⟩)⟩), wsX40_in⟩), wsX10_in⟩), wsX30_in⟩), wsX00_in⟩), wsX20_in⟩), fun _ h => absurd h List.not_mem_nil⟩)
theorem wsL_law_x0 : ∀ w ∈ (vx_atS RX4 40 "java/lang/IllegalStateException" ["java/lang/RuntimeException", "java/lang/Exception"]).filter goodWord, w ∈ lw_tbl := by decide +kernel
theorem wsL_law_x1 : ∀ w ∈ (vx_atS RX4 108 "java/lang/IllegalArgumentException" ["java/lang/RuntimeException", "java/lang/Exception"]).filter goodWord, w ∈ lw_tbl := by decide +kernel
theorem wsL_law_x2 : ∀ w ∈ (vx_atS RX4 188 "java/lang/IndexOutOfBoundsException" ["java/lang/RuntimeException", "java/lang/Exception"]).filter goodWord, w ∈ lw_tbl := by decide +kernel
theorem wsL_law_in : ∀ w ∈ wsL_law, w ∈ lw_tbl := fun w h => (List.mem_append.mp h).elim (fun h => (List.mem_append.mp h).elim (fun h => (List.mem_append.mp h).elim (fun h => wsL_law_in0 w h) (fun h => wsL_law_x0 w h)) (fun h => wsL_law_x1 w h)) (fun h => wsL_law_x2 w h)
theorem inlX0 : ∀ w ∈ wsX00, w ∈ wsL_law := fun _ h => List.mem_append_left _ (List.mem_append_left _ (List.mem_append_left _ (List.mem_append_left _ (List.mem_append_left _ (List.mem_append_right _ h)))))
theorem inX0 : ∀ w ∈ wsX00, w ∈ lw_tbl := fun w h => wsL_law_in w (inlX0 w h)
theorem inlX1 : ∀ w ∈ wsX10, w ∈ wsL_law := fun _ h => List.mem_append_left _ (List.mem_append_left _ (List.mem_append_left _ (List.mem_append_left _ (List.mem_append_left _ (List.mem_append_left _ (List.mem_append_left _ (List.mem_append_right _ h)))))))
theorem inX1 : ∀ w ∈ wsX10, w ∈ lw_tbl := fun w h => wsL_law_in w (inlX1 w h)
theorem inlX2 : ∀ w ∈ wsX20, w ∈ wsL_law := fun _ h => List.mem_append_left _ (List.mem_append_left _ (List.mem_append_left _ (List.mem_append_left _ (List.mem_append_right _ h))))
theorem inX2 : ∀ w ∈ wsX20, w ∈ lw_tbl := fun w h => wsL_law_in w (inlX2 w h)
theorem inlX3 : ∀ w ∈ wsX30, w ∈ wsL_law := fun _ h => List.mem_append_left _ (List.mem_append_left _ (List.mem_append_left _ (List.mem_append_left _ (List.mem_append_left _ (List.mem_append_left _ (List.mem_append_right _ h))))))
theorem inX3 : ∀ w ∈ wsX30, w ∈ lw_tbl := fun w h => wsL_law_in w (inlX3 w h)
theorem inlX4 : ∀ w ∈ wsX40, w ∈ wsL_law := fun _ h => List.mem_append_left _ (List.mem_append_left _ (List.mem_append_left _ (List.mem_append_left _ (List.mem_append_left _ (List.mem_append_left _ (List.mem_append_left _ (List.mem_append_left _ (List.mem_append_right _ h))))))))
theorem inX4 : ∀ w ∈ wsX40, w ∈ lw_tbl := fun w h => wsL_law_in w (inlX4 w h)
theorem inX5 : ∀ w ∈ wsX50, w ∈ lw_tbl := by decide +kernel
theorem dL_drawn_0 : decode cL_drawn 0 = .ok (.iload_n 1, 1) := by decide +kernel
theorem dL_drawn_1 : decode cL_drawn 1 = .ok (.aload_n 0, 1) := by decide +kernel
theorem dL_drawn_2 : decode cL_drawn 2 = .ok (.arraylength, 1) := by decide +kernel
theorem dL_drawn_3 : decode cL_drawn 3 = .ok (.if_icmp .ge 9, 3) := by decide +kernel
theorem dL_drawn_6 : decode cL_drawn 6 = .ok (.aload_n 0, 1) := by decide +kernel
theorem dL_drawn_7 : decode cL_drawn 7 = .ok (.iload_n 1, 1) := by decide +kernel
theorem dL_drawn_8 : decode cL_drawn 8 = .ok (.iaload, 1) := by decide +kernel
theorem dL_drawn_9 : decode cL_drawn 9 = .ok (.goto 12, 3) := by decide +kernel
theorem dL_drawn_12 : decode cL_drawn 12 = .ok (.sipush 14621, 3) := by decide +kernel
theorem dL_drawn_15 : decode cL_drawn 15 = .ok (.iload_n 1, 1) := by decide +kernel
theorem dL_drawn_16 : decode cL_drawn 16 = .ok (.imul, 1) := by decide +kernel
theorem dL_drawn_17 : decode cL_drawn 17 = .ok (.sipush 11027, 3) := by decide +kernel
theorem dL_drawn_20 : decode cL_drawn 20 = .ok (.iadd, 1) := by decide +kernel
theorem dL_drawn_21 : decode cL_drawn 21 = .ok (.istore_n 2, 1) := by decide +kernel
theorem dL_drawn_22 : decode cL_drawn 22 = .ok (.iload_n 2, 1) := by decide +kernel
theorem dL_drawn_23 : decode cL_drawn 23 = .ok (.ldc 7, 2) := by decide +kernel
theorem dL_drawn_25 : decode cL_drawn 25 = .ok (.iand, 1) := by decide +kernel
theorem dL_drawn_26 : decode cL_drawn 26 = .ok (.ireturn, 1) := by decide +kernel
set_option maxRecDepth 20000 in
theorem ggL_does_X4_comes : GoodIn wsL_does wsX4_comes := goodIn_ca (goodIn_ca (goodIn_r _ [8, 9, 10, 11, 12, 13, 14, 15, 7, 16, 17, 18, 19, 233, 234, 235, 236, 237, 238, 239, 240, 241, 242, 243, 244, 245] (by decide +kernel) (by decide +kernel)) (goodIn_sub (fun _ h => List.mem_cons_of_mem _ (List.mem_append_left _ (List.mem_append_left _ (List.mem_append_right _ h)))) (by decide +kernel))) (goodIn_sub (fun _ h => List.mem_cons_of_mem _ (List.mem_append_left _ (List.mem_append_right _ h))) (by decide +kernel))
set_option maxRecDepth 20000 in
theorem gL_does_X4_comes : GoodIn wsL_does (wsV RL 8 RX4 yX4_comes wsX4_comes) := goodIn_app (goodIn_of _ (by decide +kernel)) ggL_does_X4_comes
set_option maxRecDepth 20000 in
theorem ggL_does_X4_fill : GoodIn wsL_does wsX4_fill := goodIn_ca (goodIn_r _ [23, 24, 25, 26, 7, 27, 17, 18, 28, 29, 30, 31, 32, 33, 34, 35, 36, 37, 38, 39, 40, 41, 42, 43, 44, 45, 46, 47, 48, 49, 50, 51, 52, 53, 54, 55, 56, 57, 58, 240, 241, 242, 243, 244, 245, 246, 247, 248, 249, 250, 251, 252, 253, 254, 255, 256, 257, 258, 259] (by decide +kernel) (by decide +kernel)) (goodIn_sub (fun _ h => List.mem_cons_of_mem _ (List.mem_append_left _ (List.mem_append_right _ h))) (by decide +kernel))
set_option maxRecDepth 20000 in
theorem gL_does_X4_fill : GoodIn wsL_does (wsV RL 14 RX4 yX4_fill wsX4_fill) := goodIn_app (goodIn_of _ (by decide +kernel)) ggL_does_X4_fill
set_option maxRecDepth 20000 in
theorem ggL_does_X4_design : GoodIn wsL_does wsX4_design := goodIn_ca (goodIn_r _ [62, 19, 24, 25, 26, 7, 27, 17, 18, 28, 63, 64, 65, 32, 66, 34, 52, 67, 68, 69, 70, 71, 72, 39, 73, 41, 74, 75, 76, 77, 78, 79, 80, 81, 82, 83, 84, 85, 86, 87, 88, 89, 90, 91, 92, 93, 94, 95, 96, 97, 98, 99, 100, 101, 102, 103, 104, 105, 106, 107, 51, 50, 108, 109, 110, 111, 112, 113, 114, 115, 53, 54, 55, 56, 57, 58, 116, 117, 118, 119, 120, 121, 122, 123, 124, 240, 241, 242, 243, 244, 245, 246, 247, 248, 249, 250, 251, 252, 253, 254, 255, 256, 257, 258, 259, 233, 234, 235, 236, 237, 238, 239] (by decide +kernel) (by decide +kernel)) (goodIn_sub (fun _ h => List.mem_cons_of_mem _ (List.mem_append_left _ (List.mem_append_right _ h))) (by decide +kernel))
set_option maxRecDepth 20000 in
theorem gL_does_X4_design : GoodIn wsL_does (wsV RL 17 RX4 yX4_design wsX4_design) := goodIn_app (goodIn_of _ (by decide +kernel)) ggL_does_X4_design
set_option maxRecDepth 20000 in
theorem ggL_does_X4_send : GoodIn wsL_does wsX4_send := goodIn_ca (goodIn_r _ [128, 129, 130, 131, 132, 7, 133, 17, 18, 134, 24, 25, 26, 27, 28, 135, 136, 137, 138, 139, 140, 141, 260, 261, 262, 263, 264, 265, 266, 240, 241, 242, 243, 244, 245, 246, 247, 248, 249] (by decide +kernel) (by decide +kernel)) (goodIn_sub (fun _ h => List.mem_cons_of_mem _ (List.mem_append_left _ (List.mem_append_right _ h))) (by decide +kernel))
set_option maxRecDepth 20000 in
theorem gL_does_X4_send : GoodIn wsL_does (wsV RL 20 RX4 yX4_send wsX4_send) := goodIn_app (goodIn_of _ (by decide +kernel)) ggL_does_X4_send
set_option maxRecDepth 20000 in
theorem ggL_does_X4_tray : GoodIn wsL_does wsX4_tray := goodIn_ca (goodIn_ca (goodIn_r _ [145, 146, 147, 130, 131, 132, 7, 133, 17, 18, 134, 148, 149, 150, 151, 152, 260, 261, 262, 263, 264, 265, 266, 240, 241, 242, 243, 244, 245] (by decide +kernel) (by decide +kernel)) (goodIn_sub (fun _ h => List.mem_cons_of_mem _ (List.mem_append_left _ (List.mem_append_right _ h))) (by decide +kernel))) (goodIn_sub (fun _ h => List.mem_cons_of_mem _ (List.mem_append_right _ h)) (by decide +kernel))
set_option maxRecDepth 20000 in
theorem gL_does_X4_tray : GoodIn wsL_does (wsV RL 24 RX4 yX4_tray wsX4_tray) := goodIn_app (goodIn_of _ (by decide +kernel)) ggL_does_X4_tray
set_option maxRecDepth 20000 in
theorem ggL_does_X4_pass : GoodIn wsL_does wsX4_pass := goodIn_ca (goodIn_ca (goodIn_r _ [156, 157, 148, 149, 7, 150, 151, 152, 130, 131, 132, 133, 17, 18, 134, 158, 159, 160, 138, 161, 162, 163, 164, 165, 166, 167, 140, 168, 169, 170, 171, 172, 173, 174, 32, 175, 34, 36, 37, 38, 39, 40, 41, 176, 177, 178, 179, 180, 181, 182, 183, 184, 185, 57, 69, 186, 187, 53, 54, 55, 56, 58, 188, 189, 190, 191, 74, 75, 192, 193, 194, 240, 241, 242, 243, 244, 245, 260, 261, 262, 263, 264, 265, 266, 250, 251, 252, 253, 254, 255, 256, 257, 258, 259, 246, 247, 248, 249, 233, 234, 235, 236, 237, 238, 239] (by decide +kernel) (by decide +kernel)) (goodIn_sub (fun _ h => List.mem_cons_of_mem _ (List.mem_append_right _ h)) (by decide +kernel))) (goodIn_sub (fun _ h => List.mem_cons_of_mem _ (List.mem_append_left _ (List.mem_append_right _ h))) (by decide +kernel))
set_option maxRecDepth 20000 in
theorem gL_does_X4_pass : GoodIn wsL_does (wsV RL 27 RX4 yX4_pass wsX4_pass) := goodIn_app (goodIn_of _ (by decide +kernel)) ggL_does_X4_pass
set_option maxRecDepth 20000 in
theorem ggL_does_X4_edge : GoodIn wsL_does wsX4_edge := goodIn_ca (goodIn_r _ [198, 24, 25, 26, 7, 27, 17, 18, 28, 199, 200, 201, 32, 202, 34, 51, 50, 53, 54, 55, 56, 57, 58, 203, 204, 205, 69, 52, 206, 207, 208, 39, 209, 74, 210, 103, 92, 93, 94, 211, 212, 213, 214, 215, 216, 240, 241, 242, 243, 244, 245, 246, 247, 248, 249, 250, 251, 252, 253, 254, 255, 256, 257, 258, 259, 233, 234, 235, 236, 237, 238, 239] (by decide +kernel) (by decide +kernel)) (goodIn_sub (fun _ h => List.mem_cons_of_mem _ (List.mem_append_left _ (List.mem_append_right _ h))) (by decide +kernel))
set_option maxRecDepth 20000 in
theorem gL_does_X4_edge : GoodIn wsL_does (wsV RL 30 RX4 yX4_edge wsX4_edge) := goodIn_app (goodIn_of _ (by decide +kernel)) ggL_does_X4_edge
set_option maxRecDepth 20000 in
theorem ggL_does_X4_ofLot : GoodIn wsL_does wsX4_ofLot := goodIn_ca (goodIn_ca (goodIn_r _ [220, 12, 221, 222, 11, 223, 13, 14, 15, 7, 16, 17, 18, 19, 148, 149, 150, 151, 152, 211, 212, 213, 214, 215, 216, 233, 234, 235, 236, 237, 238, 239, 240, 241, 242, 243, 244, 245] (by decide +kernel) (by decide +kernel)) (goodIn_sub (fun _ h => List.mem_cons_of_mem _ (List.mem_append_left _ (List.mem_append_right _ h))) (by decide +kernel))) (goodIn_sub (fun _ h => List.mem_cons_of_mem _ (List.mem_append_right _ h)) (by decide +kernel))
set_option maxRecDepth 20000 in
theorem gL_does_X4_ofLot : GoodIn wsL_does (wsV RL 33 RX4 yX4_ofLot wsX4_ofLot) := goodIn_app (goodIn_of _ (by decide +kernel)) ggL_does_X4_ofLot
set_option maxRecDepth 20000 in
theorem ggL_does_X4_ofPicture : GoodIn wsL_does wsX4_ofPicture := goodIn_ca (goodIn_ca (goodIn_r _ [227, 24, 25, 26, 7, 27, 17, 18, 28, 148, 149, 150, 151, 152, 121, 122, 123, 32, 124, 34, 69, 240, 241, 242, 243, 244, 245, 246, 247, 248, 249, 250, 251, 252, 253, 254, 255, 256, 257, 258, 259] (by decide +kernel) (by decide +kernel)) (goodIn_sub (fun _ h => List.mem_cons_of_mem _ (List.mem_append_left _ (List.mem_append_right _ h))) (by decide +kernel))) (goodIn_sub (fun _ h => List.mem_cons_of_mem _ (List.mem_append_right _ h)) (by decide +kernel))
set_option maxRecDepth 20000 in
theorem gL_does_X4_ofPicture : GoodIn wsL_does (wsV RL 36 RX4 yX4_ofPicture wsX4_ofPicture) := goodIn_app (goodIn_of _ (by decide +kernel)) ggL_does_X4_ofPicture
set_option maxRecDepth 20000 in
theorem ggL_does_X4_ofCrew : GoodIn wsL_does wsX4_ofCrew := goodIn_ca (goodIn_ca (goodIn_r _ [231, 147, 146, 232, 130, 131, 132, 7, 133, 17, 18, 134, 148, 149, 150, 151, 152, 135, 136, 137, 138, 139, 140, 141, 260, 261, 262, 263, 264, 265, 266, 240, 241, 242, 243, 244, 245, 246, 247, 248, 249] (by decide +kernel) (by decide +kernel)) (goodIn_sub (fun _ h => List.mem_cons_of_mem _ (List.mem_append_left _ (List.mem_append_right _ h))) (by decide +kernel))) (goodIn_sub (fun _ h => List.mem_cons_of_mem _ (List.mem_append_right _ h)) (by decide +kernel))
set_option maxRecDepth 20000 in
theorem gL_does_X4_ofCrew : GoodIn wsL_does (wsV RL 39 RX4 yX4_ofCrew wsX4_ofCrew) := goodIn_app (goodIn_of _ (by decide +kernel)) ggL_does_X4_ofCrew
theorem dL_does_0 : decode cL_does 0 = .ok (.iload_n 1, 1) := by decide +kernel
theorem dL_does_1 : decode cL_does 1 = .ok (.ifCond .ne 11, 3) := by decide +kernel
theorem dL_does_4 : decode cL_does 4 = .ok (.aload_n 0, 1) := by decide +kernel
theorem dL_does_5 : decode cL_does 5 = .ok (.iload_n 2, 1) := by decide +kernel
theorem dL_does_6 : decode cL_does 6 = .ok (.invokevirtual 8, 3) := by decide +kernel
theorem dL_does_9 : decode cL_does 9 = .ok (.goto 120, 3) := by decide +kernel
theorem dL_does_12 : decode cL_does 12 = .ok (.iload_n 1, 1) := by decide +kernel
theorem dL_does_13 : decode cL_does 13 = .ok (.iconst 1, 1) := by decide +kernel
theorem dL_does_14 : decode cL_does 14 = .ok (.if_icmp .ne 11, 3) := by decide +kernel
theorem dL_does_17 : decode cL_does 17 = .ok (.aload_n 0, 1) := by decide +kernel
theorem dL_does_18 : decode cL_does 18 = .ok (.iload_n 2, 1) := by decide +kernel
theorem dL_does_19 : decode cL_does 19 = .ok (.invokevirtual 14, 3) := by decide +kernel
theorem dL_does_22 : decode cL_does 22 = .ok (.goto 107, 3) := by decide +kernel
theorem dL_does_25 : decode cL_does 25 = .ok (.iload_n 1, 1) := by decide +kernel
theorem dL_does_26 : decode cL_does 26 = .ok (.iconst 2, 1) := by decide +kernel
theorem dL_does_27 : decode cL_does 27 = .ok (.if_icmp .ne 11, 3) := by decide +kernel
theorem dL_does_30 : decode cL_does 30 = .ok (.aload_n 0, 1) := by decide +kernel
theorem dL_does_31 : decode cL_does 31 = .ok (.iload_n 2, 1) := by decide +kernel
theorem dL_does_32 : decode cL_does 32 = .ok (.invokevirtual 17, 3) := by decide +kernel
theorem dL_does_35 : decode cL_does 35 = .ok (.goto 94, 3) := by decide +kernel
theorem dL_does_38 : decode cL_does 38 = .ok (.iload_n 1, 1) := by decide +kernel
theorem dL_does_39 : decode cL_does 39 = .ok (.iconst 3, 1) := by decide +kernel
theorem dL_does_40 : decode cL_does 40 = .ok (.if_icmp .ne 12, 3) := by decide +kernel
theorem dL_does_43 : decode cL_does 43 = .ok (.aload_n 0, 1) := by decide +kernel
theorem dL_does_44 : decode cL_does 44 = .ok (.iload_n 2, 1) := by decide +kernel
theorem dL_does_45 : decode cL_does 45 = .ok (.iload_n 3, 1) := by decide +kernel
theorem dL_does_46 : decode cL_does 46 = .ok (.invokevirtual 20, 3) := by decide +kernel
theorem dL_does_49 : decode cL_does 49 = .ok (.goto 80, 3) := by decide +kernel
theorem dL_does_52 : decode cL_does 52 = .ok (.iload_n 1, 1) := by decide +kernel
theorem dL_does_53 : decode cL_does 53 = .ok (.iconst 4, 1) := by decide +kernel
theorem dL_does_54 : decode cL_does 54 = .ok (.if_icmp .ne 12, 3) := by decide +kernel
theorem dL_does_57 : decode cL_does 57 = .ok (.aload_n 0, 1) := by decide +kernel
theorem dL_does_58 : decode cL_does 58 = .ok (.iload_n 2, 1) := by decide +kernel
theorem dL_does_59 : decode cL_does 59 = .ok (.iload_n 3, 1) := by decide +kernel
theorem dL_does_60 : decode cL_does 60 = .ok (.invokevirtual 24, 3) := by decide +kernel
theorem dL_does_63 : decode cL_does 63 = .ok (.goto 66, 3) := by decide +kernel
theorem dL_does_66 : decode cL_does 66 = .ok (.iload_n 1, 1) := by decide +kernel
theorem dL_does_67 : decode cL_does 67 = .ok (.iconst 5, 1) := by decide +kernel
theorem dL_does_68 : decode cL_does 68 = .ok (.if_icmp .ne 11, 3) := by decide +kernel
theorem dL_does_71 : decode cL_does 71 = .ok (.aload_n 0, 1) := by decide +kernel
theorem dL_does_72 : decode cL_does 72 = .ok (.iload_n 2, 1) := by decide +kernel
theorem dL_does_73 : decode cL_does 73 = .ok (.invokevirtual 27, 3) := by decide +kernel
theorem dL_does_76 : decode cL_does 76 = .ok (.goto 53, 3) := by decide +kernel
theorem dL_does_79 : decode cL_does 79 = .ok (.iload_n 1, 1) := by decide +kernel
theorem dL_does_80 : decode cL_does 80 = .ok (.bipush 6, 2) := by decide +kernel
theorem dL_does_82 : decode cL_does 82 = .ok (.if_icmp .ne 11, 3) := by decide +kernel
theorem dL_does_85 : decode cL_does 85 = .ok (.aload_n 0, 1) := by decide +kernel
theorem dL_does_86 : decode cL_does 86 = .ok (.iload_n 2, 1) := by decide +kernel
theorem dL_does_87 : decode cL_does 87 = .ok (.invokevirtual 30, 3) := by decide +kernel
theorem dL_does_90 : decode cL_does 90 = .ok (.goto 39, 3) := by decide +kernel
theorem dL_does_93 : decode cL_does 93 = .ok (.iload_n 1, 1) := by decide +kernel
theorem dL_does_94 : decode cL_does 94 = .ok (.bipush 7, 2) := by decide +kernel
theorem dL_does_96 : decode cL_does 96 = .ok (.if_icmp .ne 12, 3) := by decide +kernel
theorem dL_does_99 : decode cL_does 99 = .ok (.aload_n 0, 1) := by decide +kernel
theorem dL_does_100 : decode cL_does 100 = .ok (.iload_n 2, 1) := by decide +kernel
theorem dL_does_101 : decode cL_does 101 = .ok (.iload_n 3, 1) := by decide +kernel
theorem dL_does_102 : decode cL_does 102 = .ok (.invokevirtual 33, 3) := by decide +kernel
theorem dL_does_105 : decode cL_does 105 = .ok (.goto 24, 3) := by decide +kernel
theorem dL_does_108 : decode cL_does 108 = .ok (.iload_n 1, 1) := by decide +kernel
theorem dL_does_109 : decode cL_does 109 = .ok (.bipush 8, 2) := by decide +kernel
theorem dL_does_111 : decode cL_does 111 = .ok (.if_icmp .ne 12, 3) := by decide +kernel
theorem dL_does_114 : decode cL_does 114 = .ok (.aload_n 0, 1) := by decide +kernel
theorem dL_does_115 : decode cL_does 115 = .ok (.iload_n 2, 1) := by decide +kernel
theorem dL_does_116 : decode cL_does 116 = .ok (.iload_n 3, 1) := by decide +kernel
theorem dL_does_117 : decode cL_does 117 = .ok (.invokevirtual 36, 3) := by decide +kernel
theorem dL_does_120 : decode cL_does 120 = .ok (.goto 9, 3) := by decide +kernel
theorem dL_does_123 : decode cL_does 123 = .ok (.aload_n 0, 1) := by decide +kernel
theorem dL_does_124 : decode cL_does 124 = .ok (.iload_n 2, 1) := by decide +kernel
theorem dL_does_125 : decode cL_does 125 = .ok (.iload_n 3, 1) := by decide +kernel
theorem dL_does_126 : decode cL_does 126 = .ok (.invokevirtual 39, 3) := by decide +kernel
theorem dL_does_129 : decode cL_does 129 = .ok (.ireturn, 1) := by decide +kernel
theorem dL_does_130 : decode cL_does 130 = .ok (.astore 4, 2) := by decide +kernel
theorem dL_does_132 : decode cL_does 132 = .ok (.sipush (-900), 3) := by decide +kernel
theorem dL_does_135 : decode cL_does 135 = .ok (.ireturn, 1) := by decide +kernel
theorem dL_does_136 : decode cL_does 136 = .ok (.astore 4, 2) := by decide +kernel
theorem dL_does_138 : decode cL_does 138 = .ok (.sipush (-900), 3) := by decide +kernel
theorem dL_does_141 : decode cL_does 141 = .ok (.ireturn, 1) := by decide +kernel
theorem dL_does_142 : decode cL_does 142 = .ok (.astore 4, 2) := by decide +kernel
theorem dL_does_144 : decode cL_does 144 = .ok (.sipush (-900), 3) := by decide +kernel
theorem dL_does_147 : decode cL_does 147 = .ok (.ireturn, 1) := by decide +kernel
set_option maxRecDepth 20000 in
theorem ggL_adds_X4_lot : GoodIn wsL_adds wsX4_lot := goodIn_ca (goodIn_ca (goodIn_r _ [7, 8, 9, 10, 11, 12, 13, 14, 15, 16, 17, 6, 18, 19, 20, 21, 22, 23, 24, 25, 26, 27, 28, 29, 30, 31, 32, 33, 34, 35, 36, 37, 38, 39, 40, 41, 42, 43, 44] (by decide +kernel) (by decide +kernel)) (goodIn_sub (fun _ h => List.mem_cons_of_mem _ (List.mem_append_left _ (List.mem_append_right _ h))) (by decide +kernel))) (goodIn_sub (fun _ h => List.mem_cons_of_mem _ (List.mem_append_right _ h)) (by decide +kernel))
set_option maxRecDepth 20000 in
theorem gL_adds_X4_lot : GoodIn wsL_adds (wsV RL 48 RX4 yX4_lot wsX4_lot) := goodIn_app (goodIn_of _ (by decide +kernel)) ggL_adds_X4_lot
theorem dL_adds_0 : decode cL_adds 0 = .ok (.aload_n 0, 1) := by decide +kernel
theorem dL_adds_1 : decode cL_adds 1 = .ok (.iload_n 1, 1) := by decide +kernel
theorem dL_adds_2 : decode cL_adds 2 = .ok (.iload_n 2, 1) := by decide +kernel
theorem dL_adds_3 : decode cL_adds 3 = .ok (.iload_n 3, 1) := by decide +kernel
theorem dL_adds_4 : decode cL_adds 4 = .ok (.iload 4, 2) := by decide +kernel
theorem dL_adds_6 : decode cL_adds 6 = .ok (.invokevirtual 48, 3) := by decide +kernel
theorem dL_adds_9 : decode cL_adds 9 = .ok (.ireturn, 1) := by decide +kernel
theorem dL_adds_10 : decode cL_adds 10 = .ok (.astore 5, 2) := by decide +kernel
theorem dL_adds_12 : decode cL_adds 12 = .ok (.sipush (-900), 3) := by decide +kernel
theorem dL_adds_15 : decode cL_adds 15 = .ok (.ireturn, 1) := by decide +kernel
theorem dL_adds_16 : decode cL_adds 16 = .ok (.astore 5, 2) := by decide +kernel
theorem dL_adds_18 : decode cL_adds 18 = .ok (.sipush (-900), 3) := by decide +kernel
theorem dL_adds_21 : decode cL_adds 21 = .ok (.ireturn, 1) := by decide +kernel
set_option maxRecDepth 20000 in
theorem ggL_tells_X4_picture : GoodIn wsL_tells wsX4_picture := goodIn_ca (goodIn_ca (goodIn_r _ [8, 9, 10, 11, 12, 13, 14, 15, 16, 17, 7, 18, 19, 20, 21, 22, 23, 24, 25, 26, 27, 28, 29, 30, 31, 32, 33, 34, 35, 36, 37, 38, 39, 40, 41, 96, 97, 98, 99, 100, 101, 102, 103, 104, 105, 106, 107, 108, 109, 110, 111, 112, 113, 114, 115] (by decide +kernel) (by decide +kernel)) (goodIn_sub (fun _ h => List.mem_cons_of_mem _ (List.mem_append_left _ (List.mem_append_left _ (List.mem_append_right _ h)))) (by decide +kernel))) (goodIn_sub (fun _ h => List.mem_cons_of_mem _ (List.mem_append_left _ (List.mem_append_right _ h))) (by decide +kernel))
set_option maxRecDepth 20000 in
theorem gL_tells_X4_picture : GoodIn wsL_tells (wsV RL 52 RX4 yX4_picture wsX4_picture) := goodIn_app (goodIn_of _ (by decide +kernel)) ggL_tells_X4_picture
set_option maxRecDepth 20000 in
theorem ggL_tells_X4_share : GoodIn wsL_tells wsX4_share := goodIn_ca (goodIn_ca (goodIn_r _ [45, 19, 20, 46, 47, 48, 7, 49, 50, 51, 12, 52, 53, 54, 55, 56, 57, 58, 59, 15, 60, 31, 61, 62, 63, 64, 65, 33, 66, 38, 67, 68, 69, 70, 71, 72, 73, 74, 75, 76, 77, 78, 79, 80, 81, 82, 83, 84, 96, 97, 98, 99, 100, 101, 102, 103, 104, 105, 106, 107, 108, 109, 110, 111, 112, 113, 114, 115, 116, 117, 118, 119, 120, 121, 122] (by decide +kernel) (by decide +kernel)) (goodIn_sub (fun _ h => List.mem_cons_of_mem _ (List.mem_append_left _ (List.mem_append_right _ h))) (by decide +kernel))) (goodIn_sub (fun _ h => List.mem_cons_of_mem _ (List.mem_append_right _ h)) (by decide +kernel))
set_option maxRecDepth 20000 in
theorem gL_tells_X4_share : GoodIn wsL_tells (wsV RL 56 RX4 yX4_share wsX4_share) := goodIn_app (goodIn_of _ (by decide +kernel)) ggL_tells_X4_share
set_option maxRecDepth 20000 in
theorem ggL_tells_X4_crew : GoodIn wsL_tells wsX4_crew := goodIn_ca (goodIn_ca (goodIn_r _ [88, 89, 90, 91, 92, 93, 7, 94, 50, 51, 95, 16, 17, 18, 19, 20, 123, 124, 125, 126, 127, 128, 129, 96, 97, 98, 99, 100, 101] (by decide +kernel) (by decide +kernel)) (goodIn_sub (fun _ h => List.mem_cons_of_mem _ (List.mem_append_right _ h)) (by decide +kernel))) (goodIn_sub (fun _ h => List.mem_cons_of_mem _ (List.mem_append_left _ (List.mem_append_right _ h))) (by decide +kernel))
set_option maxRecDepth 20000 in
theorem gL_tells_X4_crew : GoodIn wsL_tells (wsV RL 59 RX4 yX4_crew wsX4_crew) := goodIn_app (goodIn_of _ (by decide +kernel)) ggL_tells_X4_crew
theorem dL_tells_0 : decode cL_tells 0 = .ok (.iload_n 1, 1) := by decide +kernel
theorem dL_tells_1 : decode cL_tells 1 = .ok (.ifCond .ne 14, 3) := by decide +kernel
theorem dL_tells_4 : decode cL_tells 4 = .ok (.aload_n 0, 1) := by decide +kernel
theorem dL_tells_5 : decode cL_tells 5 = .ok (.iload_n 2, 1) := by decide +kernel
theorem dL_tells_6 : decode cL_tells 6 = .ok (.iload_n 3, 1) := by decide +kernel
theorem dL_tells_7 : decode cL_tells 7 = .ok (.iload 4, 2) := by decide +kernel
theorem dL_tells_9 : decode cL_tells 9 = .ok (.invokevirtual 52, 3) := by decide +kernel
theorem dL_tells_12 : decode cL_tells 12 = .ok (.goto 27, 3) := by decide +kernel
theorem dL_tells_15 : decode cL_tells 15 = .ok (.iload_n 1, 1) := by decide +kernel
theorem dL_tells_16 : decode cL_tells 16 = .ok (.iconst 1, 1) := by decide +kernel
theorem dL_tells_17 : decode cL_tells 17 = .ok (.if_icmp .ne 14, 3) := by decide +kernel
theorem dL_tells_20 : decode cL_tells 20 = .ok (.aload_n 0, 1) := by decide +kernel
theorem dL_tells_21 : decode cL_tells 21 = .ok (.iload_n 2, 1) := by decide +kernel
theorem dL_tells_22 : decode cL_tells 22 = .ok (.iload_n 3, 1) := by decide +kernel
theorem dL_tells_23 : decode cL_tells 23 = .ok (.iload 4, 2) := by decide +kernel
theorem dL_tells_25 : decode cL_tells 25 = .ok (.invokevirtual 56, 3) := by decide +kernel
theorem dL_tells_28 : decode cL_tells 28 = .ok (.goto 11, 3) := by decide +kernel
theorem dL_tells_31 : decode cL_tells 31 = .ok (.aload_n 0, 1) := by decide +kernel
theorem dL_tells_32 : decode cL_tells 32 = .ok (.iload_n 2, 1) := by decide +kernel
theorem dL_tells_33 : decode cL_tells 33 = .ok (.iload_n 3, 1) := by decide +kernel
theorem dL_tells_34 : decode cL_tells 34 = .ok (.iload 4, 2) := by decide +kernel
theorem dL_tells_36 : decode cL_tells 36 = .ok (.invokevirtual 59, 3) := by decide +kernel
theorem dL_tells_39 : decode cL_tells 39 = .ok (.ireturn, 1) := by decide +kernel
theorem dL_tells_40 : decode cL_tells 40 = .ok (.astore 5, 2) := by decide +kernel
theorem dL_tells_42 : decode cL_tells 42 = .ok (.sipush (-900), 3) := by decide +kernel
theorem dL_tells_45 : decode cL_tells 45 = .ok (.ireturn, 1) := by decide +kernel
theorem dL_tells_46 : decode cL_tells 46 = .ok (.astore 5, 2) := by decide +kernel
theorem dL_tells_48 : decode cL_tells 48 = .ok (.sipush (-900), 3) := by decide +kernel
theorem dL_tells_51 : decode cL_tells 51 = .ok (.ireturn, 1) := by decide +kernel
theorem dL_tells_52 : decode cL_tells 52 = .ok (.astore 5, 2) := by decide +kernel
theorem dL_tells_54 : decode cL_tells 54 = .ok (.sipush (-900), 3) := by decide +kernel
theorem dL_tells_57 : decode cL_tells 57 = .ok (.ireturn, 1) := by decide +kernel
set_option maxRecDepth 20000 in
theorem ggL_cell_X4_cell : GoodIn wsL_cell wsX4_cell := goodIn_ca (goodIn_ca (goodIn_ca (goodIn_r _ [8, 9, 10, 11, 12, 13, 14, 7, 15, 16, 17, 18, 19, 20, 21, 22, 23, 24, 25, 26, 27, 28, 29, 30, 31, 32, 33, 34, 35, 36, 37, 38, 39, 40, 41, 66, 67, 68, 69, 70, 71, 72, 73, 74, 75, 76, 77, 78, 79, 80, 81, 82, 83, 84, 85] (by decide +kernel) (by decide +kernel)) (goodIn_sub (fun _ h => List.mem_cons_of_mem _ (List.mem_append_left _ (List.mem_append_left _ (List.mem_append_right _ h)))) (by decide +kernel))) (goodIn_sub (fun _ h => List.mem_cons_of_mem _ (List.mem_append_left _ (List.mem_append_right _ h))) (by decide +kernel))) (goodIn_sub (fun _ h => List.mem_cons_of_mem _ (List.mem_append_right _ h)) (by decide +kernel))
set_option maxRecDepth 20000 in
theorem gL_cell_X4_cell : GoodIn wsL_cell (wsV RL 62 RX4 yX4_cell wsX4_cell) := goodIn_app (goodIn_of _ (by decide +kernel)) ggL_cell_X4_cell
set_option maxRecDepth 20000 in
theorem ggL_cell_X4_old : GoodIn wsL_cell wsX4_old := goodIn_ca (goodIn_ca (goodIn_ca (goodIn_r _ [45, 9, 10, 46, 11, 12, 13, 14, 7, 15, 16, 17, 18, 19, 20, 21, 22, 23, 24, 25, 26, 27, 28, 29, 30, 31, 32, 33, 34, 35, 47, 48, 49, 50, 51, 66, 67, 68, 69, 70, 71, 72, 73, 74, 75, 76, 77, 78, 79, 80, 81, 82, 83, 84, 85] (by decide +kernel) (by decide +kernel)) (goodIn_sub (fun _ h => List.mem_cons_of_mem _ (List.mem_append_left _ (List.mem_append_left _ (List.mem_append_right _ h)))) (by decide +kernel))) (goodIn_sub (fun _ h => List.mem_cons_of_mem _ (List.mem_append_left _ (List.mem_append_right _ h))) (by decide +kernel))) (goodIn_sub (fun _ h => List.mem_cons_of_mem _ (List.mem_append_right _ h)) (by decide +kernel))
set_option maxRecDepth 20000 in
theorem gL_cell_X4_old : GoodIn wsL_cell (wsV RL 66 RX4 yX4_old wsX4_old) := goodIn_app (goodIn_of _ (by decide +kernel)) ggL_cell_X4_old
set_option maxRecDepth 20000 in
theorem ggL_cell_X4_ofCell : GoodIn wsL_cell wsX4_ofCell := goodIn_ca (goodIn_ca (goodIn_r _ [55, 46, 56, 57, 11, 58, 59, 12, 13, 14, 7, 15, 16, 17, 18, 19, 20, 21, 22, 23, 24, 25, 26, 27, 28, 29, 30, 31, 32, 33, 34, 35, 60, 61, 62, 63, 64, 65, 66, 67, 68, 69, 70, 71, 72, 73, 74, 75, 86, 87, 88, 89, 90, 91, 92, 76, 77, 78, 79, 80, 81, 82, 83, 84, 85] (by decide +kernel) (by decide +kernel)) (goodIn_sub (fun _ h => List.mem_cons_of_mem _ (List.mem_append_left _ (List.mem_append_right _ h))) (by decide +kernel))) (goodIn_sub (fun _ h => List.mem_cons_of_mem _ (List.mem_append_right _ h)) (by decide +kernel))
set_option maxRecDepth 20000 in
theorem gL_cell_X4_ofCell : GoodIn wsL_cell (wsV RL 69 RX4 yX4_ofCell wsX4_ofCell) := goodIn_app (goodIn_of _ (by decide +kernel)) ggL_cell_X4_ofCell
theorem dL_cell_0 : decode cL_cell 0 = .ok (.iload_n 1, 1) := by decide +kernel
theorem dL_cell_1 : decode cL_cell 1 = .ok (.ifCond .ne 16, 3) := by decide +kernel
theorem dL_cell_4 : decode cL_cell 4 = .ok (.aload_n 0, 1) := by decide +kernel
theorem dL_cell_5 : decode cL_cell 5 = .ok (.iload_n 2, 1) := by decide +kernel
theorem dL_cell_6 : decode cL_cell 6 = .ok (.iload_n 3, 1) := by decide +kernel
theorem dL_cell_7 : decode cL_cell 7 = .ok (.iload 4, 2) := by decide +kernel
theorem dL_cell_9 : decode cL_cell 9 = .ok (.iload 5, 2) := by decide +kernel
theorem dL_cell_11 : decode cL_cell 11 = .ok (.invokevirtual 62, 3) := by decide +kernel
theorem dL_cell_14 : decode cL_cell 14 = .ok (.goto 31, 3) := by decide +kernel
theorem dL_cell_17 : decode cL_cell 17 = .ok (.iload_n 1, 1) := by decide +kernel
theorem dL_cell_18 : decode cL_cell 18 = .ok (.iconst 1, 1) := by decide +kernel
theorem dL_cell_19 : decode cL_cell 19 = .ok (.if_icmp .ne 16, 3) := by decide +kernel
theorem dL_cell_22 : decode cL_cell 22 = .ok (.aload_n 0, 1) := by decide +kernel
theorem dL_cell_23 : decode cL_cell 23 = .ok (.iload_n 2, 1) := by decide +kernel
theorem dL_cell_24 : decode cL_cell 24 = .ok (.iload_n 3, 1) := by decide +kernel
theorem dL_cell_25 : decode cL_cell 25 = .ok (.iload 4, 2) := by decide +kernel
theorem dL_cell_27 : decode cL_cell 27 = .ok (.iload 5, 2) := by decide +kernel
theorem dL_cell_29 : decode cL_cell 29 = .ok (.invokevirtual 66, 3) := by decide +kernel
theorem dL_cell_32 : decode cL_cell 32 = .ok (.goto 13, 3) := by decide +kernel
theorem dL_cell_35 : decode cL_cell 35 = .ok (.aload_n 0, 1) := by decide +kernel
theorem dL_cell_36 : decode cL_cell 36 = .ok (.iload_n 2, 1) := by decide +kernel
theorem dL_cell_37 : decode cL_cell 37 = .ok (.iload_n 3, 1) := by decide +kernel
theorem dL_cell_38 : decode cL_cell 38 = .ok (.iload 4, 2) := by decide +kernel
theorem dL_cell_40 : decode cL_cell 40 = .ok (.iload 5, 2) := by decide +kernel
theorem dL_cell_42 : decode cL_cell 42 = .ok (.invokevirtual 69, 3) := by decide +kernel
theorem dL_cell_45 : decode cL_cell 45 = .ok (.ireturn, 1) := by decide +kernel
theorem dL_cell_46 : decode cL_cell 46 = .ok (.astore 6, 2) := by decide +kernel
theorem dL_cell_48 : decode cL_cell 48 = .ok (.sipush (-900), 3) := by decide +kernel
theorem dL_cell_51 : decode cL_cell 51 = .ok (.ireturn, 1) := by decide +kernel
theorem dL_cell_52 : decode cL_cell 52 = .ok (.astore 6, 2) := by decide +kernel
theorem dL_cell_54 : decode cL_cell 54 = .ok (.sipush (-900), 3) := by decide +kernel
theorem dL_cell_57 : decode cL_cell 57 = .ok (.ireturn, 1) := by decide +kernel
theorem dL_cell_58 : decode cL_cell 58 = .ok (.astore 6, 2) := by decide +kernel
theorem dL_cell_60 : decode cL_cell 60 = .ok (.sipush (-900), 3) := by decide +kernel
theorem dL_cell_63 : decode cL_cell 63 = .ok (.ireturn, 1) := by decide +kernel
set_option maxRecDepth 20000 in
theorem ggL_aimAnew_X4_aimAnew : GoodIn wsL_aimAnew wsX4_aimAnew := goodIn_ca (goodIn_r _ [6, 7, 8, 9, 5, 10, 11, 12, 13, 14, 15, 16, 17, 18, 19, 20, 21, 22, 23, 24, 25, 26, 27, 28, 29, 30, 31, 32, 33, 34, 35, 36, 37, 38, 39, 40, 41, 42, 43, 44, 45, 46, 47, 48, 49, 50, 51, 52, 53, 54, 55, 56, 57, 58, 59, 60, 61, 62, 63, 64, 65, 66, 67, 68, 69, 70, 71, 72, 73, 74, 75, 76, 77, 78, 79, 80, 81, 82, 83, 84, 85, 86, 87, 88, 89, 90, 91, 92, 93, 94, 95] (by decide +kernel) (by decide +kernel)) (goodIn_sub (fun _ h => List.mem_cons_of_mem _ (List.mem_append_right _ h)) (by decide +kernel))
set_option maxRecDepth 20000 in
theorem gL_aimAnew_X4_aimAnew : GoodIn wsL_aimAnew (wsV RL 72 RX4 yX4_aimAnew wsX4_aimAnew) := goodIn_app (goodIn_of _ (by decide +kernel)) ggL_aimAnew_X4_aimAnew
theorem dL_aimAnew_0 : decode cL_aimAnew 0 = .ok (.aload_n 0, 1) := by decide +kernel
theorem dL_aimAnew_1 : decode cL_aimAnew 1 = .ok (.iload_n 1, 1) := by decide +kernel
theorem dL_aimAnew_2 : decode cL_aimAnew 2 = .ok (.iload_n 2, 1) := by decide +kernel
theorem dL_aimAnew_3 : decode cL_aimAnew 3 = .ok (.iload_n 3, 1) := by decide +kernel
theorem dL_aimAnew_4 : decode cL_aimAnew 4 = .ok (.invokevirtual 72, 3) := by decide +kernel
theorem dL_aimAnew_7 : decode cL_aimAnew 7 = .ok (.ireturn, 1) := by decide +kernel
theorem dL_aimAnew_8 : decode cL_aimAnew 8 = .ok (.astore 4, 2) := by decide +kernel
theorem dL_aimAnew_10 : decode cL_aimAnew 10 = .ok (.sipush (-900), 3) := by decide +kernel
theorem dL_aimAnew_13 : decode cL_aimAnew 13 = .ok (.ireturn, 1) := by decide +kernel
set_option maxRecDepth 20000 in
theorem ggL_areAlike_L_does : GoodIn wsL_areAlike wsL_does := goodIn_ca (goodIn_ca (goodIn_ca (goodIn_r _ [4, 5, 6, 7, 8, 9, 10, 11, 12, 13, 14, 15, 16, 17, 18, 19, 20, 21, 22, 23, 24, 25, 26, 27, 28, 29, 30, 31, 32, 33, 34, 35, 36, 37, 38, 39, 40, 41, 42, 43, 44, 45, 46, 47, 48, 49, 50, 51, 52, 53, 54, 55, 56, 57, 58, 59, 60, 61, 62, 63, 64, 65, 66, 67, 68, 69, 70, 71, 72, 73, 74, 75, 76, 77, 78, 79, 80, 81, 82, 83, 84, 85, 86, 87, 88, 89, 90, 91, 92, 93, 94, 95, 96, 97, 98, 99, 100, 101, 102, 103, 104, 105, 106, 107, 108, 109, 110, 111, 112, 113, 114, 115, 116, 117, 118, 119, 120, 121, 122, 123, 124, 125, 126, 127, 128, 129, 130, 131, 132, 133, 134, 135, 136, 137, 138, 139, 140, 141, 142, 143, 144, 145, 146, 147, 148, 149, 150, 151, 152, 153, 154, 155, 156, 157, 158, 159, 160, 161, 162, 163, 164, 165, 166, 167, 168, 169, 170, 171, 172, 173, 174, 175, 176, 177, 178, 179, 180, 181, 182, 183, 184, 185, 186, 187, 188, 189, 190, 191, 192, 193, 194, 195, 196, 197, 198, 199, 200, 201, 202, 203, 204, 205, 206, 207, 208, 209, 210, 211, 212, 213, 214, 215, 216, 217, 218, 219, 220, 221, 222, 223, 224, 225, 226, 227, 228, 229, 230, 231, 232, 233, 234, 235, 236, 275, 276, 277, 278, 279, 280, 281, 282, 283, 284, 285, 286, 287, 288, 289, 290, 291, 292, 293, 294, 295, 296, 297, 298, 299, 300, 301, 302, 303, 304, 305, 306, 307, 308] (by decide +kernel) (by decide +kernel)) (goodIn_sub (fun _ h => List.mem_cons_of_mem _ (List.mem_append_left _ (List.mem_append_left _ (List.mem_append_right _ h)))) (by decide +kernel))) (goodIn_sub (fun _ h => List.mem_cons_of_mem _ (List.mem_append_left _ (List.mem_append_right _ h))) (by decide +kernel))) (goodIn_sub (fun _ h => List.mem_cons_of_mem _ (List.mem_append_right _ h)) (by decide +kernel))
set_option maxRecDepth 20000 in
theorem gL_areAlike_L_does : GoodIn wsL_areAlike (va_wsS RL 75 yL_does wsL_does) := goodIn_app (goodIn_of _ (by decide +kernel)) ggL_areAlike_L_does
set_option maxRecDepth 20000 in
theorem ggL_areAlike_L_cell : GoodIn wsL_areAlike wsL_cell := goodIn_ca (goodIn_ca (goodIn_ca (goodIn_r _ [239, 5, 6, 7, 240, 241, 242, 11, 243, 13, 14, 244, 245, 246, 247, 248, 21, 22, 28, 29, 30, 31, 32, 249, 58, 59, 36, 60, 61, 62, 38, 152, 153, 154, 155, 156, 250, 41, 42, 43, 44, 45, 251, 252, 253, 254, 255, 125, 126, 127, 128, 73, 256, 257, 258, 259, 260, 261, 262, 263, 215, 216, 217, 218, 219, 220, 292, 293, 294, 295, 296, 297, 298, 299, 300, 301, 282, 283, 284, 285, 286, 287, 288, 289, 290, 291, 275, 276, 277, 278, 279, 280, 281] (by decide +kernel) (by decide +kernel)) (goodIn_sub (fun _ h => List.mem_cons_of_mem _ (List.mem_append_left _ (List.mem_append_left _ (List.mem_append_right _ h)))) (by decide +kernel))) (goodIn_sub (fun _ h => List.mem_cons_of_mem _ (List.mem_append_left _ (List.mem_append_right _ h))) (by decide +kernel))) (goodIn_sub (fun _ h => List.mem_cons_of_mem _ (List.mem_append_right _ h)) (by decide +kernel))
set_option maxRecDepth 20000 in
theorem gL_areAlike_L_cell : GoodIn wsL_areAlike (va_wsS RL 81 yL_cell wsL_cell) := goodIn_app (goodIn_of _ (by decide +kernel)) ggL_areAlike_L_cell
set_option maxRecDepth 20000 in
theorem ggL_areAlike_L_aimAnew : GoodIn wsL_areAlike wsL_aimAnew := goodIn_ca (goodIn_r _ [266, 5, 267, 268, 269, 11, 270, 245, 246, 247, 248, 21, 22, 28, 29, 30, 31, 32, 249, 58, 59, 36, 60, 61, 62, 38, 271, 272, 273, 274, 56, 71, 81, 82, 83, 84, 103, 104, 105, 43, 106, 78, 107, 108, 109, 110, 111, 55, 54, 112, 113, 114, 115, 116, 117, 118, 119, 57, 120, 121, 122, 123, 124, 215, 216, 217, 218, 219, 220, 282, 283, 284, 285, 286, 287, 288, 289, 290, 291, 292, 293, 294, 295, 296, 297, 298, 299, 300, 301, 275, 276, 277, 278, 279, 280, 281] (by decide +kernel) (by decide +kernel)) (goodIn_sub (fun _ h => List.mem_cons_of_mem _ (List.mem_append_left _ (List.mem_append_right _ h))) (by decide +kernel))
set_option maxRecDepth 20000 in
theorem gL_areAlike_L_aimAnew : GoodIn wsL_areAlike (va_wsS RL 84 yL_aimAnew wsL_aimAnew) := goodIn_app (goodIn_of _ (by decide +kernel)) ggL_areAlike_L_aimAnew
theorem dL_areAlike_0 : decode cL_areAlike 0 = .ok (.aload_n 0, 1) := by decide +kernel
theorem dL_areAlike_1 : decode cL_areAlike 1 = .ok (.bipush 6, 2) := by decide +kernel
theorem dL_areAlike_3 : decode cL_areAlike 3 = .ok (.iload_n 2, 1) := by decide +kernel
theorem dL_areAlike_4 : decode cL_areAlike 4 = .ok (.iconst 0, 1) := by decide +kernel
theorem dL_areAlike_5 : decode cL_areAlike 5 = .ok (.invokestatic 75, 3) := by decide +kernel
theorem dL_areAlike_8 : decode cL_areAlike 8 = .ok (.aload_n 1, 1) := by decide +kernel
theorem dL_areAlike_9 : decode cL_areAlike 9 = .ok (.bipush 6, 2) := by decide +kernel
theorem dL_areAlike_11 : decode cL_areAlike 11 = .ok (.iload_n 3, 1) := by decide +kernel
theorem dL_areAlike_12 : decode cL_areAlike 12 = .ok (.iconst 0, 1) := by decide +kernel
theorem dL_areAlike_13 : decode cL_areAlike 13 = .ok (.invokestatic 75, 3) := by decide +kernel
theorem dL_areAlike_16 : decode cL_areAlike 16 = .ok (.if_icmp .ne 7, 3) := by decide +kernel
theorem dL_areAlike_19 : decode cL_areAlike 19 = .ok (.iconst 1, 1) := by decide +kernel
theorem dL_areAlike_20 : decode cL_areAlike 20 = .ok (.goto 4, 3) := by decide +kernel
theorem dL_areAlike_23 : decode cL_areAlike 23 = .ok (.iconst 0, 1) := by decide +kernel
theorem dL_areAlike_24 : decode cL_areAlike 24 = .ok (.istore 6, 2) := by decide +kernel
theorem dL_areAlike_26 : decode cL_areAlike 26 = .ok (.iconst 0, 1) := by decide +kernel
theorem dL_areAlike_27 : decode cL_areAlike 27 = .ok (.istore 7, 2) := by decide +kernel
theorem dL_areAlike_29 : decode cL_areAlike 29 = .ok (.iload 7, 2) := by decide +kernel
theorem dL_areAlike_31 : decode cL_areAlike 31 = .ok (.iload 4, 2) := by decide +kernel
theorem dL_areAlike_33 : decode cL_areAlike 33 = .ok (.iload 5, 2) := by decide +kernel
theorem dL_areAlike_35 : decode cL_areAlike 35 = .ok (.imul, 1) := by decide +kernel
theorem dL_areAlike_36 : decode cL_areAlike 36 = .ok (.if_icmp .ge 131, 3) := by decide +kernel
theorem dL_areAlike_39 : decode cL_areAlike 39 = .ok (.iload 6, 2) := by decide +kernel
theorem dL_areAlike_41 : decode cL_areAlike 41 = .ok (.ifCond .eq 126, 3) := by decide +kernel
theorem dL_areAlike_44 : decode cL_areAlike 44 = .ok (.iload 7, 2) := by decide +kernel
theorem dL_areAlike_46 : decode cL_areAlike 46 = .ok (.iload 4, 2) := by decide +kernel
theorem dL_areAlike_48 : decode cL_areAlike 48 = .ok (.irem, 1) := by decide +kernel
theorem dL_areAlike_49 : decode cL_areAlike 49 = .ok (.istore 8, 2) := by decide +kernel
theorem dL_areAlike_51 : decode cL_areAlike 51 = .ok (.iload 7, 2) := by decide +kernel
theorem dL_areAlike_53 : decode cL_areAlike 53 = .ok (.iload 4, 2) := by decide +kernel
theorem dL_areAlike_55 : decode cL_areAlike 55 = .ok (.idiv, 1) := by decide +kernel
theorem dL_areAlike_56 : decode cL_areAlike 56 = .ok (.istore 9, 2) := by decide +kernel
theorem dL_areAlike_58 : decode cL_areAlike 58 = .ok (.aload_n 0, 1) := by decide +kernel
theorem dL_areAlike_59 : decode cL_areAlike 59 = .ok (.iconst 2, 1) := by decide +kernel
theorem dL_areAlike_60 : decode cL_areAlike 60 = .ok (.iload_n 2, 1) := by decide +kernel
theorem dL_areAlike_61 : decode cL_areAlike 61 = .ok (.iload 8, 2) := by decide +kernel
theorem dL_areAlike_63 : decode cL_areAlike 63 = .ok (.iload 9, 2) := by decide +kernel
theorem dL_areAlike_65 : decode cL_areAlike 65 = .ok (.iconst 0, 1) := by decide +kernel
theorem dL_areAlike_66 : decode cL_areAlike 66 = .ok (.invokestatic 81, 3) := by decide +kernel
theorem dL_areAlike_69 : decode cL_areAlike 69 = .ok (.aload_n 1, 1) := by decide +kernel
theorem dL_areAlike_70 : decode cL_areAlike 70 = .ok (.iconst 2, 1) := by decide +kernel
theorem dL_areAlike_71 : decode cL_areAlike 71 = .ok (.iload_n 3, 1) := by decide +kernel
theorem dL_areAlike_72 : decode cL_areAlike 72 = .ok (.iload 8, 2) := by decide +kernel
theorem dL_areAlike_74 : decode cL_areAlike 74 = .ok (.iload 9, 2) := by decide +kernel
theorem dL_areAlike_76 : decode cL_areAlike 76 = .ok (.iconst 0, 1) := by decide +kernel
theorem dL_areAlike_77 : decode cL_areAlike 77 = .ok (.invokestatic 81, 3) := by decide +kernel
theorem dL_areAlike_80 : decode cL_areAlike 80 = .ok (.if_icmp .ne 78, 3) := by decide +kernel
theorem dL_areAlike_83 : decode cL_areAlike 83 = .ok (.aload_n 0, 1) := by decide +kernel
theorem dL_areAlike_84 : decode cL_areAlike 84 = .ok (.iconst 2, 1) := by decide +kernel
theorem dL_areAlike_85 : decode cL_areAlike 85 = .ok (.iload_n 2, 1) := by decide +kernel
theorem dL_areAlike_86 : decode cL_areAlike 86 = .ok (.iload 8, 2) := by decide +kernel
theorem dL_areAlike_88 : decode cL_areAlike 88 = .ok (.iload 9, 2) := by decide +kernel
theorem dL_areAlike_90 : decode cL_areAlike 90 = .ok (.iconst 2, 1) := by decide +kernel
theorem dL_areAlike_91 : decode cL_areAlike 91 = .ok (.invokestatic 81, 3) := by decide +kernel
theorem dL_areAlike_94 : decode cL_areAlike 94 = .ok (.aload_n 1, 1) := by decide +kernel
theorem dL_areAlike_95 : decode cL_areAlike 95 = .ok (.iconst 2, 1) := by decide +kernel
theorem dL_areAlike_96 : decode cL_areAlike 96 = .ok (.iload_n 3, 1) := by decide +kernel
theorem dL_areAlike_97 : decode cL_areAlike 97 = .ok (.iload 8, 2) := by decide +kernel
theorem dL_areAlike_99 : decode cL_areAlike 99 = .ok (.iload 9, 2) := by decide +kernel
theorem dL_areAlike_101 : decode cL_areAlike 101 = .ok (.iconst 2, 1) := by decide +kernel
theorem dL_areAlike_102 : decode cL_areAlike 102 = .ok (.invokestatic 81, 3) := by decide +kernel
theorem dL_areAlike_105 : decode cL_areAlike 105 = .ok (.if_icmp .ne 53, 3) := by decide +kernel
theorem dL_areAlike_108 : decode cL_areAlike 108 = .ok (.aload_n 0, 1) := by decide +kernel
theorem dL_areAlike_109 : decode cL_areAlike 109 = .ok (.iconst 2, 1) := by decide +kernel
theorem dL_areAlike_110 : decode cL_areAlike 110 = .ok (.iload_n 2, 1) := by decide +kernel
theorem dL_areAlike_111 : decode cL_areAlike 111 = .ok (.iload 8, 2) := by decide +kernel
theorem dL_areAlike_113 : decode cL_areAlike 113 = .ok (.iload 9, 2) := by decide +kernel
theorem dL_areAlike_115 : decode cL_areAlike 115 = .ok (.iconst 3, 1) := by decide +kernel
theorem dL_areAlike_116 : decode cL_areAlike 116 = .ok (.invokestatic 81, 3) := by decide +kernel
theorem dL_areAlike_119 : decode cL_areAlike 119 = .ok (.aload_n 1, 1) := by decide +kernel
theorem dL_areAlike_120 : decode cL_areAlike 120 = .ok (.iconst 2, 1) := by decide +kernel
theorem dL_areAlike_121 : decode cL_areAlike 121 = .ok (.iload_n 3, 1) := by decide +kernel
theorem dL_areAlike_122 : decode cL_areAlike 122 = .ok (.iload 8, 2) := by decide +kernel
theorem dL_areAlike_124 : decode cL_areAlike 124 = .ok (.iload 9, 2) := by decide +kernel
theorem dL_areAlike_126 : decode cL_areAlike 126 = .ok (.iconst 3, 1) := by decide +kernel
theorem dL_areAlike_127 : decode cL_areAlike 127 = .ok (.invokestatic 81, 3) := by decide +kernel
theorem dL_areAlike_130 : decode cL_areAlike 130 = .ok (.if_icmp .ne 28, 3) := by decide +kernel
theorem dL_areAlike_133 : decode cL_areAlike 133 = .ok (.aload_n 0, 1) := by decide +kernel
theorem dL_areAlike_134 : decode cL_areAlike 134 = .ok (.iload_n 2, 1) := by decide +kernel
theorem dL_areAlike_135 : decode cL_areAlike 135 = .ok (.iload 8, 2) := by decide +kernel
theorem dL_areAlike_137 : decode cL_areAlike 137 = .ok (.iload 9, 2) := by decide +kernel
theorem dL_areAlike_139 : decode cL_areAlike 139 = .ok (.invokestatic 84, 3) := by decide +kernel
theorem dL_areAlike_142 : decode cL_areAlike 142 = .ok (.aload_n 1, 1) := by decide +kernel
theorem dL_areAlike_143 : decode cL_areAlike 143 = .ok (.iload_n 3, 1) := by decide +kernel
theorem dL_areAlike_144 : decode cL_areAlike 144 = .ok (.iload 8, 2) := by decide +kernel
theorem dL_areAlike_146 : decode cL_areAlike 146 = .ok (.iload 9, 2) := by decide +kernel
theorem dL_areAlike_148 : decode cL_areAlike 148 = .ok (.invokestatic 84, 3) := by decide +kernel
theorem dL_areAlike_151 : decode cL_areAlike 151 = .ok (.if_icmp .ne 7, 3) := by decide +kernel
theorem dL_areAlike_154 : decode cL_areAlike 154 = .ok (.iconst 1, 1) := by decide +kernel
theorem dL_areAlike_155 : decode cL_areAlike 155 = .ok (.goto 4, 3) := by decide +kernel
theorem dL_areAlike_158 : decode cL_areAlike 158 = .ok (.iconst 0, 1) := by decide +kernel
theorem dL_areAlike_159 : decode cL_areAlike 159 = .ok (.istore 6, 2) := by decide +kernel
theorem dL_areAlike_161 : decode cL_areAlike 161 = .ok (.iinc 7 1, 3) := by decide +kernel
theorem dL_areAlike_164 : decode cL_areAlike 164 = .ok (.goto (-135), 3) := by decide +kernel
theorem dL_areAlike_167 : decode cL_areAlike 167 = .ok (.iload 6, 2) := by decide +kernel
theorem dL_areAlike_169 : decode cL_areAlike 169 = .ok (.ireturn, 1) := by decide +kernel
set_option maxRecDepth 20000 in
theorem ggL_law_X4_init : GoodIn wsL_law wsX4_init := goodIn_r _ [5, 6, 7, 8, 9, 10, 11, 12, 13, 14, 15, 16, 17, 18, 19, 20, 21, 22, 23, 24, 355, 356, 357, 358, 359, 360, 361, 362, 363, 364, 365, 366, 367] (by decide +kernel) (by decide +kernel)
set_option maxRecDepth 20000 in
theorem gL_law_X4_init : GoodIn wsL_law (wsX4_init) := ggL_law_X4_init
set_option maxRecDepth 20000 in
theorem ggL_law_L_drawn : GoodIn wsL_law wsL_drawn := goodIn_r _ [28, 29] (by decide +kernel) (by decide +kernel)
set_option maxRecDepth 20000 in
theorem gL_law_L_drawn : GoodIn wsL_law (va_wsS RL 87 yL_drawn wsL_drawn) := goodIn_app (goodIn_of _ (by decide +kernel)) ggL_law_L_drawn
set_option maxRecDepth 20000 in
theorem ggL_law_L_tells : GoodIn wsL_law wsL_tells := goodIn_ca (goodIn_ca (goodIn_ca (goodIn_r _ [32, 33, 34, 35, 36, 37, 38, 2, 39, 40, 41, 42, 12, 11, 43, 44, 45, 46, 47, 48, 49, 50, 51, 52, 53, 7, 8, 54, 55, 56, 57, 58, 59, 60, 61, 62, 63, 64, 65, 66, 67, 68, 69, 70, 71, 72, 73, 74, 75, 76, 77, 78, 79, 80, 81, 82, 10, 83, 84, 85, 86, 87, 88, 89, 90, 91, 92, 93, 94, 95, 96, 97, 98, 99, 100, 101, 102, 103, 104, 105, 106, 107, 108, 109, 110, 111, 112, 113, 114, 115, 116, 117, 118, 119, 120, 14, 355, 356, 357, 358, 359, 360, 368, 369, 370, 371, 372, 373, 374, 375, 376, 377, 378, 379, 380, 381, 382, 383, 384, 385, 386, 387, 388, 361, 362, 363, 364, 365, 366, 367] (by decide +kernel) (by decide +kernel)) (goodIn_sub (fun _ h => List.mem_append_left _ (List.mem_append_left _ (List.mem_append_right _ h))) (by decide +kernel))) (goodIn_sub (fun _ h => List.mem_append_left _ (List.mem_append_right _ h)) (by decide +kernel))) (goodIn_sub (fun _ h => List.mem_append_right _ h) (by decide +kernel))
set_option maxRecDepth 20000 in
theorem gL_law_L_tells : GoodIn wsL_law (va_wsS RL 91 yL_tells wsL_tells) := goodIn_app (goodIn_of _ (by decide +kernel)) ggL_law_L_tells
set_option maxRecDepth 20000 in
theorem ggL_law_L_cell : GoodIn wsL_law wsL_cell := goodIn_ca (goodIn_ca (goodIn_ca (goodIn_r _ [123, 33, 34, 35, 124, 125, 126, 2, 127, 40, 41, 128, 129, 130, 131, 132, 77, 78, 73, 74, 75, 76, 12, 133, 134, 135, 44, 136, 55, 56, 58, 45, 46, 47, 48, 49, 137, 138, 139, 60, 140, 65, 141, 142, 143, 144, 145, 146, 147, 148, 149, 150, 151, 152, 153, 154, 155, 156, 157, 158, 159, 160, 161, 162, 163, 164, 372, 373, 374, 375, 376, 377, 378, 379, 380, 381, 355, 356, 357, 358, 359, 360, 368, 369, 370, 371, 382, 383, 384, 385, 386, 387, 388] (by decide +kernel) (by decide +kernel)) (goodIn_sub (fun _ h => List.mem_append_left _ (List.mem_append_left _ (List.mem_append_right _ h))) (by decide +kernel))) (goodIn_sub (fun _ h => List.mem_append_right _ h) (by decide +kernel))) (goodIn_sub (fun _ h => List.mem_append_left _ (List.mem_append_right _ h)) (by decide +kernel))
set_option maxRecDepth 20000 in
theorem gL_law_L_cell : GoodIn wsL_law (va_wsS RL 81 yL_cell wsL_cell) := goodIn_app (goodIn_of _ (by decide +kernel)) ggL_law_L_cell
set_option maxRecDepth 20000 in
theorem ggL_law_L_adds : GoodIn wsL_law wsL_adds := goodIn_ca (goodIn_ca (goodIn_r _ [167, 34, 35, 168, 169, 170, 2, 171, 40, 41, 172, 10, 9, 173, 97, 174, 45, 46, 47, 48, 49, 175, 176, 177, 178, 7, 8, 179, 180, 100, 181, 99, 355, 356, 357, 358, 359, 360, 382, 383, 384, 385, 386, 387, 388] (by decide +kernel) (by decide +kernel)) (goodIn_sub (fun _ h => List.mem_append_left _ (List.mem_append_left _ (List.mem_append_right _ h))) (by decide +kernel))) (goodIn_sub (fun _ h => List.mem_append_left _ (List.mem_append_right _ h)) (by decide +kernel))
set_option maxRecDepth 20000 in
theorem gL_law_L_adds : GoodIn wsL_law (va_wsS RL 95 yL_adds wsL_adds) := goodIn_app (goodIn_of _ (by decide +kernel)) ggL_law_L_adds
set_option maxRecDepth 20000 in
theorem ggL_law_L_does : GoodIn wsL_law wsL_does := goodIn_ca (goodIn_ca (goodIn_ca (goodIn_r _ [184, 33, 34, 35, 185, 186, 187, 2, 188, 40, 41, 189, 190, 79, 80, 81, 82, 77, 78, 10, 191, 192, 193, 194, 73, 74, 75, 76, 12, 195, 196, 197, 44, 198, 58, 199, 200, 138, 139, 60, 140, 65, 201, 202, 203, 204, 205, 206, 207, 208, 88, 87, 209, 210, 134, 135, 136, 55, 56, 211, 212, 213, 214, 215, 216, 217, 218, 219, 220, 150, 101, 102, 103, 104, 93, 105, 106, 221, 222, 223, 224, 225, 226, 227, 228, 94, 95, 96, 97, 98, 99, 100, 229, 230, 231, 107, 108, 109, 110, 232, 233, 234, 235, 236, 237, 238, 239, 240, 241, 242, 243, 244, 245, 246, 247, 248, 249, 250, 251, 252, 253, 146, 147, 148, 149, 254, 255, 256, 257, 258, 117, 118, 119, 120, 14, 259, 260, 261, 16, 262, 263, 264, 265, 266, 267, 268, 269, 270, 45, 46, 47, 48, 49, 271, 272, 273, 274, 275, 276, 277, 278, 279, 20, 280, 281, 282, 283, 284, 285, 286, 287, 21, 288, 289, 290, 291, 292, 293, 294, 295, 296, 24, 297, 298, 299, 300, 301, 302, 303, 304, 305, 306, 307, 308, 309, 310, 311, 312, 313, 314, 315, 316, 317, 318, 319, 320, 321, 322, 323, 324, 68, 159, 160, 161, 162, 163, 164, 325, 326, 327, 328, 329, 330, 331, 332, 333, 334, 335, 336, 337, 338, 339, 340, 382, 383, 384, 385, 386, 387, 388, 355, 356, 357, 358, 359, 360, 368, 369, 370, 371, 372, 373, 374, 375, 376, 377, 378, 379, 380, 381, 361, 362, 363, 364, 365, 366, 367] (by decide +kernel) (by decide +kernel)) (goodIn_sub (fun _ h => List.mem_append_left _ (List.mem_append_left _ (List.mem_append_right _ h))) (by decide +kernel))) (goodIn_sub (fun _ h => List.mem_append_right _ h) (by decide +kernel))) (goodIn_sub (fun _ h => List.mem_append_left _ (List.mem_append_right _ h)) (by decide +kernel))
set_option maxRecDepth 20000 in
theorem gL_law_L_does : GoodIn wsL_law (va_wsS RL 75 yL_does wsL_does) := goodIn_app (goodIn_of _ (by decide +kernel)) ggL_law_L_does
set_option maxRecDepth 20000 in
theorem ggL_law_L_areAlike : GoodIn wsL_law wsL_areAlike := goodIn_ca (goodIn_ca (goodIn_ca (goodIn_r _ [343, 182, 183, 27, 184, 33, 34, 35, 185, 186, 187, 2, 188, 40, 41, 189, 190, 79, 80, 81, 82, 77, 78, 10, 191, 192, 193, 194, 73, 74, 75, 76, 12, 195, 196, 197, 44, 198, 58, 199, 200, 138, 139, 60, 140, 65, 201, 202, 203, 204, 205, 206, 207, 208, 88, 87, 209, 210, 134, 135, 136, 55, 56, 211, 212, 213, 214, 215, 216, 217, 218, 219, 220, 150, 101, 102, 103, 104, 93, 105, 106, 221, 222, 223, 224, 225, 226, 227, 228, 94, 95, 96, 97, 98, 99, 100, 229, 230, 231, 107, 108, 109, 110, 232, 233, 234, 235, 236, 237, 238, 239, 240, 241, 242, 243, 244, 245, 246, 247, 248, 249, 250, 251, 252, 253, 146, 147, 148, 149, 254, 255, 256, 257, 258, 117, 118, 119, 120, 14, 259, 260, 261, 16, 262, 263, 264, 265, 266, 267, 268, 269, 270, 45, 46, 47, 48, 49, 271, 272, 273, 274, 275, 276, 277, 278, 279, 20, 280, 281, 282, 283, 284, 285, 286, 287, 21, 288, 289, 290, 291, 292, 293, 294, 295, 296, 24, 297, 298, 299, 300, 301, 302, 303, 304, 305, 306, 307, 308, 309, 310, 311, 312, 313, 314, 315, 316, 317, 318, 319, 320, 321, 322, 323, 324, 68, 159, 160, 161, 162, 163, 164, 325, 326, 327, 328, 329, 330, 331, 332, 333, 334, 335, 336, 337, 338, 339, 340, 121, 122, 123, 124, 125, 126, 127, 128, 129, 130, 131, 132, 133, 137, 141, 142, 143, 144, 145, 151, 152, 153, 154, 155, 156, 157, 158, 344, 345, 346, 347, 348, 349, 350, 351, 352, 353, 354, 382, 383, 384, 385, 386, 387, 388, 355, 356, 357, 358, 359, 360, 368, 369, 370, 371, 372, 373, 374, 375, 376, 377, 378, 379, 380, 381, 361, 362, 363, 364, 365, 366, 367] (by decide +kernel) (by decide +kernel)) (goodIn_sub (fun _ h => List.mem_append_left _ (List.mem_append_left _ (List.mem_append_right _ h))) (by decide +kernel))) (goodIn_sub (fun _ h => List.mem_append_right _ h) (by decide +kernel))) (goodIn_sub (fun _ h => List.mem_append_left _ (List.mem_append_right _ h)) (by decide +kernel))
set_option maxRecDepth 20000 in
theorem gL_law_L_areAlike : GoodIn wsL_law (va_wsS RL 99 yL_areAlike wsL_areAlike) := goodIn_app (goodIn_of _ (by decide +kernel)) ggL_law_L_areAlike
theorem dL_law_0 : decode cL_law 0 = .ok (.new 9, 3) := by decide +kernel
theorem dL_law_3 : decode cL_law 3 = .ok (.dup, 1) := by decide +kernel
theorem dL_law_4 : decode cL_law 4 = .ok (.invokespecial 86, 3) := by decide +kernel
theorem dL_law_7 : decode cL_law 7 = .ok (.astore_n 1, 1) := by decide +kernel
theorem dL_law_8 : decode cL_law 8 = .ok (.new 9, 3) := by decide +kernel
theorem dL_law_11 : decode cL_law 11 = .ok (.dup, 1) := by decide +kernel
theorem dL_law_12 : decode cL_law 12 = .ok (.invokespecial 86, 3) := by decide +kernel
theorem dL_law_15 : decode cL_law 15 = .ok (.astore_n 2, 1) := by decide +kernel
theorem dL_law_16 : decode cL_law 16 = .ok (.iconst 1, 1) := by decide +kernel
theorem dL_law_17 : decode cL_law 17 = .ok (.aload_n 0, 1) := by decide +kernel
theorem dL_law_18 : decode cL_law 18 = .ok (.iconst 0, 1) := by decide +kernel
theorem dL_law_19 : decode cL_law 19 = .ok (.invokestatic 87, 3) := by decide +kernel
theorem dL_law_22 : decode cL_law 22 = .ok (.bipush 8, 2) := by decide +kernel
theorem dL_law_24 : decode cL_law 24 = .ok (.irem, 1) := by decide +kernel
theorem dL_law_25 : decode cL_law 25 = .ok (.iadd, 1) := by decide +kernel
theorem dL_law_26 : decode cL_law 26 = .ok (.istore_n 3, 1) := by decide +kernel
theorem dL_law_27 : decode cL_law 27 = .ok (.iconst 1, 1) := by decide +kernel
theorem dL_law_28 : decode cL_law 28 = .ok (.aload_n 0, 1) := by decide +kernel
theorem dL_law_29 : decode cL_law 29 = .ok (.iconst 0, 1) := by decide +kernel
theorem dL_law_30 : decode cL_law 30 = .ok (.invokestatic 87, 3) := by decide +kernel
theorem dL_law_33 : decode cL_law 33 = .ok (.bipush 8, 2) := by decide +kernel
theorem dL_law_35 : decode cL_law 35 = .ok (.idiv, 1) := by decide +kernel
theorem dL_law_36 : decode cL_law 36 = .ok (.bipush 8, 2) := by decide +kernel
theorem dL_law_38 : decode cL_law 38 = .ok (.irem, 1) := by decide +kernel
theorem dL_law_39 : decode cL_law 39 = .ok (.iadd, 1) := by decide +kernel
theorem dL_law_40 : decode cL_law 40 = .ok (.istore 4, 2) := by decide +kernel
theorem dL_law_42 : decode cL_law 42 = .ok (.iconst 0, 1) := by decide +kernel
theorem dL_law_43 : decode cL_law 43 = .ok (.istore 5, 2) := by decide +kernel
theorem dL_law_45 : decode cL_law 45 = .ok (.aload_n 1, 1) := by decide +kernel
theorem dL_law_46 : decode cL_law 46 = .ok (.iconst 0, 1) := by decide +kernel
theorem dL_law_47 : decode cL_law 47 = .ok (.bipush 8, 2) := by decide +kernel
theorem dL_law_49 : decode cL_law 49 = .ok (.bipush 8, 2) := by decide +kernel
theorem dL_law_51 : decode cL_law 51 = .ok (.aload_n 0, 1) := by decide +kernel
theorem dL_law_52 : decode cL_law 52 = .ok (.iconst 1, 1) := by decide +kernel
theorem dL_law_53 : decode cL_law 53 = .ok (.invokestatic 87, 3) := by decide +kernel
theorem dL_law_56 : decode cL_law 56 = .ok (.sipush 256, 3) := by decide +kernel
theorem dL_law_59 : decode cL_law 59 = .ok (.irem, 1) := by decide +kernel
theorem dL_law_60 : decode cL_law 60 = .ok (.invokestatic 91, 3) := by decide +kernel
theorem dL_law_63 : decode cL_law 63 = .ok (.ifCond .ne 36, 3) := by decide +kernel
theorem dL_law_66 : decode cL_law 66 = .ok (.aload_n 1, 1) := by decide +kernel
theorem dL_law_67 : decode cL_law 67 = .ok (.iconst 0, 1) := by decide +kernel
theorem dL_law_68 : decode cL_law 68 = .ok (.iload_n 3, 1) := by decide +kernel
theorem dL_law_69 : decode cL_law 69 = .ok (.iload 4, 2) := by decide +kernel
theorem dL_law_71 : decode cL_law 71 = .ok (.sipush 128, 3) := by decide +kernel
theorem dL_law_74 : decode cL_law 74 = .ok (.invokestatic 91, 3) := by decide +kernel
theorem dL_law_77 : decode cL_law 77 = .ok (.iconst 1, 1) := by decide +kernel
theorem dL_law_78 : decode cL_law 78 = .ok (.if_icmp .ne 21, 3) := by decide +kernel
theorem dL_law_81 : decode cL_law 81 = .ok (.aload_n 2, 1) := by decide +kernel
theorem dL_law_82 : decode cL_law 82 = .ok (.iconst 0, 1) := by decide +kernel
theorem dL_law_83 : decode cL_law 83 = .ok (.iload_n 3, 1) := by decide +kernel
theorem dL_law_84 : decode cL_law 84 = .ok (.iload 4, 2) := by decide +kernel
theorem dL_law_86 : decode cL_law 86 = .ok (.sipush 128, 3) := by decide +kernel
theorem dL_law_89 : decode cL_law 89 = .ok (.invokestatic 91, 3) := by decide +kernel
theorem dL_law_92 : decode cL_law 92 = .ok (.ifCond .ne 7, 3) := by decide +kernel
theorem dL_law_95 : decode cL_law 95 = .ok (.iconst 1, 1) := by decide +kernel
theorem dL_law_96 : decode cL_law 96 = .ok (.goto 4, 3) := by decide +kernel
theorem dL_law_99 : decode cL_law 99 = .ok (.iconst 0, 1) := by decide +kernel
theorem dL_law_100 : decode cL_law 100 = .ok (.istore 6, 2) := by decide +kernel
theorem dL_law_102 : decode cL_law 102 = .ok (.iconst 0, 1) := by decide +kernel
theorem dL_law_103 : decode cL_law 103 = .ok (.istore 7, 2) := by decide +kernel
theorem dL_law_105 : decode cL_law 105 = .ok (.iload 7, 2) := by decide +kernel
theorem dL_law_107 : decode cL_law 107 = .ok (.bipush 8, 2) := by decide +kernel
theorem dL_law_109 : decode cL_law 109 = .ok (.if_icmp .ge 40, 3) := by decide +kernel
theorem dL_law_112 : decode cL_law 112 = .ok (.iload 6, 2) := by decide +kernel
theorem dL_law_114 : decode cL_law 114 = .ok (.ifCond .eq 26, 3) := by decide +kernel
theorem dL_law_117 : decode cL_law 117 = .ok (.aload_n 1, 1) := by decide +kernel
theorem dL_law_118 : decode cL_law 118 = .ok (.iconst 1, 1) := by decide +kernel
theorem dL_law_119 : decode cL_law 119 = .ok (.iconst 0, 1) := by decide +kernel
theorem dL_law_120 : decode cL_law 120 = .ok (.iload 7, 2) := by decide +kernel
theorem dL_law_122 : decode cL_law 122 = .ok (.iload 7, 2) := by decide +kernel
theorem dL_law_124 : decode cL_law 124 = .ok (.bipush 9, 2) := by decide +kernel
theorem dL_law_126 : decode cL_law 126 = .ok (.invokestatic 81, 3) := by decide +kernel
theorem dL_law_129 : decode cL_law 129 = .ok (.iload 7, 2) := by decide +kernel
theorem dL_law_131 : decode cL_law 131 = .ok (.iconst 1, 1) := by decide +kernel
theorem dL_law_132 : decode cL_law 132 = .ok (.iadd, 1) := by decide +kernel
theorem dL_law_133 : decode cL_law 133 = .ok (.if_icmp .ne 7, 3) := by decide +kernel
theorem dL_law_136 : decode cL_law 136 = .ok (.iconst 1, 1) := by decide +kernel
theorem dL_law_137 : decode cL_law 137 = .ok (.goto 4, 3) := by decide +kernel
theorem dL_law_140 : decode cL_law 140 = .ok (.iconst 0, 1) := by decide +kernel
theorem dL_law_141 : decode cL_law 141 = .ok (.istore 6, 2) := by decide +kernel
theorem dL_law_143 : decode cL_law 143 = .ok (.iinc 7 1, 3) := by decide +kernel
theorem dL_law_146 : decode cL_law 146 = .ok (.goto (-41), 3) := by decide +kernel
theorem dL_law_149 : decode cL_law 149 = .ok (.iconst 2, 1) := by decide +kernel
theorem dL_law_150 : decode cL_law 150 = .ok (.istore 7, 2) := by decide +kernel
theorem dL_law_152 : decode cL_law 152 = .ok (.iload 7, 2) := by decide +kernel
theorem dL_law_154 : decode cL_law 154 = .ok (.bipush 44, 2) := by decide +kernel
theorem dL_law_156 : decode cL_law 156 = .ok (.if_icmp .ge 540, 3) := by decide +kernel
theorem dL_law_159 : decode cL_law 159 = .ok (.iload 6, 2) := by decide +kernel
theorem dL_law_161 : decode cL_law 161 = .ok (.ifCond .eq 535, 3) := by decide +kernel
theorem dL_law_164 : decode cL_law 164 = .ok (.aload_n 0, 1) := by decide +kernel
theorem dL_law_165 : decode cL_law 165 = .ok (.iload 7, 2) := by decide +kernel
theorem dL_law_167 : decode cL_law 167 = .ok (.invokestatic 87, 3) := by decide +kernel
theorem dL_law_170 : decode cL_law 170 = .ok (.istore 8, 2) := by decide +kernel
theorem dL_law_172 : decode cL_law 172 = .ok (.iload 8, 2) := by decide +kernel
theorem dL_law_174 : decode cL_law 174 = .ok (.bipush 9, 2) := by decide +kernel
theorem dL_law_176 : decode cL_law 176 = .ok (.idiv, 1) := by decide +kernel
theorem dL_law_177 : decode cL_law 177 = .ok (.istore 9, 2) := by decide +kernel
theorem dL_law_179 : decode cL_law 179 = .ok (.iload 8, 2) := by decide +kernel
theorem dL_law_181 : decode cL_law 181 = .ok (.bipush 9, 2) := by decide +kernel
theorem dL_law_183 : decode cL_law 183 = .ok (.irem, 1) := by decide +kernel
theorem dL_law_184 : decode cL_law 184 = .ok (.istore 10, 2) := by decide +kernel
theorem dL_law_186 : decode cL_law 186 = .ok (.iload 9, 2) := by decide +kernel
theorem dL_law_188 : decode cL_law 188 = .ok (.iload_n 3, 1) := by decide +kernel
theorem dL_law_189 : decode cL_law 189 = .ok (.irem, 1) := by decide +kernel
theorem dL_law_190 : decode cL_law 190 = .ok (.istore 11, 2) := by decide +kernel
theorem dL_law_192 : decode cL_law 192 = .ok (.iload 9, 2) := by decide +kernel
theorem dL_law_194 : decode cL_law 194 = .ok (.bipush 8, 2) := by decide +kernel
theorem dL_law_196 : decode cL_law 196 = .ok (.idiv, 1) := by decide +kernel
theorem dL_law_197 : decode cL_law 197 = .ok (.iload 4, 2) := by decide +kernel
theorem dL_law_199 : decode cL_law 199 = .ok (.irem, 1) := by decide +kernel
theorem dL_law_200 : decode cL_law 200 = .ok (.istore 12, 2) := by decide +kernel
theorem dL_law_202 : decode cL_law 202 = .ok (.iload 9, 2) := by decide +kernel
theorem dL_law_204 : decode cL_law 204 = .ok (.bipush 64, 2) := by decide +kernel
theorem dL_law_206 : decode cL_law 206 = .ok (.idiv, 1) := by decide +kernel
theorem dL_law_207 : decode cL_law 207 = .ok (.sipush 256, 3) := by decide +kernel
theorem dL_law_210 : decode cL_law 210 = .ok (.irem, 1) := by decide +kernel
theorem dL_law_211 : decode cL_law 211 = .ok (.istore 13, 2) := by decide +kernel
theorem dL_law_213 : decode cL_law 213 = .ok (.iload 10, 2) := by decide +kernel
theorem dL_law_215 : decode cL_law 215 = .ok (.iconst 2, 1) := by decide +kernel
theorem dL_law_216 : decode cL_law 216 = .ok (.if_icmp .ge 89, 3) := by decide +kernel
theorem dL_law_219 : decode cL_law 219 = .ok (.iload 5, 2) := by decide +kernel
theorem dL_law_221 : decode cL_law 221 = .ok (.bipush 10, 2) := by decide +kernel
theorem dL_law_223 : decode cL_law 223 = .ok (.if_icmp .ge 82, 3) := by decide +kernel
theorem dL_law_226 : decode cL_law 226 = .ok (.iconst 1, 1) := by decide +kernel
theorem dL_law_227 : decode cL_law 227 = .ok (.iload 9, 2) := by decide +kernel
theorem dL_law_229 : decode cL_law 229 = .ok (.bipush 30, 2) := by decide +kernel
theorem dL_law_231 : decode cL_law 231 = .ok (.irem, 1) := by decide +kernel
theorem dL_law_232 : decode cL_law 232 = .ok (.iadd, 1) := by decide +kernel
theorem dL_law_233 : decode cL_law 233 = .ok (.istore 14, 2) := by decide +kernel
theorem dL_law_235 : decode cL_law 235 = .ok (.iload 9, 2) := by decide +kernel
theorem dL_law_237 : decode cL_law 237 = .ok (.bipush 30, 2) := by decide +kernel
theorem dL_law_239 : decode cL_law 239 = .ok (.idiv, 1) := by decide +kernel
theorem dL_law_240 : decode cL_law 240 = .ok (.iconst 4, 1) := by decide +kernel
theorem dL_law_241 : decode cL_law 241 = .ok (.irem, 1) := by decide +kernel
theorem dL_law_242 : decode cL_law 242 = .ok (.ifCond .le 7, 3) := by decide +kernel
theorem dL_law_245 : decode cL_law 245 = .ok (.iconst 1, 1) := by decide +kernel
theorem dL_law_246 : decode cL_law 246 = .ok (.goto 4, 3) := by decide +kernel
theorem dL_law_249 : decode cL_law 249 = .ok (.iconst 0, 1) := by decide +kernel
theorem dL_law_250 : decode cL_law 250 = .ok (.istore 15, 2) := by decide +kernel
theorem dL_law_252 : decode cL_law 252 = .ok (.aload_n 1, 1) := by decide +kernel
theorem dL_law_253 : decode cL_law 253 = .ok (.iload 9, 2) := by decide +kernel
theorem dL_law_255 : decode cL_law 255 = .ok (.sipush 25501, 3) := by decide +kernel
theorem dL_law_258 : decode cL_law 258 = .ok (.irem, 1) := by decide +kernel
theorem dL_law_259 : decode cL_law 259 = .ok (.iload 14, 2) := by decide +kernel
theorem dL_law_261 : decode cL_law 261 = .ok (.iconst 0, 1) := by decide +kernel
theorem dL_law_262 : decode cL_law 262 = .ok (.iload 15, 2) := by decide +kernel
theorem dL_law_264 : decode cL_law 264 = .ok (.invokestatic 95, 3) := by decide +kernel
theorem dL_law_267 : decode cL_law 267 = .ok (.iload 5, 2) := by decide +kernel
theorem dL_law_269 : decode cL_law 269 = .ok (.if_icmp .ne 27, 3) := by decide +kernel
theorem dL_law_272 : decode cL_law 272 = .ok (.aload_n 2, 1) := by decide +kernel
theorem dL_law_273 : decode cL_law 273 = .ok (.iload 9, 2) := by decide +kernel
theorem dL_law_275 : decode cL_law 275 = .ok (.sipush 25501, 3) := by decide +kernel
theorem dL_law_278 : decode cL_law 278 = .ok (.irem, 1) := by decide +kernel
theorem dL_law_279 : decode cL_law 279 = .ok (.iload 14, 2) := by decide +kernel
theorem dL_law_281 : decode cL_law 281 = .ok (.iconst 0, 1) := by decide +kernel
theorem dL_law_282 : decode cL_law 282 = .ok (.iload 15, 2) := by decide +kernel
theorem dL_law_284 : decode cL_law 284 = .ok (.invokestatic 95, 3) := by decide +kernel
theorem dL_law_287 : decode cL_law 287 = .ok (.iload 5, 2) := by decide +kernel
theorem dL_law_289 : decode cL_law 289 = .ok (.if_icmp .ne 7, 3) := by decide +kernel
theorem dL_law_292 : decode cL_law 292 = .ok (.iconst 1, 1) := by decide +kernel
theorem dL_law_293 : decode cL_law 293 = .ok (.goto 4, 3) := by decide +kernel
theorem dL_law_296 : decode cL_law 296 = .ok (.iconst 0, 1) := by decide +kernel
theorem dL_law_297 : decode cL_law 297 = .ok (.istore 6, 2) := by decide +kernel
theorem dL_law_299 : decode cL_law 299 = .ok (.iinc 5 1, 3) := by decide +kernel
theorem dL_law_302 : decode cL_law 302 = .ok (.goto 292, 3) := by decide +kernel
theorem dL_law_305 : decode cL_law 305 = .ok (.iload 10, 2) := by decide +kernel
theorem dL_law_307 : decode cL_law 307 = .ok (.iconst 4, 1) := by decide +kernel
theorem dL_law_308 : decode cL_law 308 = .ok (.if_icmp .ge 40, 3) := by decide +kernel
theorem dL_law_311 : decode cL_law 311 = .ok (.aload_n 1, 1) := by decide +kernel
theorem dL_law_312 : decode cL_law 312 = .ok (.iconst 0, 1) := by decide +kernel
theorem dL_law_313 : decode cL_law 313 = .ok (.iconst 1, 1) := by decide +kernel
theorem dL_law_314 : decode cL_law 314 = .ok (.iload 11, 2) := by decide +kernel
theorem dL_law_316 : decode cL_law 316 = .ok (.iload 12, 2) := by decide +kernel
theorem dL_law_318 : decode cL_law 318 = .ok (.iload 13, 2) := by decide +kernel
theorem dL_law_320 : decode cL_law 320 = .ok (.invokestatic 81, 3) := by decide +kernel
theorem dL_law_323 : decode cL_law 323 = .ok (.aload_n 2, 1) := by decide +kernel
theorem dL_law_324 : decode cL_law 324 = .ok (.iconst 0, 1) := by decide +kernel
theorem dL_law_325 : decode cL_law 325 = .ok (.iconst 0, 1) := by decide +kernel
theorem dL_law_326 : decode cL_law 326 = .ok (.iload 11, 2) := by decide +kernel
theorem dL_law_328 : decode cL_law 328 = .ok (.iload 12, 2) := by decide +kernel
theorem dL_law_330 : decode cL_law 330 = .ok (.iload 13, 2) := by decide +kernel
theorem dL_law_332 : decode cL_law 332 = .ok (.invokestatic 81, 3) := by decide +kernel
theorem dL_law_335 : decode cL_law 335 = .ok (.if_icmp .ne 7, 3) := by decide +kernel
theorem dL_law_338 : decode cL_law 338 = .ok (.iconst 1, 1) := by decide +kernel
theorem dL_law_339 : decode cL_law 339 = .ok (.goto 4, 3) := by decide +kernel
theorem dL_law_342 : decode cL_law 342 = .ok (.iconst 0, 1) := by decide +kernel
theorem dL_law_343 : decode cL_law 343 = .ok (.istore 6, 2) := by decide +kernel
theorem dL_law_345 : decode cL_law 345 = .ok (.goto 249, 3) := by decide +kernel
theorem dL_law_348 : decode cL_law 348 = .ok (.iload 10, 2) := by decide +kernel
theorem dL_law_350 : decode cL_law 350 = .ok (.iconst 4, 1) := by decide +kernel
theorem dL_law_351 : decode cL_law 351 = .ok (.if_icmp .ne 64, 3) := by decide +kernel
theorem dL_law_354 : decode cL_law 354 = .ok (.aload_n 1, 1) := by decide +kernel
theorem dL_law_355 : decode cL_law 355 = .ok (.iconst 1, 1) := by decide +kernel
theorem dL_law_356 : decode cL_law 356 = .ok (.iconst 1, 1) := by decide +kernel
theorem dL_law_357 : decode cL_law 357 = .ok (.iload 11, 2) := by decide +kernel
theorem dL_law_359 : decode cL_law 359 = .ok (.iload 12, 2) := by decide +kernel
theorem dL_law_361 : decode cL_law 361 = .ok (.iload 13, 2) := by decide +kernel
theorem dL_law_363 : decode cL_law 363 = .ok (.invokestatic 81, 3) := by decide +kernel
theorem dL_law_366 : decode cL_law 366 = .ok (.aload_n 2, 1) := by decide +kernel
theorem dL_law_367 : decode cL_law 367 = .ok (.iconst 1, 1) := by decide +kernel
theorem dL_law_368 : decode cL_law 368 = .ok (.iconst 0, 1) := by decide +kernel
theorem dL_law_369 : decode cL_law 369 = .ok (.iload 11, 2) := by decide +kernel
theorem dL_law_371 : decode cL_law 371 = .ok (.iload 12, 2) := by decide +kernel
theorem dL_law_373 : decode cL_law 373 = .ok (.iload 13, 2) := by decide +kernel
theorem dL_law_375 : decode cL_law 375 = .ok (.invokestatic 81, 3) := by decide +kernel
theorem dL_law_378 : decode cL_law 378 = .ok (.if_icmp .ne 31, 3) := by decide +kernel
theorem dL_law_381 : decode cL_law 381 = .ok (.iload 9, 2) := by decide +kernel
theorem dL_law_383 : decode cL_law 383 = .ok (.iconst 3, 1) := by decide +kernel
theorem dL_law_384 : decode cL_law 384 = .ok (.irem, 1) := by decide +kernel
theorem dL_law_385 : decode cL_law 385 = .ok (.ifCond .gt 20, 3) := by decide +kernel
theorem dL_law_388 : decode cL_law 388 = .ok (.aload_n 1, 1) := by decide +kernel
theorem dL_law_389 : decode cL_law 389 = .ok (.iconst 1, 1) := by decide +kernel
theorem dL_law_390 : decode cL_law 390 = .ok (.iconst 1, 1) := by decide +kernel
theorem dL_law_391 : decode cL_law 391 = .ok (.iconst 0, 1) := by decide +kernel
theorem dL_law_392 : decode cL_law 392 = .ok (.invokestatic 75, 3) := by decide +kernel
theorem dL_law_395 : decode cL_law 395 = .ok (.aload_n 2, 1) := by decide +kernel
theorem dL_law_396 : decode cL_law 396 = .ok (.iconst 1, 1) := by decide +kernel
theorem dL_law_397 : decode cL_law 397 = .ok (.iconst 0, 1) := by decide +kernel
theorem dL_law_398 : decode cL_law 398 = .ok (.iconst 0, 1) := by decide +kernel
theorem dL_law_399 : decode cL_law 399 = .ok (.invokestatic 75, 3) := by decide +kernel
theorem dL_law_402 : decode cL_law 402 = .ok (.if_icmp .ne 7, 3) := by decide +kernel
theorem dL_law_405 : decode cL_law 405 = .ok (.iconst 1, 1) := by decide +kernel
theorem dL_law_406 : decode cL_law 406 = .ok (.goto 4, 3) := by decide +kernel
theorem dL_law_409 : decode cL_law 409 = .ok (.iconst 0, 1) := by decide +kernel
theorem dL_law_410 : decode cL_law 410 = .ok (.istore 6, 2) := by decide +kernel
theorem dL_law_412 : decode cL_law 412 = .ok (.goto 182, 3) := by decide +kernel
theorem dL_law_415 : decode cL_law 415 = .ok (.iload 10, 2) := by decide +kernel
theorem dL_law_417 : decode cL_law 417 = .ok (.iconst 5, 1) := by decide +kernel
theorem dL_law_418 : decode cL_law 418 = .ok (.if_icmp .ne 113, 3) := by decide +kernel
theorem dL_law_421 : decode cL_law 421 = .ok (.iload 5, 2) := by decide +kernel
theorem dL_law_423 : decode cL_law 423 = .ok (.iconst 1, 1) := by decide +kernel
theorem dL_law_424 : decode cL_law 424 = .ok (.if_icmp .le 107, 3) := by decide +kernel
theorem dL_law_427 : decode cL_law 427 = .ok (.aload_n 1, 1) := by decide +kernel
theorem dL_law_428 : decode cL_law 428 = .ok (.iconst 1, 1) := by decide +kernel
theorem dL_law_429 : decode cL_law 429 = .ok (.iconst 1, 1) := by decide +kernel
theorem dL_law_430 : decode cL_law 430 = .ok (.iload 9, 2) := by decide +kernel
theorem dL_law_432 : decode cL_law 432 = .ok (.iload 5, 2) := by decide +kernel
theorem dL_law_434 : decode cL_law 434 = .ok (.irem, 1) := by decide +kernel
theorem dL_law_435 : decode cL_law 435 = .ok (.iload 9, 2) := by decide +kernel
theorem dL_law_437 : decode cL_law 437 = .ok (.iload 5, 2) := by decide +kernel
theorem dL_law_439 : decode cL_law 439 = .ok (.irem, 1) := by decide +kernel
theorem dL_law_440 : decode cL_law 440 = .ok (.iconst 1, 1) := by decide +kernel
theorem dL_law_441 : decode cL_law 441 = .ok (.iadd, 1) := by decide +kernel
theorem dL_law_442 : decode cL_law 442 = .ok (.iload 5, 2) := by decide +kernel
theorem dL_law_444 : decode cL_law 444 = .ok (.irem, 1) := by decide +kernel
theorem dL_law_445 : decode cL_law 445 = .ok (.invokestatic 91, 3) := by decide +kernel
theorem dL_law_448 : decode cL_law 448 = .ok (.aload_n 2, 1) := by decide +kernel
theorem dL_law_449 : decode cL_law 449 = .ok (.iconst 1, 1) := by decide +kernel
theorem dL_law_450 : decode cL_law 450 = .ok (.iconst 0, 1) := by decide +kernel
theorem dL_law_451 : decode cL_law 451 = .ok (.iload 9, 2) := by decide +kernel
theorem dL_law_453 : decode cL_law 453 = .ok (.iload 5, 2) := by decide +kernel
theorem dL_law_455 : decode cL_law 455 = .ok (.irem, 1) := by decide +kernel
theorem dL_law_456 : decode cL_law 456 = .ok (.iload 9, 2) := by decide +kernel
theorem dL_law_458 : decode cL_law 458 = .ok (.iload 5, 2) := by decide +kernel
theorem dL_law_460 : decode cL_law 460 = .ok (.irem, 1) := by decide +kernel
theorem dL_law_461 : decode cL_law 461 = .ok (.iconst 1, 1) := by decide +kernel
theorem dL_law_462 : decode cL_law 462 = .ok (.iadd, 1) := by decide +kernel
theorem dL_law_463 : decode cL_law 463 = .ok (.iload 5, 2) := by decide +kernel
theorem dL_law_465 : decode cL_law 465 = .ok (.irem, 1) := by decide +kernel
theorem dL_law_466 : decode cL_law 466 = .ok (.invokestatic 91, 3) := by decide +kernel
theorem dL_law_469 : decode cL_law 469 = .ok (.if_icmp .ne 56, 3) := by decide +kernel
theorem dL_law_472 : decode cL_law 472 = .ok (.aload_n 1, 1) := by decide +kernel
theorem dL_law_473 : decode cL_law 473 = .ok (.iconst 0, 1) := by decide +kernel
theorem dL_law_474 : decode cL_law 474 = .ok (.iload 9, 2) := by decide +kernel
theorem dL_law_476 : decode cL_law 476 = .ok (.iload 5, 2) := by decide +kernel
theorem dL_law_478 : decode cL_law 478 = .ok (.irem, 1) := by decide +kernel
theorem dL_law_479 : decode cL_law 479 = .ok (.iconst 0, 1) := by decide +kernel
theorem dL_law_480 : decode cL_law 480 = .ok (.invokestatic 75, 3) := by decide +kernel
theorem dL_law_483 : decode cL_law 483 = .ok (.aload_n 2, 1) := by decide +kernel
theorem dL_law_484 : decode cL_law 484 = .ok (.iconst 0, 1) := by decide +kernel
theorem dL_law_485 : decode cL_law 485 = .ok (.iload 9, 2) := by decide +kernel
theorem dL_law_487 : decode cL_law 487 = .ok (.iload 5, 2) := by decide +kernel
theorem dL_law_489 : decode cL_law 489 = .ok (.irem, 1) := by decide +kernel
theorem dL_law_490 : decode cL_law 490 = .ok (.iconst 0, 1) := by decide +kernel
theorem dL_law_491 : decode cL_law 491 = .ok (.invokestatic 75, 3) := by decide +kernel
theorem dL_law_494 : decode cL_law 494 = .ok (.if_icmp .ne 31, 3) := by decide +kernel
theorem dL_law_497 : decode cL_law 497 = .ok (.aload_n 1, 1) := by decide +kernel
theorem dL_law_498 : decode cL_law 498 = .ok (.iconst 1, 1) := by decide +kernel
theorem dL_law_499 : decode cL_law 499 = .ok (.iconst 0, 1) := by decide +kernel
theorem dL_law_500 : decode cL_law 500 = .ok (.iload 9, 2) := by decide +kernel
theorem dL_law_502 : decode cL_law 502 = .ok (.iload 5, 2) := by decide +kernel
theorem dL_law_504 : decode cL_law 504 = .ok (.irem, 1) := by decide +kernel
theorem dL_law_505 : decode cL_law 505 = .ok (.iload 9, 2) := by decide +kernel
theorem dL_law_507 : decode cL_law 507 = .ok (.iload 5, 2) := by decide +kernel
theorem dL_law_509 : decode cL_law 509 = .ok (.irem, 1) := by decide +kernel
theorem dL_law_510 : decode cL_law 510 = .ok (.iconst 1, 1) := by decide +kernel
theorem dL_law_511 : decode cL_law 511 = .ok (.iadd, 1) := by decide +kernel
theorem dL_law_512 : decode cL_law 512 = .ok (.iload 5, 2) := by decide +kernel
theorem dL_law_514 : decode cL_law 514 = .ok (.irem, 1) := by decide +kernel
theorem dL_law_515 : decode cL_law 515 = .ok (.invokestatic 91, 3) := by decide +kernel
theorem dL_law_518 : decode cL_law 518 = .ok (.ifCond .ne 7, 3) := by decide +kernel
theorem dL_law_521 : decode cL_law 521 = .ok (.iconst 1, 1) := by decide +kernel
theorem dL_law_522 : decode cL_law 522 = .ok (.goto 4, 3) := by decide +kernel
theorem dL_law_525 : decode cL_law 525 = .ok (.iconst 0, 1) := by decide +kernel
theorem dL_law_526 : decode cL_law 526 = .ok (.istore 6, 2) := by decide +kernel
theorem dL_law_528 : decode cL_law 528 = .ok (.goto 66, 3) := by decide +kernel
theorem dL_law_531 : decode cL_law 531 = .ok (.aload_n 1, 1) := by decide +kernel
theorem dL_law_532 : decode cL_law 532 = .ok (.iconst 2, 1) := by decide +kernel
theorem dL_law_533 : decode cL_law 533 = .ok (.iconst 1, 1) := by decide +kernel
theorem dL_law_534 : decode cL_law 534 = .ok (.iconst 0, 1) := by decide +kernel
theorem dL_law_535 : decode cL_law 535 = .ok (.invokestatic 75, 3) := by decide +kernel
theorem dL_law_538 : decode cL_law 538 = .ok (.istore 14, 2) := by decide +kernel
theorem dL_law_540 : decode cL_law 540 = .ok (.iload 14, 2) := by decide +kernel
theorem dL_law_542 : decode cL_law 542 = .ok (.aload_n 2, 1) := by decide +kernel
theorem dL_law_543 : decode cL_law 543 = .ok (.iconst 2, 1) := by decide +kernel
theorem dL_law_544 : decode cL_law 544 = .ok (.iconst 0, 1) := by decide +kernel
theorem dL_law_545 : decode cL_law 545 = .ok (.iconst 0, 1) := by decide +kernel
theorem dL_law_546 : decode cL_law 546 = .ok (.invokestatic 75, 3) := by decide +kernel
theorem dL_law_549 : decode cL_law 549 = .ok (.if_icmp .ne 42, 3) := by decide +kernel
theorem dL_law_552 : decode cL_law 552 = .ok (.aload_n 1, 1) := by decide +kernel
theorem dL_law_553 : decode cL_law 553 = .ok (.aload_n 2, 1) := by decide +kernel
theorem dL_law_554 : decode cL_law 554 = .ok (.iconst 1, 1) := by decide +kernel
theorem dL_law_555 : decode cL_law 555 = .ok (.iconst 0, 1) := by decide +kernel
theorem dL_law_556 : decode cL_law 556 = .ok (.iload_n 3, 1) := by decide +kernel
theorem dL_law_557 : decode cL_law 557 = .ok (.iload 4, 2) := by decide +kernel
theorem dL_law_559 : decode cL_law 559 = .ok (.invokestatic 99, 3) := by decide +kernel
theorem dL_law_562 : decode cL_law 562 = .ok (.ifCond .eq 29, 3) := by decide +kernel
theorem dL_law_565 : decode cL_law 565 = .ok (.aload_n 1, 1) := by decide +kernel
theorem dL_law_566 : decode cL_law 566 = .ok (.iconst 2, 1) := by decide +kernel
theorem dL_law_567 : decode cL_law 567 = .ok (.iconst 1, 1) := by decide +kernel
theorem dL_law_568 : decode cL_law 568 = .ok (.iconst 0, 1) := by decide +kernel
theorem dL_law_569 : decode cL_law 569 = .ok (.invokestatic 75, 3) := by decide +kernel
theorem dL_law_572 : decode cL_law 572 = .ok (.iload 14, 2) := by decide +kernel
theorem dL_law_574 : decode cL_law 574 = .ok (.if_icmp .ne 17, 3) := by decide +kernel
theorem dL_law_577 : decode cL_law 577 = .ok (.aload_n 1, 1) := by decide +kernel
theorem dL_law_578 : decode cL_law 578 = .ok (.iconst 1, 1) := by decide +kernel
theorem dL_law_579 : decode cL_law 579 = .ok (.iconst 0, 1) := by decide +kernel
theorem dL_law_580 : decode cL_law 580 = .ok (.iconst 0, 1) := by decide +kernel
theorem dL_law_581 : decode cL_law 581 = .ok (.invokestatic 75, 3) := by decide +kernel
theorem dL_law_584 : decode cL_law 584 = .ok (.ifCond .lt 7, 3) := by decide +kernel
theorem dL_law_587 : decode cL_law 587 = .ok (.iconst 1, 1) := by decide +kernel
theorem dL_law_588 : decode cL_law 588 = .ok (.goto 4, 3) := by decide +kernel
theorem dL_law_591 : decode cL_law 591 = .ok (.iconst 0, 1) := by decide +kernel
theorem dL_law_592 : decode cL_law 592 = .ok (.istore 6, 2) := by decide +kernel
theorem dL_law_594 : decode cL_law 594 = .ok (.iload 6, 2) := by decide +kernel
theorem dL_law_596 : decode cL_law 596 = .ok (.ifCond .eq 20, 3) := by decide +kernel
theorem dL_law_599 : decode cL_law 599 = .ok (.aload_n 1, 1) := by decide +kernel
theorem dL_law_600 : decode cL_law 600 = .ok (.aload_n 2, 1) := by decide +kernel
theorem dL_law_601 : decode cL_law 601 = .ok (.iconst 1, 1) := by decide +kernel
theorem dL_law_602 : decode cL_law 602 = .ok (.iconst 0, 1) := by decide +kernel
theorem dL_law_603 : decode cL_law 603 = .ok (.iload_n 3, 1) := by decide +kernel
theorem dL_law_604 : decode cL_law 604 = .ok (.iload 4, 2) := by decide +kernel
theorem dL_law_606 : decode cL_law 606 = .ok (.invokestatic 99, 3) := by decide +kernel
theorem dL_law_609 : decode cL_law 609 = .ok (.ifCond .eq 7, 3) := by decide +kernel
theorem dL_law_612 : decode cL_law 612 = .ok (.iconst 1, 1) := by decide +kernel
theorem dL_law_613 : decode cL_law 613 = .ok (.goto 4, 3) := by decide +kernel
theorem dL_law_616 : decode cL_law 616 = .ok (.iconst 0, 1) := by decide +kernel
theorem dL_law_617 : decode cL_law 617 = .ok (.istore 6, 2) := by decide +kernel
theorem dL_law_619 : decode cL_law 619 = .ok (.iconst 0, 1) := by decide +kernel
theorem dL_law_620 : decode cL_law 620 = .ok (.istore 14, 2) := by decide +kernel
theorem dL_law_622 : decode cL_law 622 = .ok (.iload 14, 2) := by decide +kernel
theorem dL_law_624 : decode cL_law 624 = .ok (.iload 5, 2) := by decide +kernel
theorem dL_law_626 : decode cL_law 626 = .ok (.if_icmp .ge 64, 3) := by decide +kernel
theorem dL_law_629 : decode cL_law 629 = .ok (.iload 6, 2) := by decide +kernel
theorem dL_law_631 : decode cL_law 631 = .ok (.ifCond .eq 59, 3) := by decide +kernel
theorem dL_law_634 : decode cL_law 634 = .ok (.iconst 0, 1) := by decide +kernel
theorem dL_law_635 : decode cL_law 635 = .ok (.istore 15, 2) := by decide +kernel
theorem dL_law_637 : decode cL_law 637 = .ok (.iload 15, 2) := by decide +kernel
theorem dL_law_639 : decode cL_law 639 = .ok (.iconst 5, 1) := by decide +kernel
theorem dL_law_640 : decode cL_law 640 = .ok (.if_icmp .ge 44, 3) := by decide +kernel
theorem dL_law_643 : decode cL_law 643 = .ok (.iload 6, 2) := by decide +kernel
theorem dL_law_645 : decode cL_law 645 = .ok (.ifCond .eq 39, 3) := by decide +kernel
theorem dL_law_648 : decode cL_law 648 = .ok (.aload_n 1, 1) := by decide +kernel
theorem dL_law_649 : decode cL_law 649 = .ok (.bipush 7, 2) := by decide +kernel
theorem dL_law_651 : decode cL_law 651 = .ok (.iload 14, 2) := by decide +kernel
theorem dL_law_653 : decode cL_law 653 = .ok (.iload 15, 2) := by decide +kernel
theorem dL_law_655 : decode cL_law 655 = .ok (.invokestatic 75, 3) := by decide +kernel
theorem dL_law_658 : decode cL_law 658 = .ok (.aload_n 2, 1) := by decide +kernel
theorem dL_law_659 : decode cL_law 659 = .ok (.bipush 7, 2) := by decide +kernel
theorem dL_law_661 : decode cL_law 661 = .ok (.iload 14, 2) := by decide +kernel
theorem dL_law_663 : decode cL_law 663 = .ok (.iload 15, 2) := by decide +kernel
theorem dL_law_665 : decode cL_law 665 = .ok (.invokestatic 75, 3) := by decide +kernel
theorem dL_law_668 : decode cL_law 668 = .ok (.if_icmp .ne 7, 3) := by decide +kernel
theorem dL_law_671 : decode cL_law 671 = .ok (.iconst 1, 1) := by decide +kernel
theorem dL_law_672 : decode cL_law 672 = .ok (.goto 4, 3) := by decide +kernel
theorem dL_law_675 : decode cL_law 675 = .ok (.iconst 0, 1) := by decide +kernel
theorem dL_law_676 : decode cL_law 676 = .ok (.istore 6, 2) := by decide +kernel
theorem dL_law_678 : decode cL_law 678 = .ok (.iinc 15 1, 3) := by decide +kernel
theorem dL_law_681 : decode cL_law 681 = .ok (.goto (-44), 3) := by decide +kernel
theorem dL_law_684 : decode cL_law 684 = .ok (.iinc 14 1, 3) := by decide +kernel
theorem dL_law_687 : decode cL_law 687 = .ok (.goto (-65), 3) := by decide +kernel
theorem dL_law_690 : decode cL_law 690 = .ok (.iinc 7 1, 3) := by decide +kernel
theorem dL_law_693 : decode cL_law 693 = .ok (.goto (-541), 3) := by decide +kernel
theorem dL_law_696 : decode cL_law 696 = .ok (.iload 6, 2) := by decide +kernel
theorem dL_law_698 : decode cL_law 698 = .ok (.ireturn, 1) := by decide +kernel
