def wsL_lot_r1 : List Cond := [Cond.classLink RL 13 "java/lang/IllegalArgumentException", Cond.classLink RL 15 "java/lang/IllegalStateException", Cond.methodLink RL 7 yX4_lot, Cond.instanceMethod yX4_lot, Cond.selects RX4 yX4_lot yX4_lot, Cond.initialized RX4, Cond.code yX4_lot cX4_lot 6 (some .int), Cond.classLink RX4 36 "java/lang/IllegalStateException", Cond.initialized "java/lang/IllegalStateException", Cond.fieldLink RX4 32 "TesseraeRow" "lotCount" "I", Cond.fieldLink RX4 11 "TesseraeRow" "lots" "[LTesseraeRow$Lot;", Cond.classLink RX4 9 RX2, Cond.instantiable RX2 7, Cond.initialized RX2, Cond.constantFloat RX4 43 (1120403456), Cond.methodLink RX4 28 yX4_needRange, Cond.static yX4_needRange, Cond.code yX4_needRange cX4_needRange 3 none, Cond.classLink RX4 104 "java/lang/IllegalArgumentException", Cond.initialized "java/lang/IllegalArgumentException", Cond.methodLink RX4 44 yX2_init, Cond.instanceMethod yX2_init, Cond.code yX2_init cX2_init 6 none, Cond.methodLink RX2 1 objectInit]
def wsL_lot_r2 : List Cond := [Cond.instanceMethod objectInit, Cond.code objectInit ⟨#[0xb1]⟩ 1 none, Cond.fieldLink RX2 7 "TesseraeRow$Lot" "number" "I", Cond.fieldLink RX2 13 "TesseraeRow$Lot" "tone" "F", Cond.fieldLink RX2 17 "TesseraeRow$Lot" "left" "I", Cond.fieldLink RX2 20 "TesseraeRow$Lot" "material" "I", Cond.fieldLink RX2 23 "TesseraeRow$Lot" "isThere" "Z"]
def wsL_lot : List Cond := .codeWith yL_lot cL_lot 7 (some .int) [(0, 14, 17, 13), (0, 14, 21, 15)] :: ((wsL_lot_r1 ++ wsL_lot_r2) ++ wsX40 ++ wsX20 ++ (vx_atS RX4 40 "java/lang/IllegalStateException" ["java/lang/RuntimeException", "java/lang/Exception"]).filter goodWord ++ (vx_atS RX4 108 "java/lang/IllegalArgumentException" ["java/lang/RuntimeException", "java/lang/Exception"]).filter goodWord)
def wsL_comes : List Cond := .codeWith yL_comes cL_comes 4 (some .int) [(0, 9, 12, 21), (0, 9, 15, 15)] :: ([.classLink RL 21 "java/lang/IndexOutOfBoundsException", .classLink RL 15 "java/lang/IllegalStateException", .methodLink RL 17 yX4_comes, .instanceMethod yX4_comes, .selects RX4 yX4_comes yX4_comes, .initialized RX4, .code yX4_comes cX4_comes 3 (some .int), .classLink RX4 36 "java/lang/IllegalStateException", .initialized "java/lang/IllegalStateException", .fieldLink RX4 51 "TesseraeRow$Lot" "isThere" "Z", .fieldLink RX4 57 "TesseraeRow$Lot" "left" "I", .methodLink RX4 47 yX4_needLot, .instanceMethod yX4_needLot, .selects RX4 yX4_needLot yX4_needLot, .code yX4_needLot cX4_needLot 3 (some (.object "TesseraeRow$Lot")), .classLink RX4 184 "java/lang/IndexOutOfBoundsException", .initialized "java/lang/IndexOutOfBoundsException", .fieldLink RX4 11 "TesseraeRow" "lots" "[LTesseraeRow$Lot;"] ++ wsX20 ++ wsX40 ++ (vx_atS RX4 40 "java/lang/IllegalStateException" ["java/lang/RuntimeException", "java/lang/Exception"]).filter goodWord ++ (vx_atS RX4 188 "java/lang/IndexOutOfBoundsException" ["java/lang/RuntimeException", "java/lang/Exception"]).filter goodWord)
def wsL_picture_r1 : List Cond := [Cond.classLink RL 13 "java/lang/IllegalArgumentException", Cond.classLink RL 15 "java/lang/IllegalStateException", Cond.methodLink RL 23 yX4_picture, Cond.instanceMethod yX4_picture, Cond.selects RX4 yX4_picture yX4_picture, Cond.initialized RX4, Cond.code yX4_picture cX4_picture 5 (some .int), Cond.classLink RX4 36 "java/lang/IllegalStateException", Cond.initialized "java/lang/IllegalStateException", Cond.fieldLink RX4 60 "TesseraeRow" "pictureCount" "I", Cond.fieldLink RX4 17 "TesseraeRow" "pictures" "[LTesseraeRow$Picture;", Cond.classLink RX4 15 RX3, Cond.instantiable RX3 4, Cond.initialized RX3, Cond.methodLink RX4 28 yX4_needRange, Cond.static yX4_needRange, Cond.code yX4_needRange cX4_needRange 3 none, Cond.classLink RX4 104 "java/lang/IllegalArgumentException", Cond.initialized "java/lang/IllegalArgumentException", Cond.methodLink RX4 65 yX3_init, Cond.instanceMethod yX3_init, Cond.code yX3_init cX3_init 8 none, Cond.methodLink RX3 3 objectInit, Cond.instanceMethod objectInit]
def wsL_picture_r2 : List Cond := [Cond.code objectInit ⟨#[0xb1]⟩ 1 none, Cond.fieldLink RX3 9 "TesseraeRow$Picture" "number" "I", Cond.fieldLink RX3 15 "TesseraeRow$Picture" "width" "I", Cond.fieldLink RX3 18 "TesseraeRow$Picture" "height" "I", Cond.classLink RX3 21 RX0, Cond.fieldLink RX3 23 "TesseraeRow$Picture" "cells" "[LTesseraeRow$Cell;", Cond.instantiable RX0 10, Cond.initialized RX0, Cond.methodLink RX3 27 yX0_init, Cond.instanceMethod yX0_init, Cond.code yX0_init cX0_init 4 none, Cond.methodLink RX0 3 objectInit, Cond.fieldLink RX0 9 "TesseraeRow$Cell" "kind" "I", Cond.fieldLink RX0 15 "TesseraeRow$Cell" "x" "I", Cond.fieldLink RX0 18 "TesseraeRow$Cell" "y" "I", Cond.fieldLink RX0 21 "TesseraeRow$Cell" "wanted" "I"]
def wsL_picture : List Cond := .codeWith yL_picture cL_picture 6 (some .int) [(0, 12, 15, 13), (0, 12, 19, 15)] :: ((wsL_picture_r1 ++ wsL_picture_r2) ++ wsX40 ++ wsX30 ++ wsX00 ++ (vx_atS RX4 40 "java/lang/IllegalStateException" ["java/lang/RuntimeException", "java/lang/Exception"]).filter goodWord ++ (vx_atS RX4 108 "java/lang/IllegalArgumentException" ["java/lang/RuntimeException", "java/lang/Exception"]).filter goodWord)
def wsL_cell_r1 : List Cond := [Cond.classLink RL 21 "java/lang/IndexOutOfBoundsException", Cond.classLink RL 13 "java/lang/IllegalArgumentException", Cond.classLink RL 15 "java/lang/IllegalStateException", Cond.methodLink RL 27 yX4_cell, Cond.instanceMethod yX4_cell, Cond.selects RX4 yX4_cell yX4_cell, Cond.initialized RX4, Cond.code yX4_cell cX4_cell 7 (some .int), Cond.classLink RX4 36 "java/lang/IllegalStateException", Cond.initialized "java/lang/IllegalStateException", Cond.fieldLink RX4 80 "TesseraeRow$Cell" "wanted" "I", Cond.methodLink RX4 68 yX4_needCell, Cond.instanceMethod yX4_needCell, Cond.selects RX4 yX4_needCell yX4_needCell, Cond.code yX4_needCell cX4_needCell 5 (some (.object "TesseraeRow$Cell")), Cond.classLink RX4 184 "java/lang/IndexOutOfBoundsException", Cond.initialized "java/lang/IndexOutOfBoundsException", Cond.methodLink RX4 88 yX4_needPicture, Cond.instanceMethod yX4_needPicture, Cond.selects RX4 yX4_needPicture yX4_needPicture, Cond.code yX4_needPicture cX4_needPicture 3 (some (.object "TesseraeRow$Picture")), Cond.fieldLink RX4 17 "TesseraeRow" "pictures" "[LTesseraeRow$Picture;", Cond.methodLink RX4 191 yX3_cellAt, Cond.instanceMethod yX3_cellAt]
def wsL_cell_r2 : List Cond := [Cond.selects RX3 yX3_cellAt yX3_cellAt, Cond.initialized RX3, Cond.code yX3_cellAt cX3_cellAt 3 (some (.object "TesseraeRow$Cell")), Cond.fieldLink RX3 15 "TesseraeRow$Picture" "width" "I", Cond.fieldLink RX3 18 "TesseraeRow$Picture" "height" "I", Cond.fieldLink RX3 23 "TesseraeRow$Picture" "cells" "[LTesseraeRow$Cell;", Cond.methodLink RX4 28 yX4_needRange, Cond.static yX4_needRange, Cond.code yX4_needRange cX4_needRange 3 none, Cond.classLink RX4 104 "java/lang/IllegalArgumentException", Cond.initialized "java/lang/IllegalArgumentException", Cond.methodLink RX4 72 yX0_isDone, Cond.instanceMethod yX0_isDone, Cond.selects RX0 yX0_isDone yX0_isDone, Cond.initialized RX0, Cond.code yX0_isDone cX0_isDone 1 (some .boolean), Cond.fieldLink RX0 9 "TesseraeRow$Cell" "kind" "I"]
def wsL_cell : List Cond := .codeWith yL_cell cL_cell 7 (some .int) [(0, 14, 17, 21), (0, 14, 21, 13), (0, 14, 25, 15)] :: ((wsL_cell_r1 ++ wsL_cell_r2) ++ wsX00 ++ wsX40 ++ wsX30 ++ (vx_atS RX4 40 "java/lang/IllegalStateException" ["java/lang/RuntimeException", "java/lang/Exception"]).filter goodWord ++ (vx_atS RX4 188 "java/lang/IndexOutOfBoundsException" ["java/lang/RuntimeException", "java/lang/Exception"]).filter goodWord ++ (vx_atS RX4 108 "java/lang/IllegalArgumentException" ["java/lang/RuntimeException", "java/lang/Exception"]).filter goodWord)
def wsL_old_r1 : List Cond := [Cond.classLink RL 21 "java/lang/IndexOutOfBoundsException", Cond.classLink RL 13 "java/lang/IllegalArgumentException", Cond.classLink RL 15 "java/lang/IllegalStateException", Cond.methodLink RL 31 yX4_old, Cond.instanceMethod yX4_old, Cond.selects RX4 yX4_old yX4_old, Cond.initialized RX4, Cond.code yX4_old cX4_old 6 (some .int), Cond.classLink RX4 36 "java/lang/IllegalStateException", Cond.initialized "java/lang/IllegalStateException", Cond.fieldLink RX4 83 "TesseraeRow$Cell" "kind" "I", Cond.fieldLink RX4 80 "TesseraeRow$Cell" "wanted" "I", Cond.methodLink RX4 68 yX4_needCell, Cond.instanceMethod yX4_needCell, Cond.selects RX4 yX4_needCell yX4_needCell, Cond.code yX4_needCell cX4_needCell 5 (some (.object "TesseraeRow$Cell")), Cond.classLink RX4 184 "java/lang/IndexOutOfBoundsException", Cond.initialized "java/lang/IndexOutOfBoundsException", Cond.methodLink RX4 88 yX4_needPicture, Cond.instanceMethod yX4_needPicture, Cond.selects RX4 yX4_needPicture yX4_needPicture, Cond.code yX4_needPicture cX4_needPicture 3 (some (.object "TesseraeRow$Picture")), Cond.fieldLink RX4 17 "TesseraeRow" "pictures" "[LTesseraeRow$Picture;", Cond.methodLink RX4 191 yX3_cellAt]
def wsL_old_r2 : List Cond := [Cond.instanceMethod yX3_cellAt, Cond.selects RX3 yX3_cellAt yX3_cellAt, Cond.initialized RX3, Cond.code yX3_cellAt cX3_cellAt 3 (some (.object "TesseraeRow$Cell")), Cond.fieldLink RX3 15 "TesseraeRow$Picture" "width" "I", Cond.fieldLink RX3 18 "TesseraeRow$Picture" "height" "I", Cond.fieldLink RX3 23 "TesseraeRow$Picture" "cells" "[LTesseraeRow$Cell;", Cond.methodLink RX4 28 yX4_needRange, Cond.static yX4_needRange, Cond.code yX4_needRange cX4_needRange 3 none, Cond.classLink RX4 104 "java/lang/IllegalArgumentException", Cond.initialized "java/lang/IllegalArgumentException", Cond.methodLink RX4 92 yX3_count, Cond.instanceMethod yX3_count, Cond.selects RX3 yX3_count yX3_count, Cond.code yX3_count cX3_count 7 (some .int), Cond.fieldLink RX3 30 "TesseraeRow$Cell" "kind" "I"]
def wsL_old : List Cond := .codeWith yL_old cL_old 7 (some .int) [(0, 14, 17, 21), (0, 14, 21, 13), (0, 14, 25, 15)] :: ((wsL_old_r1 ++ wsL_old_r2) ++ wsX00 ++ wsX40 ++ wsX30 ++ (vx_atS RX4 40 "java/lang/IllegalStateException" ["java/lang/RuntimeException", "java/lang/Exception"]).filter goodWord ++ (vx_atS RX4 188 "java/lang/IndexOutOfBoundsException" ["java/lang/RuntimeException", "java/lang/Exception"]).filter goodWord ++ (vx_atS RX4 108 "java/lang/IllegalArgumentException" ["java/lang/RuntimeException", "java/lang/Exception"]).filter goodWord)
def wsL_fill_r1 : List Cond := [Cond.classLink RL 21 "java/lang/IndexOutOfBoundsException", Cond.methodLink RL 34 yX4_fill, Cond.instanceMethod yX4_fill, Cond.selects RX4 yX4_fill yX4_fill, Cond.initialized RX4, Cond.code yX4_fill cX4_fill 2 (some .int), Cond.methodLink RX4 88 yX4_needPicture, Cond.instanceMethod yX4_needPicture, Cond.selects RX4 yX4_needPicture yX4_needPicture, Cond.code yX4_needPicture cX4_needPicture 3 (some (.object "TesseraeRow$Picture")), Cond.classLink RX4 184 "java/lang/IndexOutOfBoundsException", Cond.initialized "java/lang/IndexOutOfBoundsException", Cond.fieldLink RX4 17 "TesseraeRow" "pictures" "[LTesseraeRow$Picture;", Cond.methodLink RX4 96 yX3_fillGaps, Cond.instanceMethod yX3_fillGaps, Cond.selects RX3 yX3_fillGaps yX3_fillGaps, Cond.initialized RX3, Cond.code yX3_fillGaps cX3_fillGaps 5 (some .int), Cond.fieldLink RX3 23 "TesseraeRow$Picture" "cells" "[LTesseraeRow$Cell;", Cond.fieldLink RX3 107 "TesseraeRow$Cell" "round" "I", Cond.methodLink RX3 104 yX0_isDone, Cond.instanceMethod yX0_isDone, Cond.selects RX0 yX0_isDone yX0_isDone, Cond.initialized RX0]
def wsL_fill_r2 : List Cond := [Cond.code yX0_isDone cX0_isDone 1 (some .boolean), Cond.fieldLink RX0 9 "TesseraeRow$Cell" "kind" "I", Cond.methodLink RX3 110 yX3_fillRound, Cond.instanceMethod yX3_fillRound, Cond.selects RX3 yX3_fillRound yX3_fillRound, Cond.code yX3_fillRound cX3_fillRound 7 (some .int), Cond.methodLink RX3 114 yX3_fillCell, Cond.instanceMethod yX3_fillCell, Cond.selects RX3 yX3_fillCell yX3_fillCell, Cond.code yX3_fillCell cX3_fillCell 8 (some .boolean), Cond.fieldLink RX3 81 "TesseraeRow$Cell" "y" "I", Cond.fieldLink RX3 78 "TesseraeRow$Cell" "x" "I", Cond.fieldLink RX3 39 "TesseraeRow$Cell" "wanted" "I", Cond.methodLink RX3 92 yX3_cellAt, Cond.instanceMethod yX3_cellAt, Cond.selects RX3 yX3_cellAt yX3_cellAt, Cond.code yX3_cellAt cX3_cellAt 3 (some (.object "TesseraeRow$Cell")), Cond.fieldLink RX3 15 "TesseraeRow$Picture" "width" "I", Cond.fieldLink RX3 18 "TesseraeRow$Picture" "height" "I"]
def wsL_fill : List Cond := .codeWith yL_fill cL_fill 4 (some .int) [(0, 9, 12, 21)] :: ((wsL_fill_r1 ++ wsL_fill_r2) ++ wsX40 ++ wsX30 ++ wsX00 ++ (vx_atS RX4 188 "java/lang/IndexOutOfBoundsException" ["java/lang/RuntimeException", "java/lang/Exception"]).filter goodWord)
def wsL_design_r1 : List Cond := [Cond.classLink RL 21 "java/lang/IndexOutOfBoundsException", Cond.methodLink RL 37 yX4_design, Cond.instanceMethod yX4_design, Cond.selects RX4 yX4_design yX4_design, Cond.initialized RX4, Cond.code yX4_design cX4_design 3 (some .int), Cond.fieldLink RX4 11 "TesseraeRow" "lots" "[LTesseraeRow$Lot;", Cond.methodLink RX4 88 yX4_needPicture, Cond.instanceMethod yX4_needPicture, Cond.selects RX4 yX4_needPicture yX4_needPicture, Cond.code yX4_needPicture cX4_needPicture 3 (some (.object "TesseraeRow$Picture")), Cond.classLink RX4 184 "java/lang/IndexOutOfBoundsException", Cond.initialized "java/lang/IndexOutOfBoundsException", Cond.fieldLink RX4 17 "TesseraeRow" "pictures" "[LTesseraeRow$Picture;", Cond.methodLink RX4 100 yX3_designFrom, Cond.instanceMethod yX3_designFrom, Cond.selects RX3 yX3_designFrom yX3_designFrom, Cond.initialized RX3, Cond.code yX3_designFrom cX3_designFrom 6 none, Cond.fieldLink RX3 23 "TesseraeRow$Picture" "cells" "[LTesseraeRow$Cell;", Cond.fieldLink RX3 39 "TesseraeRow$Cell" "wanted" "I", Cond.fieldLink RX3 42 "TesseraeRow$Cell" "brought" "F", Cond.fieldLink RX3 46 "TesseraeRow$Cell" "aim" "F", Cond.fieldLink RX3 30 "TesseraeRow$Cell" "kind" "I"]
def wsL_design_r2 : List Cond := [Cond.methodLink RX3 33 yX0_takeBack, Cond.instanceMethod yX0_takeBack, Cond.selects RX0 yX0_takeBack yX0_takeBack, Cond.initialized RX0, Cond.code yX0_takeBack cX0_takeBack 1 none, Cond.fieldLink RX0 9 "TesseraeRow$Cell" "kind" "I", Cond.fieldLink RX0 24 "TesseraeRow$Cell" "lot" "LTesseraeRow$Lot;", Cond.fieldLink RX0 33 "TesseraeRow$Lot" "promised" "I", Cond.fieldLink RX0 28 "TesseraeRow$Lot" "left" "I", Cond.methodLink RX3 36 yX3_forgetBrought, Cond.instanceMethod yX3_forgetBrought, Cond.selects RX3 yX3_forgetBrought yX3_forgetBrought, Cond.code yX3_forgetBrought cX3_forgetBrought 5 none, Cond.methodLink RX3 49 yX3_promiseNearest, Cond.static yX3_promiseNearest, Cond.code yX3_promiseNearest cX3_promiseNearest 9 none, Cond.fieldLink RX3 67 "TesseraeRow$Lot" "tone" "F", Cond.methodLink RX3 61 yX2_canPromise, Cond.instanceMethod yX2_canPromise, Cond.selects RX2 yX2_canPromise yX2_canPromise, Cond.initialized RX2, Cond.code yX2_canPromise cX2_canPromise 1 (some .boolean), Cond.fieldLink RX2 23 "TesseraeRow$Lot" "isThere" "Z", Cond.fieldLink RX2 17 "TesseraeRow$Lot" "left" "I"]
def wsL_design_r3 : List Cond := [Cond.methodLink RX3 70 yX3_distance, Cond.static yX3_distance, Cond.code yX3_distance cX3_distance 3 (some .float), Cond.methodLink RX3 74 yX0_promise, Cond.instanceMethod yX0_promise, Cond.selects RX0 yX0_promise yX0_promise, Cond.code yX0_promise cX0_promise 2 none, Cond.methodLink RX3 53 yX0_lackBehind, Cond.instanceMethod yX0_lackBehind, Cond.selects RX0 yX0_lackBehind yX0_lackBehind, Cond.code yX0_lackBehind cX0_lackBehind 2 (some .float), Cond.fieldLink RX0 45 "TesseraeRow$Lot" "tone" "F", Cond.methodLink RX3 57 yX3_passOn, Cond.instanceMethod yX3_passOn, Cond.selects RX3 yX3_passOn yX3_passOn, Cond.code yX3_passOn cX3_passOn 3 none, Cond.fieldLink RX3 78 "TesseraeRow$Cell" "x" "I", Cond.fieldLink RX3 81 "TesseraeRow$Cell" "y" "I", Cond.constantFloat RX3 84 (1054867456), Cond.constantFloat RX3 89 (1044381696), Cond.constantFloat RX3 90 (1050673152), Cond.constantFloat RX3 91 (1031798784), Cond.methodLink RX3 85 yX3_bringTo, Cond.instanceMethod yX3_bringTo]
def wsL_design_r4 : List Cond := [Cond.selects RX3 yX3_bringTo yX3_bringTo, Cond.code yX3_bringTo cX3_bringTo 5 none, Cond.methodLink RX3 92 yX3_cellAt, Cond.instanceMethod yX3_cellAt, Cond.selects RX3 yX3_cellAt yX3_cellAt, Cond.code yX3_cellAt cX3_cellAt 3 (some (.object "TesseraeRow$Cell")), Cond.fieldLink RX3 15 "TesseraeRow$Picture" "width" "I", Cond.fieldLink RX3 18 "TesseraeRow$Picture" "height" "I", Cond.methodLink RX3 96 yX0_bring, Cond.instanceMethod yX0_bring, Cond.selects RX0 yX0_bring yX0_bring, Cond.code yX0_bring cX0_bring 2 none, Cond.fieldLink RX0 49 "TesseraeRow$Cell" "brought" "F", Cond.methodLink RX4 92 yX3_count, Cond.instanceMethod yX3_count, Cond.selects RX3 yX3_count yX3_count, Cond.code yX3_count cX3_count 7 (some .int)]
def wsL_design : List Cond := .codeWith yL_design cL_design 4 (some .int) [(0, 9, 12, 21)] :: ((wsL_design_r1 ++ (wsL_design_r2 ++ (wsL_design_r3 ++ wsL_design_r4))) ++ wsX40 ++ wsX30 ++ wsX00 ++ wsX20 ++ (vx_atS RX4 188 "java/lang/IndexOutOfBoundsException" ["java/lang/RuntimeException", "java/lang/Exception"]).filter goodWord)
def wsL_share_r1 : List Cond := [Cond.classLink RL 21 "java/lang/IndexOutOfBoundsException", Cond.classLink RL 13 "java/lang/IllegalArgumentException", Cond.methodLink RL 40 yX4_share, Cond.instanceMethod yX4_share, Cond.selects RX4 yX4_share yX4_share, Cond.initialized RX4, Cond.code yX4_share cX4_share 7 (some .int), Cond.classLink RX4 104 "java/lang/IllegalArgumentException", Cond.initialized "java/lang/IllegalArgumentException", Cond.methodLink RX4 88 yX4_needPicture, Cond.instanceMethod yX4_needPicture, Cond.selects RX4 yX4_needPicture yX4_needPicture, Cond.code yX4_needPicture cX4_needPicture 3 (some (.object "TesseraeRow$Picture")), Cond.classLink RX4 184 "java/lang/IndexOutOfBoundsException", Cond.initialized "java/lang/IndexOutOfBoundsException", Cond.fieldLink RX4 17 "TesseraeRow" "pictures" "[LTesseraeRow$Picture;", Cond.methodLink RX4 47 yX4_needLot, Cond.instanceMethod yX4_needLot, Cond.selects RX4 yX4_needLot yX4_needLot, Cond.code yX4_needLot cX4_needLot 3 (some (.object "TesseraeRow$Lot")), Cond.fieldLink RX4 11 "TesseraeRow" "lots" "[LTesseraeRow$Lot;", Cond.methodLink RX4 109 yX3_giveOddCells, Cond.instanceMethod yX3_giveOddCells, Cond.selects RX3 yX3_giveOddCells yX3_giveOddCells]
def wsL_share_r2 : List Cond := [Cond.initialized RX3, Cond.code yX3_giveOddCells cX3_giveOddCells 8 (some .int), Cond.fieldLink RX3 23 "TesseraeRow$Picture" "cells" "[LTesseraeRow$Cell;", Cond.fieldLink RX3 78 "TesseraeRow$Cell" "x" "I", Cond.fieldLink RX3 81 "TesseraeRow$Cell" "y" "I", Cond.methodLink RX3 100 yX0_isPromised, Cond.instanceMethod yX0_isPromised, Cond.selects RX0 yX0_isPromised yX0_isPromised, Cond.initialized RX0, Cond.code yX0_isPromised cX0_isPromised 2 (some .boolean), Cond.fieldLink RX0 9 "TesseraeRow$Cell" "kind" "I", Cond.fieldLink RX0 24 "TesseraeRow$Cell" "lot" "LTesseraeRow$Lot;", Cond.methodLink RX3 61 yX2_canPromise, Cond.instanceMethod yX2_canPromise, Cond.selects RX2 yX2_canPromise yX2_canPromise, Cond.initialized RX2, Cond.code yX2_canPromise cX2_canPromise 1 (some .boolean), Cond.fieldLink RX2 23 "TesseraeRow$Lot" "isThere" "Z", Cond.fieldLink RX2 17 "TesseraeRow$Lot" "left" "I", Cond.methodLink RX3 33 yX0_takeBack, Cond.instanceMethod yX0_takeBack, Cond.selects RX0 yX0_takeBack yX0_takeBack, Cond.code yX0_takeBack cX0_takeBack 1 none, Cond.fieldLink RX0 33 "TesseraeRow$Lot" "promised" "I"]
def wsL_share_r3 : List Cond := [Cond.fieldLink RX0 28 "TesseraeRow$Lot" "left" "I", Cond.methodLink RX3 74 yX0_promise, Cond.instanceMethod yX0_promise, Cond.selects RX0 yX0_promise yX0_promise, Cond.code yX0_promise cX0_promise 2 none]
def wsL_share : List Cond := .codeWith yL_share cL_share 6 (some .int) [(0, 12, 15, 21), (0, 12, 19, 13)] :: ((wsL_share_r1 ++ (wsL_share_r2 ++ wsL_share_r3)) ++ wsX40 ++ wsX30 ++ wsX00 ++ wsX20 ++ (vx_atS RX4 108 "java/lang/IllegalArgumentException" ["java/lang/RuntimeException", "java/lang/Exception"]).filter goodWord ++ (vx_atS RX4 188 "java/lang/IndexOutOfBoundsException" ["java/lang/RuntimeException", "java/lang/Exception"]).filter goodWord)
def wsL_send_r1 : List Cond := [Cond.classLink RL 21 "java/lang/IndexOutOfBoundsException", Cond.methodLink RL 43 yX4_send, Cond.instanceMethod yX4_send, Cond.selects RX4 yX4_send yX4_send, Cond.initialized RX4, Cond.code yX4_send cX4_send 6 (some .int), Cond.fieldLink RX4 120 "TesseraeRow$Crew" "at" "LTesseraeRow$Picture;", Cond.methodLink RX4 113 yX4_needCrew, Cond.instanceMethod yX4_needCrew, Cond.selects RX4 yX4_needCrew yX4_needCrew, Cond.code yX4_needCrew cX4_needCrew 3 (some (.object "TesseraeRow$Crew")), Cond.classLink RX4 184 "java/lang/IndexOutOfBoundsException", Cond.initialized "java/lang/IndexOutOfBoundsException", Cond.fieldLink RX4 23 "TesseraeRow" "crews" "[LTesseraeRow$Crew;", Cond.methodLink RX4 88 yX4_needPicture, Cond.instanceMethod yX4_needPicture, Cond.selects RX4 yX4_needPicture yX4_needPicture, Cond.code yX4_needPicture cX4_needPicture 3 (some (.object "TesseraeRow$Picture")), Cond.fieldLink RX4 17 "TesseraeRow" "pictures" "[LTesseraeRow$Picture;", Cond.methodLink RX4 117 yX1_pictureNumber, Cond.instanceMethod yX1_pictureNumber, Cond.selects RX1 yX1_pictureNumber yX1_pictureNumber, Cond.initialized RX1, Cond.code yX1_pictureNumber cX1_pictureNumber 1 (some .int)]
def wsL_send_r2 : List Cond := [Cond.fieldLink RX1 27 "TesseraeRow$Crew" "at" "LTesseraeRow$Picture;", Cond.fieldLink RX1 31 "TesseraeRow$Picture" "number" "I"]
def wsL_send : List Cond := .codeWith yL_send cL_send 5 (some .int) [(0, 10, 13, 21)] :: ((wsL_send_r1 ++ wsL_send_r2) ++ wsX10 ++ wsX40 ++ wsX30 ++ (vx_atS RX4 188 "java/lang/IndexOutOfBoundsException" ["java/lang/RuntimeException", "java/lang/Exception"]).filter goodWord)
def wsL_crew : List Cond := .codeWith yL_crew cL_crew 6 (some .int) [(0, 12, 15, 21), (0, 12, 19, 13)] :: ([.classLink RL 21 "java/lang/IndexOutOfBoundsException", .classLink RL 13 "java/lang/IllegalArgumentException", .methodLink RL 47 yX4_crew, .instanceMethod yX4_crew, .selects RX4 yX4_crew yX4_crew, .initialized RX4, .code yX4_crew cX4_crew 6 (some .int), .fieldLink RX4 124 "TesseraeRow$Crew" "rate" "I", .fieldLink RX4 127 "TesseraeRow$Crew" "dry" "I", .methodLink RX4 113 yX4_needCrew, .instanceMethod yX4_needCrew, .selects RX4 yX4_needCrew yX4_needCrew, .code yX4_needCrew cX4_needCrew 3 (some (.object "TesseraeRow$Crew")), .classLink RX4 184 "java/lang/IndexOutOfBoundsException", .initialized "java/lang/IndexOutOfBoundsException", .fieldLink RX4 23 "TesseraeRow" "crews" "[LTesseraeRow$Crew;", .methodLink RX4 28 yX4_needRange, .static yX4_needRange, .code yX4_needRange cX4_needRange 3 none, .classLink RX4 104 "java/lang/IllegalArgumentException", .initialized "java/lang/IllegalArgumentException"] ++ wsX10 ++ wsX40 ++ (vx_atS RX4 188 "java/lang/IndexOutOfBoundsException" ["java/lang/RuntimeException", "java/lang/Exception"]).filter goodWord ++ (vx_atS RX4 108 "java/lang/IllegalArgumentException" ["java/lang/RuntimeException", "java/lang/Exception"]).filter goodWord)
def wsL_tray : List Cond := .codeWith yL_tray cL_tray 5 (some .int) [(0, 10, 13, 21), (0, 10, 17, 13)] :: ([.classLink RL 21 "java/lang/IndexOutOfBoundsException", .classLink RL 13 "java/lang/IllegalArgumentException", .methodLink RL 50 yX4_tray, .instanceMethod yX4_tray, .selects RX4 yX4_tray yX4_tray, .initialized RX4, .code yX4_tray cX4_tray 5 (some .int), .fieldLink RX4 130 "TesseraeRow$Crew" "onTray" "I", .fieldLink RX4 133 "TesseraeRow$Crew" "material" "I", .methodLink RX4 113 yX4_needCrew, .instanceMethod yX4_needCrew, .selects RX4 yX4_needCrew yX4_needCrew, .code yX4_needCrew cX4_needCrew 3 (some (.object "TesseraeRow$Crew")), .classLink RX4 184 "java/lang/IndexOutOfBoundsException", .initialized "java/lang/IndexOutOfBoundsException", .fieldLink RX4 23 "TesseraeRow" "crews" "[LTesseraeRow$Crew;", .methodLink RX4 28 yX4_needRange, .static yX4_needRange, .code yX4_needRange cX4_needRange 3 none, .classLink RX4 104 "java/lang/IllegalArgumentException", .initialized "java/lang/IllegalArgumentException"] ++ wsX10 ++ wsX40 ++ (vx_atS RX4 188 "java/lang/IndexOutOfBoundsException" ["java/lang/RuntimeException", "java/lang/Exception"]).filter goodWord ++ (vx_atS RX4 108 "java/lang/IllegalArgumentException" ["java/lang/RuntimeException", "java/lang/Exception"]).filter goodWord)
def wsL_load_r1 : List Cond := [Cond.classLink RL 21 "java/lang/IndexOutOfBoundsException", Cond.methodLink RL 53 yX4_load, Cond.instanceMethod yX4_load, Cond.selects RX4 yX4_load yX4_load, Cond.initialized RX4, Cond.code yX4_load cX4_load 4 (some .boolean), Cond.methodLink RX4 113 yX4_needCrew, Cond.instanceMethod yX4_needCrew, Cond.selects RX4 yX4_needCrew yX4_needCrew, Cond.code yX4_needCrew cX4_needCrew 3 (some (.object "TesseraeRow$Crew")), Cond.classLink RX4 184 "java/lang/IndexOutOfBoundsException", Cond.initialized "java/lang/IndexOutOfBoundsException", Cond.fieldLink RX4 23 "TesseraeRow" "crews" "[LTesseraeRow$Crew;", Cond.methodLink RX4 47 yX4_needLot, Cond.instanceMethod yX4_needLot, Cond.selects RX4 yX4_needLot yX4_needLot, Cond.code yX4_needLot cX4_needLot 3 (some (.object "TesseraeRow$Lot")), Cond.fieldLink RX4 11 "TesseraeRow" "lots" "[LTesseraeRow$Lot;", Cond.methodLink RX4 136 yX1_takeOnTray, Cond.instanceMethod yX1_takeOnTray, Cond.selects RX1 yX1_takeOnTray yX1_takeOnTray, Cond.initialized RX1, Cond.code yX1_takeOnTray cX1_takeOnTray 2 (some .boolean), Cond.fieldLink RX1 43 "TesseraeRow$Lot" "material" "I"]
def wsL_load_r2 : List Cond := [Cond.fieldLink RX1 18 "TesseraeRow$Crew" "material" "I", Cond.fieldLink RX1 36 "TesseraeRow$Crew" "onTray" "I", Cond.fieldLink RX1 23 "TesseraeRow$Crew" "tray" "[LTesseraeRow$Lot;", Cond.methodLink RX1 39 yX1_hasOnTray, Cond.instanceMethod yX1_hasOnTray, Cond.selects RX1 yX1_hasOnTray yX1_hasOnTray, Cond.code yX1_hasOnTray cX1_hasOnTray 3 (some .boolean)]
def wsL_load : List Cond := .codeWith yL_load cL_load 5 (some .int) [(0, 17, 20, 21)] :: ((wsL_load_r1 ++ wsL_load_r2) ++ wsX40 ++ wsX20 ++ wsX10 ++ (vx_atS RX4 188 "java/lang/IndexOutOfBoundsException" ["java/lang/RuntimeException", "java/lang/Exception"]).filter goodWord)
def wsL_pass_r1 : List Cond := [Cond.classLink RL 13 "java/lang/IllegalArgumentException", Cond.methodLink RL 57 yX4_pass, Cond.instanceMethod yX4_pass, Cond.selects RX4 yX4_pass yX4_pass, Cond.initialized RX4, Cond.code yX4_pass cX4_pass 5 (some .int), Cond.fieldLink RX4 140 "TesseraeRow" "now" "I", Cond.methodLink RX4 28 yX4_needRange, Cond.static yX4_needRange, Cond.code yX4_needRange cX4_needRange 3 none, Cond.classLink RX4 104 "java/lang/IllegalArgumentException", Cond.initialized "java/lang/IllegalArgumentException", Cond.methodLink RX4 113 yX4_needCrew, Cond.instanceMethod yX4_needCrew, Cond.selects RX4 yX4_needCrew yX4_needCrew, Cond.code yX4_needCrew cX4_needCrew 3 (some (.object "TesseraeRow$Crew")), Cond.classLink RX4 184 "java/lang/IndexOutOfBoundsException", Cond.initialized "java/lang/IndexOutOfBoundsException", Cond.fieldLink RX4 23 "TesseraeRow" "crews" "[LTesseraeRow$Crew;", Cond.methodLink RX4 143 yX1_layFor, Cond.instanceMethod yX1_layFor, Cond.selects RX1 yX1_layFor yX1_layFor, Cond.initialized RX1, Cond.code yX1_layFor cX1_layFor 3 (some .int)]
def wsL_pass_r2 : List Cond := [Cond.fieldLink RX1 9 "TesseraeRow$Crew" "rate" "I", Cond.fieldLink RX1 48 "TesseraeRow$Crew" "laid" "I", Cond.methodLink RX1 44 yX1_layNext, Cond.instanceMethod yX1_layNext, Cond.selects RX1 yX1_layNext yX1_layNext, Cond.code yX1_layNext cX1_layNext 3 (some .boolean), Cond.fieldLink RX1 27 "TesseraeRow$Crew" "at" "LTesseraeRow$Picture;", Cond.fieldLink RX1 55 "TesseraeRow$Cell" "kind" "I", Cond.fieldLink RX1 60 "TesseraeRow$Cell" "lot" "LTesseraeRow$Lot;", Cond.fieldLink RX1 64 "TesseraeRow$Cell" "y" "I", Cond.fieldLink RX1 15 "TesseraeRow$Crew" "dry" "I", Cond.methodLink RX1 51 yX3_firstUndone, Cond.instanceMethod yX3_firstUndone, Cond.selects RX3 yX3_firstUndone yX3_firstUndone, Cond.initialized RX3, Cond.code yX3_firstUndone cX3_firstUndone 5 (some (.object "TesseraeRow$Cell")), Cond.fieldLink RX3 23 "TesseraeRow$Picture" "cells" "[LTesseraeRow$Cell;", Cond.methodLink RX3 104 yX0_isDone, Cond.instanceMethod yX0_isDone, Cond.selects RX0 yX0_isDone yX0_isDone, Cond.initialized RX0, Cond.code yX0_isDone cX0_isDone 1 (some .boolean), Cond.fieldLink RX0 9 "TesseraeRow$Cell" "kind" "I", Cond.methodLink RX1 39 yX1_hasOnTray]
def wsL_pass_r3 : List Cond := [Cond.instanceMethod yX1_hasOnTray, Cond.selects RX1 yX1_hasOnTray yX1_hasOnTray, Cond.code yX1_hasOnTray cX1_hasOnTray 3 (some .boolean), Cond.fieldLink RX1 36 "TesseraeRow$Crew" "onTray" "I", Cond.fieldLink RX1 23 "TesseraeRow$Crew" "tray" "[LTesseraeRow$Lot;", Cond.methodLink RX1 67 yX3_isDryRow, Cond.instanceMethod yX3_isDryRow, Cond.selects RX3 yX3_isDryRow yX3_isDryRow, Cond.code yX3_isDryRow cX3_isDryRow 6 (some .boolean), Cond.fieldLink RX3 15 "TesseraeRow$Picture" "width" "I", Cond.fieldLink RX3 30 "TesseraeRow$Cell" "kind" "I", Cond.fieldLink RX3 118 "TesseraeRow$Cell" "laidAt" "I", Cond.fieldLink RX3 121 "TesseraeRow$Cell" "dryAt" "I", Cond.methodLink RX3 92 yX3_cellAt, Cond.instanceMethod yX3_cellAt, Cond.selects RX3 yX3_cellAt yX3_cellAt, Cond.code yX3_cellAt cX3_cellAt 3 (some (.object "TesseraeRow$Cell")), Cond.fieldLink RX3 18 "TesseraeRow$Picture" "height" "I", Cond.methodLink RX1 71 yX0_lay, Cond.instanceMethod yX0_lay, Cond.selects RX0 yX0_lay yX0_lay, Cond.code yX0_lay cX0_lay 3 none, Cond.fieldLink RX0 24 "TesseraeRow$Cell" "lot" "LTesseraeRow$Lot;", Cond.fieldLink RX0 33 "TesseraeRow$Lot" "promised" "I"]
def wsL_pass_r4 : List Cond := [Cond.fieldLink RX0 36 "TesseraeRow$Lot" "laid" "I", Cond.fieldLink RX0 39 "TesseraeRow$Cell" "laidAt" "I", Cond.fieldLink RX0 42 "TesseraeRow$Cell" "dryAt" "I"]
def wsL_pass : List Cond := .codeWith yL_pass cL_pass 4 (some .int) [(0, 9, 12, 13)] :: ((wsL_pass_r1 ++ (wsL_pass_r2 ++ (wsL_pass_r3 ++ wsL_pass_r4))) ++ wsX40 ++ wsX10 ++ wsX00 ++ wsX30 ++ wsX20 ++ (vx_atS RX4 108 "java/lang/IllegalArgumentException" ["java/lang/RuntimeException", "java/lang/Exception"]).filter goodWord ++ (vx_atS RX4 188 "java/lang/IndexOutOfBoundsException" ["java/lang/RuntimeException", "java/lang/Exception"]).filter goodWord)
def wsL_ofCell_r1 : List Cond := [Cond.classLink RL 21 "java/lang/IndexOutOfBoundsException", Cond.classLink RL 13 "java/lang/IllegalArgumentException", Cond.methodLink RL 60 yX4_ofCell, Cond.instanceMethod yX4_ofCell, Cond.selects RX4 yX4_ofCell yX4_ofCell, Cond.initialized RX4, Cond.code yX4_ofCell cX4_ofCell 6 (some .int), Cond.fieldLink RX4 83 "TesseraeRow$Cell" "kind" "I", Cond.fieldLink RX4 146 "TesseraeRow$Cell" "lot" "LTesseraeRow$Lot;", Cond.fieldLink RX4 150 "TesseraeRow$Lot" "number" "I", Cond.fieldLink RX4 80 "TesseraeRow$Cell" "wanted" "I", Cond.fieldLink RX4 153 "TesseraeRow$Cell" "aim" "F", Cond.fieldLink RX4 161 "TesseraeRow$Cell" "laidAt" "I", Cond.methodLink RX4 68 yX4_needCell, Cond.instanceMethod yX4_needCell, Cond.selects RX4 yX4_needCell yX4_needCell, Cond.code yX4_needCell cX4_needCell 5 (some (.object "TesseraeRow$Cell")), Cond.classLink RX4 184 "java/lang/IndexOutOfBoundsException", Cond.initialized "java/lang/IndexOutOfBoundsException", Cond.methodLink RX4 88 yX4_needPicture, Cond.instanceMethod yX4_needPicture, Cond.selects RX4 yX4_needPicture yX4_needPicture, Cond.code yX4_needPicture cX4_needPicture 3 (some (.object "TesseraeRow$Picture")), Cond.fieldLink RX4 17 "TesseraeRow" "pictures" "[LTesseraeRow$Picture;"]
def wsL_ofCell_r2 : List Cond := [Cond.methodLink RX4 191 yX3_cellAt, Cond.instanceMethod yX3_cellAt, Cond.selects RX3 yX3_cellAt yX3_cellAt, Cond.initialized RX3, Cond.code yX3_cellAt cX3_cellAt 3 (some (.object "TesseraeRow$Cell")), Cond.fieldLink RX3 15 "TesseraeRow$Picture" "width" "I", Cond.fieldLink RX3 18 "TesseraeRow$Picture" "height" "I", Cond.fieldLink RX3 23 "TesseraeRow$Picture" "cells" "[LTesseraeRow$Cell;", Cond.methodLink RX4 28 yX4_needRange, Cond.static yX4_needRange, Cond.code yX4_needRange cX4_needRange 3 none, Cond.classLink RX4 104 "java/lang/IllegalArgumentException", Cond.initialized "java/lang/IllegalArgumentException", Cond.methodLink RX4 157 yX4_bitsOf, Cond.static yX4_bitsOf, Cond.code yX4_bitsOf cX4_bitsOf 4 (some .int), Cond.constantFloat RX4 199 (1056964608), Cond.constantFloat RX4 200 (1258291200), Cond.constant RX4 201 (-2147483648)]
def wsL_ofCell : List Cond := .codeWith yL_ofCell cL_ofCell 7 (some .int) [(0, 14, 17, 21), (0, 14, 21, 13)] :: ((wsL_ofCell_r1 ++ wsL_ofCell_r2) ++ wsX00 ++ wsX20 ++ wsX40 ++ wsX30 ++ (vx_atS RX4 188 "java/lang/IndexOutOfBoundsException" ["java/lang/RuntimeException", "java/lang/Exception"]).filter goodWord ++ (vx_atS RX4 108 "java/lang/IllegalArgumentException" ["java/lang/RuntimeException", "java/lang/Exception"]).filter goodWord)
def wsL_aimAnew_r1 : List Cond := [Cond.classLink RL 21 "java/lang/IndexOutOfBoundsException", Cond.methodLink RL 63 yX4_aimAnew, Cond.instanceMethod yX4_aimAnew, Cond.selects RX4 yX4_aimAnew yX4_aimAnew, Cond.initialized RX4, Cond.code yX4_aimAnew cX4_aimAnew 5 (some .int), Cond.methodLink RX4 68 yX4_needCell, Cond.instanceMethod yX4_needCell, Cond.selects RX4 yX4_needCell yX4_needCell, Cond.code yX4_needCell cX4_needCell 5 (some (.object "TesseraeRow$Cell")), Cond.classLink RX4 184 "java/lang/IndexOutOfBoundsException", Cond.initialized "java/lang/IndexOutOfBoundsException", Cond.methodLink RX4 88 yX4_needPicture, Cond.instanceMethod yX4_needPicture, Cond.selects RX4 yX4_needPicture yX4_needPicture, Cond.code yX4_needPicture cX4_needPicture 3 (some (.object "TesseraeRow$Picture")), Cond.fieldLink RX4 17 "TesseraeRow" "pictures" "[LTesseraeRow$Picture;", Cond.methodLink RX4 191 yX3_cellAt, Cond.instanceMethod yX3_cellAt, Cond.selects RX3 yX3_cellAt yX3_cellAt, Cond.initialized RX3, Cond.code yX3_cellAt cX3_cellAt 3 (some (.object "TesseraeRow$Cell")), Cond.fieldLink RX3 15 "TesseraeRow$Picture" "width" "I", Cond.fieldLink RX3 18 "TesseraeRow$Picture" "height" "I"]
def wsL_aimAnew_r2 : List Cond := [Cond.fieldLink RX3 23 "TesseraeRow$Picture" "cells" "[LTesseraeRow$Cell;", Cond.methodLink RX4 164 yX3_aimByNow, Cond.instanceMethod yX3_aimByNow, Cond.selects RX3 yX3_aimByNow yX3_aimByNow, Cond.code yX3_aimByNow cX3_aimByNow 7 (some .float), Cond.fieldLink RX3 39 "TesseraeRow$Cell" "wanted" "I", Cond.fieldLink RX3 42 "TesseraeRow$Cell" "brought" "F", Cond.methodLink RX3 36 yX3_forgetBrought, Cond.instanceMethod yX3_forgetBrought, Cond.selects RX3 yX3_forgetBrought yX3_forgetBrought, Cond.code yX3_forgetBrought cX3_forgetBrought 5 none, Cond.methodLink RX3 53 yX0_lackBehind, Cond.instanceMethod yX0_lackBehind, Cond.selects RX0 yX0_lackBehind yX0_lackBehind, Cond.initialized RX0, Cond.code yX0_lackBehind cX0_lackBehind 2 (some .float), Cond.fieldLink RX0 24 "TesseraeRow$Cell" "lot" "LTesseraeRow$Lot;", Cond.fieldLink RX0 45 "TesseraeRow$Lot" "tone" "F", Cond.methodLink RX3 57 yX3_passOn, Cond.instanceMethod yX3_passOn, Cond.selects RX3 yX3_passOn yX3_passOn, Cond.code yX3_passOn cX3_passOn 3 none, Cond.fieldLink RX3 78 "TesseraeRow$Cell" "x" "I", Cond.fieldLink RX3 81 "TesseraeRow$Cell" "y" "I"]
def wsL_aimAnew_r3 : List Cond := [Cond.constantFloat RX3 84 (1054867456), Cond.constantFloat RX3 89 (1044381696), Cond.constantFloat RX3 90 (1050673152), Cond.constantFloat RX3 91 (1031798784), Cond.methodLink RX3 85 yX3_bringTo, Cond.instanceMethod yX3_bringTo, Cond.selects RX3 yX3_bringTo yX3_bringTo, Cond.code yX3_bringTo cX3_bringTo 5 none, Cond.methodLink RX3 92 yX3_cellAt, Cond.methodLink RX3 96 yX0_bring, Cond.instanceMethod yX0_bring, Cond.selects RX0 yX0_bring yX0_bring, Cond.code yX0_bring cX0_bring 2 none, Cond.fieldLink RX0 49 "TesseraeRow$Cell" "brought" "F", Cond.methodLink RX4 157 yX4_bitsOf, Cond.static yX4_bitsOf, Cond.code yX4_bitsOf cX4_bitsOf 4 (some .int), Cond.constantFloat RX4 199 (1056964608), Cond.constantFloat RX4 200 (1258291200), Cond.constant RX4 201 (-2147483648)]
def wsL_aimAnew : List Cond := .codeWith yL_aimAnew cL_aimAnew 6 (some .int) [(0, 12, 15, 21)] :: ((wsL_aimAnew_r1 ++ (wsL_aimAnew_r2 ++ wsL_aimAnew_r3)) ++ wsX40 ++ wsX30 ++ wsX00 ++ wsX20 ++ (vx_atS RX4 188 "java/lang/IndexOutOfBoundsException" ["java/lang/RuntimeException", "java/lang/Exception"]).filter goodWord)
def wsL_edge_r1 : List Cond := [Cond.classLink RL 21 "java/lang/IndexOutOfBoundsException", Cond.methodLink RL 66 yX4_edge, Cond.instanceMethod yX4_edge, Cond.selects RX4 yX4_edge yX4_edge, Cond.initialized RX4, Cond.code yX4_edge cX4_edge 2 (some .int), Cond.methodLink RX4 88 yX4_needPicture, Cond.instanceMethod yX4_needPicture, Cond.selects RX4 yX4_needPicture yX4_needPicture, Cond.code yX4_needPicture cX4_needPicture 3 (some (.object "TesseraeRow$Picture")), Cond.classLink RX4 184 "java/lang/IndexOutOfBoundsException", Cond.initialized "java/lang/IndexOutOfBoundsException", Cond.fieldLink RX4 17 "TesseraeRow" "pictures" "[LTesseraeRow$Picture;", Cond.methodLink RX4 168 yX3_greatestEdge, Cond.instanceMethod yX3_greatestEdge, Cond.selects RX3 yX3_greatestEdge yX3_greatestEdge, Cond.initialized RX3, Cond.code yX3_greatestEdge cX3_greatestEdge 9 (some .float), Cond.fieldLink RX3 23 "TesseraeRow$Picture" "cells" "[LTesseraeRow$Cell;", Cond.fieldLink RX3 78 "TesseraeRow$Cell" "x" "I", Cond.fieldLink RX3 81 "TesseraeRow$Cell" "y" "I", Cond.methodLink RX3 92 yX3_cellAt, Cond.instanceMethod yX3_cellAt, Cond.selects RX3 yX3_cellAt yX3_cellAt]
def wsL_edge_r2 : List Cond := [Cond.code yX3_cellAt cX3_cellAt 3 (some (.object "TesseraeRow$Cell")), Cond.fieldLink RX3 15 "TesseraeRow$Picture" "width" "I", Cond.fieldLink RX3 18 "TesseraeRow$Picture" "height" "I", Cond.methodLink RX3 124 yX3_edgeBetween, Cond.static yX3_edgeBetween, Cond.code yX3_edgeBetween cX3_edgeBetween 4 (some .float), Cond.fieldLink RX3 30 "TesseraeRow$Cell" "kind" "I", Cond.fieldLink RX3 39 "TesseraeRow$Cell" "wanted" "I", Cond.methodLink RX3 128 yX0_stoneTone, Cond.instanceMethod yX0_stoneTone, Cond.selects RX0 yX0_stoneTone yX0_stoneTone, Cond.initialized RX0, Cond.code yX0_stoneTone cX0_stoneTone 1 (some .float), Cond.fieldLink RX0 24 "TesseraeRow$Cell" "lot" "LTesseraeRow$Lot;", Cond.fieldLink RX0 21 "TesseraeRow$Cell" "wanted" "I", Cond.fieldLink RX0 45 "TesseraeRow$Lot" "tone" "F", Cond.methodLink RX3 70 yX3_distance, Cond.static yX3_distance, Cond.code yX3_distance cX3_distance 3 (some .float), Cond.methodLink RX4 157 yX4_bitsOf, Cond.static yX4_bitsOf, Cond.code yX4_bitsOf cX4_bitsOf 4 (some .int), Cond.constantFloat RX4 199 (1056964608), Cond.constantFloat RX4 200 (1258291200)]
def wsL_edge_r3 : List Cond := [Cond.constant RX4 201 (-2147483648)]
def wsL_edge : List Cond := .codeWith yL_edge cL_edge 4 (some .int) [(0, 9, 12, 21)] :: ((wsL_edge_r1 ++ (wsL_edge_r2 ++ wsL_edge_r3)) ++ wsX40 ++ wsX30 ++ wsX00 ++ wsX20 ++ (vx_atS RX4 188 "java/lang/IndexOutOfBoundsException" ["java/lang/RuntimeException", "java/lang/Exception"]).filter goodWord)
def wsL_ofLot_r1 : List Cond := [Cond.classLink RL 21 "java/lang/IndexOutOfBoundsException", Cond.classLink RL 13 "java/lang/IllegalArgumentException", Cond.methodLink RL 69 yX4_ofLot, Cond.instanceMethod yX4_ofLot, Cond.selects RX4 yX4_ofLot yX4_ofLot, Cond.initialized RX4, Cond.code yX4_ofLot cX4_ofLot 4 (some .int), Cond.fieldLink RX4 57 "TesseraeRow$Lot" "left" "I", Cond.fieldLink RX4 172 "TesseraeRow$Lot" "promised" "I", Cond.fieldLink RX4 175 "TesseraeRow$Lot" "laid" "I", Cond.fieldLink RX4 51 "TesseraeRow$Lot" "isThere" "Z", Cond.fieldLink RX4 178 "TesseraeRow$Lot" "tone" "F", Cond.methodLink RX4 47 yX4_needLot, Cond.instanceMethod yX4_needLot, Cond.selects RX4 yX4_needLot yX4_needLot, Cond.code yX4_needLot cX4_needLot 3 (some (.object "TesseraeRow$Lot")), Cond.classLink RX4 184 "java/lang/IndexOutOfBoundsException", Cond.initialized "java/lang/IndexOutOfBoundsException", Cond.fieldLink RX4 11 "TesseraeRow" "lots" "[LTesseraeRow$Lot;", Cond.methodLink RX4 28 yX4_needRange, Cond.static yX4_needRange, Cond.code yX4_needRange cX4_needRange 3 none, Cond.classLink RX4 104 "java/lang/IllegalArgumentException", Cond.initialized "java/lang/IllegalArgumentException"]
def wsL_ofLot_r2 : List Cond := [Cond.methodLink RX4 157 yX4_bitsOf, Cond.static yX4_bitsOf, Cond.code yX4_bitsOf cX4_bitsOf 4 (some .int), Cond.constantFloat RX4 199 (1056964608), Cond.constantFloat RX4 200 (1258291200), Cond.constant RX4 201 (-2147483648)]
def wsL_ofLot : List Cond := .codeWith yL_ofLot cL_ofLot 5 (some .int) [(0, 10, 13, 21), (0, 10, 17, 13)] :: ((wsL_ofLot_r1 ++ wsL_ofLot_r2) ++ wsX20 ++ wsX40 ++ (vx_atS RX4 188 "java/lang/IndexOutOfBoundsException" ["java/lang/RuntimeException", "java/lang/Exception"]).filter goodWord ++ (vx_atS RX4 108 "java/lang/IllegalArgumentException" ["java/lang/RuntimeException", "java/lang/Exception"]).filter goodWord)
def wsL_ofPicture_r1 : List Cond := [Cond.classLink RL 21 "java/lang/IndexOutOfBoundsException", Cond.classLink RL 13 "java/lang/IllegalArgumentException", Cond.methodLink RL 72 yX4_ofPicture, Cond.instanceMethod yX4_ofPicture, Cond.selects RX4 yX4_ofPicture yX4_ofPicture, Cond.initialized RX4, Cond.code yX4_ofPicture cX4_ofPicture 4 (some .int), Cond.methodLink RX4 88 yX4_needPicture, Cond.instanceMethod yX4_needPicture, Cond.selects RX4 yX4_needPicture yX4_needPicture, Cond.code yX4_needPicture cX4_needPicture 3 (some (.object "TesseraeRow$Picture")), Cond.classLink RX4 184 "java/lang/IndexOutOfBoundsException", Cond.initialized "java/lang/IndexOutOfBoundsException", Cond.fieldLink RX4 17 "TesseraeRow" "pictures" "[LTesseraeRow$Picture;", Cond.methodLink RX4 28 yX4_needRange, Cond.static yX4_needRange, Cond.code yX4_needRange cX4_needRange 3 none, Cond.classLink RX4 104 "java/lang/IllegalArgumentException", Cond.initialized "java/lang/IllegalArgumentException", Cond.methodLink RX4 92 yX3_count, Cond.instanceMethod yX3_count, Cond.selects RX3 yX3_count yX3_count, Cond.initialized RX3, Cond.code yX3_count cX3_count 7 (some .int)]
def wsL_ofPicture_r2 : List Cond := [Cond.fieldLink RX3 23 "TesseraeRow$Picture" "cells" "[LTesseraeRow$Cell;", Cond.fieldLink RX3 30 "TesseraeRow$Cell" "kind" "I"]
def wsL_ofPicture : List Cond := .codeWith yL_ofPicture cL_ofPicture 5 (some .int) [(0, 10, 13, 21), (0, 10, 17, 13)] :: ((wsL_ofPicture_r1 ++ wsL_ofPicture_r2) ++ wsX40 ++ wsX30 ++ wsX00 ++ (vx_atS RX4 188 "java/lang/IndexOutOfBoundsException" ["java/lang/RuntimeException", "java/lang/Exception"]).filter goodWord ++ (vx_atS RX4 108 "java/lang/IllegalArgumentException" ["java/lang/RuntimeException", "java/lang/Exception"]).filter goodWord)
def wsL_ofCrew_r1 : List Cond := [Cond.classLink RL 21 "java/lang/IndexOutOfBoundsException", Cond.classLink RL 13 "java/lang/IllegalArgumentException", Cond.methodLink RL 75 yX4_ofCrew, Cond.instanceMethod yX4_ofCrew, Cond.selects RX4 yX4_ofCrew yX4_ofCrew, Cond.initialized RX4, Cond.code yX4_ofCrew cX4_ofCrew 4 (some .int), Cond.fieldLink RX4 133 "TesseraeRow$Crew" "material" "I", Cond.fieldLink RX4 130 "TesseraeRow$Crew" "onTray" "I", Cond.fieldLink RX4 181 "TesseraeRow$Crew" "laid" "I", Cond.methodLink RX4 113 yX4_needCrew, Cond.instanceMethod yX4_needCrew, Cond.selects RX4 yX4_needCrew yX4_needCrew, Cond.code yX4_needCrew cX4_needCrew 3 (some (.object "TesseraeRow$Crew")), Cond.classLink RX4 184 "java/lang/IndexOutOfBoundsException", Cond.initialized "java/lang/IndexOutOfBoundsException", Cond.fieldLink RX4 23 "TesseraeRow" "crews" "[LTesseraeRow$Crew;", Cond.methodLink RX4 28 yX4_needRange, Cond.static yX4_needRange, Cond.code yX4_needRange cX4_needRange 3 none, Cond.classLink RX4 104 "java/lang/IllegalArgumentException", Cond.initialized "java/lang/IllegalArgumentException", Cond.methodLink RX4 117 yX1_pictureNumber, Cond.instanceMethod yX1_pictureNumber]
def wsL_ofCrew_r2 : List Cond := [Cond.selects RX1 yX1_pictureNumber yX1_pictureNumber, Cond.initialized RX1, Cond.code yX1_pictureNumber cX1_pictureNumber 1 (some .int), Cond.fieldLink RX1 27 "TesseraeRow$Crew" "at" "LTesseraeRow$Picture;", Cond.fieldLink RX1 31 "TesseraeRow$Picture" "number" "I"]
def wsL_ofCrew : List Cond := .codeWith yL_ofCrew cL_ofCrew 5 (some .int) [(0, 10, 13, 21), (0, 10, 17, 13)] :: ((wsL_ofCrew_r1 ++ wsL_ofCrew_r2) ++ wsX10 ++ wsX40 ++ wsX30 ++ (vx_atS RX4 188 "java/lang/IndexOutOfBoundsException" ["java/lang/RuntimeException", "java/lang/Exception"]).filter goodWord ++ (vx_atS RX4 108 "java/lang/IllegalArgumentException" ["java/lang/RuntimeException", "java/lang/Exception"]).filter goodWord)
def wsL_law0_r1 : List Cond := [Cond.classLink RL 8 RX4, Cond.instantiable RX4 6, Cond.initialized RX4, Cond.classLink RL 79 RX5, Cond.instantiable RX5 26, Cond.initialized RX5, Cond.arrayClass .long, Cond.methodLink RL 78 yX4_init, Cond.instanceMethod yX4_init, Cond.code yX4_init cX4_init 2 none, Cond.methodLink RX4 1 objectInit, Cond.instanceMethod objectInit, Cond.code objectInit ⟨#[0xb1]⟩ 1 none, Cond.classLink RX4 9 RX2, Cond.fieldLink RX4 11 "TesseraeRow" "lots" "[LTesseraeRow$Lot;", Cond.classLink RX4 15 RX3, Cond.fieldLink RX4 17 "TesseraeRow" "pictures" "[LTesseraeRow$Picture;", Cond.classLink RX4 21 RX1, Cond.fieldLink RX4 23 "TesseraeRow" "crews" "[LTesseraeRow$Crew;", Cond.instantiable RX1 7, Cond.initialized RX1, Cond.instanceMethod yX1_init, Cond.code yX1_init cX1_init 1 none, Cond.methodLink RX1 3 objectInit]
def wsL_law0_r2 : List Cond := [Cond.fieldLink RX1 9 "TesseraeRow$Crew" "rate" "I", Cond.fieldLink RX1 15 "TesseraeRow$Crew" "dry" "I", Cond.fieldLink RX1 18 "TesseraeRow$Crew" "material" "I", Cond.classLink RX1 21 RX2, Cond.fieldLink RX1 23 "TesseraeRow$Crew" "tray" "[LTesseraeRow$Lot;", Cond.methodLink RL 81 yX5_init, Cond.instanceMethod yX5_init, Cond.code yX5_init cX5_init 2 none, Cond.methodLink RX5 1 objectInit, Cond.arrayClass .float, Cond.fieldLink RX5 7 "TesseraeRowModel" "tone" "[F", Cond.arrayClass .int, Cond.fieldLink RX5 13 "TesseraeRowModel" "many" "[I", Cond.fieldLink RX5 17 "TesseraeRowModel" "material" "[I", Cond.arrayClass .boolean, Cond.fieldLink RX5 20 "TesseraeRowModel" "there" "[Z", Cond.fieldLink RX5 24 "TesseraeRowModel" "promised" "[I", Cond.fieldLink RX5 27 "TesseraeRowModel" "laid" "[I", Cond.fieldLink RX5 30 "TesseraeRowModel" "width" "[I", Cond.fieldLink RX5 33 "TesseraeRowModel" "height" "[I", Cond.fieldLink RX5 36 "TesseraeRowModel" "wanted" "[I", Cond.fieldLink RX5 39 "TesseraeRowModel" "state" "[I", Cond.fieldLink RX5 42 "TesseraeRowModel" "lot" "[I", Cond.fieldLink RX5 45 "TesseraeRowModel" "aim" "[F"]
def wsL_law0_r3 : List Cond := [Cond.fieldLink RX5 48 "TesseraeRowModel" "hourOf" "[I", Cond.fieldLink RX5 51 "TesseraeRowModel" "dryOf" "[I", Cond.fieldLink RX5 54 "TesseraeRowModel" "brought" "[F", Cond.fieldLink RX5 57 "TesseraeRowModel" "round" "[I", Cond.fieldLink RX5 60 "TesseraeRowModel" "at" "[I", Cond.fieldLink RX5 63 "TesseraeRowModel" "rate" "[I", Cond.fieldLink RX5 66 "TesseraeRowModel" "dry" "[I", Cond.fieldLink RX5 69 "TesseraeRowModel" "tray" "[I", Cond.fieldLink RX5 72 "TesseraeRowModel" "on" "[Z", Cond.fieldLink RX5 75 "TesseraeRowModel" "done" "[I", Cond.methodLink RL 82 yL_lot, Cond.static yL_lot, Cond.initialized RL, Cond.codeWith yL_lot cL_lot 7 (some .int) [(0, 14, 17, 13), (0, 14, 21, 15)], Cond.classLink RL 13 "java/lang/IllegalArgumentException", Cond.classLink RL 15 "java/lang/IllegalStateException", Cond.methodLink RL 7 yX4_lot, Cond.instanceMethod yX4_lot, Cond.selects RX4 yX4_lot yX4_lot, Cond.code yX4_lot cX4_lot 6 (some .int), Cond.classLink RX4 36 "java/lang/IllegalStateException", Cond.initialized "java/lang/IllegalStateException", Cond.fieldLink RX4 32 "TesseraeRow" "lotCount" "I", Cond.instantiable RX2 7]
def wsL_law0_r4 : List Cond := [Cond.initialized RX2, Cond.constantFloat RX4 43 (1120403456), Cond.methodLink RX4 28 yX4_needRange, Cond.static yX4_needRange, Cond.code yX4_needRange cX4_needRange 3 none, Cond.classLink RX4 104 "java/lang/IllegalArgumentException", Cond.initialized "java/lang/IllegalArgumentException", Cond.methodLink RX4 44 yX2_init, Cond.instanceMethod yX2_init, Cond.code yX2_init cX2_init 6 none, Cond.methodLink RX2 1 objectInit, Cond.fieldLink RX2 7 "TesseraeRow$Lot" "number" "I", Cond.fieldLink RX2 13 "TesseraeRow$Lot" "tone" "F", Cond.fieldLink RX2 17 "TesseraeRow$Lot" "left" "I", Cond.fieldLink RX2 20 "TesseraeRow$Lot" "material" "I", Cond.fieldLink RX2 23 "TesseraeRow$Lot" "isThere" "Z", Cond.methodLink RL 87 yX5_lot, Cond.instanceMethod yX5_lot, Cond.selects RX5 yX5_lot yX5_lot, Cond.code yX5_lot cX5_lot 5 (some .int), Cond.fieldLink RX5 82 "TesseraeRowModel" "lots" "I", Cond.constantFloat RX5 100 (1120403456), Cond.methodLink RX5 85 yX5_in, Cond.static yX5_in]
def wsL_law0_r5 : List Cond := [Cond.code yX5_in cX5_in 3 (some .boolean), Cond.methodLink RX5 96 yX5_asked_, Cond.instanceMethod yX5_asked_, Cond.selects RX5 yX5_asked_ yX5_asked_, Cond.code yX5_asked_ cX5_asked_ 3 (some .boolean), Cond.fieldLink RX5 78 "TesseraeRowModel" "thrown" "I", Cond.methodLink RL 88 yX5_thrown, Cond.instanceMethod yX5_thrown, Cond.selects RX5 yX5_thrown yX5_thrown, Cond.code yX5_thrown cX5_thrown 1 (some .int), Cond.methodLink RL 92 yL_comes, Cond.static yL_comes, Cond.codeWith yL_comes cL_comes 4 (some .int) [(0, 9, 12, 21), (0, 9, 15, 15)], Cond.classLink RL 21 "java/lang/IndexOutOfBoundsException", Cond.methodLink RL 17 yX4_comes, Cond.instanceMethod yX4_comes, Cond.selects RX4 yX4_comes yX4_comes, Cond.code yX4_comes cX4_comes 3 (some .int), Cond.fieldLink RX4 51 "TesseraeRow$Lot" "isThere" "Z", Cond.fieldLink RX4 57 "TesseraeRow$Lot" "left" "I", Cond.methodLink RX4 47 yX4_needLot, Cond.instanceMethod yX4_needLot, Cond.selects RX4 yX4_needLot yX4_needLot, Cond.code yX4_needLot cX4_needLot 3 (some (.object "TesseraeRow$Lot"))]
def wsL_law0_r6 : List Cond := [Cond.classLink RX4 184 "java/lang/IndexOutOfBoundsException", Cond.initialized "java/lang/IndexOutOfBoundsException", Cond.methodLink RL 95 yX5_comes, Cond.instanceMethod yX5_comes, Cond.selects RX5 yX5_comes yX5_comes, Cond.code yX5_comes cX5_comes 3 (some .int), Cond.methodLink RX5 101 yX5_isLot, Cond.instanceMethod yX5_isLot, Cond.selects RX5 yX5_isLot yX5_isLot, Cond.code yX5_isLot cX5_isLot 2 (some .boolean), Cond.methodLink RX5 104 yX5_left, Cond.instanceMethod yX5_left, Cond.selects RX5 yX5_left yX5_left, Cond.code yX5_left cX5_left 2 (some .int), Cond.methodLink RL 96 yL_picture, Cond.static yL_picture, Cond.codeWith yL_picture cL_picture 6 (some .int) [(0, 12, 15, 13), (0, 12, 19, 15)], Cond.methodLink RL 23 yX4_picture, Cond.instanceMethod yX4_picture, Cond.selects RX4 yX4_picture yX4_picture, Cond.code yX4_picture cX4_picture 5 (some .int), Cond.fieldLink RX4 60 "TesseraeRow" "pictureCount" "I", Cond.instantiable RX3 4, Cond.initialized RX3]
def wsL_law0_r7 : List Cond := [Cond.methodLink RX4 65 yX3_init, Cond.instanceMethod yX3_init, Cond.code yX3_init cX3_init 8 none, Cond.methodLink RX3 3 objectInit, Cond.fieldLink RX3 9 "TesseraeRow$Picture" "number" "I", Cond.fieldLink RX3 15 "TesseraeRow$Picture" "width" "I", Cond.fieldLink RX3 18 "TesseraeRow$Picture" "height" "I", Cond.classLink RX3 21 RX0, Cond.fieldLink RX3 23 "TesseraeRow$Picture" "cells" "[LTesseraeRow$Cell;", Cond.instantiable RX0 10, Cond.initialized RX0, Cond.methodLink RX3 27 yX0_init, Cond.instanceMethod yX0_init, Cond.code yX0_init cX0_init 4 none, Cond.methodLink RX0 3 objectInit, Cond.fieldLink RX0 9 "TesseraeRow$Cell" "kind" "I", Cond.fieldLink RX0 15 "TesseraeRow$Cell" "x" "I", Cond.fieldLink RX0 18 "TesseraeRow$Cell" "y" "I", Cond.fieldLink RX0 21 "TesseraeRow$Cell" "wanted" "I", Cond.methodLink RL 99 yX5_picture, Cond.instanceMethod yX5_picture, Cond.selects RX5 yX5_picture yX5_picture, Cond.code yX5_picture cX5_picture 5 (some .int), Cond.fieldLink RX5 89 "TesseraeRowModel" "pictures" "I"]
def wsL_law0_r8 : List Cond := [Cond.methodLink RL 100 yL_cell, Cond.static yL_cell, Cond.codeWith yL_cell cL_cell 7 (some .int) [(0, 14, 17, 21), (0, 14, 21, 13), (0, 14, 25, 15)], Cond.methodLink RL 27 yX4_cell, Cond.instanceMethod yX4_cell, Cond.selects RX4 yX4_cell yX4_cell, Cond.code yX4_cell cX4_cell 7 (some .int), Cond.fieldLink RX4 80 "TesseraeRow$Cell" "wanted" "I", Cond.methodLink RX4 68 yX4_needCell, Cond.instanceMethod yX4_needCell, Cond.selects RX4 yX4_needCell yX4_needCell, Cond.code yX4_needCell cX4_needCell 5 (some (.object "TesseraeRow$Cell")), Cond.methodLink RX4 88 yX4_needPicture, Cond.instanceMethod yX4_needPicture, Cond.selects RX4 yX4_needPicture yX4_needPicture, Cond.code yX4_needPicture cX4_needPicture 3 (some (.object "TesseraeRow$Picture")), Cond.methodLink RX4 191 yX3_cellAt, Cond.instanceMethod yX3_cellAt, Cond.selects RX3 yX3_cellAt yX3_cellAt, Cond.code yX3_cellAt cX3_cellAt 3 (some (.object "TesseraeRow$Cell")), Cond.methodLink RX4 72 yX0_isDone, Cond.instanceMethod yX0_isDone, Cond.selects RX0 yX0_isDone yX0_isDone, Cond.code yX0_isDone cX0_isDone 1 (some .boolean)]
def wsL_law0_r9 : List Cond := [Cond.methodLink RL 103 yX5_cell, Cond.instanceMethod yX5_cell, Cond.selects RX5 yX5_cell yX5_cell, Cond.code yX5_cell cX5_cell 8 (some .int), Cond.methodLink RX5 108 yX5_isCell, Cond.instanceMethod yX5_isCell, Cond.selects RX5 yX5_isCell yX5_isCell, Cond.code yX5_isCell cX5_isCell 4 (some .boolean), Cond.methodLink RX5 92 yX5_isPicture, Cond.instanceMethod yX5_isPicture, Cond.selects RX5 yX5_isPicture yX5_isPicture, Cond.code yX5_isPicture cX5_isPicture 2 (some .boolean), Cond.methodLink RX5 111 yX5_cellOf, Cond.static yX5_cellOf, Cond.code yX5_cellOf cX5_cellOf 3 (some .int), Cond.methodLink RX5 115 yX5_asked__, Cond.instanceMethod yX5_asked__, Cond.selects RX5 yX5_asked__ yX5_asked__, Cond.code yX5_asked__ cX5_asked__ 4 (some .boolean), Cond.methodLink RL 104 yL_old, Cond.static yL_old, Cond.codeWith yL_old cL_old 7 (some .int) [(0, 14, 17, 21), (0, 14, 21, 13), (0, 14, 25, 15)], Cond.methodLink RL 31 yX4_old, Cond.instanceMethod yX4_old]
def wsL_law0_r10 : List Cond := [Cond.selects RX4 yX4_old yX4_old, Cond.code yX4_old cX4_old 6 (some .int), Cond.fieldLink RX4 83 "TesseraeRow$Cell" "kind" "I", Cond.methodLink RX4 92 yX3_count, Cond.instanceMethod yX3_count, Cond.selects RX3 yX3_count yX3_count, Cond.code yX3_count cX3_count 7 (some .int), Cond.fieldLink RX3 30 "TesseraeRow$Cell" "kind" "I", Cond.methodLink RL 106 yX5_old, Cond.instanceMethod yX5_old, Cond.selects RX5 yX5_old yX5_old, Cond.code yX5_old cX5_old 7 (some .int), Cond.methodLink RX5 118 yX5_count, Cond.instanceMethod yX5_count, Cond.selects RX5 yX5_count yX5_count, Cond.code yX5_count cX5_count 6 (some .int), Cond.methodLink RL 107 yL_fill, Cond.static yL_fill, Cond.codeWith yL_fill cL_fill 4 (some .int) [(0, 9, 12, 21)], Cond.methodLink RL 34 yX4_fill, Cond.instanceMethod yX4_fill, Cond.selects RX4 yX4_fill yX4_fill, Cond.code yX4_fill cX4_fill 2 (some .int), Cond.methodLink RX4 96 yX3_fillGaps]
def wsL_law0_r11 : List Cond := [Cond.instanceMethod yX3_fillGaps, Cond.selects RX3 yX3_fillGaps yX3_fillGaps, Cond.code yX3_fillGaps cX3_fillGaps 5 (some .int), Cond.fieldLink RX3 107 "TesseraeRow$Cell" "round" "I", Cond.methodLink RX3 104 yX0_isDone, Cond.methodLink RX3 110 yX3_fillRound, Cond.instanceMethod yX3_fillRound, Cond.selects RX3 yX3_fillRound yX3_fillRound, Cond.code yX3_fillRound cX3_fillRound 7 (some .int), Cond.methodLink RX3 114 yX3_fillCell, Cond.instanceMethod yX3_fillCell, Cond.selects RX3 yX3_fillCell yX3_fillCell, Cond.code yX3_fillCell cX3_fillCell 8 (some .boolean), Cond.fieldLink RX3 81 "TesseraeRow$Cell" "y" "I", Cond.fieldLink RX3 78 "TesseraeRow$Cell" "x" "I", Cond.fieldLink RX3 39 "TesseraeRow$Cell" "wanted" "I", Cond.methodLink RX3 92 yX3_cellAt, Cond.methodLink RL 109 yX5_fill, Cond.instanceMethod yX5_fill, Cond.selects RX5 yX5_fill yX5_fill, Cond.code yX5_fill cX5_fill 14 (some .int), Cond.methodLink RX5 122 yX5_asked, Cond.instanceMethod yX5_asked, Cond.selects RX5 yX5_asked yX5_asked]
def wsL_law0_r12 : List Cond := [Cond.code yX5_asked cX5_asked 2 (some .boolean), Cond.methodLink RL 110 yL_design, Cond.static yL_design, Cond.codeWith yL_design cL_design 4 (some .int) [(0, 9, 12, 21)], Cond.methodLink RL 37 yX4_design, Cond.instanceMethod yX4_design, Cond.selects RX4 yX4_design yX4_design, Cond.code yX4_design cX4_design 3 (some .int), Cond.methodLink RX4 100 yX3_designFrom, Cond.instanceMethod yX3_designFrom, Cond.selects RX3 yX3_designFrom yX3_designFrom, Cond.code yX3_designFrom cX3_designFrom 6 none, Cond.fieldLink RX3 42 "TesseraeRow$Cell" "brought" "F", Cond.fieldLink RX3 46 "TesseraeRow$Cell" "aim" "F", Cond.methodLink RX3 33 yX0_takeBack, Cond.instanceMethod yX0_takeBack, Cond.selects RX0 yX0_takeBack yX0_takeBack, Cond.code yX0_takeBack cX0_takeBack 1 none, Cond.fieldLink RX0 24 "TesseraeRow$Cell" "lot" "LTesseraeRow$Lot;", Cond.fieldLink RX0 33 "TesseraeRow$Lot" "promised" "I", Cond.fieldLink RX0 28 "TesseraeRow$Lot" "left" "I", Cond.methodLink RX3 36 yX3_forgetBrought, Cond.instanceMethod yX3_forgetBrought, Cond.selects RX3 yX3_forgetBrought yX3_forgetBrought]
def wsL_law0_r13 : List Cond := [Cond.code yX3_forgetBrought cX3_forgetBrought 5 none, Cond.methodLink RX3 49 yX3_promiseNearest, Cond.static yX3_promiseNearest, Cond.code yX3_promiseNearest cX3_promiseNearest 9 none, Cond.fieldLink RX3 67 "TesseraeRow$Lot" "tone" "F", Cond.methodLink RX3 61 yX2_canPromise, Cond.instanceMethod yX2_canPromise, Cond.selects RX2 yX2_canPromise yX2_canPromise, Cond.code yX2_canPromise cX2_canPromise 1 (some .boolean), Cond.methodLink RX3 70 yX3_distance, Cond.static yX3_distance, Cond.code yX3_distance cX3_distance 3 (some .float), Cond.methodLink RX3 74 yX0_promise, Cond.instanceMethod yX0_promise, Cond.selects RX0 yX0_promise yX0_promise, Cond.code yX0_promise cX0_promise 2 none, Cond.methodLink RX3 53 yX0_lackBehind, Cond.instanceMethod yX0_lackBehind, Cond.selects RX0 yX0_lackBehind yX0_lackBehind, Cond.code yX0_lackBehind cX0_lackBehind 2 (some .float), Cond.fieldLink RX0 45 "TesseraeRow$Lot" "tone" "F", Cond.methodLink RX3 57 yX3_passOn, Cond.instanceMethod yX3_passOn, Cond.selects RX3 yX3_passOn yX3_passOn]
def wsL_law0_r14 : List Cond := [Cond.code yX3_passOn cX3_passOn 3 none, Cond.constantFloat RX3 84 (1054867456), Cond.constantFloat RX3 89 (1044381696), Cond.constantFloat RX3 90 (1050673152), Cond.constantFloat RX3 91 (1031798784), Cond.methodLink RX3 85 yX3_bringTo, Cond.instanceMethod yX3_bringTo, Cond.selects RX3 yX3_bringTo yX3_bringTo, Cond.code yX3_bringTo cX3_bringTo 5 none, Cond.methodLink RX3 96 yX0_bring, Cond.instanceMethod yX0_bring, Cond.selects RX0 yX0_bring yX0_bring, Cond.code yX0_bring cX0_bring 2 none, Cond.fieldLink RX0 49 "TesseraeRow$Cell" "brought" "F", Cond.methodLink RL 112 yX5_design, Cond.instanceMethod yX5_design, Cond.selects RX5 yX5_design yX5_design, Cond.code yX5_design cX5_design 7 (some .int), Cond.methodLink RX5 137 yX5_nearest, Cond.instanceMethod yX5_nearest, Cond.selects RX5 yX5_nearest yX5_nearest, Cond.code yX5_nearest cX5_nearest 5 (some .int), Cond.methodLink RX5 125 yX5_size, Cond.static yX5_size]
def wsL_law0_r15 : List Cond := [Cond.code yX5_size cX5_size 1 (some .float), Cond.methodLink RX5 141 yX5_passesOn, Cond.instanceMethod yX5_passesOn, Cond.selects RX5 yX5_passesOn yX5_passesOn, Cond.code yX5_passesOn cX5_passesOn 5 none, Cond.constantFloat RX5 129 (1054867456), Cond.constantFloat RX5 134 (1044381696), Cond.constantFloat RX5 135 (1050673152), Cond.constantFloat RX5 136 (1031798784), Cond.methodLink RX5 130 yX5_brings, Cond.instanceMethod yX5_brings, Cond.selects RX5 yX5_brings yX5_brings, Cond.code yX5_brings cX5_brings 5 none, Cond.methodLink RL 113 yL_share, Cond.static yL_share, Cond.codeWith yL_share cL_share 6 (some .int) [(0, 12, 15, 21), (0, 12, 19, 13)], Cond.methodLink RL 40 yX4_share, Cond.instanceMethod yX4_share, Cond.selects RX4 yX4_share yX4_share, Cond.code yX4_share cX4_share 7 (some .int), Cond.methodLink RX4 109 yX3_giveOddCells, Cond.instanceMethod yX3_giveOddCells, Cond.selects RX3 yX3_giveOddCells yX3_giveOddCells, Cond.code yX3_giveOddCells cX3_giveOddCells 8 (some .int)]
def wsL_law0_r16 : List Cond := [Cond.methodLink RX3 100 yX0_isPromised, Cond.instanceMethod yX0_isPromised, Cond.selects RX0 yX0_isPromised yX0_isPromised, Cond.code yX0_isPromised cX0_isPromised 2 (some .boolean), Cond.methodLink RL 115 yX5_share, Cond.instanceMethod yX5_share, Cond.selects RX5 yX5_share yX5_share, Cond.code yX5_share cX5_share 9 (some .int), Cond.methodLink RL 116 yL_send, Cond.static yL_send, Cond.codeWith yL_send cL_send 5 (some .int) [(0, 10, 13, 21)], Cond.methodLink RL 43 yX4_send, Cond.instanceMethod yX4_send, Cond.selects RX4 yX4_send yX4_send, Cond.code yX4_send cX4_send 6 (some .int), Cond.fieldLink RX4 120 "TesseraeRow$Crew" "at" "LTesseraeRow$Picture;", Cond.methodLink RX4 113 yX4_needCrew, Cond.instanceMethod yX4_needCrew, Cond.selects RX4 yX4_needCrew yX4_needCrew, Cond.code yX4_needCrew cX4_needCrew 3 (some (.object "TesseraeRow$Crew")), Cond.methodLink RX4 117 yX1_pictureNumber, Cond.instanceMethod yX1_pictureNumber, Cond.selects RX1 yX1_pictureNumber yX1_pictureNumber, Cond.code yX1_pictureNumber cX1_pictureNumber 1 (some .int)]
def wsL_law0_r17 : List Cond := [Cond.fieldLink RX1 27 "TesseraeRow$Crew" "at" "LTesseraeRow$Picture;", Cond.fieldLink RX1 31 "TesseraeRow$Picture" "number" "I", Cond.methodLink RL 119 yX5_send, Cond.instanceMethod yX5_send, Cond.selects RX5 yX5_send yX5_send, Cond.code yX5_send cX5_send 4 (some .int), Cond.methodLink RX5 144 yX5_isCrew, Cond.static yX5_isCrew, Cond.code yX5_isCrew cX5_isCrew 1 (some .boolean), Cond.methodLink RL 120 yL_crew, Cond.static yL_crew, Cond.codeWith yL_crew cL_crew 6 (some .int) [(0, 12, 15, 21), (0, 12, 19, 13)], Cond.methodLink RL 47 yX4_crew, Cond.instanceMethod yX4_crew, Cond.selects RX4 yX4_crew yX4_crew, Cond.code yX4_crew cX4_crew 6 (some .int), Cond.fieldLink RX4 124 "TesseraeRow$Crew" "rate" "I", Cond.fieldLink RX4 127 "TesseraeRow$Crew" "dry" "I", Cond.methodLink RL 122 yX5_crew, Cond.instanceMethod yX5_crew, Cond.selects RX5 yX5_crew yX5_crew, Cond.code yX5_crew cX5_crew 5 (some .int), Cond.methodLink RL 123 yL_tray, Cond.static yL_tray]
def wsL_law0_r18 : List Cond := [Cond.codeWith yL_tray cL_tray 5 (some .int) [(0, 10, 13, 21), (0, 10, 17, 13)], Cond.methodLink RL 50 yX4_tray, Cond.instanceMethod yX4_tray, Cond.selects RX4 yX4_tray yX4_tray, Cond.code yX4_tray cX4_tray 5 (some .int), Cond.fieldLink RX4 130 "TesseraeRow$Crew" "onTray" "I", Cond.fieldLink RX4 133 "TesseraeRow$Crew" "material" "I", Cond.methodLink RL 125 yX5_tray, Cond.instanceMethod yX5_tray, Cond.selects RX5 yX5_tray yX5_tray, Cond.code yX5_tray cX5_tray 5 (some .int), Cond.methodLink RX5 147 yX5_onTray, Cond.instanceMethod yX5_onTray, Cond.selects RX5 yX5_onTray yX5_onTray, Cond.code yX5_onTray cX5_onTray 4 (some .int), Cond.methodLink RL 126 yL_load, Cond.static yL_load, Cond.codeWith yL_load cL_load 5 (some .int) [(0, 17, 20, 21)], Cond.methodLink RL 53 yX4_load, Cond.instanceMethod yX4_load, Cond.selects RX4 yX4_load yX4_load, Cond.code yX4_load cX4_load 4 (some .boolean), Cond.methodLink RX4 136 yX1_takeOnTray, Cond.instanceMethod yX1_takeOnTray]
def wsL_law0_r19 : List Cond := [Cond.selects RX1 yX1_takeOnTray yX1_takeOnTray, Cond.code yX1_takeOnTray cX1_takeOnTray 2 (some .boolean), Cond.fieldLink RX1 43 "TesseraeRow$Lot" "material" "I", Cond.fieldLink RX1 36 "TesseraeRow$Crew" "onTray" "I", Cond.methodLink RX1 39 yX1_hasOnTray, Cond.instanceMethod yX1_hasOnTray, Cond.selects RX1 yX1_hasOnTray yX1_hasOnTray, Cond.code yX1_hasOnTray cX1_hasOnTray 3 (some .boolean), Cond.methodLink RL 128 yX5_load, Cond.instanceMethod yX5_load, Cond.selects RX5 yX5_load yX5_load, Cond.code yX5_load cX5_load 3 (some .boolean), Cond.methodLink RL 129 yL_pass, Cond.static yL_pass, Cond.codeWith yL_pass cL_pass 4 (some .int) [(0, 9, 12, 13)], Cond.methodLink RL 57 yX4_pass, Cond.instanceMethod yX4_pass, Cond.selects RX4 yX4_pass yX4_pass, Cond.code yX4_pass cX4_pass 5 (some .int), Cond.fieldLink RX4 140 "TesseraeRow" "now" "I", Cond.methodLink RX4 143 yX1_layFor, Cond.instanceMethod yX1_layFor, Cond.selects RX1 yX1_layFor yX1_layFor, Cond.code yX1_layFor cX1_layFor 3 (some .int)]
def wsL_law0_r20 : List Cond := [Cond.fieldLink RX1 48 "TesseraeRow$Crew" "laid" "I", Cond.methodLink RX1 44 yX1_layNext, Cond.instanceMethod yX1_layNext, Cond.selects RX1 yX1_layNext yX1_layNext, Cond.code yX1_layNext cX1_layNext 3 (some .boolean), Cond.fieldLink RX1 55 "TesseraeRow$Cell" "kind" "I", Cond.fieldLink RX1 60 "TesseraeRow$Cell" "lot" "LTesseraeRow$Lot;", Cond.fieldLink RX1 64 "TesseraeRow$Cell" "y" "I", Cond.methodLink RX1 51 yX3_firstUndone, Cond.instanceMethod yX3_firstUndone, Cond.selects RX3 yX3_firstUndone yX3_firstUndone, Cond.code yX3_firstUndone cX3_firstUndone 5 (some (.object "TesseraeRow$Cell")), Cond.methodLink RX1 67 yX3_isDryRow, Cond.instanceMethod yX3_isDryRow, Cond.selects RX3 yX3_isDryRow yX3_isDryRow, Cond.code yX3_isDryRow cX3_isDryRow 6 (some .boolean), Cond.fieldLink RX3 118 "TesseraeRow$Cell" "laidAt" "I", Cond.fieldLink RX3 121 "TesseraeRow$Cell" "dryAt" "I", Cond.methodLink RX1 71 yX0_lay, Cond.instanceMethod yX0_lay, Cond.selects RX0 yX0_lay yX0_lay, Cond.code yX0_lay cX0_lay 3 none, Cond.fieldLink RX0 36 "TesseraeRow$Lot" "laid" "I", Cond.fieldLink RX0 39 "TesseraeRow$Cell" "laidAt" "I"]
def wsL_law0_r21 : List Cond := [Cond.fieldLink RX0 42 "TesseraeRow$Cell" "dryAt" "I", Cond.methodLink RL 131 yX5_pass, Cond.instanceMethod yX5_pass, Cond.selects RX5 yX5_pass yX5_pass, Cond.code yX5_pass cX5_pass 6 (some .int), Cond.fieldLink RX5 150 "TesseraeRowModel" "now" "I", Cond.methodLink RX5 157 yX5_lays, Cond.instanceMethod yX5_lays, Cond.selects RX5 yX5_lays yX5_lays, Cond.code yX5_lays cX5_lays 6 (some .boolean), Cond.methodLink RX5 153 yX5_isDry, Cond.instanceMethod yX5_isDry, Cond.selects RX5 yX5_isDry yX5_isDry, Cond.code yX5_isDry cX5_isDry 7 (some .boolean), Cond.methodLink RL 132 yX4_hour, Cond.instanceMethod yX4_hour, Cond.selects RX4 yX4_hour yX4_hour, Cond.code yX4_hour cX4_hour 1 (some .int), Cond.methodLink RL 135 yX5_hour, Cond.instanceMethod yX5_hour, Cond.selects RX5 yX5_hour yX5_hour, Cond.code yX5_hour cX5_hour 1 (some .int), Cond.methodLink RL 136 yL_ofCell, Cond.static yL_ofCell]
def wsL_law0_r22 : List Cond := [Cond.codeWith yL_ofCell cL_ofCell 7 (some .int) [(0, 14, 17, 21), (0, 14, 21, 13)], Cond.methodLink RL 60 yX4_ofCell, Cond.instanceMethod yX4_ofCell, Cond.selects RX4 yX4_ofCell yX4_ofCell, Cond.code yX4_ofCell cX4_ofCell 6 (some .int), Cond.fieldLink RX4 146 "TesseraeRow$Cell" "lot" "LTesseraeRow$Lot;", Cond.fieldLink RX4 150 "TesseraeRow$Lot" "number" "I", Cond.fieldLink RX4 153 "TesseraeRow$Cell" "aim" "F", Cond.fieldLink RX4 161 "TesseraeRow$Cell" "laidAt" "I", Cond.methodLink RX4 157 yX4_bitsOf, Cond.static yX4_bitsOf, Cond.code yX4_bitsOf cX4_bitsOf 4 (some .int), Cond.constantFloat RX4 199 (1056964608), Cond.constantFloat RX4 200 (1258291200), Cond.constant RX4 201 (-2147483648), Cond.methodLink RL 138 yX5_ofCell, Cond.instanceMethod yX5_ofCell, Cond.selects RX5 yX5_ofCell yX5_ofCell, Cond.code yX5_ofCell cX5_ofCell 7 (some .int), Cond.methodLink RX5 160 yJxf58ca_floatToIntBits_5c35a, Cond.static yJxf58ca_floatToIntBits_5c35a, Cond.initialized RJxf58ca, Cond.code yJxf58ca_floatToIntBits_5c35a cJxf58ca_floatToIntBits_5c35a 1 (some .int), Cond.methodLink RJxf58ca 74 ⟨"java/lang/Float", "floatToRawIntBits", "(F)I"⟩]
def wsL_law0_r23 : List Cond := [Cond.native ⟨"java/lang/Float", "floatToRawIntBits", "(F)I"⟩, Cond.static ⟨"java/lang/Float", "floatToRawIntBits", "(F)I"⟩, Cond.initialized "java/lang/Float", Cond.constant RJxf58ca 77 (2143289344), Cond.methodLink RJxf58ca 59 yJxf58ca_isNaN_12338, Cond.static yJxf58ca_isNaN_12338, Cond.code yJxf58ca_isNaN_12338 cJxf58ca_isNaN_12338 1 (some .boolean), Cond.methodLink RL 139 yL_aimAnew, Cond.static yL_aimAnew, Cond.codeWith yL_aimAnew cL_aimAnew 6 (some .int) [(0, 12, 15, 21)], Cond.methodLink RL 63 yX4_aimAnew, Cond.instanceMethod yX4_aimAnew, Cond.selects RX4 yX4_aimAnew yX4_aimAnew, Cond.code yX4_aimAnew cX4_aimAnew 5 (some .int), Cond.methodLink RX4 164 yX3_aimByNow, Cond.instanceMethod yX3_aimByNow, Cond.selects RX3 yX3_aimByNow yX3_aimByNow, Cond.code yX3_aimByNow cX3_aimByNow 7 (some .float), Cond.methodLink RL 141 yX5_aimAnew, Cond.instanceMethod yX5_aimAnew, Cond.selects RX5 yX5_aimAnew yX5_aimAnew, Cond.code yX5_aimAnew cX5_aimAnew 8 (some .int), Cond.methodLink RL 142 yL_edge, Cond.static yL_edge]
def wsL_law0_r24 : List Cond := [Cond.codeWith yL_edge cL_edge 4 (some .int) [(0, 9, 12, 21)], Cond.methodLink RL 66 yX4_edge, Cond.instanceMethod yX4_edge, Cond.selects RX4 yX4_edge yX4_edge, Cond.code yX4_edge cX4_edge 2 (some .int), Cond.methodLink RX4 168 yX3_greatestEdge, Cond.instanceMethod yX3_greatestEdge, Cond.selects RX3 yX3_greatestEdge yX3_greatestEdge, Cond.code yX3_greatestEdge cX3_greatestEdge 9 (some .float), Cond.methodLink RX3 124 yX3_edgeBetween, Cond.static yX3_edgeBetween, Cond.code yX3_edgeBetween cX3_edgeBetween 4 (some .float), Cond.methodLink RX3 128 yX0_stoneTone, Cond.instanceMethod yX0_stoneTone, Cond.selects RX0 yX0_stoneTone yX0_stoneTone, Cond.code yX0_stoneTone cX0_stoneTone 1 (some .float), Cond.methodLink RL 144 yX5_edge, Cond.instanceMethod yX5_edge, Cond.selects RX5 yX5_edge yX5_edge, Cond.code yX5_edge cX5_edge 8 (some .int), Cond.methodLink RX5 169 yX5_apart, Cond.instanceMethod yX5_apart, Cond.selects RX5 yX5_apart yX5_apart, Cond.code yX5_apart cX5_apart 3 (some .float)]
def wsL_law0_r25 : List Cond := [Cond.methodLink RX5 165 yX5_toneOf, Cond.instanceMethod yX5_toneOf, Cond.selects RX5 yX5_toneOf yX5_toneOf, Cond.code yX5_toneOf cX5_toneOf 2 (some .float), Cond.methodLink RL 145 yL_ofLot, Cond.static yL_ofLot, Cond.codeWith yL_ofLot cL_ofLot 5 (some .int) [(0, 10, 13, 21), (0, 10, 17, 13)], Cond.methodLink RL 69 yX4_ofLot, Cond.instanceMethod yX4_ofLot, Cond.selects RX4 yX4_ofLot yX4_ofLot, Cond.code yX4_ofLot cX4_ofLot 4 (some .int), Cond.fieldLink RX4 172 "TesseraeRow$Lot" "promised" "I", Cond.fieldLink RX4 175 "TesseraeRow$Lot" "laid" "I", Cond.fieldLink RX4 178 "TesseraeRow$Lot" "tone" "F", Cond.methodLink RL 147 yX5_ofLot, Cond.instanceMethod yX5_ofLot, Cond.selects RX5 yX5_ofLot yX5_ofLot, Cond.code yX5_ofLot cX5_ofLot 3 (some .int), Cond.methodLink RL 148 yL_ofPicture, Cond.static yL_ofPicture, Cond.codeWith yL_ofPicture cL_ofPicture 5 (some .int) [(0, 10, 13, 21), (0, 10, 17, 13)], Cond.methodLink RL 72 yX4_ofPicture, Cond.instanceMethod yX4_ofPicture, Cond.selects RX4 yX4_ofPicture yX4_ofPicture]
def wsL_law0_r26 : List Cond := [Cond.code yX4_ofPicture cX4_ofPicture 4 (some .int), Cond.methodLink RL 150 yX5_ofPicture, Cond.instanceMethod yX5_ofPicture, Cond.selects RX5 yX5_ofPicture yX5_ofPicture, Cond.code yX5_ofPicture cX5_ofPicture 3 (some .int), Cond.methodLink RL 151 yL_ofCrew, Cond.static yL_ofCrew, Cond.codeWith yL_ofCrew cL_ofCrew 5 (some .int) [(0, 10, 13, 21), (0, 10, 17, 13)], Cond.methodLink RL 75 yX4_ofCrew, Cond.instanceMethod yX4_ofCrew, Cond.selects RX4 yX4_ofCrew yX4_ofCrew, Cond.code yX4_ofCrew cX4_ofCrew 4 (some .int), Cond.fieldLink RX4 181 "TesseraeRow$Crew" "laid" "I", Cond.methodLink RL 153 yX5_ofCrew, Cond.instanceMethod yX5_ofCrew, Cond.selects RX5 yX5_ofCrew yX5_ofCrew, Cond.code yX5_ofCrew cX5_ofCrew 3 (some .int)]
def wsL_law0 : List Cond := (wsL_law0_r1 ++ (wsL_law0_r2 ++ (wsL_law0_r3 ++ (wsL_law0_r4 ++ (wsL_law0_r5 ++ (wsL_law0_r6 ++ (wsL_law0_r7 ++ (wsL_law0_r8 ++ (wsL_law0_r9 ++ (wsL_law0_r10 ++ (wsL_law0_r11 ++ (wsL_law0_r12 ++ (wsL_law0_r13 ++ (wsL_law0_r14 ++ (wsL_law0_r15 ++ (wsL_law0_r16 ++ (wsL_law0_r17 ++ (wsL_law0_r18 ++ (wsL_law0_r19 ++ (wsL_law0_r20 ++ (wsL_law0_r21 ++ (wsL_law0_r22 ++ (wsL_law0_r23 ++ (wsL_law0_r24 ++ (wsL_law0_r25 ++ wsL_law0_r26))))))))))))))))))))))))) ++ wsX40 ++ wsX50 ++ wsX10 ++ wsX20 ++ wsX30 ++ wsX00 ++ ([] : List Cond)
def wsL_law : List Cond := wsL_law0 ++ (vx_atS RX4 40 "java/lang/IllegalStateException" ["java/lang/RuntimeException", "java/lang/Exception"]).filter goodWord ++ (vx_atS RX4 108 "java/lang/IllegalArgumentException" ["java/lang/RuntimeException", "java/lang/Exception"]).filter goodWord ++ (vx_atS RX4 188 "java/lang/IndexOutOfBoundsException" ["java/lang/RuntimeException", "java/lang/Exception"]).filter goodWord
set_option maxRecDepth 100000 in
theorem wsL_law0_r1_in : ∀ w ∈ wsL_law0_r1, w ∈ lw_tbl := fun w h => (goodIn_p wsL_law0_r1 [45, 48, 58] (by decide +kernel) (by decide +kernel) w h).1
set_option maxRecDepth 100000 in
theorem wsL_law0_r2_in : ∀ w ∈ wsL_law0_r2, w ∈ lw_tbl := fun w h => (goodIn_p wsL_law0_r2 [622] (by decide +kernel) (by decide +kernel) w h).1
set_option maxRecDepth 100000 in
theorem wsL_law0_r3_in : ∀ w ∈ wsL_law0_r3, w ∈ lw_tbl := fun w h => (goodIn_p wsL_law0_r3 [120] (by decide +kernel) (by decide +kernel) w h).1
set_option maxRecDepth 100000 in
theorem wsL_law0_r4_in : ∀ w ∈ wsL_law0_r4, w ∈ lw_tbl := fun w h => (goodIn_p wsL_law0_r4 [123, 212, 713] (by decide +kernel) (by decide +kernel) w h).1
set_option maxRecDepth 100000 in
theorem wsL_law0_r5_in : ∀ w ∈ wsL_law0_r5, w ∈ lw_tbl := fun w h => (goodIn_p wsL_law0_r5 [716, 720, 709, 253, 257] (by decide +kernel) (by decide +kernel) w h).1
set_option maxRecDepth 100000 in
theorem wsL_law0_r6_in : ∀ w ∈ wsL_law0_r6, w ∈ lw_tbl := fun w h => (goodIn_p wsL_law0_r6 [725, 729, 733, 281] (by decide +kernel) (by decide +kernel) w h).1
set_option maxRecDepth 100000 in
theorem wsL_law0_r7_in : ∀ w ∈ wsL_law0_r7, w ∈ lw_tbl := fun w h => (goodIn_p wsL_law0_r7 [286, 293, 737] (by decide +kernel) (by decide +kernel) w h).1
set_option maxRecDepth 100000 in
theorem wsL_law0_r8_in : ∀ w ∈ wsL_law0_r8, w ∈ lw_tbl := fun w h => (goodIn_p wsL_law0_r8 [361, 365, 369, 374, 379] (by decide +kernel) (by decide +kernel) w h).1
set_option maxRecDepth 100000 in
theorem wsL_law0_r9_in : ∀ w ∈ wsL_law0_r9, w ∈ lw_tbl := fun w h => (goodIn_p wsL_law0_r9 [741, 745, 749, 752, 756] (by decide +kernel) (by decide +kernel) w h).1
set_option maxRecDepth 100000 in
theorem wsL_law0_r10_in : ∀ w ∈ wsL_law0_r10, w ∈ lw_tbl := fun w h => (goodIn_p wsL_law0_r10 [387, 392, 760, 764, 399] (by decide +kernel) (by decide +kernel) w h).1
set_option maxRecDepth 100000 in
theorem wsL_law0_r11_in : ∀ w ∈ wsL_law0_r11, w ∈ lw_tbl := fun w h => (goodIn_p wsL_law0_r11 [403, 408, 412, 768] (by decide +kernel) (by decide +kernel) w h).1
set_option maxRecDepth 100000 in
theorem wsL_law0_r12_in : ∀ w ∈ wsL_law0_r12, w ∈ lw_tbl := fun w h => (goodIn_p wsL_law0_r12 [772, 420, 424, 428] (by decide +kernel) (by decide +kernel) w h).1
set_option maxRecDepth 100000 in
theorem wsL_law0_r13_in : ∀ w ∈ wsL_law0_r13, w ∈ lw_tbl := fun w h => (goodIn_p wsL_law0_r13 [432, 435, 439, 442, 446, 450] (by decide +kernel) (by decide +kernel) w h).1
set_option maxRecDepth 100000 in
theorem wsL_law0_r14_in : ∀ w ∈ wsL_law0_r14, w ∈ lw_tbl := fun w h => (goodIn_p wsL_law0_r14 [454, 459, 463, 776, 780] (by decide +kernel) (by decide +kernel) w h).1
set_option maxRecDepth 100000 in
theorem wsL_law0_r15_in : ∀ w ∈ wsL_law0_r15, w ∈ lw_tbl := fun w h => (goodIn_p wsL_law0_r15 [783, 787, 792, 473, 478] (by decide +kernel) (by decide +kernel) w h).1
set_option maxRecDepth 100000 in
theorem wsL_law0_r16_in : ∀ w ∈ wsL_law0_r16, w ∈ lw_tbl := fun w h => (goodIn_p wsL_law0_r16 [482, 799, 489, 493, 498] (by decide +kernel) (by decide +kernel) w h).1
set_option maxRecDepth 100000 in
theorem wsL_law0_r17_in : ∀ w ∈ wsL_law0_r17, w ∈ lw_tbl := fun w h => (goodIn_p wsL_law0_r17 [803, 806, 505, 810] (by decide +kernel) (by decide +kernel) w h).1
set_option maxRecDepth 100000 in
theorem wsL_law0_r18_in : ∀ w ∈ wsL_law0_r18, w ∈ lw_tbl := fun w h => (goodIn_p wsL_law0_r18 [512, 814, 818, 519] (by decide +kernel) (by decide +kernel) w h).1
set_option maxRecDepth 100000 in
theorem wsL_law0_r19_in : ∀ w ∈ wsL_law0_r19, w ∈ lw_tbl := fun w h => (goodIn_p wsL_law0_r19 [523, 527, 822, 534, 538] (by decide +kernel) (by decide +kernel) w h).1
set_option maxRecDepth 100000 in
theorem wsL_law0_r20_in : ∀ w ∈ wsL_law0_r20, w ∈ lw_tbl := fun w h => (goodIn_p wsL_law0_r20 [542, 546, 550, 554] (by decide +kernel) (by decide +kernel) w h).1
set_option maxRecDepth 100000 in
theorem wsL_law0_r21_in : ∀ w ∈ wsL_law0_r21, w ∈ lw_tbl := fun w h => (goodIn_p wsL_law0_r21 [826, 830, 834, 111, 838] (by decide +kernel) (by decide +kernel) w h).1
set_option maxRecDepth 100000 in
theorem wsL_law0_r22_in : ∀ w ∈ wsL_law0_r22, w ∈ lw_tbl := fun w h => (goodIn_p wsL_law0_r22 [561, 564, 842, 845] (by decide +kernel) (by decide +kernel) w h).1
set_option maxRecDepth 100000 in
theorem wsL_law0_r23_in : ∀ w ∈ wsL_law0_r23, w ∈ lw_tbl := fun w h => (goodIn_p wsL_law0_r23 [848, 574, 578, 856] (by decide +kernel) (by decide +kernel) w h).1
set_option maxRecDepth 100000 in
theorem wsL_law0_r24_in : ∀ w ∈ wsL_law0_r24, w ∈ lw_tbl := fun w h => (goodIn_p wsL_law0_r24 [585, 589, 592, 596, 860, 864] (by decide +kernel) (by decide +kernel) w h).1
set_option maxRecDepth 100000 in
theorem wsL_law0_r25_in : ∀ w ∈ wsL_law0_r25, w ∈ lw_tbl := fun w h => (goodIn_p wsL_law0_r25 [868, 603, 872] (by decide +kernel) (by decide +kernel) w h).1
set_option maxRecDepth 100000 in
theorem wsL_law0_r26_in : ∀ w ∈ wsL_law0_r26, w ∈ lw_tbl := fun w h => (goodIn_p wsL_law0_r26 [610, 876, 617, 880] (by decide +kernel) (by decide +kernel) w h).1
set_option maxRecDepth 100000 in
theorem wsX00_in : ∀ w ∈ wsX00, w ∈ lw_tbl := by decide +kernel
set_option maxRecDepth 100000 in
theorem wsX10_in : ∀ w ∈ wsX10, w ∈ lw_tbl := by decide +kernel
set_option maxRecDepth 100000 in
theorem wsX20_in : ∀ w ∈ wsX20, w ∈ lw_tbl := by decide +kernel
set_option maxRecDepth 100000 in
theorem wsX30_in : ∀ w ∈ wsX30, w ∈ lw_tbl := by decide +kernel
set_option maxRecDepth 100000 in
theorem wsX40_in : ∀ w ∈ wsX40, w ∈ lw_tbl := by decide +kernel
set_option maxRecDepth 100000 in
theorem wsX50_in : ∀ w ∈ wsX50, w ∈ lw_tbl := by decide +kernel
theorem wsL_law_in0 : ∀ w ∈ wsL_law0, w ∈ lw_tbl := (List.forall_mem_append.mpr ⟨(List.forall_mem_append.mpr ⟨(List.forall_mem_append.mpr ⟨(List.forall_mem_append.mpr ⟨(List.forall_mem_append.mpr ⟨(List.forall_mem_append.mpr ⟨(List.forall_mem_append.mpr ⟨(List.forall_mem_append.mpr ⟨wsL_law0_r1_in, (List.forall_mem_append.mpr ⟨wsL_law0_r2_in, (List.forall_mem_append.mpr ⟨wsL_law0_r3_in, (List.forall_mem_append.mpr ⟨wsL_law0_r4_in, (List.forall_mem_append.mpr ⟨wsL_law0_r5_in, (List.forall_mem_append.mpr ⟨wsL_law0_r6_in, (List.forall_mem_append.mpr ⟨wsL_law0_r7_in, (List.forall_mem_append.mpr ⟨wsL_law0_r8_in, (List.forall_mem_append.mpr ⟨wsL_law0_r9_in, (List.forall_mem_append.mpr ⟨wsL_law0_r10_in, (List.forall_mem_append.mpr ⟨wsL_law0_r11_in, (List.forall_mem_append.mpr ⟨wsL_law0_r12_in, (List.forall_mem_append.mpr ⟨wsL_law0_r13_in, (List.forall_mem_append.mpr ⟨wsL_law0_r14_in, (List.forall_mem_append.mpr ⟨wsL_law0_r15_in, (List.forall_mem_append.mpr ⟨wsL_law0_r16_in, (List.forall_mem_append.mpr ⟨wsL_law0_r17_in, (List.forall_mem_append.mpr ⟨wsL_law0_r18_in, (List.forall_mem_append.mpr ⟨wsL_law0_r19_in, (List.forall_mem_append.mpr ⟨wsL_law0_r20_in, (List.forall_mem_append.mpr ⟨wsL_law0_r21_in, (List.forall_mem_append.mpr ⟨wsL_law0_r22_in, (List.forall_mem_append.mpr ⟨wsL_law0_r23_in, (List.forall_mem_append.mpr ⟨wsL_law0_r24_in, (List.forall_mem_append.mpr ⟨wsL_law0_r25_in, wsL_law0_r26_in⟩)⟩)⟩)⟩)⟩)⟩)⟩)⟩)⟩)⟩)⟩)⟩)⟩)⟩)⟩)⟩)⟩)⟩)⟩)⟩)⟩)⟩)⟩)⟩)⟩), wsX40_in⟩), wsX50_in⟩), wsX10_in⟩), wsX20_in⟩), wsX30_in⟩), wsX00_in⟩), fun _ h => absurd h List.not_mem_nil⟩)
theorem wsL_law_x0 : ∀ w ∈ (vx_atS RX4 40 "java/lang/IllegalStateException" ["java/lang/RuntimeException", "java/lang/Exception"]).filter goodWord, w ∈ lw_tbl := by decide +kernel
theorem wsL_law_x1 : ∀ w ∈ (vx_atS RX4 108 "java/lang/IllegalArgumentException" ["java/lang/RuntimeException", "java/lang/Exception"]).filter goodWord, w ∈ lw_tbl := by decide +kernel
theorem wsL_law_x2 : ∀ w ∈ (vx_atS RX4 188 "java/lang/IndexOutOfBoundsException" ["java/lang/RuntimeException", "java/lang/Exception"]).filter goodWord, w ∈ lw_tbl := by decide +kernel
theorem wsL_law_in : ∀ w ∈ wsL_law, w ∈ lw_tbl := fun w h => (List.mem_append.mp h).elim (fun h => (List.mem_append.mp h).elim (fun h => (List.mem_append.mp h).elim (fun h => wsL_law_in0 w h) (fun h => wsL_law_x0 w h)) (fun h => wsL_law_x1 w h)) (fun h => wsL_law_x2 w h)
theorem inlX0 : ∀ w ∈ wsX00, w ∈ wsL_law := fun _ h => List.mem_append_left _ (List.mem_append_left _ (List.mem_append_left _ (List.mem_append_left _ (List.mem_append_right _ h))))
theorem inX0 : ∀ w ∈ wsX00, w ∈ lw_tbl := fun w h => wsL_law_in w (inlX0 w h)
theorem inlX1 : ∀ w ∈ wsX10, w ∈ wsL_law := fun _ h => List.mem_append_left _ (List.mem_append_left _ (List.mem_append_left _ (List.mem_append_left _ (List.mem_append_left _ (List.mem_append_left _ (List.mem_append_left _ (List.mem_append_right _ h)))))))
theorem inX1 : ∀ w ∈ wsX10, w ∈ lw_tbl := fun w h => wsL_law_in w (inlX1 w h)
theorem inlX2 : ∀ w ∈ wsX20, w ∈ wsL_law := fun _ h => List.mem_append_left _ (List.mem_append_left _ (List.mem_append_left _ (List.mem_append_left _ (List.mem_append_left _ (List.mem_append_left _ (List.mem_append_right _ h))))))
theorem inX2 : ∀ w ∈ wsX20, w ∈ lw_tbl := fun w h => wsL_law_in w (inlX2 w h)
theorem inlX3 : ∀ w ∈ wsX30, w ∈ wsL_law := fun _ h => List.mem_append_left _ (List.mem_append_left _ (List.mem_append_left _ (List.mem_append_left _ (List.mem_append_left _ (List.mem_append_right _ h)))))
theorem inX3 : ∀ w ∈ wsX30, w ∈ lw_tbl := fun w h => wsL_law_in w (inlX3 w h)
theorem inlX4 : ∀ w ∈ wsX40, w ∈ wsL_law := fun _ h => List.mem_append_left _ (List.mem_append_left _ (List.mem_append_left _ (List.mem_append_left _ (List.mem_append_left _ (List.mem_append_left _ (List.mem_append_left _ (List.mem_append_left _ (List.mem_append_left _ (List.mem_append_right _ h)))))))))
theorem inX4 : ∀ w ∈ wsX40, w ∈ lw_tbl := fun w h => wsL_law_in w (inlX4 w h)
theorem inlX5 : ∀ w ∈ wsX50, w ∈ wsL_law := fun _ h => List.mem_append_left _ (List.mem_append_left _ (List.mem_append_left _ (List.mem_append_left _ (List.mem_append_left _ (List.mem_append_left _ (List.mem_append_left _ (List.mem_append_left _ (List.mem_append_right _ h))))))))
theorem inX5 : ∀ w ∈ wsX50, w ∈ lw_tbl := fun w h => wsL_law_in w (inlX5 w h)
set_option maxRecDepth 20000 in
theorem ggL_lot_X4_lot : GoodIn wsL_lot wsX4_lot := goodIn_ca (goodIn_ca (goodIn_r _ [7, 8, 9, 10, 11, 12, 13, 14, 15, 16, 17, 6, 18, 19, 20, 21, 22, 23, 24, 25, 26, 27, 28, 29, 30, 31, 32, 33, 34, 35, 36, 37, 38, 39, 40, 41, 42, 43, 44] (by decide +kernel) (by decide +kernel)) (goodIn_sub (fun _ h => List.mem_cons_of_mem _ (List.mem_append_left _ (List.mem_append_right _ h))) (by decide +kernel))) (goodIn_sub (fun _ h => List.mem_cons_of_mem _ (List.mem_append_right _ h)) (by decide +kernel))
set_option maxRecDepth 20000 in
theorem gL_lot_X4_lot : GoodIn wsL_lot (wsV RL 7 RX4 yX4_lot wsX4_lot) := goodIn_app (goodIn_of _ (by decide +kernel)) ggL_lot_X4_lot
theorem dL_lot_0 : decode cL_lot 0 = .ok (.aload 5, 2) := by decide +kernel
theorem dL_lot_2 : decode cL_lot 2 = .ok (.iconst 0, 1) := by decide +kernel
theorem dL_lot_3 : decode cL_lot 3 = .ok (.aload_n 0, 1) := by decide +kernel
theorem dL_lot_4 : decode cL_lot 4 = .ok (.iload_n 1, 1) := by decide +kernel
theorem dL_lot_5 : decode cL_lot 5 = .ok (.iload_n 2, 1) := by decide +kernel
theorem dL_lot_6 : decode cL_lot 6 = .ok (.iload_n 3, 1) := by decide +kernel
theorem dL_lot_7 : decode cL_lot 7 = .ok (.iload 4, 2) := by decide +kernel
theorem dL_lot_9 : decode cL_lot 9 = .ok (.invokevirtual 7, 3) := by decide +kernel
theorem dL_lot_12 : decode cL_lot 12 = .ok (.i2l, 1) := by decide +kernel
theorem dL_lot_13 : decode cL_lot 13 = .ok (.lastore, 1) := by decide +kernel
theorem dL_lot_14 : decode cL_lot 14 = .ok (.goto 11, 3) := by decide +kernel
theorem dL_lot_17 : decode cL_lot 17 = .ok (.astore 6, 2) := by decide +kernel
theorem dL_lot_19 : decode cL_lot 19 = .ok (.iconst 1, 1) := by decide +kernel
theorem dL_lot_20 : decode cL_lot 20 = .ok (.ireturn, 1) := by decide +kernel
theorem dL_lot_21 : decode cL_lot 21 = .ok (.astore 6, 2) := by decide +kernel
theorem dL_lot_23 : decode cL_lot 23 = .ok (.iconst 2, 1) := by decide +kernel
theorem dL_lot_24 : decode cL_lot 24 = .ok (.ireturn, 1) := by decide +kernel
theorem dL_lot_25 : decode cL_lot 25 = .ok (.iconst 0, 1) := by decide +kernel
theorem dL_lot_26 : decode cL_lot 26 = .ok (.ireturn, 1) := by decide +kernel
set_option maxRecDepth 20000 in
theorem ggL_comes_X4_comes : GoodIn wsL_comes wsX4_comes := goodIn_ca (goodIn_ca (goodIn_r _ [7, 8, 9, 10, 11, 12, 13, 14, 6, 15, 16, 17, 18, 19, 20, 21, 22, 23, 24, 25, 26, 27, 28, 29, 30, 31] (by decide +kernel) (by decide +kernel)) (goodIn_sub (fun _ h => List.mem_cons_of_mem _ (List.mem_append_left _ (List.mem_append_right _ h))) (by decide +kernel))) (goodIn_sub (fun _ h => List.mem_cons_of_mem _ (List.mem_append_right _ h)) (by decide +kernel))
set_option maxRecDepth 20000 in
theorem gL_comes_X4_comes : GoodIn wsL_comes (wsV RL 17 RX4 yX4_comes wsX4_comes) := goodIn_app (goodIn_of _ (by decide +kernel)) ggL_comes_X4_comes
theorem dL_comes_0 : decode cL_comes 0 = .ok (.aload_n 2, 1) := by decide +kernel
theorem dL_comes_1 : decode cL_comes 1 = .ok (.iconst 0, 1) := by decide +kernel
theorem dL_comes_2 : decode cL_comes 2 = .ok (.aload_n 0, 1) := by decide +kernel
theorem dL_comes_3 : decode cL_comes 3 = .ok (.iload_n 1, 1) := by decide +kernel
theorem dL_comes_4 : decode cL_comes 4 = .ok (.invokevirtual 17, 3) := by decide +kernel
theorem dL_comes_7 : decode cL_comes 7 = .ok (.i2l, 1) := by decide +kernel
theorem dL_comes_8 : decode cL_comes 8 = .ok (.lastore, 1) := by decide +kernel
theorem dL_comes_9 : decode cL_comes 9 = .ok (.goto 9, 3) := by decide +kernel
theorem dL_comes_12 : decode cL_comes 12 = .ok (.astore_n 3, 1) := by decide +kernel
theorem dL_comes_13 : decode cL_comes 13 = .ok (.iconst 1, 1) := by decide +kernel
theorem dL_comes_14 : decode cL_comes 14 = .ok (.ireturn, 1) := by decide +kernel
theorem dL_comes_15 : decode cL_comes 15 = .ok (.astore_n 3, 1) := by decide +kernel
theorem dL_comes_16 : decode cL_comes 16 = .ok (.iconst 2, 1) := by decide +kernel
theorem dL_comes_17 : decode cL_comes 17 = .ok (.ireturn, 1) := by decide +kernel
theorem dL_comes_18 : decode cL_comes 18 = .ok (.iconst 0, 1) := by decide +kernel
theorem dL_comes_19 : decode cL_comes 19 = .ok (.ireturn, 1) := by decide +kernel
set_option maxRecDepth 20000 in
theorem ggL_picture_X4_picture : GoodIn wsL_picture wsX4_picture := goodIn_ca (goodIn_ca (goodIn_r _ [7, 8, 9, 10, 11, 12, 13, 14, 15, 16, 6, 17, 18, 19, 20, 21, 22, 23, 24, 25, 26, 27, 28, 29, 30, 31, 32, 33, 34, 35, 36, 37, 38, 39, 40, 41, 42, 43, 44, 45, 46, 47, 48, 49, 50, 51, 52, 53, 54, 55, 56, 57, 58, 59, 60] (by decide +kernel) (by decide +kernel)) (goodIn_sub (fun _ h => List.mem_cons_of_mem _ (List.mem_append_left _ (List.mem_append_right _ h))) (by decide +kernel))) (goodIn_sub (fun _ h => List.mem_cons_of_mem _ (List.mem_append_right _ h)) (by decide +kernel))
set_option maxRecDepth 20000 in
theorem gL_picture_X4_picture : GoodIn wsL_picture (wsV RL 23 RX4 yX4_picture wsX4_picture) := goodIn_app (goodIn_of _ (by decide +kernel)) ggL_picture_X4_picture
theorem dL_picture_0 : decode cL_picture 0 = .ok (.aload 4, 2) := by decide +kernel
theorem dL_picture_2 : decode cL_picture 2 = .ok (.iconst 0, 1) := by decide +kernel
theorem dL_picture_3 : decode cL_picture 3 = .ok (.aload_n 0, 1) := by decide +kernel
theorem dL_picture_4 : decode cL_picture 4 = .ok (.iload_n 1, 1) := by decide +kernel
theorem dL_picture_5 : decode cL_picture 5 = .ok (.iload_n 2, 1) := by decide +kernel
theorem dL_picture_6 : decode cL_picture 6 = .ok (.iload_n 3, 1) := by decide +kernel
theorem dL_picture_7 : decode cL_picture 7 = .ok (.invokevirtual 23, 3) := by decide +kernel
theorem dL_picture_10 : decode cL_picture 10 = .ok (.i2l, 1) := by decide +kernel
theorem dL_picture_11 : decode cL_picture 11 = .ok (.lastore, 1) := by decide +kernel
theorem dL_picture_12 : decode cL_picture 12 = .ok (.goto 11, 3) := by decide +kernel
theorem dL_picture_15 : decode cL_picture 15 = .ok (.astore 5, 2) := by decide +kernel
theorem dL_picture_17 : decode cL_picture 17 = .ok (.iconst 1, 1) := by decide +kernel
theorem dL_picture_18 : decode cL_picture 18 = .ok (.ireturn, 1) := by decide +kernel
theorem dL_picture_19 : decode cL_picture 19 = .ok (.astore 5, 2) := by decide +kernel
theorem dL_picture_21 : decode cL_picture 21 = .ok (.iconst 2, 1) := by decide +kernel
theorem dL_picture_22 : decode cL_picture 22 = .ok (.ireturn, 1) := by decide +kernel
theorem dL_picture_23 : decode cL_picture 23 = .ok (.iconst 0, 1) := by decide +kernel
theorem dL_picture_24 : decode cL_picture 24 = .ok (.ireturn, 1) := by decide +kernel
set_option maxRecDepth 20000 in
theorem ggL_cell_X4_cell : GoodIn wsL_cell wsX4_cell := goodIn_ca (goodIn_ca (goodIn_ca (goodIn_r _ [8, 9, 10, 11, 12, 13, 14, 7, 15, 16, 17, 18, 19, 20, 21, 22, 23, 24, 25, 26, 27, 28, 29, 30, 31, 32, 33, 34, 35, 36, 37, 38, 39, 40, 41, 42, 43, 44, 45, 46, 47, 48, 49, 50, 51, 52, 53, 54, 55, 56, 57, 58, 59, 60, 61] (by decide +kernel) (by decide +kernel)) (goodIn_sub (fun _ h => List.mem_cons_of_mem _ (List.mem_append_left _ (List.mem_append_left _ (List.mem_append_right _ h)))) (by decide +kernel))) (goodIn_sub (fun _ h => List.mem_cons_of_mem _ (List.mem_append_left _ (List.mem_append_right _ h))) (by decide +kernel))) (goodIn_sub (fun _ h => List.mem_cons_of_mem _ (List.mem_append_right _ h)) (by decide +kernel))
set_option maxRecDepth 20000 in
theorem gL_cell_X4_cell : GoodIn wsL_cell (wsV RL 27 RX4 yX4_cell wsX4_cell) := goodIn_app (goodIn_of _ (by decide +kernel)) ggL_cell_X4_cell
theorem dL_cell_0 : decode cL_cell 0 = .ok (.aload 5, 2) := by decide +kernel
theorem dL_cell_2 : decode cL_cell 2 = .ok (.iconst 0, 1) := by decide +kernel
theorem dL_cell_3 : decode cL_cell 3 = .ok (.aload_n 0, 1) := by decide +kernel
theorem dL_cell_4 : decode cL_cell 4 = .ok (.iload_n 1, 1) := by decide +kernel
theorem dL_cell_5 : decode cL_cell 5 = .ok (.iload_n 2, 1) := by decide +kernel
theorem dL_cell_6 : decode cL_cell 6 = .ok (.iload_n 3, 1) := by decide +kernel
theorem dL_cell_7 : decode cL_cell 7 = .ok (.iload 4, 2) := by decide +kernel
theorem dL_cell_9 : decode cL_cell 9 = .ok (.invokevirtual 27, 3) := by decide +kernel
theorem dL_cell_12 : decode cL_cell 12 = .ok (.i2l, 1) := by decide +kernel
theorem dL_cell_13 : decode cL_cell 13 = .ok (.lastore, 1) := by decide +kernel
theorem dL_cell_14 : decode cL_cell 14 = .ok (.goto 15, 3) := by decide +kernel
theorem dL_cell_17 : decode cL_cell 17 = .ok (.astore 6, 2) := by decide +kernel
theorem dL_cell_19 : decode cL_cell 19 = .ok (.iconst 1, 1) := by decide +kernel
theorem dL_cell_20 : decode cL_cell 20 = .ok (.ireturn, 1) := by decide +kernel
theorem dL_cell_21 : decode cL_cell 21 = .ok (.astore 6, 2) := by decide +kernel
theorem dL_cell_23 : decode cL_cell 23 = .ok (.iconst 2, 1) := by decide +kernel
theorem dL_cell_24 : decode cL_cell 24 = .ok (.ireturn, 1) := by decide +kernel
theorem dL_cell_25 : decode cL_cell 25 = .ok (.astore 6, 2) := by decide +kernel
theorem dL_cell_27 : decode cL_cell 27 = .ok (.iconst 3, 1) := by decide +kernel
theorem dL_cell_28 : decode cL_cell 28 = .ok (.ireturn, 1) := by decide +kernel
theorem dL_cell_29 : decode cL_cell 29 = .ok (.iconst 0, 1) := by decide +kernel
theorem dL_cell_30 : decode cL_cell 30 = .ok (.ireturn, 1) := by decide +kernel
set_option maxRecDepth 20000 in
theorem ggL_old_X4_old : GoodIn wsL_old wsX4_old := goodIn_ca (goodIn_ca (goodIn_ca (goodIn_r _ [8, 9, 10, 11, 12, 13, 14, 15, 7, 16, 17, 18, 19, 20, 21, 22, 23, 24, 25, 26, 27, 28, 29, 30, 31, 32, 33, 34, 35, 36, 37, 38, 39, 40, 41, 42, 43, 44, 45, 46, 47, 48, 49, 50, 51, 52, 53, 54, 55, 56, 57, 58, 59, 60, 61] (by decide +kernel) (by decide +kernel)) (goodIn_sub (fun _ h => List.mem_cons_of_mem _ (List.mem_append_left _ (List.mem_append_left _ (List.mem_append_right _ h)))) (by decide +kernel))) (goodIn_sub (fun _ h => List.mem_cons_of_mem _ (List.mem_append_left _ (List.mem_append_right _ h))) (by decide +kernel))) (goodIn_sub (fun _ h => List.mem_cons_of_mem _ (List.mem_append_right _ h)) (by decide +kernel))
set_option maxRecDepth 20000 in
theorem gL_old_X4_old : GoodIn wsL_old (wsV RL 31 RX4 yX4_old wsX4_old) := goodIn_app (goodIn_of _ (by decide +kernel)) ggL_old_X4_old
theorem dL_old_0 : decode cL_old 0 = .ok (.aload 5, 2) := by decide +kernel
theorem dL_old_2 : decode cL_old 2 = .ok (.iconst 0, 1) := by decide +kernel
theorem dL_old_3 : decode cL_old 3 = .ok (.aload_n 0, 1) := by decide +kernel
theorem dL_old_4 : decode cL_old 4 = .ok (.iload_n 1, 1) := by decide +kernel
theorem dL_old_5 : decode cL_old 5 = .ok (.iload_n 2, 1) := by decide +kernel
theorem dL_old_6 : decode cL_old 6 = .ok (.iload_n 3, 1) := by decide +kernel
theorem dL_old_7 : decode cL_old 7 = .ok (.iload 4, 2) := by decide +kernel
theorem dL_old_9 : decode cL_old 9 = .ok (.invokevirtual 31, 3) := by decide +kernel
theorem dL_old_12 : decode cL_old 12 = .ok (.i2l, 1) := by decide +kernel
theorem dL_old_13 : decode cL_old 13 = .ok (.lastore, 1) := by decide +kernel
theorem dL_old_14 : decode cL_old 14 = .ok (.goto 15, 3) := by decide +kernel
theorem dL_old_17 : decode cL_old 17 = .ok (.astore 6, 2) := by decide +kernel
theorem dL_old_19 : decode cL_old 19 = .ok (.iconst 1, 1) := by decide +kernel
theorem dL_old_20 : decode cL_old 20 = .ok (.ireturn, 1) := by decide +kernel
theorem dL_old_21 : decode cL_old 21 = .ok (.astore 6, 2) := by decide +kernel
theorem dL_old_23 : decode cL_old 23 = .ok (.iconst 2, 1) := by decide +kernel
theorem dL_old_24 : decode cL_old 24 = .ok (.ireturn, 1) := by decide +kernel
theorem dL_old_25 : decode cL_old 25 = .ok (.astore 6, 2) := by decide +kernel
theorem dL_old_27 : decode cL_old 27 = .ok (.iconst 3, 1) := by decide +kernel
theorem dL_old_28 : decode cL_old 28 = .ok (.ireturn, 1) := by decide +kernel
theorem dL_old_29 : decode cL_old 29 = .ok (.iconst 0, 1) := by decide +kernel
theorem dL_old_30 : decode cL_old 30 = .ok (.ireturn, 1) := by decide +kernel
set_option maxRecDepth 20000 in
theorem ggL_fill_X4_fill : GoodIn wsL_fill wsX4_fill := goodIn_ca (goodIn_r _ [6, 7, 8, 9, 5, 10, 11, 12, 13, 14, 15, 16, 17, 18, 19, 20, 21, 22, 23, 24, 25, 26, 27, 28, 29, 30, 31, 32, 33, 34, 35, 36, 37, 38, 39, 40, 41, 42, 43, 44, 45, 46, 47, 48, 49, 50, 51, 52, 53, 54, 55, 56, 57, 58, 59, 60, 61, 62, 63] (by decide +kernel) (by decide +kernel)) (goodIn_sub (fun _ h => List.mem_cons_of_mem _ (List.mem_append_right _ h)) (by decide +kernel))
set_option maxRecDepth 20000 in
theorem gL_fill_X4_fill : GoodIn wsL_fill (wsV RL 34 RX4 yX4_fill wsX4_fill) := goodIn_app (goodIn_of _ (by decide +kernel)) ggL_fill_X4_fill
theorem dL_fill_0 : decode cL_fill 0 = .ok (.aload_n 2, 1) := by decide +kernel
theorem dL_fill_1 : decode cL_fill 1 = .ok (.iconst 0, 1) := by decide +kernel
theorem dL_fill_2 : decode cL_fill 2 = .ok (.aload_n 0, 1) := by decide +kernel
theorem dL_fill_3 : decode cL_fill 3 = .ok (.iload_n 1, 1) := by decide +kernel
theorem dL_fill_4 : decode cL_fill 4 = .ok (.invokevirtual 34, 3) := by decide +kernel
theorem dL_fill_7 : decode cL_fill 7 = .ok (.i2l, 1) := by decide +kernel
theorem dL_fill_8 : decode cL_fill 8 = .ok (.lastore, 1) := by decide +kernel
theorem dL_fill_9 : decode cL_fill 9 = .ok (.goto 6, 3) := by decide +kernel
theorem dL_fill_12 : decode cL_fill 12 = .ok (.astore_n 3, 1) := by decide +kernel
theorem dL_fill_13 : decode cL_fill 13 = .ok (.iconst 1, 1) := by decide +kernel
theorem dL_fill_14 : decode cL_fill 14 = .ok (.ireturn, 1) := by decide +kernel
theorem dL_fill_15 : decode cL_fill 15 = .ok (.iconst 0, 1) := by decide +kernel
theorem dL_fill_16 : decode cL_fill 16 = .ok (.ireturn, 1) := by decide +kernel
set_option maxRecDepth 20000 in
theorem ggL_design_X4_design : GoodIn wsL_design wsX4_design := goodIn_ca (goodIn_r _ [6, 7, 8, 9, 10, 5, 11, 12, 13, 14, 15, 16, 17, 18, 19, 20, 21, 22, 23, 24, 25, 26, 27, 28, 29, 30, 31, 32, 33, 34, 35, 36, 37, 38, 39, 40, 41, 42, 43, 44, 45, 46, 47, 48, 49, 50, 51, 52, 53, 54, 55, 56, 57, 58, 59, 60, 61, 62, 63, 64, 65, 66, 67, 68, 69, 70, 71, 72, 73, 74, 75, 76, 77, 78, 79, 80, 81, 82, 83, 84, 85, 86, 87, 88, 89, 90, 91, 92, 93, 94, 95, 96, 97, 98, 99, 100, 101, 102, 103, 104, 105, 106, 107, 108, 109, 110, 111, 112, 113, 114, 115, 116] (by decide +kernel) (by decide +kernel)) (goodIn_sub (fun _ h => List.mem_cons_of_mem _ (List.mem_append_right _ h)) (by decide +kernel))
set_option maxRecDepth 20000 in
theorem gL_design_X4_design : GoodIn wsL_design (wsV RL 37 RX4 yX4_design wsX4_design) := goodIn_app (goodIn_of _ (by decide +kernel)) ggL_design_X4_design
theorem dL_design_0 : decode cL_design 0 = .ok (.aload_n 2, 1) := by decide +kernel
theorem dL_design_1 : decode cL_design 1 = .ok (.iconst 0, 1) := by decide +kernel
theorem dL_design_2 : decode cL_design 2 = .ok (.aload_n 0, 1) := by decide +kernel
theorem dL_design_3 : decode cL_design 3 = .ok (.iload_n 1, 1) := by decide +kernel
theorem dL_design_4 : decode cL_design 4 = .ok (.invokevirtual 37, 3) := by decide +kernel
theorem dL_design_7 : decode cL_design 7 = .ok (.i2l, 1) := by decide +kernel
theorem dL_design_8 : decode cL_design 8 = .ok (.lastore, 1) := by decide +kernel
theorem dL_design_9 : decode cL_design 9 = .ok (.goto 6, 3) := by decide +kernel
theorem dL_design_12 : decode cL_design 12 = .ok (.astore_n 3, 1) := by decide +kernel
theorem dL_design_13 : decode cL_design 13 = .ok (.iconst 1, 1) := by decide +kernel
theorem dL_design_14 : decode cL_design 14 = .ok (.ireturn, 1) := by decide +kernel
theorem dL_design_15 : decode cL_design 15 = .ok (.iconst 0, 1) := by decide +kernel
theorem dL_design_16 : decode cL_design 16 = .ok (.ireturn, 1) := by decide +kernel
set_option maxRecDepth 20000 in
theorem ggL_share_X4_share : GoodIn wsL_share wsX4_share := goodIn_ca (goodIn_ca (goodIn_r _ [7, 8, 9, 10, 11, 12, 6, 13, 14, 15, 16, 17, 18, 19, 20, 21, 22, 23, 24, 25, 26, 27, 28, 29, 30, 31, 32, 33, 34, 35, 36, 37, 38, 39, 40, 41, 42, 43, 44, 45, 46, 47, 48, 49, 50, 51, 52, 53, 54, 55, 56, 57, 58, 59, 60, 61, 62, 63, 64, 65, 66, 67, 68, 69, 70, 71, 72, 73, 74, 75, 76, 77, 78, 79, 80] (by decide +kernel) (by decide +kernel)) (goodIn_sub (fun _ h => List.mem_cons_of_mem _ (List.mem_append_left _ (List.mem_append_right _ h))) (by decide +kernel))) (goodIn_sub (fun _ h => List.mem_cons_of_mem _ (List.mem_append_right _ h)) (by decide +kernel))
set_option maxRecDepth 20000 in
theorem gL_share_X4_share : GoodIn wsL_share (wsV RL 40 RX4 yX4_share wsX4_share) := goodIn_app (goodIn_of _ (by decide +kernel)) ggL_share_X4_share
theorem dL_share_0 : decode cL_share 0 = .ok (.aload 4, 2) := by decide +kernel
theorem dL_share_2 : decode cL_share 2 = .ok (.iconst 0, 1) := by decide +kernel
theorem dL_share_3 : decode cL_share 3 = .ok (.aload_n 0, 1) := by decide +kernel
theorem dL_share_4 : decode cL_share 4 = .ok (.iload_n 1, 1) := by decide +kernel
theorem dL_share_5 : decode cL_share 5 = .ok (.iload_n 2, 1) := by decide +kernel
theorem dL_share_6 : decode cL_share 6 = .ok (.iload_n 3, 1) := by decide +kernel
theorem dL_share_7 : decode cL_share 7 = .ok (.invokevirtual 40, 3) := by decide +kernel
theorem dL_share_10 : decode cL_share 10 = .ok (.i2l, 1) := by decide +kernel
theorem dL_share_11 : decode cL_share 11 = .ok (.lastore, 1) := by decide +kernel
theorem dL_share_12 : decode cL_share 12 = .ok (.goto 11, 3) := by decide +kernel
theorem dL_share_15 : decode cL_share 15 = .ok (.astore 5, 2) := by decide +kernel
theorem dL_share_17 : decode cL_share 17 = .ok (.iconst 1, 1) := by decide +kernel
theorem dL_share_18 : decode cL_share 18 = .ok (.ireturn, 1) := by decide +kernel
theorem dL_share_19 : decode cL_share 19 = .ok (.astore 5, 2) := by decide +kernel
theorem dL_share_21 : decode cL_share 21 = .ok (.iconst 2, 1) := by decide +kernel
theorem dL_share_22 : decode cL_share 22 = .ok (.ireturn, 1) := by decide +kernel
theorem dL_share_23 : decode cL_share 23 = .ok (.iconst 0, 1) := by decide +kernel
theorem dL_share_24 : decode cL_share 24 = .ok (.ireturn, 1) := by decide +kernel
set_option maxRecDepth 20000 in
theorem ggL_send_X4_send : GoodIn wsL_send wsX4_send := goodIn_ca (goodIn_r _ [6, 7, 8, 9, 10, 5, 11, 12, 13, 14, 15, 16, 17, 18, 19, 20, 21, 22, 23, 24, 25, 26, 27, 28, 29, 30, 31, 32, 33, 34, 35, 36, 37, 38, 39, 40, 41, 42, 43] (by decide +kernel) (by decide +kernel)) (goodIn_sub (fun _ h => List.mem_cons_of_mem _ (List.mem_append_right _ h)) (by decide +kernel))
set_option maxRecDepth 20000 in
theorem gL_send_X4_send : GoodIn wsL_send (wsV RL 43 RX4 yX4_send wsX4_send) := goodIn_app (goodIn_of _ (by decide +kernel)) ggL_send_X4_send
theorem dL_send_0 : decode cL_send 0 = .ok (.aload_n 3, 1) := by decide +kernel
theorem dL_send_1 : decode cL_send 1 = .ok (.iconst 0, 1) := by decide +kernel
theorem dL_send_2 : decode cL_send 2 = .ok (.aload_n 0, 1) := by decide +kernel
theorem dL_send_3 : decode cL_send 3 = .ok (.iload_n 1, 1) := by decide +kernel
theorem dL_send_4 : decode cL_send 4 = .ok (.iload_n 2, 1) := by decide +kernel
theorem dL_send_5 : decode cL_send 5 = .ok (.invokevirtual 43, 3) := by decide +kernel
theorem dL_send_8 : decode cL_send 8 = .ok (.i2l, 1) := by decide +kernel
theorem dL_send_9 : decode cL_send 9 = .ok (.lastore, 1) := by decide +kernel
theorem dL_send_10 : decode cL_send 10 = .ok (.goto 7, 3) := by decide +kernel
theorem dL_send_13 : decode cL_send 13 = .ok (.astore 4, 2) := by decide +kernel
theorem dL_send_15 : decode cL_send 15 = .ok (.iconst 1, 1) := by decide +kernel
theorem dL_send_16 : decode cL_send 16 = .ok (.ireturn, 1) := by decide +kernel
theorem dL_send_17 : decode cL_send 17 = .ok (.iconst 0, 1) := by decide +kernel
theorem dL_send_18 : decode cL_send 18 = .ok (.ireturn, 1) := by decide +kernel
set_option maxRecDepth 20000 in
theorem ggL_crew_X4_crew : GoodIn wsL_crew wsX4_crew := goodIn_ca (goodIn_ca (goodIn_r _ [7, 8, 9, 10, 11, 12, 6, 13, 14, 15, 16, 17, 18, 19, 20, 21, 22, 23, 24, 25, 26, 27, 28, 29, 30, 31, 32, 33, 34] (by decide +kernel) (by decide +kernel)) (goodIn_sub (fun _ h => List.mem_cons_of_mem _ (List.mem_append_left _ (List.mem_append_right _ h))) (by decide +kernel))) (goodIn_sub (fun _ h => List.mem_cons_of_mem _ (List.mem_append_right _ h)) (by decide +kernel))
set_option maxRecDepth 20000 in
theorem gL_crew_X4_crew : GoodIn wsL_crew (wsV RL 47 RX4 yX4_crew wsX4_crew) := goodIn_app (goodIn_of _ (by decide +kernel)) ggL_crew_X4_crew
theorem dL_crew_0 : decode cL_crew 0 = .ok (.aload 4, 2) := by decide +kernel
theorem dL_crew_2 : decode cL_crew 2 = .ok (.iconst 0, 1) := by decide +kernel
theorem dL_crew_3 : decode cL_crew 3 = .ok (.aload_n 0, 1) := by decide +kernel
theorem dL_crew_4 : decode cL_crew 4 = .ok (.iload_n 1, 1) := by decide +kernel
theorem dL_crew_5 : decode cL_crew 5 = .ok (.iload_n 2, 1) := by decide +kernel
theorem dL_crew_6 : decode cL_crew 6 = .ok (.iload_n 3, 1) := by decide +kernel
theorem dL_crew_7 : decode cL_crew 7 = .ok (.invokevirtual 47, 3) := by decide +kernel
theorem dL_crew_10 : decode cL_crew 10 = .ok (.i2l, 1) := by decide +kernel
theorem dL_crew_11 : decode cL_crew 11 = .ok (.lastore, 1) := by decide +kernel
theorem dL_crew_12 : decode cL_crew 12 = .ok (.goto 11, 3) := by decide +kernel
theorem dL_crew_15 : decode cL_crew 15 = .ok (.astore 5, 2) := by decide +kernel
theorem dL_crew_17 : decode cL_crew 17 = .ok (.iconst 1, 1) := by decide +kernel
theorem dL_crew_18 : decode cL_crew 18 = .ok (.ireturn, 1) := by decide +kernel
theorem dL_crew_19 : decode cL_crew 19 = .ok (.astore 5, 2) := by decide +kernel
theorem dL_crew_21 : decode cL_crew 21 = .ok (.iconst 2, 1) := by decide +kernel
theorem dL_crew_22 : decode cL_crew 22 = .ok (.ireturn, 1) := by decide +kernel
theorem dL_crew_23 : decode cL_crew 23 = .ok (.iconst 0, 1) := by decide +kernel
theorem dL_crew_24 : decode cL_crew 24 = .ok (.ireturn, 1) := by decide +kernel
set_option maxRecDepth 20000 in
theorem ggL_tray_X4_tray : GoodIn wsL_tray wsX4_tray := goodIn_ca (goodIn_ca (goodIn_r _ [7, 8, 9, 10, 11, 12, 6, 13, 14, 15, 16, 17, 18, 19, 20, 21, 22, 23, 24, 25, 26, 27, 28, 29, 30, 31, 32, 33, 34] (by decide +kernel) (by decide +kernel)) (goodIn_sub (fun _ h => List.mem_cons_of_mem _ (List.mem_append_left _ (List.mem_append_right _ h))) (by decide +kernel))) (goodIn_sub (fun _ h => List.mem_cons_of_mem _ (List.mem_append_right _ h)) (by decide +kernel))
set_option maxRecDepth 20000 in
theorem gL_tray_X4_tray : GoodIn wsL_tray (wsV RL 50 RX4 yX4_tray wsX4_tray) := goodIn_app (goodIn_of _ (by decide +kernel)) ggL_tray_X4_tray
theorem dL_tray_0 : decode cL_tray 0 = .ok (.aload_n 3, 1) := by decide +kernel
theorem dL_tray_1 : decode cL_tray 1 = .ok (.iconst 0, 1) := by decide +kernel
theorem dL_tray_2 : decode cL_tray 2 = .ok (.aload_n 0, 1) := by decide +kernel
theorem dL_tray_3 : decode cL_tray 3 = .ok (.iload_n 1, 1) := by decide +kernel
theorem dL_tray_4 : decode cL_tray 4 = .ok (.iload_n 2, 1) := by decide +kernel
theorem dL_tray_5 : decode cL_tray 5 = .ok (.invokevirtual 50, 3) := by decide +kernel
theorem dL_tray_8 : decode cL_tray 8 = .ok (.i2l, 1) := by decide +kernel
theorem dL_tray_9 : decode cL_tray 9 = .ok (.lastore, 1) := by decide +kernel
theorem dL_tray_10 : decode cL_tray 10 = .ok (.goto 11, 3) := by decide +kernel
theorem dL_tray_13 : decode cL_tray 13 = .ok (.astore 4, 2) := by decide +kernel
theorem dL_tray_15 : decode cL_tray 15 = .ok (.iconst 1, 1) := by decide +kernel
theorem dL_tray_16 : decode cL_tray 16 = .ok (.ireturn, 1) := by decide +kernel
theorem dL_tray_17 : decode cL_tray 17 = .ok (.astore 4, 2) := by decide +kernel
theorem dL_tray_19 : decode cL_tray 19 = .ok (.iconst 2, 1) := by decide +kernel
theorem dL_tray_20 : decode cL_tray 20 = .ok (.ireturn, 1) := by decide +kernel
theorem dL_tray_21 : decode cL_tray 21 = .ok (.iconst 0, 1) := by decide +kernel
theorem dL_tray_22 : decode cL_tray 22 = .ok (.ireturn, 1) := by decide +kernel
set_option maxRecDepth 20000 in
theorem ggL_load_X4_load : GoodIn wsL_load wsX4_load := goodIn_ca (goodIn_r _ [6, 7, 8, 9, 5, 10, 11, 12, 13, 14, 15, 16, 17, 18, 19, 20, 21, 22, 23, 24, 25, 26, 27, 28, 29, 30, 31, 32, 33, 34, 35, 36, 37, 38, 39, 40, 41, 42, 43, 44, 45, 46, 47, 48, 49, 50, 51] (by decide +kernel) (by decide +kernel)) (goodIn_sub (fun _ h => List.mem_cons_of_mem _ (List.mem_append_right _ h)) (by decide +kernel))
set_option maxRecDepth 20000 in
theorem gL_load_X4_load : GoodIn wsL_load (wsV RL 53 RX4 yX4_load wsX4_load) := goodIn_app (goodIn_of _ (by decide +kernel)) ggL_load_X4_load
theorem dL_load_0 : decode cL_load 0 = .ok (.aload_n 3, 1) := by decide +kernel
theorem dL_load_1 : decode cL_load 1 = .ok (.iconst 0, 1) := by decide +kernel
theorem dL_load_2 : decode cL_load 2 = .ok (.aload_n 0, 1) := by decide +kernel
theorem dL_load_3 : decode cL_load 3 = .ok (.iload_n 1, 1) := by decide +kernel
theorem dL_load_4 : decode cL_load 4 = .ok (.iload_n 2, 1) := by decide +kernel
theorem dL_load_5 : decode cL_load 5 = .ok (.invokevirtual 53, 3) := by decide +kernel
theorem dL_load_8 : decode cL_load 8 = .ok (.ifCond .eq 7, 3) := by decide +kernel
theorem dL_load_11 : decode cL_load 11 = .ok (.lconst 1, 1) := by decide +kernel
theorem dL_load_12 : decode cL_load 12 = .ok (.goto 4, 3) := by decide +kernel
theorem dL_load_15 : decode cL_load 15 = .ok (.lconst 0, 1) := by decide +kernel
theorem dL_load_16 : decode cL_load 16 = .ok (.lastore, 1) := by decide +kernel
theorem dL_load_17 : decode cL_load 17 = .ok (.goto 7, 3) := by decide +kernel
theorem dL_load_20 : decode cL_load 20 = .ok (.astore 4, 2) := by decide +kernel
theorem dL_load_22 : decode cL_load 22 = .ok (.iconst 1, 1) := by decide +kernel
theorem dL_load_23 : decode cL_load 23 = .ok (.ireturn, 1) := by decide +kernel
theorem dL_load_24 : decode cL_load 24 = .ok (.iconst 0, 1) := by decide +kernel
theorem dL_load_25 : decode cL_load 25 = .ok (.ireturn, 1) := by decide +kernel
set_option maxRecDepth 20000 in
theorem ggL_pass_X4_pass : GoodIn wsL_pass wsX4_pass := goodIn_ca (goodIn_ca (goodIn_r _ [6, 7, 8, 9, 5, 10, 11, 12, 13, 14, 15, 16, 17, 18, 19, 20, 21, 22, 23, 24, 25, 26, 27, 28, 29, 30, 31, 32, 33, 34, 35, 36, 37, 38, 39, 40, 41, 42, 43, 44, 45, 46, 47, 48, 49, 50, 51, 52, 53, 54, 55, 56, 57, 58, 59, 60, 61, 62, 63, 64, 65, 66, 67, 68, 69, 70, 71, 72, 73, 74, 75, 76, 77, 78, 79, 80, 81, 82, 83, 84, 85, 86, 87, 88, 89, 90, 91, 92, 93, 94, 95, 96, 97, 98, 99, 100, 101, 102, 103, 104, 105, 106, 107, 108, 109] (by decide +kernel) (by decide +kernel)) (goodIn_sub (fun _ h => List.mem_cons_of_mem _ (List.mem_append_left _ (List.mem_append_right _ h))) (by decide +kernel))) (goodIn_sub (fun _ h => List.mem_cons_of_mem _ (List.mem_append_right _ h)) (by decide +kernel))
set_option maxRecDepth 20000 in
theorem gL_pass_X4_pass : GoodIn wsL_pass (wsV RL 57 RX4 yX4_pass wsX4_pass) := goodIn_app (goodIn_of _ (by decide +kernel)) ggL_pass_X4_pass
theorem dL_pass_0 : decode cL_pass 0 = .ok (.aload_n 2, 1) := by decide +kernel
theorem dL_pass_1 : decode cL_pass 1 = .ok (.iconst 0, 1) := by decide +kernel
theorem dL_pass_2 : decode cL_pass 2 = .ok (.aload_n 0, 1) := by decide +kernel
theorem dL_pass_3 : decode cL_pass 3 = .ok (.iload_n 1, 1) := by decide +kernel
theorem dL_pass_4 : decode cL_pass 4 = .ok (.invokevirtual 57, 3) := by decide +kernel
theorem dL_pass_7 : decode cL_pass 7 = .ok (.i2l, 1) := by decide +kernel
theorem dL_pass_8 : decode cL_pass 8 = .ok (.lastore, 1) := by decide +kernel
theorem dL_pass_9 : decode cL_pass 9 = .ok (.goto 6, 3) := by decide +kernel
theorem dL_pass_12 : decode cL_pass 12 = .ok (.astore_n 3, 1) := by decide +kernel
theorem dL_pass_13 : decode cL_pass 13 = .ok (.iconst 1, 1) := by decide +kernel
theorem dL_pass_14 : decode cL_pass 14 = .ok (.ireturn, 1) := by decide +kernel
theorem dL_pass_15 : decode cL_pass 15 = .ok (.iconst 0, 1) := by decide +kernel
theorem dL_pass_16 : decode cL_pass 16 = .ok (.ireturn, 1) := by decide +kernel
set_option maxRecDepth 20000 in
theorem ggL_ofCell_X4_ofCell : GoodIn wsL_ofCell wsX4_ofCell := goodIn_ca (goodIn_ca (goodIn_r _ [7, 8, 9, 10, 11, 12, 13, 14, 15, 16, 6, 17, 18, 19, 20, 21, 22, 23, 24, 25, 26, 27, 28, 29, 30, 31, 32, 33, 34, 35, 36, 37, 38, 39, 40, 41, 42, 43, 44, 45, 46, 47, 48, 49, 50, 51, 52, 53, 54, 55, 56, 57, 58, 59, 60, 61, 62, 63, 64, 65, 66, 67, 68, 69, 70] (by decide +kernel) (by decide +kernel)) (goodIn_sub (fun _ h => List.mem_cons_of_mem _ (List.mem_append_left _ (List.mem_append_right _ h))) (by decide +kernel))) (goodIn_sub (fun _ h => List.mem_cons_of_mem _ (List.mem_append_right _ h)) (by decide +kernel))
set_option maxRecDepth 20000 in
theorem gL_ofCell_X4_ofCell : GoodIn wsL_ofCell (wsV RL 60 RX4 yX4_ofCell wsX4_ofCell) := goodIn_app (goodIn_of _ (by decide +kernel)) ggL_ofCell_X4_ofCell
theorem dL_ofCell_0 : decode cL_ofCell 0 = .ok (.aload 5, 2) := by decide +kernel
theorem dL_ofCell_2 : decode cL_ofCell 2 = .ok (.iconst 0, 1) := by decide +kernel
theorem dL_ofCell_3 : decode cL_ofCell 3 = .ok (.aload_n 0, 1) := by decide +kernel
theorem dL_ofCell_4 : decode cL_ofCell 4 = .ok (.iload_n 1, 1) := by decide +kernel
theorem dL_ofCell_5 : decode cL_ofCell 5 = .ok (.iload_n 2, 1) := by decide +kernel
theorem dL_ofCell_6 : decode cL_ofCell 6 = .ok (.iload_n 3, 1) := by decide +kernel
theorem dL_ofCell_7 : decode cL_ofCell 7 = .ok (.iload 4, 2) := by decide +kernel
theorem dL_ofCell_9 : decode cL_ofCell 9 = .ok (.invokevirtual 60, 3) := by decide +kernel
theorem dL_ofCell_12 : decode cL_ofCell 12 = .ok (.i2l, 1) := by decide +kernel
theorem dL_ofCell_13 : decode cL_ofCell 13 = .ok (.lastore, 1) := by decide +kernel
theorem dL_ofCell_14 : decode cL_ofCell 14 = .ok (.goto 11, 3) := by decide +kernel
theorem dL_ofCell_17 : decode cL_ofCell 17 = .ok (.astore 6, 2) := by decide +kernel
theorem dL_ofCell_19 : decode cL_ofCell 19 = .ok (.iconst 1, 1) := by decide +kernel
theorem dL_ofCell_20 : decode cL_ofCell 20 = .ok (.ireturn, 1) := by decide +kernel
theorem dL_ofCell_21 : decode cL_ofCell 21 = .ok (.astore 6, 2) := by decide +kernel
theorem dL_ofCell_23 : decode cL_ofCell 23 = .ok (.iconst 2, 1) := by decide +kernel
theorem dL_ofCell_24 : decode cL_ofCell 24 = .ok (.ireturn, 1) := by decide +kernel
theorem dL_ofCell_25 : decode cL_ofCell 25 = .ok (.iconst 0, 1) := by decide +kernel
theorem dL_ofCell_26 : decode cL_ofCell 26 = .ok (.ireturn, 1) := by decide +kernel
set_option maxRecDepth 20000 in
theorem ggL_aimAnew_X4_aimAnew : GoodIn wsL_aimAnew wsX4_aimAnew := goodIn_ca (goodIn_r _ [6, 7, 8, 9, 5, 10, 11, 12, 13, 14, 15, 16, 17, 18, 19, 20, 21, 22, 23, 24, 25, 26, 27, 28, 29, 30, 31, 32, 33, 34, 35, 36, 37, 38, 39, 40, 41, 42, 43, 44, 45, 46, 47, 48, 49, 50, 51, 52, 53, 54, 55, 56, 57, 58, 59, 60, 61, 62, 63, 64, 65, 66, 67, 68, 69, 70, 71, 72, 73, 74, 75, 76, 77, 78, 79, 80, 81, 82, 83, 84, 85, 86, 87, 88, 89, 90, 91, 92, 93, 94, 95] (by decide +kernel) (by decide +kernel)) (goodIn_sub (fun _ h => List.mem_cons_of_mem _ (List.mem_append_right _ h)) (by decide +kernel))
set_option maxRecDepth 20000 in
theorem gL_aimAnew_X4_aimAnew : GoodIn wsL_aimAnew (wsV RL 63 RX4 yX4_aimAnew wsX4_aimAnew) := goodIn_app (goodIn_of _ (by decide +kernel)) ggL_aimAnew_X4_aimAnew
theorem dL_aimAnew_0 : decode cL_aimAnew 0 = .ok (.aload 4, 2) := by decide +kernel
theorem dL_aimAnew_2 : decode cL_aimAnew 2 = .ok (.iconst 0, 1) := by decide +kernel
theorem dL_aimAnew_3 : decode cL_aimAnew 3 = .ok (.aload_n 0, 1) := by decide +kernel
theorem dL_aimAnew_4 : decode cL_aimAnew 4 = .ok (.iload_n 1, 1) := by decide +kernel
theorem dL_aimAnew_5 : decode cL_aimAnew 5 = .ok (.iload_n 2, 1) := by decide +kernel
theorem dL_aimAnew_6 : decode cL_aimAnew 6 = .ok (.iload_n 3, 1) := by decide +kernel
theorem dL_aimAnew_7 : decode cL_aimAnew 7 = .ok (.invokevirtual 63, 3) := by decide +kernel
theorem dL_aimAnew_10 : decode cL_aimAnew 10 = .ok (.i2l, 1) := by decide +kernel
theorem dL_aimAnew_11 : decode cL_aimAnew 11 = .ok (.lastore, 1) := by decide +kernel
theorem dL_aimAnew_12 : decode cL_aimAnew 12 = .ok (.goto 7, 3) := by decide +kernel
theorem dL_aimAnew_15 : decode cL_aimAnew 15 = .ok (.astore 5, 2) := by decide +kernel
theorem dL_aimAnew_17 : decode cL_aimAnew 17 = .ok (.iconst 1, 1) := by decide +kernel
theorem dL_aimAnew_18 : decode cL_aimAnew 18 = .ok (.ireturn, 1) := by decide +kernel
theorem dL_aimAnew_19 : decode cL_aimAnew 19 = .ok (.iconst 0, 1) := by decide +kernel
theorem dL_aimAnew_20 : decode cL_aimAnew 20 = .ok (.ireturn, 1) := by decide +kernel
set_option maxRecDepth 20000 in
theorem ggL_edge_X4_edge : GoodIn wsL_edge wsX4_edge := goodIn_ca (goodIn_r _ [6, 7, 8, 9, 5, 10, 11, 12, 13, 14, 15, 16, 17, 18, 19, 20, 21, 22, 23, 24, 25, 26, 27, 28, 29, 30, 31, 32, 33, 34, 35, 36, 37, 38, 39, 40, 41, 42, 43, 44, 45, 46, 47, 48, 49, 50, 51, 52, 53, 54, 55, 56, 57, 58, 59, 60, 61, 62, 63, 64, 65, 66, 67, 68, 69, 70, 71, 72, 73, 74, 75, 76] (by decide +kernel) (by decide +kernel)) (goodIn_sub (fun _ h => List.mem_cons_of_mem _ (List.mem_append_right _ h)) (by decide +kernel))
set_option maxRecDepth 20000 in
theorem gL_edge_X4_edge : GoodIn wsL_edge (wsV RL 66 RX4 yX4_edge wsX4_edge) := goodIn_app (goodIn_of _ (by decide +kernel)) ggL_edge_X4_edge
theorem dL_edge_0 : decode cL_edge 0 = .ok (.aload_n 2, 1) := by decide +kernel
theorem dL_edge_1 : decode cL_edge 1 = .ok (.iconst 0, 1) := by decide +kernel
theorem dL_edge_2 : decode cL_edge 2 = .ok (.aload_n 0, 1) := by decide +kernel
theorem dL_edge_3 : decode cL_edge 3 = .ok (.iload_n 1, 1) := by decide +kernel
theorem dL_edge_4 : decode cL_edge 4 = .ok (.invokevirtual 66, 3) := by decide +kernel
theorem dL_edge_7 : decode cL_edge 7 = .ok (.i2l, 1) := by decide +kernel
theorem dL_edge_8 : decode cL_edge 8 = .ok (.lastore, 1) := by decide +kernel
theorem dL_edge_9 : decode cL_edge 9 = .ok (.goto 6, 3) := by decide +kernel
theorem dL_edge_12 : decode cL_edge 12 = .ok (.astore_n 3, 1) := by decide +kernel
theorem dL_edge_13 : decode cL_edge 13 = .ok (.iconst 1, 1) := by decide +kernel
theorem dL_edge_14 : decode cL_edge 14 = .ok (.ireturn, 1) := by decide +kernel
theorem dL_edge_15 : decode cL_edge 15 = .ok (.iconst 0, 1) := by decide +kernel
theorem dL_edge_16 : decode cL_edge 16 = .ok (.ireturn, 1) := by decide +kernel
set_option maxRecDepth 20000 in
theorem ggL_ofLot_X4_ofLot : GoodIn wsL_ofLot wsX4_ofLot := goodIn_ca (goodIn_ca (goodIn_r _ [7, 8, 9, 10, 11, 12, 13, 14, 15, 6, 16, 17, 18, 19, 20, 21, 22, 23, 24, 25, 26, 27, 28, 29, 30, 31, 32, 33, 34, 35, 36, 37, 38, 39, 40, 41, 42, 43] (by decide +kernel) (by decide +kernel)) (goodIn_sub (fun _ h => List.mem_cons_of_mem _ (List.mem_append_left _ (List.mem_append_right _ h))) (by decide +kernel))) (goodIn_sub (fun _ h => List.mem_cons_of_mem _ (List.mem_append_right _ h)) (by decide +kernel))
set_option maxRecDepth 20000 in
theorem gL_ofLot_X4_ofLot : GoodIn wsL_ofLot (wsV RL 69 RX4 yX4_ofLot wsX4_ofLot) := goodIn_app (goodIn_of _ (by decide +kernel)) ggL_ofLot_X4_ofLot
theorem dL_ofLot_0 : decode cL_ofLot 0 = .ok (.aload_n 3, 1) := by decide +kernel
theorem dL_ofLot_1 : decode cL_ofLot 1 = .ok (.iconst 0, 1) := by decide +kernel
theorem dL_ofLot_2 : decode cL_ofLot 2 = .ok (.aload_n 0, 1) := by decide +kernel
theorem dL_ofLot_3 : decode cL_ofLot 3 = .ok (.iload_n 1, 1) := by decide +kernel
theorem dL_ofLot_4 : decode cL_ofLot 4 = .ok (.iload_n 2, 1) := by decide +kernel
theorem dL_ofLot_5 : decode cL_ofLot 5 = .ok (.invokevirtual 69, 3) := by decide +kernel
theorem dL_ofLot_8 : decode cL_ofLot 8 = .ok (.i2l, 1) := by decide +kernel
theorem dL_ofLot_9 : decode cL_ofLot 9 = .ok (.lastore, 1) := by decide +kernel
theorem dL_ofLot_10 : decode cL_ofLot 10 = .ok (.goto 11, 3) := by decide +kernel
theorem dL_ofLot_13 : decode cL_ofLot 13 = .ok (.astore 4, 2) := by decide +kernel
theorem dL_ofLot_15 : decode cL_ofLot 15 = .ok (.iconst 1, 1) := by decide +kernel
theorem dL_ofLot_16 : decode cL_ofLot 16 = .ok (.ireturn, 1) := by decide +kernel
theorem dL_ofLot_17 : decode cL_ofLot 17 = .ok (.astore 4, 2) := by decide +kernel
theorem dL_ofLot_19 : decode cL_ofLot 19 = .ok (.iconst 2, 1) := by decide +kernel
theorem dL_ofLot_20 : decode cL_ofLot 20 = .ok (.ireturn, 1) := by decide +kernel
theorem dL_ofLot_21 : decode cL_ofLot 21 = .ok (.iconst 0, 1) := by decide +kernel
theorem dL_ofLot_22 : decode cL_ofLot 22 = .ok (.ireturn, 1) := by decide +kernel
set_option maxRecDepth 20000 in
theorem ggL_ofPicture_X4_ofPicture : GoodIn wsL_ofPicture wsX4_ofPicture := goodIn_ca (goodIn_ca (goodIn_r _ [7, 8, 9, 10, 6, 11, 12, 13, 14, 15, 16, 17, 18, 19, 20, 21, 22, 23, 24, 25, 26, 27, 28, 29, 30, 31, 32, 33, 34, 35, 36, 37, 38, 39, 40, 41, 42, 43, 44, 45, 46] (by decide +kernel) (by decide +kernel)) (goodIn_sub (fun _ h => List.mem_cons_of_mem _ (List.mem_append_left _ (List.mem_append_right _ h))) (by decide +kernel))) (goodIn_sub (fun _ h => List.mem_cons_of_mem _ (List.mem_append_right _ h)) (by decide +kernel))
set_option maxRecDepth 20000 in
theorem gL_ofPicture_X4_ofPicture : GoodIn wsL_ofPicture (wsV RL 72 RX4 yX4_ofPicture wsX4_ofPicture) := goodIn_app (goodIn_of _ (by decide +kernel)) ggL_ofPicture_X4_ofPicture
theorem dL_ofPicture_0 : decode cL_ofPicture 0 = .ok (.aload_n 3, 1) := by decide +kernel
theorem dL_ofPicture_1 : decode cL_ofPicture 1 = .ok (.iconst 0, 1) := by decide +kernel
theorem dL_ofPicture_2 : decode cL_ofPicture 2 = .ok (.aload_n 0, 1) := by decide +kernel
theorem dL_ofPicture_3 : decode cL_ofPicture 3 = .ok (.iload_n 1, 1) := by decide +kernel
theorem dL_ofPicture_4 : decode cL_ofPicture 4 = .ok (.iload_n 2, 1) := by decide +kernel
theorem dL_ofPicture_5 : decode cL_ofPicture 5 = .ok (.invokevirtual 72, 3) := by decide +kernel
theorem dL_ofPicture_8 : decode cL_ofPicture 8 = .ok (.i2l, 1) := by decide +kernel
theorem dL_ofPicture_9 : decode cL_ofPicture 9 = .ok (.lastore, 1) := by decide +kernel
theorem dL_ofPicture_10 : decode cL_ofPicture 10 = .ok (.goto 11, 3) := by decide +kernel
theorem dL_ofPicture_13 : decode cL_ofPicture 13 = .ok (.astore 4, 2) := by decide +kernel
theorem dL_ofPicture_15 : decode cL_ofPicture 15 = .ok (.iconst 1, 1) := by decide +kernel
theorem dL_ofPicture_16 : decode cL_ofPicture 16 = .ok (.ireturn, 1) := by decide +kernel
theorem dL_ofPicture_17 : decode cL_ofPicture 17 = .ok (.astore 4, 2) := by decide +kernel
theorem dL_ofPicture_19 : decode cL_ofPicture 19 = .ok (.iconst 2, 1) := by decide +kernel
theorem dL_ofPicture_20 : decode cL_ofPicture 20 = .ok (.ireturn, 1) := by decide +kernel
theorem dL_ofPicture_21 : decode cL_ofPicture 21 = .ok (.iconst 0, 1) := by decide +kernel
theorem dL_ofPicture_22 : decode cL_ofPicture 22 = .ok (.ireturn, 1) := by decide +kernel
set_option maxRecDepth 20000 in
theorem ggL_ofCrew_X4_ofCrew : GoodIn wsL_ofCrew wsX4_ofCrew := goodIn_ca (goodIn_ca (goodIn_r _ [7, 8, 9, 10, 11, 12, 13, 6, 14, 15, 16, 17, 18, 19, 20, 21, 22, 23, 24, 25, 26, 27, 28, 29, 30, 31, 32, 33, 34, 35, 36, 37, 38, 39, 40, 41, 42, 43, 44, 45, 46] (by decide +kernel) (by decide +kernel)) (goodIn_sub (fun _ h => List.mem_cons_of_mem _ (List.mem_append_left _ (List.mem_append_right _ h))) (by decide +kernel))) (goodIn_sub (fun _ h => List.mem_cons_of_mem _ (List.mem_append_right _ h)) (by decide +kernel))
set_option maxRecDepth 20000 in
theorem gL_ofCrew_X4_ofCrew : GoodIn wsL_ofCrew (wsV RL 75 RX4 yX4_ofCrew wsX4_ofCrew) := goodIn_app (goodIn_of _ (by decide +kernel)) ggL_ofCrew_X4_ofCrew
theorem dL_ofCrew_0 : decode cL_ofCrew 0 = .ok (.aload_n 3, 1) := by decide +kernel
theorem dL_ofCrew_1 : decode cL_ofCrew 1 = .ok (.iconst 0, 1) := by decide +kernel
theorem dL_ofCrew_2 : decode cL_ofCrew 2 = .ok (.aload_n 0, 1) := by decide +kernel
theorem dL_ofCrew_3 : decode cL_ofCrew 3 = .ok (.iload_n 1, 1) := by decide +kernel
theorem dL_ofCrew_4 : decode cL_ofCrew 4 = .ok (.iload_n 2, 1) := by decide +kernel
theorem dL_ofCrew_5 : decode cL_ofCrew 5 = .ok (.invokevirtual 75, 3) := by decide +kernel
theorem dL_ofCrew_8 : decode cL_ofCrew 8 = .ok (.i2l, 1) := by decide +kernel
theorem dL_ofCrew_9 : decode cL_ofCrew 9 = .ok (.lastore, 1) := by decide +kernel
theorem dL_ofCrew_10 : decode cL_ofCrew 10 = .ok (.goto 11, 3) := by decide +kernel
theorem dL_ofCrew_13 : decode cL_ofCrew 13 = .ok (.astore 4, 2) := by decide +kernel
theorem dL_ofCrew_15 : decode cL_ofCrew 15 = .ok (.iconst 1, 1) := by decide +kernel
theorem dL_ofCrew_16 : decode cL_ofCrew 16 = .ok (.ireturn, 1) := by decide +kernel
theorem dL_ofCrew_17 : decode cL_ofCrew 17 = .ok (.astore 4, 2) := by decide +kernel
theorem dL_ofCrew_19 : decode cL_ofCrew 19 = .ok (.iconst 2, 1) := by decide +kernel
theorem dL_ofCrew_20 : decode cL_ofCrew 20 = .ok (.ireturn, 1) := by decide +kernel
theorem dL_ofCrew_21 : decode cL_ofCrew 21 = .ok (.iconst 0, 1) := by decide +kernel
theorem dL_ofCrew_22 : decode cL_ofCrew 22 = .ok (.ireturn, 1) := by decide +kernel
set_option maxRecDepth 20000 in
theorem ggL_law_X4_init : GoodIn wsL_law wsX4_init := goodIn_r _ [9, 10, 11, 12, 13, 14, 15, 16, 17, 18, 19, 20, 21, 22, 23, 24, 25, 26, 27, 28, 617, 618, 619, 620, 621, 622, 649, 650, 651, 652, 653, 654, 655] (by decide +kernel) (by decide +kernel)
set_option maxRecDepth 20000 in
theorem gL_law_X4_init : GoodIn wsL_law (wsX4_init) := ggL_law_X4_init
set_option maxRecDepth 20000 in
theorem ggL_law_X5_init : GoodIn wsL_law wsX5_init := goodIn_r _ [31, 32, 11, 12, 33, 34, 35, 36, 37, 38, 39, 40, 41, 42, 43, 44, 45, 46, 47, 48, 49, 50, 51, 52, 53, 54, 55, 56, 57, 623, 624, 625, 626, 627, 628, 629, 630, 631, 632, 633, 634, 635, 636, 637, 638, 639, 640, 641, 642, 643, 644, 645, 646, 647, 648] (by decide +kernel) (by decide +kernel)
set_option maxRecDepth 20000 in
theorem gL_law_X5_init : GoodIn wsL_law (wsX5_init) := ggL_law_X5_init
set_option maxRecDepth 20000 in
theorem ggL_law_L_lot : GoodIn wsL_law wsL_lot := goodIn_ca (goodIn_ca (goodIn_r _ [61, 62, 63, 64, 65, 66, 2, 67, 68, 69, 70, 14, 13, 71, 72, 73, 74, 75, 76, 77, 78, 79, 80, 81, 82, 11, 12, 83, 84, 85, 86, 87, 617, 618, 619, 620, 621, 622, 656, 657, 658, 659, 660, 661, 662] (by decide +kernel) (by decide +kernel)) (goodIn_sub (fun _ h => List.mem_append_left _ (List.mem_append_left _ (List.mem_append_right _ h))) (by decide +kernel))) (goodIn_sub (fun _ h => List.mem_append_left _ (List.mem_append_right _ h)) (by decide +kernel))
set_option maxRecDepth 20000 in
theorem gL_law_L_lot : GoodIn wsL_law (va_wsS RL 82 yL_lot wsL_lot) := goodIn_app (goodIn_of _ (by decide +kernel)) ggL_law_L_lot
set_option maxRecDepth 20000 in
theorem ggL_law_X5_lot : GoodIn wsL_law wsX5_lot := goodIn_r _ [91, 92, 34, 93, 36, 37, 39, 94, 95, 5, 96, 97, 98, 99, 100, 101, 623, 624, 625, 626, 627, 628, 629, 630, 631, 632, 633, 634, 635, 636, 637, 638, 639, 640, 641, 642, 643, 644, 645, 646, 647, 648] (by decide +kernel) (by decide +kernel)
set_option maxRecDepth 20000 in
theorem gL_law_X5_lot : GoodIn wsL_law (wsV RL 87 RX5 yX5_lot wsX5_lot) := goodIn_app (goodIn_of _ (by decide +kernel)) ggL_law_X5_lot
set_option maxRecDepth 20000 in
theorem ggL_law_X5_thrown : GoodIn wsL_law wsX5_thrown := goodIn_r _ [105, 101, 623, 624, 625, 626, 627, 628, 629, 630, 631, 632, 633, 634, 635, 636, 637, 638, 639, 640, 641, 642, 643, 644, 645, 646, 647, 648] (by decide +kernel) (by decide +kernel)
set_option maxRecDepth 20000 in
theorem gL_law_X5_thrown : GoodIn wsL_law (wsV RL 88 RX5 yX5_thrown wsX5_thrown) := goodIn_app (goodIn_of _ (by decide +kernel)) ggL_law_X5_thrown
set_option maxRecDepth 20000 in
theorem ggL_law_L_comes : GoodIn wsL_law wsL_comes := goodIn_ca (goodIn_ca (goodIn_r _ [108, 109, 63, 110, 111, 112, 2, 113, 68, 69, 114, 115, 116, 117, 118, 119, 120, 121, 14, 656, 657, 658, 659, 660, 661, 662, 617, 618, 619, 620, 621, 622] (by decide +kernel) (by decide +kernel)) (goodIn_sub (fun _ h => List.mem_append_left _ (List.mem_append_left _ (List.mem_append_right _ h))) (by decide +kernel))) (goodIn_sub (fun _ h => List.mem_append_right _ h) (by decide +kernel))
set_option maxRecDepth 20000 in
theorem gL_law_L_comes : GoodIn wsL_law (va_wsS RL 92 yL_comes wsL_comes) := goodIn_app (goodIn_of _ (by decide +kernel)) ggL_law_L_comes
set_option maxRecDepth 20000 in
theorem ggL_law_X5_comes : GoodIn wsL_law wsX5_comes := goodIn_r _ [125, 39, 126, 127, 128, 5, 129, 92, 94, 95, 96, 97, 98, 99, 100, 101, 130, 131, 132, 133, 36, 40, 41, 623, 624, 625, 626, 627, 628, 629, 630, 631, 632, 633, 634, 635, 636, 637, 638, 639, 640, 641, 642, 643, 644, 645, 646, 647, 648] (by decide +kernel) (by decide +kernel)
set_option maxRecDepth 20000 in
theorem gL_law_X5_comes : GoodIn wsL_law (wsV RL 95 RX5 yX5_comes wsX5_comes) := goodIn_app (goodIn_of _ (by decide +kernel)) ggL_law_X5_comes
set_option maxRecDepth 20000 in
theorem ggL_law_L_picture : GoodIn wsL_law wsL_picture := goodIn_ca (goodIn_ca (goodIn_r _ [136, 62, 63, 137, 138, 139, 2, 140, 68, 69, 141, 16, 15, 142, 143, 74, 75, 76, 77, 78, 144, 145, 146, 147, 11, 12, 148, 149, 150, 151, 152, 153, 154, 155, 156, 157, 158, 159, 160, 161, 162, 617, 618, 619, 620, 621, 622, 663, 664, 665, 666, 667, 668, 669, 670, 671, 672, 673, 674, 675, 676] (by decide +kernel) (by decide +kernel)) (goodIn_sub (fun _ h => List.mem_append_left _ (List.mem_append_left _ (List.mem_append_right _ h))) (by decide +kernel))) (goodIn_sub (fun _ h => List.mem_append_left _ (List.mem_append_right _ h)) (by decide +kernel))
set_option maxRecDepth 20000 in
theorem gL_law_L_picture : GoodIn wsL_law (va_wsS RL 96 yL_picture wsL_picture) := goodIn_app (goodIn_of _ (by decide +kernel)) ggL_law_L_picture
set_option maxRecDepth 20000 in
theorem ggL_law_X5_picture : GoodIn wsL_law wsX5_picture := goodIn_r _ [166, 167, 42, 43, 44, 46, 48, 94, 95, 5, 96, 97, 98, 99, 100, 101, 623, 624, 625, 626, 627, 628, 629, 630, 631, 632, 633, 634, 635, 636, 637, 638, 639, 640, 641, 642, 643, 644, 645, 646, 647, 648] (by decide +kernel) (by decide +kernel)
set_option maxRecDepth 20000 in
theorem gL_law_X5_picture : GoodIn wsL_law (wsV RL 99 RX5 yX5_picture wsX5_picture) := goodIn_app (goodIn_of _ (by decide +kernel)) ggL_law_X5_picture
set_option maxRecDepth 20000 in
theorem ggL_law_L_cell : GoodIn wsL_law wsL_cell := goodIn_ca (goodIn_ca (goodIn_ca (goodIn_r _ [170, 109, 62, 63, 171, 172, 173, 2, 174, 68, 69, 175, 176, 177, 178, 179, 120, 121, 180, 181, 182, 183, 16, 184, 185, 186, 143, 187, 149, 150, 152, 74, 75, 76, 77, 78, 188, 189, 190, 154, 191, 159, 667, 668, 669, 670, 671, 672, 673, 674, 675, 676, 617, 618, 619, 620, 621, 622, 663, 664, 665, 666] (by decide +kernel) (by decide +kernel)) (goodIn_sub (fun _ h => List.mem_append_left _ (List.mem_append_left _ (List.mem_append_right _ h))) (by decide +kernel))) (goodIn_sub (fun _ h => List.mem_append_right _ h) (by decide +kernel))) (goodIn_sub (fun _ h => List.mem_append_left _ (List.mem_append_right _ h)) (by decide +kernel))
set_option maxRecDepth 20000 in
theorem gL_law_L_cell : GoodIn wsL_law (va_wsS RL 100 yL_cell wsL_cell) := goodIn_app (goodIn_of _ (by decide +kernel)) ggL_law_L_cell
set_option maxRecDepth 20000 in
theorem ggL_law_X5_cell : GoodIn wsL_law wsX5_cell := goodIn_r _ [195, 45, 44, 196, 197, 198, 5, 199, 42, 43, 200, 201, 202, 203, 167, 94, 95, 96, 204, 205, 206, 207, 208, 209, 210, 101, 623, 624, 625, 626, 627, 628, 629, 630, 631, 632, 633, 634, 635, 636, 637, 638, 639, 640, 641, 642, 643, 644, 645, 646, 647, 648] (by decide +kernel) (by decide +kernel)
set_option maxRecDepth 20000 in
theorem gL_law_X5_cell : GoodIn wsL_law (wsV RL 103 RX5 yX5_cell wsX5_cell) := goodIn_app (goodIn_of _ (by decide +kernel)) ggL_law_X5_cell
set_option maxRecDepth 20000 in
theorem ggL_law_L_old : GoodIn wsL_law wsL_old := goodIn_ca (goodIn_ca (goodIn_ca (goodIn_r _ [213, 109, 62, 63, 214, 215, 216, 2, 217, 68, 69, 218, 175, 176, 177, 178, 179, 120, 121, 180, 181, 182, 183, 16, 184, 185, 186, 143, 187, 149, 150, 152, 74, 75, 76, 77, 78, 219, 220, 221, 222, 223, 667, 668, 669, 670, 671, 672, 673, 674, 675, 676, 617, 618, 619, 620, 621, 622, 663, 664, 665, 666] (by decide +kernel) (by decide +kernel)) (goodIn_sub (fun _ h => List.mem_append_left _ (List.mem_append_left _ (List.mem_append_right _ h))) (by decide +kernel))) (goodIn_sub (fun _ h => List.mem_append_right _ h) (by decide +kernel))) (goodIn_sub (fun _ h => List.mem_append_left _ (List.mem_append_right _ h)) (by decide +kernel))
set_option maxRecDepth 20000 in
theorem gL_law_L_old : GoodIn wsL_law (va_wsS RL 104 yL_old wsL_old) := goodIn_app (goodIn_of _ (by decide +kernel)) ggL_law_L_old
set_option maxRecDepth 20000 in
theorem ggL_law_X5_old : GoodIn wsL_law wsX5_old := goodIn_r _ [227, 45, 44, 196, 197, 198, 5, 199, 42, 43, 200, 201, 202, 203, 167, 94, 95, 96, 204, 205, 206, 207, 208, 209, 210, 101, 228, 229, 230, 231, 623, 624, 625, 626, 627, 628, 629, 630, 631, 632, 633, 634, 635, 636, 637, 638, 639, 640, 641, 642, 643, 644, 645, 646, 647, 648] (by decide +kernel) (by decide +kernel)
set_option maxRecDepth 20000 in
theorem gL_law_X5_old : GoodIn wsL_law (wsV RL 106 RX5 yX5_old wsX5_old) := goodIn_app (goodIn_of _ (by decide +kernel)) ggL_law_X5_old
set_option maxRecDepth 20000 in
theorem ggL_law_L_fill : GoodIn wsL_law wsL_fill := goodIn_ca (goodIn_r _ [234, 109, 235, 236, 237, 2, 238, 180, 181, 182, 183, 120, 121, 16, 239, 240, 241, 143, 242, 152, 243, 244, 189, 190, 154, 191, 159, 245, 246, 247, 248, 249, 250, 251, 252, 253, 254, 255, 256, 185, 186, 187, 149, 150, 617, 618, 619, 620, 621, 622, 663, 664, 665, 666, 667, 668, 669, 670, 671, 672, 673, 674, 675, 676] (by decide +kernel) (by decide +kernel)) (goodIn_sub (fun _ h => List.mem_append_right _ h) (by decide +kernel))
set_option maxRecDepth 20000 in
theorem gL_law_L_fill : GoodIn wsL_law (va_wsS RL 107 yL_fill wsL_fill) := goodIn_app (goodIn_of _ (by decide +kernel)) ggL_law_L_fill
set_option maxRecDepth 20000 in
theorem ggL_law_X5_fill : GoodIn wsL_law wsX5_fill := goodIn_r _ [260, 45, 51, 42, 43, 44, 200, 201, 202, 5, 203, 167, 94, 95, 96, 261, 262, 263, 264, 101, 196, 197, 198, 199, 204, 205, 206, 623, 624, 625, 626, 627, 628, 629, 630, 631, 632, 633, 634, 635, 636, 637, 638, 639, 640, 641, 642, 643, 644, 645, 646, 647, 648] (by decide +kernel) (by decide +kernel)
set_option maxRecDepth 20000 in
theorem gL_law_X5_fill : GoodIn wsL_law (wsV RL 109 RX5 yX5_fill wsX5_fill) := goodIn_app (goodIn_of _ (by decide +kernel)) ggL_law_X5_fill
set_option maxRecDepth 20000 in
theorem ggL_law_L_design : GoodIn wsL_law wsL_design := goodIn_ca (goodIn_r _ [267, 109, 268, 269, 270, 2, 271, 14, 180, 181, 182, 183, 120, 121, 16, 272, 273, 274, 143, 275, 152, 255, 276, 277, 223, 278, 279, 280, 154, 281, 159, 282, 283, 284, 285, 286, 287, 288, 289, 290, 291, 292, 293, 294, 295, 72, 296, 87, 85, 297, 298, 299, 300, 301, 302, 303, 304, 305, 306, 307, 308, 309, 310, 311, 312, 254, 253, 313, 314, 315, 316, 317, 318, 319, 320, 256, 185, 186, 187, 149, 150, 321, 322, 323, 324, 325, 219, 220, 221, 222, 617, 618, 619, 620, 621, 622, 663, 664, 665, 666, 667, 668, 669, 670, 671, 672, 673, 674, 675, 676, 656, 657, 658, 659, 660, 661, 662] (by decide +kernel) (by decide +kernel)) (goodIn_sub (fun _ h => List.mem_append_right _ h) (by decide +kernel))
set_option maxRecDepth 20000 in
theorem gL_law_L_design : GoodIn wsL_law (va_wsS RL 110 yL_design wsL_design) := goodIn_app (goodIn_of _ (by decide +kernel)) ggL_law_L_design
set_option maxRecDepth 20000 in
theorem ggL_law_X5_design : GoodIn wsL_law wsX5_design := goodIn_r _ [329, 50, 45, 40, 46, 42, 43, 47, 44, 34, 200, 201, 202, 5, 203, 167, 94, 95, 96, 261, 262, 263, 264, 101, 204, 205, 206, 330, 331, 332, 333, 92, 39, 130, 131, 132, 133, 36, 41, 334, 335, 336, 337, 338, 339, 340, 341, 342, 343, 344, 345, 346, 347, 348, 228, 229, 230, 231, 623, 624, 625, 626, 627, 628, 629, 630, 631, 632, 633, 634, 635, 636, 637, 638, 639, 640, 641, 642, 643, 644, 645, 646, 647, 648] (by decide +kernel) (by decide +kernel)
set_option maxRecDepth 20000 in
theorem gL_law_X5_design : GoodIn wsL_law (wsV RL 112 RX5 yX5_design wsX5_design) := goodIn_app (goodIn_of _ (by decide +kernel)) ggL_law_X5_design
set_option maxRecDepth 20000 in
theorem ggL_law_L_share : GoodIn wsL_law wsL_share := goodIn_ca (goodIn_ca (goodIn_r _ [351, 109, 62, 352, 353, 354, 2, 355, 77, 78, 180, 181, 182, 183, 120, 121, 16, 116, 117, 118, 119, 14, 356, 357, 358, 143, 359, 152, 254, 253, 360, 361, 362, 154, 363, 159, 282, 293, 294, 295, 72, 296, 87, 85, 278, 279, 280, 281, 283, 284, 300, 301, 302, 303, 617, 618, 619, 620, 621, 622, 663, 664, 665, 666, 667, 668, 669, 670, 671, 672, 673, 674, 675, 676, 656, 657, 658, 659, 660, 661, 662] (by decide +kernel) (by decide +kernel)) (goodIn_sub (fun _ h => List.mem_append_left _ (List.mem_append_right _ h)) (by decide +kernel))) (goodIn_sub (fun _ h => List.mem_append_right _ h) (by decide +kernel))
set_option maxRecDepth 20000 in
theorem gL_law_L_share : GoodIn wsL_law (va_wsS RL 113 yL_share wsL_share) := goodIn_app (goodIn_of _ (by decide +kernel)) ggL_law_L_share
set_option maxRecDepth 20000 in
theorem ggL_law_X5_share : GoodIn wsL_law wsX5_share := goodIn_r _ [367, 42, 43, 45, 46, 39, 40, 200, 201, 202, 5, 203, 167, 94, 95, 96, 126, 127, 128, 129, 92, 97, 98, 99, 100, 101, 204, 205, 206, 130, 131, 132, 133, 36, 41, 623, 624, 625, 626, 627, 628, 629, 630, 631, 632, 633, 634, 635, 636, 637, 638, 639, 640, 641, 642, 643, 644, 645, 646, 647, 648] (by decide +kernel) (by decide +kernel)
set_option maxRecDepth 20000 in
theorem gL_law_X5_share : GoodIn wsL_law (wsV RL 115 RX5 yX5_share wsX5_share) := goodIn_app (goodIn_of _ (by decide +kernel)) ggL_law_X5_share
set_option maxRecDepth 20000 in
theorem ggL_law_L_send : GoodIn wsL_law wsL_send := goodIn_ca (goodIn_r _ [370, 109, 371, 372, 373, 2, 374, 375, 376, 377, 378, 379, 120, 121, 18, 180, 181, 182, 183, 16, 380, 381, 382, 20, 383, 384, 385, 649, 650, 651, 652, 653, 654, 655, 617, 618, 619, 620, 621, 622, 663, 664, 665, 666] (by decide +kernel) (by decide +kernel)) (goodIn_sub (fun _ h => List.mem_append_right _ h) (by decide +kernel))
set_option maxRecDepth 20000 in
theorem gL_law_L_send : GoodIn wsL_law (va_wsS RL 116 yL_send wsL_send) := goodIn_app (goodIn_of _ (by decide +kernel)) ggL_law_L_send
set_option maxRecDepth 20000 in
theorem ggL_law_X5_send : GoodIn wsL_law wsX5_send := goodIn_r _ [389, 52, 390, 391, 5, 392, 94, 95, 96, 200, 201, 202, 203, 167, 261, 262, 263, 264, 101, 623, 624, 625, 626, 627, 628, 629, 630, 631, 632, 633, 634, 635, 636, 637, 638, 639, 640, 641, 642, 643, 644, 645, 646, 647, 648] (by decide +kernel) (by decide +kernel)
set_option maxRecDepth 20000 in
theorem gL_law_X5_send : GoodIn wsL_law (wsV RL 119 RX5 yX5_send wsX5_send) := goodIn_app (goodIn_of _ (by decide +kernel)) ggL_law_X5_send
set_option maxRecDepth 20000 in
theorem ggL_law_L_crew : GoodIn wsL_law wsL_crew := goodIn_ca (goodIn_ca (goodIn_r _ [395, 109, 62, 396, 397, 398, 2, 399, 400, 401, 376, 377, 378, 379, 120, 121, 18, 74, 75, 76, 77, 78, 649, 650, 651, 652, 653, 654, 655, 617, 618, 619, 620, 621, 622] (by decide +kernel) (by decide +kernel)) (goodIn_sub (fun _ h => List.mem_append_right _ h) (by decide +kernel))) (goodIn_sub (fun _ h => List.mem_append_left _ (List.mem_append_right _ h)) (by decide +kernel))
set_option maxRecDepth 20000 in
theorem gL_law_L_crew : GoodIn wsL_law (va_wsS RL 120 yL_crew wsL_crew) := goodIn_app (goodIn_of _ (by decide +kernel)) ggL_law_L_crew
set_option maxRecDepth 20000 in
theorem ggL_law_X5_crew : GoodIn wsL_law wsX5_crew := goodIn_r _ [405, 53, 54, 390, 391, 5, 392, 94, 95, 96, 97, 98, 99, 100, 101, 623, 624, 625, 626, 627, 628, 629, 630, 631, 632, 633, 634, 635, 636, 637, 638, 639, 640, 641, 642, 643, 644, 645, 646, 647, 648] (by decide +kernel) (by decide +kernel)
set_option maxRecDepth 20000 in
theorem gL_law_X5_crew : GoodIn wsL_law (wsV RL 122 RX5 yX5_crew wsX5_crew) := goodIn_app (goodIn_of _ (by decide +kernel)) ggL_law_X5_crew
set_option maxRecDepth 20000 in
theorem ggL_law_L_tray : GoodIn wsL_law wsL_tray := goodIn_ca (goodIn_ca (goodIn_r _ [408, 109, 62, 409, 410, 411, 2, 412, 413, 414, 376, 377, 378, 379, 120, 121, 18, 74, 75, 76, 77, 78, 649, 650, 651, 652, 653, 654, 655, 617, 618, 619, 620, 621, 622] (by decide +kernel) (by decide +kernel)) (goodIn_sub (fun _ h => List.mem_append_right _ h) (by decide +kernel))) (goodIn_sub (fun _ h => List.mem_append_left _ (List.mem_append_right _ h)) (by decide +kernel))
set_option maxRecDepth 20000 in
theorem gL_law_L_tray : GoodIn wsL_law (va_wsS RL 123 yL_tray wsL_tray) := goodIn_app (goodIn_of _ (by decide +kernel)) ggL_law_L_tray
set_option maxRecDepth 20000 in
theorem ggL_law_X5_tray : GoodIn wsL_law wsX5_tray := goodIn_r _ [418, 55, 56, 390, 391, 5, 392, 94, 95, 96, 97, 98, 99, 100, 101, 419, 420, 421, 422, 623, 624, 625, 626, 627, 628, 629, 630, 631, 632, 633, 634, 635, 636, 637, 638, 639, 640, 641, 642, 643, 644, 645, 646, 647, 648] (by decide +kernel) (by decide +kernel)
set_option maxRecDepth 20000 in
theorem gL_law_X5_tray : GoodIn wsL_law (wsV RL 125 RX5 yX5_tray wsX5_tray) := goodIn_app (goodIn_of _ (by decide +kernel)) ggL_law_X5_tray
set_option maxRecDepth 20000 in
theorem ggL_law_L_load : GoodIn wsL_law wsL_load := goodIn_ca (goodIn_r _ [425, 109, 426, 427, 428, 2, 429, 376, 377, 378, 379, 120, 121, 18, 116, 117, 118, 119, 14, 430, 431, 432, 20, 433, 434, 26, 435, 28, 436, 437, 438, 439, 617, 618, 619, 620, 621, 622, 656, 657, 658, 659, 660, 661, 662, 649, 650, 651, 652, 653, 654, 655] (by decide +kernel) (by decide +kernel)) (goodIn_sub (fun _ h => List.mem_append_right _ h) (by decide +kernel))
set_option maxRecDepth 20000 in
theorem gL_law_L_load : GoodIn wsL_law (va_wsS RL 126 yL_load wsL_load) := goodIn_app (goodIn_of _ (by decide +kernel)) ggL_law_L_load
set_option maxRecDepth 20000 in
theorem ggL_law_X5_load : GoodIn wsL_law wsX5_load := goodIn_r _ [443, 56, 37, 55, 390, 391, 5, 392, 94, 95, 96, 126, 127, 128, 129, 92, 261, 262, 263, 264, 101, 419, 420, 421, 422, 623, 624, 625, 626, 627, 628, 629, 630, 631, 632, 633, 634, 635, 636, 637, 638, 639, 640, 641, 642, 643, 644, 645, 646, 647, 648] (by decide +kernel) (by decide +kernel)
set_option maxRecDepth 20000 in
theorem gL_law_X5_load : GoodIn wsL_law (wsV RL 128 RX5 yX5_load wsX5_load) := goodIn_app (goodIn_of _ (by decide +kernel)) ggL_law_X5_load
set_option maxRecDepth 20000 in
theorem ggL_law_L_pass : GoodIn wsL_law wsL_pass := goodIn_ca (goodIn_ca (goodIn_r _ [446, 62, 447, 448, 449, 2, 450, 451, 74, 75, 76, 77, 78, 376, 377, 378, 379, 120, 121, 18, 452, 453, 454, 20, 455, 24, 456, 457, 458, 459, 460, 384, 461, 462, 463, 25, 464, 465, 466, 143, 467, 152, 244, 189, 190, 154, 191, 159, 436, 437, 438, 439, 435, 28, 468, 469, 470, 471, 149, 223, 472, 473, 256, 185, 186, 187, 150, 474, 475, 476, 477, 282, 283, 478, 479, 480, 617, 618, 619, 620, 621, 622, 649, 650, 651, 652, 653, 654, 655, 667, 668, 669, 670, 671, 672, 673, 674, 675, 676, 663, 664, 665, 666, 656, 657, 658, 659, 660, 661, 662] (by decide +kernel) (by decide +kernel)) (goodIn_sub (fun _ h => List.mem_append_left _ (List.mem_append_right _ h)) (by decide +kernel))) (goodIn_sub (fun _ h => List.mem_append_right _ h) (by decide +kernel))
set_option maxRecDepth 20000 in
theorem gL_law_L_pass : GoodIn wsL_law (va_wsS RL 129 yL_pass wsL_pass) := goodIn_app (goodIn_of _ (by decide +kernel)) ggL_law_L_pass
set_option maxRecDepth 20000 in
theorem ggL_law_X5_pass : GoodIn wsL_law wsX5_pass := goodIn_r _ [484, 485, 53, 94, 95, 5, 96, 261, 262, 263, 264, 101, 486, 487, 488, 489, 52, 42, 43, 45, 56, 46, 40, 41, 48, 49, 54, 57, 204, 205, 206, 490, 491, 492, 493, 623, 624, 625, 626, 627, 628, 629, 630, 631, 632, 633, 634, 635, 636, 637, 638, 639, 640, 641, 642, 643, 644, 645, 646, 647, 648] (by decide +kernel) (by decide +kernel)
set_option maxRecDepth 20000 in
theorem gL_law_X5_pass : GoodIn wsL_law (wsV RL 131 RX5 yX5_pass wsX5_pass) := goodIn_app (goodIn_of _ (by decide +kernel)) ggL_law_X5_pass
set_option maxRecDepth 20000 in
theorem ggL_law_X4_hour : GoodIn wsL_law wsX4_hour := goodIn_r _ [497, 451, 617, 618, 619, 620, 621, 622] (by decide +kernel) (by decide +kernel)
set_option maxRecDepth 20000 in
theorem gL_law_X4_hour : GoodIn wsL_law (wsV RL 132 RX4 yX4_hour wsX4_hour) := goodIn_app (goodIn_of _ (by decide +kernel)) ggL_law_X4_hour
set_option maxRecDepth 20000 in
theorem ggL_law_X5_hour : GoodIn wsL_law wsX5_hour := goodIn_r _ [501, 101, 485, 623, 624, 625, 626, 627, 628, 629, 630, 631, 632, 633, 634, 635, 636, 637, 638, 639, 640, 641, 642, 643, 644, 645, 646, 647, 648] (by decide +kernel) (by decide +kernel)
set_option maxRecDepth 20000 in
theorem gL_law_X5_hour : GoodIn wsL_law (wsV RL 135 RX5 yX5_hour wsX5_hour) := goodIn_app (goodIn_of _ (by decide +kernel)) ggL_law_X5_hour
set_option maxRecDepth 20000 in
theorem ggL_law_L_ofCell : GoodIn wsL_law wsL_ofCell := goodIn_ca (goodIn_ca (goodIn_r _ [504, 109, 62, 505, 506, 507, 2, 508, 218, 509, 510, 175, 511, 512, 176, 177, 178, 179, 120, 121, 180, 181, 182, 183, 16, 184, 185, 186, 143, 187, 149, 150, 152, 74, 75, 76, 77, 78, 513, 514, 515, 516, 517, 518, 667, 668, 669, 670, 671, 672, 673, 674, 675, 676, 656, 657, 658, 659, 660, 661, 662, 617, 618, 619, 620, 621, 622, 663, 664, 665, 666] (by decide +kernel) (by decide +kernel)) (goodIn_sub (fun _ h => List.mem_append_right _ h) (by decide +kernel))) (goodIn_sub (fun _ h => List.mem_append_left _ (List.mem_append_right _ h)) (by decide +kernel))
set_option maxRecDepth 20000 in
theorem gL_law_L_ofCell : GoodIn wsL_law (va_wsS RL 136 yL_ofCell wsL_ofCell) := goodIn_app (goodIn_of _ (by decide +kernel)) ggL_law_L_ofCell
set_option maxRecDepth 20000 in
theorem ggL_law_X5_ofCell : GoodIn wsL_law wsX5_ofCell := goodIn_r _ [522, 45, 46, 44, 47, 48, 196, 197, 198, 5, 199, 42, 43, 200, 201, 202, 203, 167, 94, 95, 96, 97, 98, 99, 100, 101, 204, 205, 206, 523, 524, 525, 526, 527, 528, 529, 530, 531, 532, 533, 534, 623, 624, 625, 626, 627, 628, 629, 630, 631, 632, 633, 634, 635, 636, 637, 638, 639, 640, 641, 642, 643, 644, 645, 646, 647, 648] (by decide +kernel) (by decide +kernel)
set_option maxRecDepth 20000 in
theorem gL_law_X5_ofCell : GoodIn wsL_law (wsV RL 138 RX5 yX5_ofCell wsX5_ofCell) := goodIn_app (goodIn_of _ (by decide +kernel)) ggL_law_X5_ofCell
set_option maxRecDepth 20000 in
theorem ggL_law_L_aimAnew : GoodIn wsL_law wsL_aimAnew := goodIn_ca (goodIn_r _ [537, 109, 538, 539, 540, 2, 541, 176, 177, 178, 179, 120, 121, 180, 181, 182, 183, 16, 184, 185, 186, 143, 187, 149, 150, 152, 542, 543, 544, 545, 255, 276, 285, 286, 287, 288, 304, 305, 306, 154, 307, 282, 308, 309, 310, 311, 312, 254, 253, 313, 314, 315, 316, 317, 318, 319, 320, 256, 321, 322, 323, 324, 325, 513, 514, 515, 516, 517, 518, 617, 618, 619, 620, 621, 622, 663, 664, 665, 666, 667, 668, 669, 670, 671, 672, 673, 674, 675, 676, 656, 657, 658, 659, 660, 661, 662] (by decide +kernel) (by decide +kernel)) (goodIn_sub (fun _ h => List.mem_append_right _ h) (by decide +kernel))
set_option maxRecDepth 20000 in
theorem gL_law_L_aimAnew : GoodIn wsL_law (va_wsS RL 139 yL_aimAnew wsL_aimAnew) := goodIn_app (goodIn_of _ (by decide +kernel)) ggL_law_L_aimAnew
set_option maxRecDepth 20000 in
theorem ggL_law_X5_aimAnew : GoodIn wsL_law wsX5_aimAnew := goodIn_r _ [549, 50, 42, 46, 44, 34, 196, 197, 198, 5, 199, 43, 200, 201, 202, 203, 167, 94, 95, 96, 261, 262, 263, 264, 101, 204, 205, 206, 337, 338, 339, 340, 341, 342, 343, 344, 345, 346, 347, 348, 523, 524, 525, 526, 527, 528, 529, 530, 531, 532, 533, 534, 623, 624, 625, 626, 627, 628, 629, 630, 631, 632, 633, 634, 635, 636, 637, 638, 639, 640, 641, 642, 643, 644, 645, 646, 647, 648] (by decide +kernel) (by decide +kernel)
set_option maxRecDepth 20000 in
theorem gL_law_X5_aimAnew : GoodIn wsL_law (wsV RL 141 RX5 yX5_aimAnew wsX5_aimAnew) := goodIn_app (goodIn_of _ (by decide +kernel)) ggL_law_X5_aimAnew
set_option maxRecDepth 20000 in
theorem ggL_law_L_edge : GoodIn wsL_law wsL_edge := goodIn_ca (goodIn_r _ [552, 109, 553, 554, 555, 2, 556, 180, 181, 182, 183, 120, 121, 16, 557, 558, 559, 143, 560, 152, 254, 253, 256, 185, 186, 187, 149, 150, 561, 562, 563, 223, 255, 564, 565, 566, 154, 567, 282, 162, 308, 297, 298, 299, 513, 514, 515, 516, 517, 518, 617, 618, 619, 620, 621, 622, 663, 664, 665, 666, 667, 668, 669, 670, 671, 672, 673, 674, 675, 676, 656, 657, 658, 659, 660, 661, 662] (by decide +kernel) (by decide +kernel)) (goodIn_sub (fun _ h => List.mem_append_right _ h) (by decide +kernel))
set_option maxRecDepth 20000 in
theorem gL_law_L_edge : GoodIn wsL_law (va_wsS RL 142 yL_edge wsL_edge) := goodIn_app (goodIn_of _ (by decide +kernel)) ggL_law_L_edge
set_option maxRecDepth 20000 in
theorem ggL_law_X5_edge : GoodIn wsL_law wsX5_edge := goodIn_r _ [571, 43, 42, 200, 201, 202, 5, 203, 167, 94, 95, 96, 261, 262, 263, 264, 101, 204, 205, 206, 572, 573, 574, 575, 45, 44, 576, 577, 578, 579, 34, 46, 334, 335, 336, 523, 524, 525, 526, 527, 528, 529, 530, 531, 532, 533, 534, 623, 624, 625, 626, 627, 628, 629, 630, 631, 632, 633, 634, 635, 636, 637, 638, 639, 640, 641, 642, 643, 644, 645, 646, 647, 648] (by decide +kernel) (by decide +kernel)
set_option maxRecDepth 20000 in
theorem gL_law_X5_edge : GoodIn wsL_law (wsV RL 144 RX5 yX5_edge wsX5_edge) := goodIn_app (goodIn_of _ (by decide +kernel)) ggL_law_X5_edge
set_option maxRecDepth 20000 in
theorem ggL_law_L_ofLot : GoodIn wsL_law wsL_ofLot := goodIn_ca (goodIn_ca (goodIn_r _ [582, 109, 62, 583, 584, 585, 2, 586, 115, 587, 588, 114, 589, 116, 117, 118, 119, 120, 121, 14, 74, 75, 76, 77, 78, 513, 514, 515, 516, 517, 518, 656, 657, 658, 659, 660, 661, 662, 617, 618, 619, 620, 621, 622] (by decide +kernel) (by decide +kernel)) (goodIn_sub (fun _ h => List.mem_append_right _ h) (by decide +kernel))) (goodIn_sub (fun _ h => List.mem_append_left _ (List.mem_append_right _ h)) (by decide +kernel))
set_option maxRecDepth 20000 in
theorem gL_law_L_ofLot : GoodIn wsL_law (va_wsS RL 145 yL_ofLot wsL_ofLot) := goodIn_app (goodIn_of _ (by decide +kernel)) ggL_law_L_ofLot
set_option maxRecDepth 20000 in
theorem ggL_law_X5_ofLot : GoodIn wsL_law wsX5_ofLot := goodIn_r _ [593, 40, 41, 39, 34, 126, 127, 128, 5, 129, 92, 94, 95, 96, 97, 98, 99, 100, 101, 130, 131, 132, 133, 36, 523, 524, 525, 526, 527, 528, 529, 530, 531, 532, 533, 534, 623, 624, 625, 626, 627, 628, 629, 630, 631, 632, 633, 634, 635, 636, 637, 638, 639, 640, 641, 642, 643, 644, 645, 646, 647, 648] (by decide +kernel) (by decide +kernel)
set_option maxRecDepth 20000 in
theorem gL_law_X5_ofLot : GoodIn wsL_law (wsV RL 147 RX5 yX5_ofLot wsX5_ofLot) := goodIn_app (goodIn_of _ (by decide +kernel)) ggL_law_X5_ofLot
set_option maxRecDepth 20000 in
theorem ggL_law_L_ofPicture : GoodIn wsL_law wsL_ofPicture := goodIn_ca (goodIn_ca (goodIn_r _ [596, 109, 62, 597, 598, 599, 2, 600, 180, 181, 182, 183, 120, 121, 16, 74, 75, 76, 77, 78, 219, 220, 221, 143, 222, 152, 223, 617, 618, 619, 620, 621, 622, 663, 664, 665, 666, 667, 668, 669, 670, 671, 672, 673, 674, 675, 676] (by decide +kernel) (by decide +kernel)) (goodIn_sub (fun _ h => List.mem_append_right _ h) (by decide +kernel))) (goodIn_sub (fun _ h => List.mem_append_left _ (List.mem_append_right _ h)) (by decide +kernel))
set_option maxRecDepth 20000 in
theorem gL_law_L_ofPicture : GoodIn wsL_law (va_wsS RL 148 yL_ofPicture wsL_ofPicture) := goodIn_app (goodIn_of _ (by decide +kernel)) ggL_law_L_ofPicture
set_option maxRecDepth 20000 in
theorem ggL_law_X5_ofPicture : GoodIn wsL_law wsX5_ofPicture := goodIn_r _ [604, 200, 201, 202, 5, 203, 167, 94, 95, 96, 97, 98, 99, 100, 101, 228, 229, 230, 231, 43, 42, 45, 204, 205, 206, 623, 624, 625, 626, 627, 628, 629, 630, 631, 632, 633, 634, 635, 636, 637, 638, 639, 640, 641, 642, 643, 644, 645, 646, 647, 648] (by decide +kernel) (by decide +kernel)
set_option maxRecDepth 20000 in
theorem gL_law_X5_ofPicture : GoodIn wsL_law (wsV RL 150 RX5 yX5_ofPicture wsX5_ofPicture) := goodIn_app (goodIn_of _ (by decide +kernel)) ggL_law_X5_ofPicture
set_option maxRecDepth 20000 in
theorem ggL_law_L_ofCrew : GoodIn wsL_law wsL_ofCrew := goodIn_ca (goodIn_ca (goodIn_r _ [607, 109, 62, 608, 609, 610, 2, 611, 414, 413, 612, 376, 377, 378, 379, 120, 121, 18, 74, 75, 76, 77, 78, 380, 381, 382, 20, 383, 384, 385, 649, 650, 651, 652, 653, 654, 655, 617, 618, 619, 620, 621, 622, 663, 664, 665, 666] (by decide +kernel) (by decide +kernel)) (goodIn_sub (fun _ h => List.mem_append_right _ h) (by decide +kernel))) (goodIn_sub (fun _ h => List.mem_append_left _ (List.mem_append_right _ h)) (by decide +kernel))
set_option maxRecDepth 20000 in
theorem gL_law_L_ofCrew : GoodIn wsL_law (va_wsS RL 151 yL_ofCrew wsL_ofCrew) := goodIn_app (goodIn_of _ (by decide +kernel)) ggL_law_L_ofCrew
set_option maxRecDepth 20000 in
theorem ggL_law_X5_ofCrew : GoodIn wsL_law wsX5_ofCrew := goodIn_r _ [616, 52, 55, 57, 390, 391, 5, 392, 94, 95, 96, 97, 98, 99, 100, 101, 419, 420, 421, 422, 56, 623, 624, 625, 626, 627, 628, 629, 630, 631, 632, 633, 634, 635, 636, 637, 638, 639, 640, 641, 642, 643, 644, 645, 646, 647, 648] (by decide +kernel) (by decide +kernel)
set_option maxRecDepth 20000 in
theorem gL_law_X5_ofCrew : GoodIn wsL_law (wsV RL 153 RX5 yX5_ofCrew wsX5_ofCrew) := goodIn_app (goodIn_of _ (by decide +kernel)) ggL_law_X5_ofCrew
theorem dL_law_0 : decode cL_law 0 = .ok (.new 8, 3) := by decide +kernel
theorem dL_law_3 : decode cL_law 3 = .ok (.dup, 1) := by decide +kernel
theorem dL_law_4 : decode cL_law 4 = .ok (.invokespecial 78, 3) := by decide +kernel
theorem dL_law_7 : decode cL_law 7 = .ok (.astore_n 1, 1) := by decide +kernel
theorem dL_law_8 : decode cL_law 8 = .ok (.new 79, 3) := by decide +kernel
theorem dL_law_11 : decode cL_law 11 = .ok (.dup, 1) := by decide +kernel
theorem dL_law_12 : decode cL_law 12 = .ok (.invokespecial 81, 3) := by decide +kernel
theorem dL_law_15 : decode cL_law 15 = .ok (.astore_n 2, 1) := by decide +kernel
theorem dL_law_16 : decode cL_law 16 = .ok (.iconst 1, 1) := by decide +kernel
theorem dL_law_17 : decode cL_law 17 = .ok (.newarray .long, 2) := by decide +kernel
theorem dL_law_19 : decode cL_law 19 = .ok (.astore_n 3, 1) := by decide +kernel
theorem dL_law_20 : decode cL_law 20 = .ok (.iconst 0, 1) := by decide +kernel
theorem dL_law_21 : decode cL_law 21 = .ok (.istore 4, 2) := by decide +kernel
theorem dL_law_23 : decode cL_law 23 = .ok (.iload 4, 2) := by decide +kernel
theorem dL_law_25 : decode cL_law 25 = .ok (.aload_n 0, 1) := by decide +kernel
theorem dL_law_26 : decode cL_law 26 = .ok (.arraylength, 1) := by decide +kernel
theorem dL_law_27 : decode cL_law 27 = .ok (.iconst 5, 1) := by decide +kernel
theorem dL_law_28 : decode cL_law 28 = .ok (.isub, 1) := by decide +kernel
theorem dL_law_29 : decode cL_law 29 = .ok (.if_icmp .gt 1521, 3) := by decide +kernel
theorem dL_law_32 : decode cL_law 32 = .ok (.aload_n 0, 1) := by decide +kernel
theorem dL_law_33 : decode cL_law 33 = .ok (.iload 4, 2) := by decide +kernel
theorem dL_law_35 : decode cL_law 35 = .ok (.iaload, 1) := by decide +kernel
theorem dL_law_36 : decode cL_law 36 = .ok (.bipush 31, 2) := by decide +kernel
theorem dL_law_38 : decode cL_law 38 = .ok (.iand, 1) := by decide +kernel
theorem dL_law_39 : decode cL_law 39 = .ok (.tableswitch 1505 0 19 #[93, 201, 257, 337, 429, 521, 577, 633, 713, 781, 861, 929, 1004, 1060, 1073, 1165, 1245, 1301, 1369, 1437], 93) := by decide +kernel
theorem dL_law_132 : decode cL_law 132 = .ok (.aload_n 1, 1) := by decide +kernel
theorem dL_law_133 : decode cL_law 133 = .ok (.aload_n 0, 1) := by decide +kernel
theorem dL_law_134 : decode cL_law 134 = .ok (.iload 4, 2) := by decide +kernel
theorem dL_law_136 : decode cL_law 136 = .ok (.iconst 1, 1) := by decide +kernel
theorem dL_law_137 : decode cL_law 137 = .ok (.iadd, 1) := by decide +kernel
theorem dL_law_138 : decode cL_law 138 = .ok (.iaload, 1) := by decide +kernel
theorem dL_law_139 : decode cL_law 139 = .ok (.aload_n 0, 1) := by decide +kernel
theorem dL_law_140 : decode cL_law 140 = .ok (.iload 4, 2) := by decide +kernel
theorem dL_law_142 : decode cL_law 142 = .ok (.iconst 2, 1) := by decide +kernel
theorem dL_law_143 : decode cL_law 143 = .ok (.iadd, 1) := by decide +kernel
theorem dL_law_144 : decode cL_law 144 = .ok (.iaload, 1) := by decide +kernel
theorem dL_law_145 : decode cL_law 145 = .ok (.aload_n 0, 1) := by decide +kernel
theorem dL_law_146 : decode cL_law 146 = .ok (.iload 4, 2) := by decide +kernel
theorem dL_law_148 : decode cL_law 148 = .ok (.iconst 3, 1) := by decide +kernel
theorem dL_law_149 : decode cL_law 149 = .ok (.iadd, 1) := by decide +kernel
theorem dL_law_150 : decode cL_law 150 = .ok (.iaload, 1) := by decide +kernel
theorem dL_law_151 : decode cL_law 151 = .ok (.aload_n 0, 1) := by decide +kernel
theorem dL_law_152 : decode cL_law 152 = .ok (.iload 4, 2) := by decide +kernel
theorem dL_law_154 : decode cL_law 154 = .ok (.iconst 4, 1) := by decide +kernel
theorem dL_law_155 : decode cL_law 155 = .ok (.iadd, 1) := by decide +kernel
theorem dL_law_156 : decode cL_law 156 = .ok (.iaload, 1) := by decide +kernel
theorem dL_law_157 : decode cL_law 157 = .ok (.ifCond .eq 7, 3) := by decide +kernel
theorem dL_law_160 : decode cL_law 160 = .ok (.iconst 1, 1) := by decide +kernel
theorem dL_law_161 : decode cL_law 161 = .ok (.goto 4, 3) := by decide +kernel
theorem dL_law_164 : decode cL_law 164 = .ok (.iconst 0, 1) := by decide +kernel
theorem dL_law_165 : decode cL_law 165 = .ok (.aload_n 3, 1) := by decide +kernel
theorem dL_law_166 : decode cL_law 166 = .ok (.invokestatic 82, 3) := by decide +kernel
theorem dL_law_169 : decode cL_law 169 = .ok (.istore 5, 2) := by decide +kernel
theorem dL_law_171 : decode cL_law 171 = .ok (.aload_n 2, 1) := by decide +kernel
theorem dL_law_172 : decode cL_law 172 = .ok (.aload_n 0, 1) := by decide +kernel
theorem dL_law_173 : decode cL_law 173 = .ok (.iload 4, 2) := by decide +kernel
theorem dL_law_175 : decode cL_law 175 = .ok (.iconst 1, 1) := by decide +kernel
theorem dL_law_176 : decode cL_law 176 = .ok (.iadd, 1) := by decide +kernel
theorem dL_law_177 : decode cL_law 177 = .ok (.iaload, 1) := by decide +kernel
theorem dL_law_178 : decode cL_law 178 = .ok (.aload_n 0, 1) := by decide +kernel
theorem dL_law_179 : decode cL_law 179 = .ok (.iload 4, 2) := by decide +kernel
theorem dL_law_181 : decode cL_law 181 = .ok (.iconst 2, 1) := by decide +kernel
theorem dL_law_182 : decode cL_law 182 = .ok (.iadd, 1) := by decide +kernel
theorem dL_law_183 : decode cL_law 183 = .ok (.iaload, 1) := by decide +kernel
theorem dL_law_184 : decode cL_law 184 = .ok (.aload_n 0, 1) := by decide +kernel
theorem dL_law_185 : decode cL_law 185 = .ok (.iload 4, 2) := by decide +kernel
theorem dL_law_187 : decode cL_law 187 = .ok (.iconst 3, 1) := by decide +kernel
theorem dL_law_188 : decode cL_law 188 = .ok (.iadd, 1) := by decide +kernel
theorem dL_law_189 : decode cL_law 189 = .ok (.iaload, 1) := by decide +kernel
theorem dL_law_190 : decode cL_law 190 = .ok (.aload_n 0, 1) := by decide +kernel
theorem dL_law_191 : decode cL_law 191 = .ok (.iload 4, 2) := by decide +kernel
theorem dL_law_193 : decode cL_law 193 = .ok (.iconst 4, 1) := by decide +kernel
theorem dL_law_194 : decode cL_law 194 = .ok (.iadd, 1) := by decide +kernel
theorem dL_law_195 : decode cL_law 195 = .ok (.iaload, 1) := by decide +kernel
theorem dL_law_196 : decode cL_law 196 = .ok (.ifCond .eq 7, 3) := by decide +kernel
theorem dL_law_199 : decode cL_law 199 = .ok (.iconst 1, 1) := by decide +kernel
theorem dL_law_200 : decode cL_law 200 = .ok (.goto 4, 3) := by decide +kernel
theorem dL_law_203 : decode cL_law 203 = .ok (.iconst 0, 1) := by decide +kernel
theorem dL_law_204 : decode cL_law 204 = .ok (.invokevirtual 87, 3) := by decide +kernel
theorem dL_law_207 : decode cL_law 207 = .ok (.istore 6, 2) := by decide +kernel
theorem dL_law_209 : decode cL_law 209 = .ok (.aload_n 2, 1) := by decide +kernel
theorem dL_law_210 : decode cL_law 210 = .ok (.invokevirtual 88, 3) := by decide +kernel
theorem dL_law_213 : decode cL_law 213 = .ok (.iload 5, 2) := by decide +kernel
theorem dL_law_215 : decode cL_law 215 = .ok (.if_icmp .eq 5, 3) := by decide +kernel
theorem dL_law_218 : decode cL_law 218 = .ok (.iconst 0, 1) := by decide +kernel
theorem dL_law_219 : decode cL_law 219 = .ok (.ireturn, 1) := by decide +kernel
theorem dL_law_220 : decode cL_law 220 = .ok (.iload 5, 2) := by decide +kernel
theorem dL_law_222 : decode cL_law 222 = .ok (.ifCond .ne 15, 3) := by decide +kernel
theorem dL_law_225 : decode cL_law 225 = .ok (.aload_n 3, 1) := by decide +kernel
theorem dL_law_226 : decode cL_law 226 = .ok (.iconst 0, 1) := by decide +kernel
theorem dL_law_227 : decode cL_law 227 = .ok (.laload, 1) := by decide +kernel
theorem dL_law_228 : decode cL_law 228 = .ok (.iload 6, 2) := by decide +kernel
theorem dL_law_230 : decode cL_law 230 = .ok (.i2l, 1) := by decide +kernel
theorem dL_law_231 : decode cL_law 231 = .ok (.lcmp, 1) := by decide +kernel
theorem dL_law_232 : decode cL_law 232 = .ok (.ifCond .eq 5, 3) := by decide +kernel
theorem dL_law_235 : decode cL_law 235 = .ok (.iconst 0, 1) := by decide +kernel
theorem dL_law_236 : decode cL_law 236 = .ok (.ireturn, 1) := by decide +kernel
theorem dL_law_237 : decode cL_law 237 = .ok (.goto 1307, 3) := by decide +kernel
theorem dL_law_240 : decode cL_law 240 = .ok (.aload_n 1, 1) := by decide +kernel
theorem dL_law_241 : decode cL_law 241 = .ok (.aload_n 0, 1) := by decide +kernel
theorem dL_law_242 : decode cL_law 242 = .ok (.iload 4, 2) := by decide +kernel
theorem dL_law_244 : decode cL_law 244 = .ok (.iconst 1, 1) := by decide +kernel
theorem dL_law_245 : decode cL_law 245 = .ok (.iadd, 1) := by decide +kernel
theorem dL_law_246 : decode cL_law 246 = .ok (.iaload, 1) := by decide +kernel
theorem dL_law_247 : decode cL_law 247 = .ok (.aload_n 3, 1) := by decide +kernel
theorem dL_law_248 : decode cL_law 248 = .ok (.invokestatic 92, 3) := by decide +kernel
theorem dL_law_251 : decode cL_law 251 = .ok (.istore 5, 2) := by decide +kernel
theorem dL_law_253 : decode cL_law 253 = .ok (.aload_n 2, 1) := by decide +kernel
theorem dL_law_254 : decode cL_law 254 = .ok (.aload_n 0, 1) := by decide +kernel
theorem dL_law_255 : decode cL_law 255 = .ok (.iload 4, 2) := by decide +kernel
theorem dL_law_257 : decode cL_law 257 = .ok (.iconst 1, 1) := by decide +kernel
theorem dL_law_258 : decode cL_law 258 = .ok (.iadd, 1) := by decide +kernel
theorem dL_law_259 : decode cL_law 259 = .ok (.iaload, 1) := by decide +kernel
theorem dL_law_260 : decode cL_law 260 = .ok (.invokevirtual 95, 3) := by decide +kernel
theorem dL_law_263 : decode cL_law 263 = .ok (.istore 6, 2) := by decide +kernel
theorem dL_law_265 : decode cL_law 265 = .ok (.aload_n 2, 1) := by decide +kernel
theorem dL_law_266 : decode cL_law 266 = .ok (.invokevirtual 88, 3) := by decide +kernel
theorem dL_law_269 : decode cL_law 269 = .ok (.iload 5, 2) := by decide +kernel
theorem dL_law_271 : decode cL_law 271 = .ok (.if_icmp .eq 5, 3) := by decide +kernel
theorem dL_law_274 : decode cL_law 274 = .ok (.iconst 0, 1) := by decide +kernel
theorem dL_law_275 : decode cL_law 275 = .ok (.ireturn, 1) := by decide +kernel
theorem dL_law_276 : decode cL_law 276 = .ok (.iload 5, 2) := by decide +kernel
theorem dL_law_278 : decode cL_law 278 = .ok (.ifCond .ne 15, 3) := by decide +kernel
theorem dL_law_281 : decode cL_law 281 = .ok (.aload_n 3, 1) := by decide +kernel
theorem dL_law_282 : decode cL_law 282 = .ok (.iconst 0, 1) := by decide +kernel
theorem dL_law_283 : decode cL_law 283 = .ok (.laload, 1) := by decide +kernel
theorem dL_law_284 : decode cL_law 284 = .ok (.iload 6, 2) := by decide +kernel
theorem dL_law_286 : decode cL_law 286 = .ok (.i2l, 1) := by decide +kernel
theorem dL_law_287 : decode cL_law 287 = .ok (.lcmp, 1) := by decide +kernel
theorem dL_law_288 : decode cL_law 288 = .ok (.ifCond .eq 5, 3) := by decide +kernel
theorem dL_law_291 : decode cL_law 291 = .ok (.iconst 0, 1) := by decide +kernel
theorem dL_law_292 : decode cL_law 292 = .ok (.ireturn, 1) := by decide +kernel
theorem dL_law_293 : decode cL_law 293 = .ok (.goto 1251, 3) := by decide +kernel
theorem dL_law_296 : decode cL_law 296 = .ok (.aload_n 1, 1) := by decide +kernel
theorem dL_law_297 : decode cL_law 297 = .ok (.aload_n 0, 1) := by decide +kernel
theorem dL_law_298 : decode cL_law 298 = .ok (.iload 4, 2) := by decide +kernel
theorem dL_law_300 : decode cL_law 300 = .ok (.iconst 1, 1) := by decide +kernel
theorem dL_law_301 : decode cL_law 301 = .ok (.iadd, 1) := by decide +kernel
theorem dL_law_302 : decode cL_law 302 = .ok (.iaload, 1) := by decide +kernel
theorem dL_law_303 : decode cL_law 303 = .ok (.aload_n 0, 1) := by decide +kernel
theorem dL_law_304 : decode cL_law 304 = .ok (.iload 4, 2) := by decide +kernel
theorem dL_law_306 : decode cL_law 306 = .ok (.iconst 2, 1) := by decide +kernel
theorem dL_law_307 : decode cL_law 307 = .ok (.iadd, 1) := by decide +kernel
theorem dL_law_308 : decode cL_law 308 = .ok (.iaload, 1) := by decide +kernel
theorem dL_law_309 : decode cL_law 309 = .ok (.aload_n 0, 1) := by decide +kernel
theorem dL_law_310 : decode cL_law 310 = .ok (.iload 4, 2) := by decide +kernel
theorem dL_law_312 : decode cL_law 312 = .ok (.iconst 3, 1) := by decide +kernel
theorem dL_law_313 : decode cL_law 313 = .ok (.iadd, 1) := by decide +kernel
theorem dL_law_314 : decode cL_law 314 = .ok (.iaload, 1) := by decide +kernel
theorem dL_law_315 : decode cL_law 315 = .ok (.aload_n 3, 1) := by decide +kernel
theorem dL_law_316 : decode cL_law 316 = .ok (.invokestatic 96, 3) := by decide +kernel
theorem dL_law_319 : decode cL_law 319 = .ok (.istore 5, 2) := by decide +kernel
theorem dL_law_321 : decode cL_law 321 = .ok (.aload_n 2, 1) := by decide +kernel
theorem dL_law_322 : decode cL_law 322 = .ok (.aload_n 0, 1) := by decide +kernel
theorem dL_law_323 : decode cL_law 323 = .ok (.iload 4, 2) := by decide +kernel
theorem dL_law_325 : decode cL_law 325 = .ok (.iconst 1, 1) := by decide +kernel
theorem dL_law_326 : decode cL_law 326 = .ok (.iadd, 1) := by decide +kernel
theorem dL_law_327 : decode cL_law 327 = .ok (.iaload, 1) := by decide +kernel
theorem dL_law_328 : decode cL_law 328 = .ok (.aload_n 0, 1) := by decide +kernel
theorem dL_law_329 : decode cL_law 329 = .ok (.iload 4, 2) := by decide +kernel
theorem dL_law_331 : decode cL_law 331 = .ok (.iconst 2, 1) := by decide +kernel
theorem dL_law_332 : decode cL_law 332 = .ok (.iadd, 1) := by decide +kernel
theorem dL_law_333 : decode cL_law 333 = .ok (.iaload, 1) := by decide +kernel
theorem dL_law_334 : decode cL_law 334 = .ok (.aload_n 0, 1) := by decide +kernel
theorem dL_law_335 : decode cL_law 335 = .ok (.iload 4, 2) := by decide +kernel
theorem dL_law_337 : decode cL_law 337 = .ok (.iconst 3, 1) := by decide +kernel
theorem dL_law_338 : decode cL_law 338 = .ok (.iadd, 1) := by decide +kernel
theorem dL_law_339 : decode cL_law 339 = .ok (.iaload, 1) := by decide +kernel
theorem dL_law_340 : decode cL_law 340 = .ok (.invokevirtual 99, 3) := by decide +kernel
theorem dL_law_343 : decode cL_law 343 = .ok (.istore 6, 2) := by decide +kernel
theorem dL_law_345 : decode cL_law 345 = .ok (.aload_n 2, 1) := by decide +kernel
theorem dL_law_346 : decode cL_law 346 = .ok (.invokevirtual 88, 3) := by decide +kernel
theorem dL_law_349 : decode cL_law 349 = .ok (.iload 5, 2) := by decide +kernel
theorem dL_law_351 : decode cL_law 351 = .ok (.if_icmp .eq 5, 3) := by decide +kernel
theorem dL_law_354 : decode cL_law 354 = .ok (.iconst 0, 1) := by decide +kernel
theorem dL_law_355 : decode cL_law 355 = .ok (.ireturn, 1) := by decide +kernel
theorem dL_law_356 : decode cL_law 356 = .ok (.iload 5, 2) := by decide +kernel
theorem dL_law_358 : decode cL_law 358 = .ok (.ifCond .ne 15, 3) := by decide +kernel
theorem dL_law_361 : decode cL_law 361 = .ok (.aload_n 3, 1) := by decide +kernel
theorem dL_law_362 : decode cL_law 362 = .ok (.iconst 0, 1) := by decide +kernel
theorem dL_law_363 : decode cL_law 363 = .ok (.laload, 1) := by decide +kernel
theorem dL_law_364 : decode cL_law 364 = .ok (.iload 6, 2) := by decide +kernel
theorem dL_law_366 : decode cL_law 366 = .ok (.i2l, 1) := by decide +kernel
theorem dL_law_367 : decode cL_law 367 = .ok (.lcmp, 1) := by decide +kernel
theorem dL_law_368 : decode cL_law 368 = .ok (.ifCond .eq 5, 3) := by decide +kernel
theorem dL_law_371 : decode cL_law 371 = .ok (.iconst 0, 1) := by decide +kernel
theorem dL_law_372 : decode cL_law 372 = .ok (.ireturn, 1) := by decide +kernel
theorem dL_law_373 : decode cL_law 373 = .ok (.goto 1171, 3) := by decide +kernel
theorem dL_law_376 : decode cL_law 376 = .ok (.aload_n 1, 1) := by decide +kernel
theorem dL_law_377 : decode cL_law 377 = .ok (.aload_n 0, 1) := by decide +kernel
theorem dL_law_378 : decode cL_law 378 = .ok (.iload 4, 2) := by decide +kernel
theorem dL_law_380 : decode cL_law 380 = .ok (.iconst 1, 1) := by decide +kernel
theorem dL_law_381 : decode cL_law 381 = .ok (.iadd, 1) := by decide +kernel
theorem dL_law_382 : decode cL_law 382 = .ok (.iaload, 1) := by decide +kernel
theorem dL_law_383 : decode cL_law 383 = .ok (.aload_n 0, 1) := by decide +kernel
theorem dL_law_384 : decode cL_law 384 = .ok (.iload 4, 2) := by decide +kernel
theorem dL_law_386 : decode cL_law 386 = .ok (.iconst 2, 1) := by decide +kernel
theorem dL_law_387 : decode cL_law 387 = .ok (.iadd, 1) := by decide +kernel
theorem dL_law_388 : decode cL_law 388 = .ok (.iaload, 1) := by decide +kernel
theorem dL_law_389 : decode cL_law 389 = .ok (.aload_n 0, 1) := by decide +kernel
theorem dL_law_390 : decode cL_law 390 = .ok (.iload 4, 2) := by decide +kernel
theorem dL_law_392 : decode cL_law 392 = .ok (.iconst 3, 1) := by decide +kernel
theorem dL_law_393 : decode cL_law 393 = .ok (.iadd, 1) := by decide +kernel
theorem dL_law_394 : decode cL_law 394 = .ok (.iaload, 1) := by decide +kernel
theorem dL_law_395 : decode cL_law 395 = .ok (.aload_n 0, 1) := by decide +kernel
theorem dL_law_396 : decode cL_law 396 = .ok (.iload 4, 2) := by decide +kernel
theorem dL_law_398 : decode cL_law 398 = .ok (.iconst 4, 1) := by decide +kernel
theorem dL_law_399 : decode cL_law 399 = .ok (.iadd, 1) := by decide +kernel
theorem dL_law_400 : decode cL_law 400 = .ok (.iaload, 1) := by decide +kernel
theorem dL_law_401 : decode cL_law 401 = .ok (.aload_n 3, 1) := by decide +kernel
theorem dL_law_402 : decode cL_law 402 = .ok (.invokestatic 100, 3) := by decide +kernel
theorem dL_law_405 : decode cL_law 405 = .ok (.istore 5, 2) := by decide +kernel
theorem dL_law_407 : decode cL_law 407 = .ok (.aload_n 2, 1) := by decide +kernel
theorem dL_law_408 : decode cL_law 408 = .ok (.aload_n 0, 1) := by decide +kernel
theorem dL_law_409 : decode cL_law 409 = .ok (.iload 4, 2) := by decide +kernel
theorem dL_law_411 : decode cL_law 411 = .ok (.iconst 1, 1) := by decide +kernel
theorem dL_law_412 : decode cL_law 412 = .ok (.iadd, 1) := by decide +kernel
theorem dL_law_413 : decode cL_law 413 = .ok (.iaload, 1) := by decide +kernel
theorem dL_law_414 : decode cL_law 414 = .ok (.aload_n 0, 1) := by decide +kernel
theorem dL_law_415 : decode cL_law 415 = .ok (.iload 4, 2) := by decide +kernel
theorem dL_law_417 : decode cL_law 417 = .ok (.iconst 2, 1) := by decide +kernel
theorem dL_law_418 : decode cL_law 418 = .ok (.iadd, 1) := by decide +kernel
theorem dL_law_419 : decode cL_law 419 = .ok (.iaload, 1) := by decide +kernel
theorem dL_law_420 : decode cL_law 420 = .ok (.aload_n 0, 1) := by decide +kernel
theorem dL_law_421 : decode cL_law 421 = .ok (.iload 4, 2) := by decide +kernel
theorem dL_law_423 : decode cL_law 423 = .ok (.iconst 3, 1) := by decide +kernel
theorem dL_law_424 : decode cL_law 424 = .ok (.iadd, 1) := by decide +kernel
theorem dL_law_425 : decode cL_law 425 = .ok (.iaload, 1) := by decide +kernel
theorem dL_law_426 : decode cL_law 426 = .ok (.aload_n 0, 1) := by decide +kernel
theorem dL_law_427 : decode cL_law 427 = .ok (.iload 4, 2) := by decide +kernel
theorem dL_law_429 : decode cL_law 429 = .ok (.iconst 4, 1) := by decide +kernel
theorem dL_law_430 : decode cL_law 430 = .ok (.iadd, 1) := by decide +kernel
theorem dL_law_431 : decode cL_law 431 = .ok (.iaload, 1) := by decide +kernel
theorem dL_law_432 : decode cL_law 432 = .ok (.invokevirtual 103, 3) := by decide +kernel
theorem dL_law_435 : decode cL_law 435 = .ok (.istore 6, 2) := by decide +kernel
theorem dL_law_437 : decode cL_law 437 = .ok (.aload_n 2, 1) := by decide +kernel
theorem dL_law_438 : decode cL_law 438 = .ok (.invokevirtual 88, 3) := by decide +kernel
theorem dL_law_441 : decode cL_law 441 = .ok (.iload 5, 2) := by decide +kernel
theorem dL_law_443 : decode cL_law 443 = .ok (.if_icmp .eq 5, 3) := by decide +kernel
theorem dL_law_446 : decode cL_law 446 = .ok (.iconst 0, 1) := by decide +kernel
theorem dL_law_447 : decode cL_law 447 = .ok (.ireturn, 1) := by decide +kernel
theorem dL_law_448 : decode cL_law 448 = .ok (.iload 5, 2) := by decide +kernel
theorem dL_law_450 : decode cL_law 450 = .ok (.ifCond .ne 15, 3) := by decide +kernel
theorem dL_law_453 : decode cL_law 453 = .ok (.aload_n 3, 1) := by decide +kernel
theorem dL_law_454 : decode cL_law 454 = .ok (.iconst 0, 1) := by decide +kernel
theorem dL_law_455 : decode cL_law 455 = .ok (.laload, 1) := by decide +kernel
theorem dL_law_456 : decode cL_law 456 = .ok (.iload 6, 2) := by decide +kernel
theorem dL_law_458 : decode cL_law 458 = .ok (.i2l, 1) := by decide +kernel
theorem dL_law_459 : decode cL_law 459 = .ok (.lcmp, 1) := by decide +kernel
theorem dL_law_460 : decode cL_law 460 = .ok (.ifCond .eq 5, 3) := by decide +kernel
theorem dL_law_463 : decode cL_law 463 = .ok (.iconst 0, 1) := by decide +kernel
theorem dL_law_464 : decode cL_law 464 = .ok (.ireturn, 1) := by decide +kernel
theorem dL_law_465 : decode cL_law 465 = .ok (.goto 1079, 3) := by decide +kernel
theorem dL_law_468 : decode cL_law 468 = .ok (.aload_n 1, 1) := by decide +kernel
theorem dL_law_469 : decode cL_law 469 = .ok (.aload_n 0, 1) := by decide +kernel
theorem dL_law_470 : decode cL_law 470 = .ok (.iload 4, 2) := by decide +kernel
theorem dL_law_472 : decode cL_law 472 = .ok (.iconst 1, 1) := by decide +kernel
theorem dL_law_473 : decode cL_law 473 = .ok (.iadd, 1) := by decide +kernel
theorem dL_law_474 : decode cL_law 474 = .ok (.iaload, 1) := by decide +kernel
theorem dL_law_475 : decode cL_law 475 = .ok (.aload_n 0, 1) := by decide +kernel
theorem dL_law_476 : decode cL_law 476 = .ok (.iload 4, 2) := by decide +kernel
theorem dL_law_478 : decode cL_law 478 = .ok (.iconst 2, 1) := by decide +kernel
theorem dL_law_479 : decode cL_law 479 = .ok (.iadd, 1) := by decide +kernel
theorem dL_law_480 : decode cL_law 480 = .ok (.iaload, 1) := by decide +kernel
theorem dL_law_481 : decode cL_law 481 = .ok (.aload_n 0, 1) := by decide +kernel
theorem dL_law_482 : decode cL_law 482 = .ok (.iload 4, 2) := by decide +kernel
theorem dL_law_484 : decode cL_law 484 = .ok (.iconst 3, 1) := by decide +kernel
theorem dL_law_485 : decode cL_law 485 = .ok (.iadd, 1) := by decide +kernel
theorem dL_law_486 : decode cL_law 486 = .ok (.iaload, 1) := by decide +kernel
theorem dL_law_487 : decode cL_law 487 = .ok (.aload_n 0, 1) := by decide +kernel
theorem dL_law_488 : decode cL_law 488 = .ok (.iload 4, 2) := by decide +kernel
theorem dL_law_490 : decode cL_law 490 = .ok (.iconst 4, 1) := by decide +kernel
theorem dL_law_491 : decode cL_law 491 = .ok (.iadd, 1) := by decide +kernel
theorem dL_law_492 : decode cL_law 492 = .ok (.iaload, 1) := by decide +kernel
theorem dL_law_493 : decode cL_law 493 = .ok (.aload_n 3, 1) := by decide +kernel
theorem dL_law_494 : decode cL_law 494 = .ok (.invokestatic 104, 3) := by decide +kernel
theorem dL_law_497 : decode cL_law 497 = .ok (.istore 5, 2) := by decide +kernel
theorem dL_law_499 : decode cL_law 499 = .ok (.aload_n 2, 1) := by decide +kernel
theorem dL_law_500 : decode cL_law 500 = .ok (.aload_n 0, 1) := by decide +kernel
theorem dL_law_501 : decode cL_law 501 = .ok (.iload 4, 2) := by decide +kernel
theorem dL_law_503 : decode cL_law 503 = .ok (.iconst 1, 1) := by decide +kernel
theorem dL_law_504 : decode cL_law 504 = .ok (.iadd, 1) := by decide +kernel
theorem dL_law_505 : decode cL_law 505 = .ok (.iaload, 1) := by decide +kernel
theorem dL_law_506 : decode cL_law 506 = .ok (.aload_n 0, 1) := by decide +kernel
theorem dL_law_507 : decode cL_law 507 = .ok (.iload 4, 2) := by decide +kernel
theorem dL_law_509 : decode cL_law 509 = .ok (.iconst 2, 1) := by decide +kernel
theorem dL_law_510 : decode cL_law 510 = .ok (.iadd, 1) := by decide +kernel
theorem dL_law_511 : decode cL_law 511 = .ok (.iaload, 1) := by decide +kernel
theorem dL_law_512 : decode cL_law 512 = .ok (.aload_n 0, 1) := by decide +kernel
theorem dL_law_513 : decode cL_law 513 = .ok (.iload 4, 2) := by decide +kernel
theorem dL_law_515 : decode cL_law 515 = .ok (.iconst 3, 1) := by decide +kernel
theorem dL_law_516 : decode cL_law 516 = .ok (.iadd, 1) := by decide +kernel
theorem dL_law_517 : decode cL_law 517 = .ok (.iaload, 1) := by decide +kernel
theorem dL_law_518 : decode cL_law 518 = .ok (.aload_n 0, 1) := by decide +kernel
theorem dL_law_519 : decode cL_law 519 = .ok (.iload 4, 2) := by decide +kernel
theorem dL_law_521 : decode cL_law 521 = .ok (.iconst 4, 1) := by decide +kernel
theorem dL_law_522 : decode cL_law 522 = .ok (.iadd, 1) := by decide +kernel
theorem dL_law_523 : decode cL_law 523 = .ok (.iaload, 1) := by decide +kernel
theorem dL_law_524 : decode cL_law 524 = .ok (.invokevirtual 106, 3) := by decide +kernel
theorem dL_law_527 : decode cL_law 527 = .ok (.istore 6, 2) := by decide +kernel
theorem dL_law_529 : decode cL_law 529 = .ok (.aload_n 2, 1) := by decide +kernel
theorem dL_law_530 : decode cL_law 530 = .ok (.invokevirtual 88, 3) := by decide +kernel
theorem dL_law_533 : decode cL_law 533 = .ok (.iload 5, 2) := by decide +kernel
theorem dL_law_535 : decode cL_law 535 = .ok (.if_icmp .eq 5, 3) := by decide +kernel
theorem dL_law_538 : decode cL_law 538 = .ok (.iconst 0, 1) := by decide +kernel
theorem dL_law_539 : decode cL_law 539 = .ok (.ireturn, 1) := by decide +kernel
theorem dL_law_540 : decode cL_law 540 = .ok (.iload 5, 2) := by decide +kernel
theorem dL_law_542 : decode cL_law 542 = .ok (.ifCond .ne 15, 3) := by decide +kernel
theorem dL_law_545 : decode cL_law 545 = .ok (.aload_n 3, 1) := by decide +kernel
theorem dL_law_546 : decode cL_law 546 = .ok (.iconst 0, 1) := by decide +kernel
theorem dL_law_547 : decode cL_law 547 = .ok (.laload, 1) := by decide +kernel
theorem dL_law_548 : decode cL_law 548 = .ok (.iload 6, 2) := by decide +kernel
theorem dL_law_550 : decode cL_law 550 = .ok (.i2l, 1) := by decide +kernel
theorem dL_law_551 : decode cL_law 551 = .ok (.lcmp, 1) := by decide +kernel
theorem dL_law_552 : decode cL_law 552 = .ok (.ifCond .eq 5, 3) := by decide +kernel
theorem dL_law_555 : decode cL_law 555 = .ok (.iconst 0, 1) := by decide +kernel
theorem dL_law_556 : decode cL_law 556 = .ok (.ireturn, 1) := by decide +kernel
theorem dL_law_557 : decode cL_law 557 = .ok (.goto 987, 3) := by decide +kernel
theorem dL_law_560 : decode cL_law 560 = .ok (.aload_n 1, 1) := by decide +kernel
theorem dL_law_561 : decode cL_law 561 = .ok (.aload_n 0, 1) := by decide +kernel
theorem dL_law_562 : decode cL_law 562 = .ok (.iload 4, 2) := by decide +kernel
theorem dL_law_564 : decode cL_law 564 = .ok (.iconst 1, 1) := by decide +kernel
theorem dL_law_565 : decode cL_law 565 = .ok (.iadd, 1) := by decide +kernel
theorem dL_law_566 : decode cL_law 566 = .ok (.iaload, 1) := by decide +kernel
theorem dL_law_567 : decode cL_law 567 = .ok (.aload_n 3, 1) := by decide +kernel
theorem dL_law_568 : decode cL_law 568 = .ok (.invokestatic 107, 3) := by decide +kernel
theorem dL_law_571 : decode cL_law 571 = .ok (.istore 5, 2) := by decide +kernel
theorem dL_law_573 : decode cL_law 573 = .ok (.aload_n 2, 1) := by decide +kernel
theorem dL_law_574 : decode cL_law 574 = .ok (.aload_n 0, 1) := by decide +kernel
theorem dL_law_575 : decode cL_law 575 = .ok (.iload 4, 2) := by decide +kernel
theorem dL_law_577 : decode cL_law 577 = .ok (.iconst 1, 1) := by decide +kernel
theorem dL_law_578 : decode cL_law 578 = .ok (.iadd, 1) := by decide +kernel
theorem dL_law_579 : decode cL_law 579 = .ok (.iaload, 1) := by decide +kernel
theorem dL_law_580 : decode cL_law 580 = .ok (.invokevirtual 109, 3) := by decide +kernel
theorem dL_law_583 : decode cL_law 583 = .ok (.istore 6, 2) := by decide +kernel
theorem dL_law_585 : decode cL_law 585 = .ok (.aload_n 2, 1) := by decide +kernel
theorem dL_law_586 : decode cL_law 586 = .ok (.invokevirtual 88, 3) := by decide +kernel
theorem dL_law_589 : decode cL_law 589 = .ok (.iload 5, 2) := by decide +kernel
theorem dL_law_591 : decode cL_law 591 = .ok (.if_icmp .eq 5, 3) := by decide +kernel
theorem dL_law_594 : decode cL_law 594 = .ok (.iconst 0, 1) := by decide +kernel
theorem dL_law_595 : decode cL_law 595 = .ok (.ireturn, 1) := by decide +kernel
theorem dL_law_596 : decode cL_law 596 = .ok (.iload 5, 2) := by decide +kernel
theorem dL_law_598 : decode cL_law 598 = .ok (.ifCond .ne 15, 3) := by decide +kernel
theorem dL_law_601 : decode cL_law 601 = .ok (.aload_n 3, 1) := by decide +kernel
theorem dL_law_602 : decode cL_law 602 = .ok (.iconst 0, 1) := by decide +kernel
theorem dL_law_603 : decode cL_law 603 = .ok (.laload, 1) := by decide +kernel
theorem dL_law_604 : decode cL_law 604 = .ok (.iload 6, 2) := by decide +kernel
theorem dL_law_606 : decode cL_law 606 = .ok (.i2l, 1) := by decide +kernel
theorem dL_law_607 : decode cL_law 607 = .ok (.lcmp, 1) := by decide +kernel
theorem dL_law_608 : decode cL_law 608 = .ok (.ifCond .eq 5, 3) := by decide +kernel
theorem dL_law_611 : decode cL_law 611 = .ok (.iconst 0, 1) := by decide +kernel
theorem dL_law_612 : decode cL_law 612 = .ok (.ireturn, 1) := by decide +kernel
theorem dL_law_613 : decode cL_law 613 = .ok (.goto 931, 3) := by decide +kernel
theorem dL_law_616 : decode cL_law 616 = .ok (.aload_n 1, 1) := by decide +kernel
theorem dL_law_617 : decode cL_law 617 = .ok (.aload_n 0, 1) := by decide +kernel
theorem dL_law_618 : decode cL_law 618 = .ok (.iload 4, 2) := by decide +kernel
theorem dL_law_620 : decode cL_law 620 = .ok (.iconst 1, 1) := by decide +kernel
theorem dL_law_621 : decode cL_law 621 = .ok (.iadd, 1) := by decide +kernel
theorem dL_law_622 : decode cL_law 622 = .ok (.iaload, 1) := by decide +kernel
theorem dL_law_623 : decode cL_law 623 = .ok (.aload_n 3, 1) := by decide +kernel
theorem dL_law_624 : decode cL_law 624 = .ok (.invokestatic 110, 3) := by decide +kernel
theorem dL_law_627 : decode cL_law 627 = .ok (.istore 5, 2) := by decide +kernel
theorem dL_law_629 : decode cL_law 629 = .ok (.aload_n 2, 1) := by decide +kernel
theorem dL_law_630 : decode cL_law 630 = .ok (.aload_n 0, 1) := by decide +kernel
theorem dL_law_631 : decode cL_law 631 = .ok (.iload 4, 2) := by decide +kernel
theorem dL_law_633 : decode cL_law 633 = .ok (.iconst 1, 1) := by decide +kernel
theorem dL_law_634 : decode cL_law 634 = .ok (.iadd, 1) := by decide +kernel
theorem dL_law_635 : decode cL_law 635 = .ok (.iaload, 1) := by decide +kernel
theorem dL_law_636 : decode cL_law 636 = .ok (.invokevirtual 112, 3) := by decide +kernel
theorem dL_law_639 : decode cL_law 639 = .ok (.istore 6, 2) := by decide +kernel
theorem dL_law_641 : decode cL_law 641 = .ok (.aload_n 2, 1) := by decide +kernel
theorem dL_law_642 : decode cL_law 642 = .ok (.invokevirtual 88, 3) := by decide +kernel
theorem dL_law_645 : decode cL_law 645 = .ok (.iload 5, 2) := by decide +kernel
theorem dL_law_647 : decode cL_law 647 = .ok (.if_icmp .eq 5, 3) := by decide +kernel
theorem dL_law_650 : decode cL_law 650 = .ok (.iconst 0, 1) := by decide +kernel
theorem dL_law_651 : decode cL_law 651 = .ok (.ireturn, 1) := by decide +kernel
theorem dL_law_652 : decode cL_law 652 = .ok (.iload 5, 2) := by decide +kernel
theorem dL_law_654 : decode cL_law 654 = .ok (.ifCond .ne 15, 3) := by decide +kernel
theorem dL_law_657 : decode cL_law 657 = .ok (.aload_n 3, 1) := by decide +kernel
theorem dL_law_658 : decode cL_law 658 = .ok (.iconst 0, 1) := by decide +kernel
theorem dL_law_659 : decode cL_law 659 = .ok (.laload, 1) := by decide +kernel
theorem dL_law_660 : decode cL_law 660 = .ok (.iload 6, 2) := by decide +kernel
theorem dL_law_662 : decode cL_law 662 = .ok (.i2l, 1) := by decide +kernel
theorem dL_law_663 : decode cL_law 663 = .ok (.lcmp, 1) := by decide +kernel
theorem dL_law_664 : decode cL_law 664 = .ok (.ifCond .eq 5, 3) := by decide +kernel
theorem dL_law_667 : decode cL_law 667 = .ok (.iconst 0, 1) := by decide +kernel
theorem dL_law_668 : decode cL_law 668 = .ok (.ireturn, 1) := by decide +kernel
theorem dL_law_669 : decode cL_law 669 = .ok (.goto 875, 3) := by decide +kernel
theorem dL_law_672 : decode cL_law 672 = .ok (.aload_n 1, 1) := by decide +kernel
theorem dL_law_673 : decode cL_law 673 = .ok (.aload_n 0, 1) := by decide +kernel
theorem dL_law_674 : decode cL_law 674 = .ok (.iload 4, 2) := by decide +kernel
theorem dL_law_676 : decode cL_law 676 = .ok (.iconst 1, 1) := by decide +kernel
theorem dL_law_677 : decode cL_law 677 = .ok (.iadd, 1) := by decide +kernel
theorem dL_law_678 : decode cL_law 678 = .ok (.iaload, 1) := by decide +kernel
theorem dL_law_679 : decode cL_law 679 = .ok (.aload_n 0, 1) := by decide +kernel
theorem dL_law_680 : decode cL_law 680 = .ok (.iload 4, 2) := by decide +kernel
theorem dL_law_682 : decode cL_law 682 = .ok (.iconst 2, 1) := by decide +kernel
theorem dL_law_683 : decode cL_law 683 = .ok (.iadd, 1) := by decide +kernel
theorem dL_law_684 : decode cL_law 684 = .ok (.iaload, 1) := by decide +kernel
theorem dL_law_685 : decode cL_law 685 = .ok (.aload_n 0, 1) := by decide +kernel
theorem dL_law_686 : decode cL_law 686 = .ok (.iload 4, 2) := by decide +kernel
theorem dL_law_688 : decode cL_law 688 = .ok (.iconst 3, 1) := by decide +kernel
theorem dL_law_689 : decode cL_law 689 = .ok (.iadd, 1) := by decide +kernel
theorem dL_law_690 : decode cL_law 690 = .ok (.iaload, 1) := by decide +kernel
theorem dL_law_691 : decode cL_law 691 = .ok (.aload_n 3, 1) := by decide +kernel
theorem dL_law_692 : decode cL_law 692 = .ok (.invokestatic 113, 3) := by decide +kernel
theorem dL_law_695 : decode cL_law 695 = .ok (.istore 5, 2) := by decide +kernel
theorem dL_law_697 : decode cL_law 697 = .ok (.aload_n 2, 1) := by decide +kernel
theorem dL_law_698 : decode cL_law 698 = .ok (.aload_n 0, 1) := by decide +kernel
theorem dL_law_699 : decode cL_law 699 = .ok (.iload 4, 2) := by decide +kernel
theorem dL_law_701 : decode cL_law 701 = .ok (.iconst 1, 1) := by decide +kernel
theorem dL_law_702 : decode cL_law 702 = .ok (.iadd, 1) := by decide +kernel
theorem dL_law_703 : decode cL_law 703 = .ok (.iaload, 1) := by decide +kernel
theorem dL_law_704 : decode cL_law 704 = .ok (.aload_n 0, 1) := by decide +kernel
theorem dL_law_705 : decode cL_law 705 = .ok (.iload 4, 2) := by decide +kernel
theorem dL_law_707 : decode cL_law 707 = .ok (.iconst 2, 1) := by decide +kernel
theorem dL_law_708 : decode cL_law 708 = .ok (.iadd, 1) := by decide +kernel
theorem dL_law_709 : decode cL_law 709 = .ok (.iaload, 1) := by decide +kernel
theorem dL_law_710 : decode cL_law 710 = .ok (.aload_n 0, 1) := by decide +kernel
theorem dL_law_711 : decode cL_law 711 = .ok (.iload 4, 2) := by decide +kernel
theorem dL_law_713 : decode cL_law 713 = .ok (.iconst 3, 1) := by decide +kernel
theorem dL_law_714 : decode cL_law 714 = .ok (.iadd, 1) := by decide +kernel
theorem dL_law_715 : decode cL_law 715 = .ok (.iaload, 1) := by decide +kernel
theorem dL_law_716 : decode cL_law 716 = .ok (.invokevirtual 115, 3) := by decide +kernel
theorem dL_law_719 : decode cL_law 719 = .ok (.istore 6, 2) := by decide +kernel
theorem dL_law_721 : decode cL_law 721 = .ok (.aload_n 2, 1) := by decide +kernel
theorem dL_law_722 : decode cL_law 722 = .ok (.invokevirtual 88, 3) := by decide +kernel
theorem dL_law_725 : decode cL_law 725 = .ok (.iload 5, 2) := by decide +kernel
theorem dL_law_727 : decode cL_law 727 = .ok (.if_icmp .eq 5, 3) := by decide +kernel
theorem dL_law_730 : decode cL_law 730 = .ok (.iconst 0, 1) := by decide +kernel
theorem dL_law_731 : decode cL_law 731 = .ok (.ireturn, 1) := by decide +kernel
theorem dL_law_732 : decode cL_law 732 = .ok (.iload 5, 2) := by decide +kernel
theorem dL_law_734 : decode cL_law 734 = .ok (.ifCond .ne 15, 3) := by decide +kernel
theorem dL_law_737 : decode cL_law 737 = .ok (.aload_n 3, 1) := by decide +kernel
theorem dL_law_738 : decode cL_law 738 = .ok (.iconst 0, 1) := by decide +kernel
theorem dL_law_739 : decode cL_law 739 = .ok (.laload, 1) := by decide +kernel
theorem dL_law_740 : decode cL_law 740 = .ok (.iload 6, 2) := by decide +kernel
theorem dL_law_742 : decode cL_law 742 = .ok (.i2l, 1) := by decide +kernel
theorem dL_law_743 : decode cL_law 743 = .ok (.lcmp, 1) := by decide +kernel
theorem dL_law_744 : decode cL_law 744 = .ok (.ifCond .eq 5, 3) := by decide +kernel
theorem dL_law_747 : decode cL_law 747 = .ok (.iconst 0, 1) := by decide +kernel
theorem dL_law_748 : decode cL_law 748 = .ok (.ireturn, 1) := by decide +kernel
theorem dL_law_749 : decode cL_law 749 = .ok (.goto 795, 3) := by decide +kernel
theorem dL_law_752 : decode cL_law 752 = .ok (.aload_n 1, 1) := by decide +kernel
theorem dL_law_753 : decode cL_law 753 = .ok (.aload_n 0, 1) := by decide +kernel
theorem dL_law_754 : decode cL_law 754 = .ok (.iload 4, 2) := by decide +kernel
theorem dL_law_756 : decode cL_law 756 = .ok (.iconst 1, 1) := by decide +kernel
theorem dL_law_757 : decode cL_law 757 = .ok (.iadd, 1) := by decide +kernel
theorem dL_law_758 : decode cL_law 758 = .ok (.iaload, 1) := by decide +kernel
theorem dL_law_759 : decode cL_law 759 = .ok (.aload_n 0, 1) := by decide +kernel
theorem dL_law_760 : decode cL_law 760 = .ok (.iload 4, 2) := by decide +kernel
theorem dL_law_762 : decode cL_law 762 = .ok (.iconst 2, 1) := by decide +kernel
theorem dL_law_763 : decode cL_law 763 = .ok (.iadd, 1) := by decide +kernel
theorem dL_law_764 : decode cL_law 764 = .ok (.iaload, 1) := by decide +kernel
theorem dL_law_765 : decode cL_law 765 = .ok (.aload_n 3, 1) := by decide +kernel
theorem dL_law_766 : decode cL_law 766 = .ok (.invokestatic 116, 3) := by decide +kernel
theorem dL_law_769 : decode cL_law 769 = .ok (.istore 5, 2) := by decide +kernel
theorem dL_law_771 : decode cL_law 771 = .ok (.aload_n 2, 1) := by decide +kernel
theorem dL_law_772 : decode cL_law 772 = .ok (.aload_n 0, 1) := by decide +kernel
theorem dL_law_773 : decode cL_law 773 = .ok (.iload 4, 2) := by decide +kernel
theorem dL_law_775 : decode cL_law 775 = .ok (.iconst 1, 1) := by decide +kernel
theorem dL_law_776 : decode cL_law 776 = .ok (.iadd, 1) := by decide +kernel
theorem dL_law_777 : decode cL_law 777 = .ok (.iaload, 1) := by decide +kernel
theorem dL_law_778 : decode cL_law 778 = .ok (.aload_n 0, 1) := by decide +kernel
theorem dL_law_779 : decode cL_law 779 = .ok (.iload 4, 2) := by decide +kernel
theorem dL_law_781 : decode cL_law 781 = .ok (.iconst 2, 1) := by decide +kernel
theorem dL_law_782 : decode cL_law 782 = .ok (.iadd, 1) := by decide +kernel
theorem dL_law_783 : decode cL_law 783 = .ok (.iaload, 1) := by decide +kernel
theorem dL_law_784 : decode cL_law 784 = .ok (.invokevirtual 119, 3) := by decide +kernel
theorem dL_law_787 : decode cL_law 787 = .ok (.istore 6, 2) := by decide +kernel
theorem dL_law_789 : decode cL_law 789 = .ok (.aload_n 2, 1) := by decide +kernel
theorem dL_law_790 : decode cL_law 790 = .ok (.invokevirtual 88, 3) := by decide +kernel
theorem dL_law_793 : decode cL_law 793 = .ok (.iload 5, 2) := by decide +kernel
theorem dL_law_795 : decode cL_law 795 = .ok (.if_icmp .eq 5, 3) := by decide +kernel
theorem dL_law_798 : decode cL_law 798 = .ok (.iconst 0, 1) := by decide +kernel
theorem dL_law_799 : decode cL_law 799 = .ok (.ireturn, 1) := by decide +kernel
theorem dL_law_800 : decode cL_law 800 = .ok (.iload 5, 2) := by decide +kernel
theorem dL_law_802 : decode cL_law 802 = .ok (.ifCond .ne 15, 3) := by decide +kernel
theorem dL_law_805 : decode cL_law 805 = .ok (.aload_n 3, 1) := by decide +kernel
theorem dL_law_806 : decode cL_law 806 = .ok (.iconst 0, 1) := by decide +kernel
theorem dL_law_807 : decode cL_law 807 = .ok (.laload, 1) := by decide +kernel
theorem dL_law_808 : decode cL_law 808 = .ok (.iload 6, 2) := by decide +kernel
theorem dL_law_810 : decode cL_law 810 = .ok (.i2l, 1) := by decide +kernel
theorem dL_law_811 : decode cL_law 811 = .ok (.lcmp, 1) := by decide +kernel
theorem dL_law_812 : decode cL_law 812 = .ok (.ifCond .eq 5, 3) := by decide +kernel
theorem dL_law_815 : decode cL_law 815 = .ok (.iconst 0, 1) := by decide +kernel
theorem dL_law_816 : decode cL_law 816 = .ok (.ireturn, 1) := by decide +kernel
theorem dL_law_817 : decode cL_law 817 = .ok (.goto 727, 3) := by decide +kernel
theorem dL_law_820 : decode cL_law 820 = .ok (.aload_n 1, 1) := by decide +kernel
theorem dL_law_821 : decode cL_law 821 = .ok (.aload_n 0, 1) := by decide +kernel
theorem dL_law_822 : decode cL_law 822 = .ok (.iload 4, 2) := by decide +kernel
theorem dL_law_824 : decode cL_law 824 = .ok (.iconst 1, 1) := by decide +kernel
theorem dL_law_825 : decode cL_law 825 = .ok (.iadd, 1) := by decide +kernel
theorem dL_law_826 : decode cL_law 826 = .ok (.iaload, 1) := by decide +kernel
theorem dL_law_827 : decode cL_law 827 = .ok (.aload_n 0, 1) := by decide +kernel
theorem dL_law_828 : decode cL_law 828 = .ok (.iload 4, 2) := by decide +kernel
theorem dL_law_830 : decode cL_law 830 = .ok (.iconst 2, 1) := by decide +kernel
theorem dL_law_831 : decode cL_law 831 = .ok (.iadd, 1) := by decide +kernel
theorem dL_law_832 : decode cL_law 832 = .ok (.iaload, 1) := by decide +kernel
theorem dL_law_833 : decode cL_law 833 = .ok (.aload_n 0, 1) := by decide +kernel
theorem dL_law_834 : decode cL_law 834 = .ok (.iload 4, 2) := by decide +kernel
theorem dL_law_836 : decode cL_law 836 = .ok (.iconst 3, 1) := by decide +kernel
theorem dL_law_837 : decode cL_law 837 = .ok (.iadd, 1) := by decide +kernel
theorem dL_law_838 : decode cL_law 838 = .ok (.iaload, 1) := by decide +kernel
theorem dL_law_839 : decode cL_law 839 = .ok (.aload_n 3, 1) := by decide +kernel
theorem dL_law_840 : decode cL_law 840 = .ok (.invokestatic 120, 3) := by decide +kernel
theorem dL_law_843 : decode cL_law 843 = .ok (.istore 5, 2) := by decide +kernel
theorem dL_law_845 : decode cL_law 845 = .ok (.aload_n 2, 1) := by decide +kernel
theorem dL_law_846 : decode cL_law 846 = .ok (.aload_n 0, 1) := by decide +kernel
theorem dL_law_847 : decode cL_law 847 = .ok (.iload 4, 2) := by decide +kernel
theorem dL_law_849 : decode cL_law 849 = .ok (.iconst 1, 1) := by decide +kernel
theorem dL_law_850 : decode cL_law 850 = .ok (.iadd, 1) := by decide +kernel
theorem dL_law_851 : decode cL_law 851 = .ok (.iaload, 1) := by decide +kernel
theorem dL_law_852 : decode cL_law 852 = .ok (.aload_n 0, 1) := by decide +kernel
theorem dL_law_853 : decode cL_law 853 = .ok (.iload 4, 2) := by decide +kernel
theorem dL_law_855 : decode cL_law 855 = .ok (.iconst 2, 1) := by decide +kernel
theorem dL_law_856 : decode cL_law 856 = .ok (.iadd, 1) := by decide +kernel
theorem dL_law_857 : decode cL_law 857 = .ok (.iaload, 1) := by decide +kernel
theorem dL_law_858 : decode cL_law 858 = .ok (.aload_n 0, 1) := by decide +kernel
theorem dL_law_859 : decode cL_law 859 = .ok (.iload 4, 2) := by decide +kernel
theorem dL_law_861 : decode cL_law 861 = .ok (.iconst 3, 1) := by decide +kernel
theorem dL_law_862 : decode cL_law 862 = .ok (.iadd, 1) := by decide +kernel
theorem dL_law_863 : decode cL_law 863 = .ok (.iaload, 1) := by decide +kernel
theorem dL_law_864 : decode cL_law 864 = .ok (.invokevirtual 122, 3) := by decide +kernel
theorem dL_law_867 : decode cL_law 867 = .ok (.istore 6, 2) := by decide +kernel
theorem dL_law_869 : decode cL_law 869 = .ok (.aload_n 2, 1) := by decide +kernel
theorem dL_law_870 : decode cL_law 870 = .ok (.invokevirtual 88, 3) := by decide +kernel
theorem dL_law_873 : decode cL_law 873 = .ok (.iload 5, 2) := by decide +kernel
theorem dL_law_875 : decode cL_law 875 = .ok (.if_icmp .eq 5, 3) := by decide +kernel
theorem dL_law_878 : decode cL_law 878 = .ok (.iconst 0, 1) := by decide +kernel
theorem dL_law_879 : decode cL_law 879 = .ok (.ireturn, 1) := by decide +kernel
theorem dL_law_880 : decode cL_law 880 = .ok (.iload 5, 2) := by decide +kernel
theorem dL_law_882 : decode cL_law 882 = .ok (.ifCond .ne 15, 3) := by decide +kernel
theorem dL_law_885 : decode cL_law 885 = .ok (.aload_n 3, 1) := by decide +kernel
theorem dL_law_886 : decode cL_law 886 = .ok (.iconst 0, 1) := by decide +kernel
theorem dL_law_887 : decode cL_law 887 = .ok (.laload, 1) := by decide +kernel
theorem dL_law_888 : decode cL_law 888 = .ok (.iload 6, 2) := by decide +kernel
theorem dL_law_890 : decode cL_law 890 = .ok (.i2l, 1) := by decide +kernel
theorem dL_law_891 : decode cL_law 891 = .ok (.lcmp, 1) := by decide +kernel
theorem dL_law_892 : decode cL_law 892 = .ok (.ifCond .eq 5, 3) := by decide +kernel
theorem dL_law_895 : decode cL_law 895 = .ok (.iconst 0, 1) := by decide +kernel
theorem dL_law_896 : decode cL_law 896 = .ok (.ireturn, 1) := by decide +kernel
theorem dL_law_897 : decode cL_law 897 = .ok (.goto 647, 3) := by decide +kernel
theorem dL_law_900 : decode cL_law 900 = .ok (.aload_n 1, 1) := by decide +kernel
theorem dL_law_901 : decode cL_law 901 = .ok (.aload_n 0, 1) := by decide +kernel
theorem dL_law_902 : decode cL_law 902 = .ok (.iload 4, 2) := by decide +kernel
theorem dL_law_904 : decode cL_law 904 = .ok (.iconst 1, 1) := by decide +kernel
theorem dL_law_905 : decode cL_law 905 = .ok (.iadd, 1) := by decide +kernel
theorem dL_law_906 : decode cL_law 906 = .ok (.iaload, 1) := by decide +kernel
theorem dL_law_907 : decode cL_law 907 = .ok (.aload_n 0, 1) := by decide +kernel
theorem dL_law_908 : decode cL_law 908 = .ok (.iload 4, 2) := by decide +kernel
theorem dL_law_910 : decode cL_law 910 = .ok (.iconst 2, 1) := by decide +kernel
theorem dL_law_911 : decode cL_law 911 = .ok (.iadd, 1) := by decide +kernel
theorem dL_law_912 : decode cL_law 912 = .ok (.iaload, 1) := by decide +kernel
theorem dL_law_913 : decode cL_law 913 = .ok (.aload_n 3, 1) := by decide +kernel
theorem dL_law_914 : decode cL_law 914 = .ok (.invokestatic 123, 3) := by decide +kernel
theorem dL_law_917 : decode cL_law 917 = .ok (.istore 5, 2) := by decide +kernel
theorem dL_law_919 : decode cL_law 919 = .ok (.aload_n 2, 1) := by decide +kernel
theorem dL_law_920 : decode cL_law 920 = .ok (.aload_n 0, 1) := by decide +kernel
theorem dL_law_921 : decode cL_law 921 = .ok (.iload 4, 2) := by decide +kernel
theorem dL_law_923 : decode cL_law 923 = .ok (.iconst 1, 1) := by decide +kernel
theorem dL_law_924 : decode cL_law 924 = .ok (.iadd, 1) := by decide +kernel
theorem dL_law_925 : decode cL_law 925 = .ok (.iaload, 1) := by decide +kernel
theorem dL_law_926 : decode cL_law 926 = .ok (.aload_n 0, 1) := by decide +kernel
theorem dL_law_927 : decode cL_law 927 = .ok (.iload 4, 2) := by decide +kernel
theorem dL_law_929 : decode cL_law 929 = .ok (.iconst 2, 1) := by decide +kernel
theorem dL_law_930 : decode cL_law 930 = .ok (.iadd, 1) := by decide +kernel
theorem dL_law_931 : decode cL_law 931 = .ok (.iaload, 1) := by decide +kernel
theorem dL_law_932 : decode cL_law 932 = .ok (.invokevirtual 125, 3) := by decide +kernel
theorem dL_law_935 : decode cL_law 935 = .ok (.istore 6, 2) := by decide +kernel
theorem dL_law_937 : decode cL_law 937 = .ok (.aload_n 2, 1) := by decide +kernel
theorem dL_law_938 : decode cL_law 938 = .ok (.invokevirtual 88, 3) := by decide +kernel
theorem dL_law_941 : decode cL_law 941 = .ok (.iload 5, 2) := by decide +kernel
theorem dL_law_943 : decode cL_law 943 = .ok (.if_icmp .eq 5, 3) := by decide +kernel
theorem dL_law_946 : decode cL_law 946 = .ok (.iconst 0, 1) := by decide +kernel
theorem dL_law_947 : decode cL_law 947 = .ok (.ireturn, 1) := by decide +kernel
theorem dL_law_948 : decode cL_law 948 = .ok (.iload 5, 2) := by decide +kernel
theorem dL_law_950 : decode cL_law 950 = .ok (.ifCond .ne 15, 3) := by decide +kernel
theorem dL_law_953 : decode cL_law 953 = .ok (.aload_n 3, 1) := by decide +kernel
theorem dL_law_954 : decode cL_law 954 = .ok (.iconst 0, 1) := by decide +kernel
theorem dL_law_955 : decode cL_law 955 = .ok (.laload, 1) := by decide +kernel
theorem dL_law_956 : decode cL_law 956 = .ok (.iload 6, 2) := by decide +kernel
theorem dL_law_958 : decode cL_law 958 = .ok (.i2l, 1) := by decide +kernel
theorem dL_law_959 : decode cL_law 959 = .ok (.lcmp, 1) := by decide +kernel
theorem dL_law_960 : decode cL_law 960 = .ok (.ifCond .eq 5, 3) := by decide +kernel
theorem dL_law_963 : decode cL_law 963 = .ok (.iconst 0, 1) := by decide +kernel
theorem dL_law_964 : decode cL_law 964 = .ok (.ireturn, 1) := by decide +kernel
theorem dL_law_965 : decode cL_law 965 = .ok (.goto 579, 3) := by decide +kernel
theorem dL_law_968 : decode cL_law 968 = .ok (.aload_n 1, 1) := by decide +kernel
theorem dL_law_969 : decode cL_law 969 = .ok (.aload_n 0, 1) := by decide +kernel
theorem dL_law_970 : decode cL_law 970 = .ok (.iload 4, 2) := by decide +kernel
theorem dL_law_972 : decode cL_law 972 = .ok (.iconst 1, 1) := by decide +kernel
theorem dL_law_973 : decode cL_law 973 = .ok (.iadd, 1) := by decide +kernel
theorem dL_law_974 : decode cL_law 974 = .ok (.iaload, 1) := by decide +kernel
theorem dL_law_975 : decode cL_law 975 = .ok (.aload_n 0, 1) := by decide +kernel
theorem dL_law_976 : decode cL_law 976 = .ok (.iload 4, 2) := by decide +kernel
theorem dL_law_978 : decode cL_law 978 = .ok (.iconst 2, 1) := by decide +kernel
theorem dL_law_979 : decode cL_law 979 = .ok (.iadd, 1) := by decide +kernel
theorem dL_law_980 : decode cL_law 980 = .ok (.iaload, 1) := by decide +kernel
theorem dL_law_981 : decode cL_law 981 = .ok (.aload_n 3, 1) := by decide +kernel
theorem dL_law_982 : decode cL_law 982 = .ok (.invokestatic 126, 3) := by decide +kernel
theorem dL_law_985 : decode cL_law 985 = .ok (.istore 5, 2) := by decide +kernel
theorem dL_law_987 : decode cL_law 987 = .ok (.aload_n 2, 1) := by decide +kernel
theorem dL_law_988 : decode cL_law 988 = .ok (.aload_n 0, 1) := by decide +kernel
theorem dL_law_989 : decode cL_law 989 = .ok (.iload 4, 2) := by decide +kernel
theorem dL_law_991 : decode cL_law 991 = .ok (.iconst 1, 1) := by decide +kernel
theorem dL_law_992 : decode cL_law 992 = .ok (.iadd, 1) := by decide +kernel
theorem dL_law_993 : decode cL_law 993 = .ok (.iaload, 1) := by decide +kernel
theorem dL_law_994 : decode cL_law 994 = .ok (.aload_n 0, 1) := by decide +kernel
theorem dL_law_995 : decode cL_law 995 = .ok (.iload 4, 2) := by decide +kernel
theorem dL_law_997 : decode cL_law 997 = .ok (.iconst 2, 1) := by decide +kernel
theorem dL_law_998 : decode cL_law 998 = .ok (.iadd, 1) := by decide +kernel
theorem dL_law_999 : decode cL_law 999 = .ok (.iaload, 1) := by decide +kernel
theorem dL_law_1000 : decode cL_law 1000 = .ok (.invokevirtual 128, 3) := by decide +kernel
theorem dL_law_1003 : decode cL_law 1003 = .ok (.istore 6, 2) := by decide +kernel
theorem dL_law_1005 : decode cL_law 1005 = .ok (.aload_n 2, 1) := by decide +kernel
theorem dL_law_1006 : decode cL_law 1006 = .ok (.invokevirtual 88, 3) := by decide +kernel
theorem dL_law_1009 : decode cL_law 1009 = .ok (.iload 5, 2) := by decide +kernel
theorem dL_law_1011 : decode cL_law 1011 = .ok (.if_icmp .eq 5, 3) := by decide +kernel
theorem dL_law_1014 : decode cL_law 1014 = .ok (.iconst 0, 1) := by decide +kernel
theorem dL_law_1015 : decode cL_law 1015 = .ok (.ireturn, 1) := by decide +kernel
theorem dL_law_1016 : decode cL_law 1016 = .ok (.iload 5, 2) := by decide +kernel
theorem dL_law_1018 : decode cL_law 1018 = .ok (.ifCond .ne 22, 3) := by decide +kernel
theorem dL_law_1021 : decode cL_law 1021 = .ok (.aload_n 3, 1) := by decide +kernel
theorem dL_law_1022 : decode cL_law 1022 = .ok (.iconst 0, 1) := by decide +kernel
theorem dL_law_1023 : decode cL_law 1023 = .ok (.laload, 1) := by decide +kernel
theorem dL_law_1024 : decode cL_law 1024 = .ok (.iload 6, 2) := by decide +kernel
theorem dL_law_1026 : decode cL_law 1026 = .ok (.ifCond .eq 7, 3) := by decide +kernel
theorem dL_law_1029 : decode cL_law 1029 = .ok (.lconst 1, 1) := by decide +kernel
theorem dL_law_1030 : decode cL_law 1030 = .ok (.goto 4, 3) := by decide +kernel
theorem dL_law_1033 : decode cL_law 1033 = .ok (.lconst 0, 1) := by decide +kernel
theorem dL_law_1034 : decode cL_law 1034 = .ok (.lcmp, 1) := by decide +kernel
theorem dL_law_1035 : decode cL_law 1035 = .ok (.ifCond .eq 5, 3) := by decide +kernel
theorem dL_law_1038 : decode cL_law 1038 = .ok (.iconst 0, 1) := by decide +kernel
theorem dL_law_1039 : decode cL_law 1039 = .ok (.ireturn, 1) := by decide +kernel
theorem dL_law_1040 : decode cL_law 1040 = .ok (.goto 504, 3) := by decide +kernel
theorem dL_law_1043 : decode cL_law 1043 = .ok (.aload_n 1, 1) := by decide +kernel
theorem dL_law_1044 : decode cL_law 1044 = .ok (.aload_n 0, 1) := by decide +kernel
theorem dL_law_1045 : decode cL_law 1045 = .ok (.iload 4, 2) := by decide +kernel
theorem dL_law_1047 : decode cL_law 1047 = .ok (.iconst 1, 1) := by decide +kernel
theorem dL_law_1048 : decode cL_law 1048 = .ok (.iadd, 1) := by decide +kernel
theorem dL_law_1049 : decode cL_law 1049 = .ok (.iaload, 1) := by decide +kernel
theorem dL_law_1050 : decode cL_law 1050 = .ok (.aload_n 3, 1) := by decide +kernel
theorem dL_law_1051 : decode cL_law 1051 = .ok (.invokestatic 129, 3) := by decide +kernel
theorem dL_law_1054 : decode cL_law 1054 = .ok (.istore 5, 2) := by decide +kernel
theorem dL_law_1056 : decode cL_law 1056 = .ok (.aload_n 2, 1) := by decide +kernel
theorem dL_law_1057 : decode cL_law 1057 = .ok (.aload_n 0, 1) := by decide +kernel
theorem dL_law_1058 : decode cL_law 1058 = .ok (.iload 4, 2) := by decide +kernel
theorem dL_law_1060 : decode cL_law 1060 = .ok (.iconst 1, 1) := by decide +kernel
theorem dL_law_1061 : decode cL_law 1061 = .ok (.iadd, 1) := by decide +kernel
theorem dL_law_1062 : decode cL_law 1062 = .ok (.iaload, 1) := by decide +kernel
theorem dL_law_1063 : decode cL_law 1063 = .ok (.invokevirtual 131, 3) := by decide +kernel
theorem dL_law_1066 : decode cL_law 1066 = .ok (.istore 6, 2) := by decide +kernel
theorem dL_law_1068 : decode cL_law 1068 = .ok (.aload_n 2, 1) := by decide +kernel
theorem dL_law_1069 : decode cL_law 1069 = .ok (.invokevirtual 88, 3) := by decide +kernel
theorem dL_law_1072 : decode cL_law 1072 = .ok (.iload 5, 2) := by decide +kernel
theorem dL_law_1074 : decode cL_law 1074 = .ok (.if_icmp .eq 5, 3) := by decide +kernel
theorem dL_law_1077 : decode cL_law 1077 = .ok (.iconst 0, 1) := by decide +kernel
theorem dL_law_1078 : decode cL_law 1078 = .ok (.ireturn, 1) := by decide +kernel
theorem dL_law_1079 : decode cL_law 1079 = .ok (.iload 5, 2) := by decide +kernel
theorem dL_law_1081 : decode cL_law 1081 = .ok (.ifCond .ne 15, 3) := by decide +kernel
theorem dL_law_1084 : decode cL_law 1084 = .ok (.aload_n 3, 1) := by decide +kernel
theorem dL_law_1085 : decode cL_law 1085 = .ok (.iconst 0, 1) := by decide +kernel
theorem dL_law_1086 : decode cL_law 1086 = .ok (.laload, 1) := by decide +kernel
theorem dL_law_1087 : decode cL_law 1087 = .ok (.iload 6, 2) := by decide +kernel
theorem dL_law_1089 : decode cL_law 1089 = .ok (.i2l, 1) := by decide +kernel
theorem dL_law_1090 : decode cL_law 1090 = .ok (.lcmp, 1) := by decide +kernel
theorem dL_law_1091 : decode cL_law 1091 = .ok (.ifCond .eq 5, 3) := by decide +kernel
theorem dL_law_1094 : decode cL_law 1094 = .ok (.iconst 0, 1) := by decide +kernel
theorem dL_law_1095 : decode cL_law 1095 = .ok (.ireturn, 1) := by decide +kernel
theorem dL_law_1096 : decode cL_law 1096 = .ok (.goto 448, 3) := by decide +kernel
theorem dL_law_1099 : decode cL_law 1099 = .ok (.aload_n 1, 1) := by decide +kernel
theorem dL_law_1100 : decode cL_law 1100 = .ok (.invokevirtual 132, 3) := by decide +kernel
theorem dL_law_1103 : decode cL_law 1103 = .ok (.aload_n 2, 1) := by decide +kernel
theorem dL_law_1104 : decode cL_law 1104 = .ok (.invokevirtual 135, 3) := by decide +kernel
theorem dL_law_1107 : decode cL_law 1107 = .ok (.if_icmp .eq 437, 3) := by decide +kernel
theorem dL_law_1110 : decode cL_law 1110 = .ok (.iconst 0, 1) := by decide +kernel
theorem dL_law_1111 : decode cL_law 1111 = .ok (.ireturn, 1) := by decide +kernel
theorem dL_law_1112 : decode cL_law 1112 = .ok (.aload_n 1, 1) := by decide +kernel
theorem dL_law_1113 : decode cL_law 1113 = .ok (.aload_n 0, 1) := by decide +kernel
theorem dL_law_1114 : decode cL_law 1114 = .ok (.iload 4, 2) := by decide +kernel
theorem dL_law_1116 : decode cL_law 1116 = .ok (.iconst 1, 1) := by decide +kernel
theorem dL_law_1117 : decode cL_law 1117 = .ok (.iadd, 1) := by decide +kernel
theorem dL_law_1118 : decode cL_law 1118 = .ok (.iaload, 1) := by decide +kernel
theorem dL_law_1119 : decode cL_law 1119 = .ok (.aload_n 0, 1) := by decide +kernel
theorem dL_law_1120 : decode cL_law 1120 = .ok (.iload 4, 2) := by decide +kernel
theorem dL_law_1122 : decode cL_law 1122 = .ok (.iconst 2, 1) := by decide +kernel
theorem dL_law_1123 : decode cL_law 1123 = .ok (.iadd, 1) := by decide +kernel
theorem dL_law_1124 : decode cL_law 1124 = .ok (.iaload, 1) := by decide +kernel
theorem dL_law_1125 : decode cL_law 1125 = .ok (.aload_n 0, 1) := by decide +kernel
theorem dL_law_1126 : decode cL_law 1126 = .ok (.iload 4, 2) := by decide +kernel
theorem dL_law_1128 : decode cL_law 1128 = .ok (.iconst 3, 1) := by decide +kernel
theorem dL_law_1129 : decode cL_law 1129 = .ok (.iadd, 1) := by decide +kernel
theorem dL_law_1130 : decode cL_law 1130 = .ok (.iaload, 1) := by decide +kernel
theorem dL_law_1131 : decode cL_law 1131 = .ok (.aload_n 0, 1) := by decide +kernel
theorem dL_law_1132 : decode cL_law 1132 = .ok (.iload 4, 2) := by decide +kernel
theorem dL_law_1134 : decode cL_law 1134 = .ok (.iconst 4, 1) := by decide +kernel
theorem dL_law_1135 : decode cL_law 1135 = .ok (.iadd, 1) := by decide +kernel
theorem dL_law_1136 : decode cL_law 1136 = .ok (.iaload, 1) := by decide +kernel
theorem dL_law_1137 : decode cL_law 1137 = .ok (.aload_n 3, 1) := by decide +kernel
theorem dL_law_1138 : decode cL_law 1138 = .ok (.invokestatic 136, 3) := by decide +kernel
theorem dL_law_1141 : decode cL_law 1141 = .ok (.istore 5, 2) := by decide +kernel
theorem dL_law_1143 : decode cL_law 1143 = .ok (.aload_n 2, 1) := by decide +kernel
theorem dL_law_1144 : decode cL_law 1144 = .ok (.aload_n 0, 1) := by decide +kernel
theorem dL_law_1145 : decode cL_law 1145 = .ok (.iload 4, 2) := by decide +kernel
theorem dL_law_1147 : decode cL_law 1147 = .ok (.iconst 1, 1) := by decide +kernel
theorem dL_law_1148 : decode cL_law 1148 = .ok (.iadd, 1) := by decide +kernel
theorem dL_law_1149 : decode cL_law 1149 = .ok (.iaload, 1) := by decide +kernel
theorem dL_law_1150 : decode cL_law 1150 = .ok (.aload_n 0, 1) := by decide +kernel
theorem dL_law_1151 : decode cL_law 1151 = .ok (.iload 4, 2) := by decide +kernel
theorem dL_law_1153 : decode cL_law 1153 = .ok (.iconst 2, 1) := by decide +kernel
theorem dL_law_1154 : decode cL_law 1154 = .ok (.iadd, 1) := by decide +kernel
theorem dL_law_1155 : decode cL_law 1155 = .ok (.iaload, 1) := by decide +kernel
theorem dL_law_1156 : decode cL_law 1156 = .ok (.aload_n 0, 1) := by decide +kernel
theorem dL_law_1157 : decode cL_law 1157 = .ok (.iload 4, 2) := by decide +kernel
theorem dL_law_1159 : decode cL_law 1159 = .ok (.iconst 3, 1) := by decide +kernel
theorem dL_law_1160 : decode cL_law 1160 = .ok (.iadd, 1) := by decide +kernel
theorem dL_law_1161 : decode cL_law 1161 = .ok (.iaload, 1) := by decide +kernel
theorem dL_law_1162 : decode cL_law 1162 = .ok (.aload_n 0, 1) := by decide +kernel
theorem dL_law_1163 : decode cL_law 1163 = .ok (.iload 4, 2) := by decide +kernel
theorem dL_law_1165 : decode cL_law 1165 = .ok (.iconst 4, 1) := by decide +kernel
theorem dL_law_1166 : decode cL_law 1166 = .ok (.iadd, 1) := by decide +kernel
theorem dL_law_1167 : decode cL_law 1167 = .ok (.iaload, 1) := by decide +kernel
theorem dL_law_1168 : decode cL_law 1168 = .ok (.invokevirtual 138, 3) := by decide +kernel
theorem dL_law_1171 : decode cL_law 1171 = .ok (.istore 6, 2) := by decide +kernel
theorem dL_law_1173 : decode cL_law 1173 = .ok (.aload_n 2, 1) := by decide +kernel
theorem dL_law_1174 : decode cL_law 1174 = .ok (.invokevirtual 88, 3) := by decide +kernel
theorem dL_law_1177 : decode cL_law 1177 = .ok (.iload 5, 2) := by decide +kernel
theorem dL_law_1179 : decode cL_law 1179 = .ok (.if_icmp .eq 5, 3) := by decide +kernel
theorem dL_law_1182 : decode cL_law 1182 = .ok (.iconst 0, 1) := by decide +kernel
theorem dL_law_1183 : decode cL_law 1183 = .ok (.ireturn, 1) := by decide +kernel
theorem dL_law_1184 : decode cL_law 1184 = .ok (.iload 5, 2) := by decide +kernel
theorem dL_law_1186 : decode cL_law 1186 = .ok (.ifCond .ne 15, 3) := by decide +kernel
theorem dL_law_1189 : decode cL_law 1189 = .ok (.aload_n 3, 1) := by decide +kernel
theorem dL_law_1190 : decode cL_law 1190 = .ok (.iconst 0, 1) := by decide +kernel
theorem dL_law_1191 : decode cL_law 1191 = .ok (.laload, 1) := by decide +kernel
theorem dL_law_1192 : decode cL_law 1192 = .ok (.iload 6, 2) := by decide +kernel
theorem dL_law_1194 : decode cL_law 1194 = .ok (.i2l, 1) := by decide +kernel
theorem dL_law_1195 : decode cL_law 1195 = .ok (.lcmp, 1) := by decide +kernel
theorem dL_law_1196 : decode cL_law 1196 = .ok (.ifCond .eq 5, 3) := by decide +kernel
theorem dL_law_1199 : decode cL_law 1199 = .ok (.iconst 0, 1) := by decide +kernel
theorem dL_law_1200 : decode cL_law 1200 = .ok (.ireturn, 1) := by decide +kernel
theorem dL_law_1201 : decode cL_law 1201 = .ok (.goto 343, 3) := by decide +kernel
theorem dL_law_1204 : decode cL_law 1204 = .ok (.aload_n 1, 1) := by decide +kernel
theorem dL_law_1205 : decode cL_law 1205 = .ok (.aload_n 0, 1) := by decide +kernel
theorem dL_law_1206 : decode cL_law 1206 = .ok (.iload 4, 2) := by decide +kernel
theorem dL_law_1208 : decode cL_law 1208 = .ok (.iconst 1, 1) := by decide +kernel
theorem dL_law_1209 : decode cL_law 1209 = .ok (.iadd, 1) := by decide +kernel
theorem dL_law_1210 : decode cL_law 1210 = .ok (.iaload, 1) := by decide +kernel
theorem dL_law_1211 : decode cL_law 1211 = .ok (.aload_n 0, 1) := by decide +kernel
theorem dL_law_1212 : decode cL_law 1212 = .ok (.iload 4, 2) := by decide +kernel
theorem dL_law_1214 : decode cL_law 1214 = .ok (.iconst 2, 1) := by decide +kernel
theorem dL_law_1215 : decode cL_law 1215 = .ok (.iadd, 1) := by decide +kernel
theorem dL_law_1216 : decode cL_law 1216 = .ok (.iaload, 1) := by decide +kernel
theorem dL_law_1217 : decode cL_law 1217 = .ok (.aload_n 0, 1) := by decide +kernel
theorem dL_law_1218 : decode cL_law 1218 = .ok (.iload 4, 2) := by decide +kernel
theorem dL_law_1220 : decode cL_law 1220 = .ok (.iconst 3, 1) := by decide +kernel
theorem dL_law_1221 : decode cL_law 1221 = .ok (.iadd, 1) := by decide +kernel
theorem dL_law_1222 : decode cL_law 1222 = .ok (.iaload, 1) := by decide +kernel
theorem dL_law_1223 : decode cL_law 1223 = .ok (.aload_n 3, 1) := by decide +kernel
theorem dL_law_1224 : decode cL_law 1224 = .ok (.invokestatic 139, 3) := by decide +kernel
theorem dL_law_1227 : decode cL_law 1227 = .ok (.istore 5, 2) := by decide +kernel
theorem dL_law_1229 : decode cL_law 1229 = .ok (.aload_n 2, 1) := by decide +kernel
theorem dL_law_1230 : decode cL_law 1230 = .ok (.aload_n 0, 1) := by decide +kernel
theorem dL_law_1231 : decode cL_law 1231 = .ok (.iload 4, 2) := by decide +kernel
theorem dL_law_1233 : decode cL_law 1233 = .ok (.iconst 1, 1) := by decide +kernel
theorem dL_law_1234 : decode cL_law 1234 = .ok (.iadd, 1) := by decide +kernel
theorem dL_law_1235 : decode cL_law 1235 = .ok (.iaload, 1) := by decide +kernel
theorem dL_law_1236 : decode cL_law 1236 = .ok (.aload_n 0, 1) := by decide +kernel
theorem dL_law_1237 : decode cL_law 1237 = .ok (.iload 4, 2) := by decide +kernel
theorem dL_law_1239 : decode cL_law 1239 = .ok (.iconst 2, 1) := by decide +kernel
theorem dL_law_1240 : decode cL_law 1240 = .ok (.iadd, 1) := by decide +kernel
theorem dL_law_1241 : decode cL_law 1241 = .ok (.iaload, 1) := by decide +kernel
theorem dL_law_1242 : decode cL_law 1242 = .ok (.aload_n 0, 1) := by decide +kernel
theorem dL_law_1243 : decode cL_law 1243 = .ok (.iload 4, 2) := by decide +kernel
theorem dL_law_1245 : decode cL_law 1245 = .ok (.iconst 3, 1) := by decide +kernel
theorem dL_law_1246 : decode cL_law 1246 = .ok (.iadd, 1) := by decide +kernel
theorem dL_law_1247 : decode cL_law 1247 = .ok (.iaload, 1) := by decide +kernel
theorem dL_law_1248 : decode cL_law 1248 = .ok (.invokevirtual 141, 3) := by decide +kernel
theorem dL_law_1251 : decode cL_law 1251 = .ok (.istore 6, 2) := by decide +kernel
theorem dL_law_1253 : decode cL_law 1253 = .ok (.aload_n 2, 1) := by decide +kernel
theorem dL_law_1254 : decode cL_law 1254 = .ok (.invokevirtual 88, 3) := by decide +kernel
theorem dL_law_1257 : decode cL_law 1257 = .ok (.iload 5, 2) := by decide +kernel
theorem dL_law_1259 : decode cL_law 1259 = .ok (.if_icmp .eq 5, 3) := by decide +kernel
theorem dL_law_1262 : decode cL_law 1262 = .ok (.iconst 0, 1) := by decide +kernel
theorem dL_law_1263 : decode cL_law 1263 = .ok (.ireturn, 1) := by decide +kernel
theorem dL_law_1264 : decode cL_law 1264 = .ok (.iload 5, 2) := by decide +kernel
theorem dL_law_1266 : decode cL_law 1266 = .ok (.ifCond .ne 15, 3) := by decide +kernel
theorem dL_law_1269 : decode cL_law 1269 = .ok (.aload_n 3, 1) := by decide +kernel
theorem dL_law_1270 : decode cL_law 1270 = .ok (.iconst 0, 1) := by decide +kernel
theorem dL_law_1271 : decode cL_law 1271 = .ok (.laload, 1) := by decide +kernel
theorem dL_law_1272 : decode cL_law 1272 = .ok (.iload 6, 2) := by decide +kernel
theorem dL_law_1274 : decode cL_law 1274 = .ok (.i2l, 1) := by decide +kernel
theorem dL_law_1275 : decode cL_law 1275 = .ok (.lcmp, 1) := by decide +kernel
theorem dL_law_1276 : decode cL_law 1276 = .ok (.ifCond .eq 5, 3) := by decide +kernel
theorem dL_law_1279 : decode cL_law 1279 = .ok (.iconst 0, 1) := by decide +kernel
theorem dL_law_1280 : decode cL_law 1280 = .ok (.ireturn, 1) := by decide +kernel
theorem dL_law_1281 : decode cL_law 1281 = .ok (.goto 263, 3) := by decide +kernel
theorem dL_law_1284 : decode cL_law 1284 = .ok (.aload_n 1, 1) := by decide +kernel
theorem dL_law_1285 : decode cL_law 1285 = .ok (.aload_n 0, 1) := by decide +kernel
theorem dL_law_1286 : decode cL_law 1286 = .ok (.iload 4, 2) := by decide +kernel
theorem dL_law_1288 : decode cL_law 1288 = .ok (.iconst 1, 1) := by decide +kernel
theorem dL_law_1289 : decode cL_law 1289 = .ok (.iadd, 1) := by decide +kernel
theorem dL_law_1290 : decode cL_law 1290 = .ok (.iaload, 1) := by decide +kernel
theorem dL_law_1291 : decode cL_law 1291 = .ok (.aload_n 3, 1) := by decide +kernel
theorem dL_law_1292 : decode cL_law 1292 = .ok (.invokestatic 142, 3) := by decide +kernel
theorem dL_law_1295 : decode cL_law 1295 = .ok (.istore 5, 2) := by decide +kernel
theorem dL_law_1297 : decode cL_law 1297 = .ok (.aload_n 2, 1) := by decide +kernel
theorem dL_law_1298 : decode cL_law 1298 = .ok (.aload_n 0, 1) := by decide +kernel
theorem dL_law_1299 : decode cL_law 1299 = .ok (.iload 4, 2) := by decide +kernel
theorem dL_law_1301 : decode cL_law 1301 = .ok (.iconst 1, 1) := by decide +kernel
theorem dL_law_1302 : decode cL_law 1302 = .ok (.iadd, 1) := by decide +kernel
theorem dL_law_1303 : decode cL_law 1303 = .ok (.iaload, 1) := by decide +kernel
theorem dL_law_1304 : decode cL_law 1304 = .ok (.invokevirtual 144, 3) := by decide +kernel
theorem dL_law_1307 : decode cL_law 1307 = .ok (.istore 6, 2) := by decide +kernel
theorem dL_law_1309 : decode cL_law 1309 = .ok (.aload_n 2, 1) := by decide +kernel
theorem dL_law_1310 : decode cL_law 1310 = .ok (.invokevirtual 88, 3) := by decide +kernel
theorem dL_law_1313 : decode cL_law 1313 = .ok (.iload 5, 2) := by decide +kernel
theorem dL_law_1315 : decode cL_law 1315 = .ok (.if_icmp .eq 5, 3) := by decide +kernel
theorem dL_law_1318 : decode cL_law 1318 = .ok (.iconst 0, 1) := by decide +kernel
theorem dL_law_1319 : decode cL_law 1319 = .ok (.ireturn, 1) := by decide +kernel
theorem dL_law_1320 : decode cL_law 1320 = .ok (.iload 5, 2) := by decide +kernel
theorem dL_law_1322 : decode cL_law 1322 = .ok (.ifCond .ne 15, 3) := by decide +kernel
theorem dL_law_1325 : decode cL_law 1325 = .ok (.aload_n 3, 1) := by decide +kernel
theorem dL_law_1326 : decode cL_law 1326 = .ok (.iconst 0, 1) := by decide +kernel
theorem dL_law_1327 : decode cL_law 1327 = .ok (.laload, 1) := by decide +kernel
theorem dL_law_1328 : decode cL_law 1328 = .ok (.iload 6, 2) := by decide +kernel
theorem dL_law_1330 : decode cL_law 1330 = .ok (.i2l, 1) := by decide +kernel
theorem dL_law_1331 : decode cL_law 1331 = .ok (.lcmp, 1) := by decide +kernel
theorem dL_law_1332 : decode cL_law 1332 = .ok (.ifCond .eq 5, 3) := by decide +kernel
theorem dL_law_1335 : decode cL_law 1335 = .ok (.iconst 0, 1) := by decide +kernel
theorem dL_law_1336 : decode cL_law 1336 = .ok (.ireturn, 1) := by decide +kernel
theorem dL_law_1337 : decode cL_law 1337 = .ok (.goto 207, 3) := by decide +kernel
theorem dL_law_1340 : decode cL_law 1340 = .ok (.aload_n 1, 1) := by decide +kernel
theorem dL_law_1341 : decode cL_law 1341 = .ok (.aload_n 0, 1) := by decide +kernel
theorem dL_law_1342 : decode cL_law 1342 = .ok (.iload 4, 2) := by decide +kernel
theorem dL_law_1344 : decode cL_law 1344 = .ok (.iconst 1, 1) := by decide +kernel
theorem dL_law_1345 : decode cL_law 1345 = .ok (.iadd, 1) := by decide +kernel
theorem dL_law_1346 : decode cL_law 1346 = .ok (.iaload, 1) := by decide +kernel
theorem dL_law_1347 : decode cL_law 1347 = .ok (.aload_n 0, 1) := by decide +kernel
theorem dL_law_1348 : decode cL_law 1348 = .ok (.iload 4, 2) := by decide +kernel
theorem dL_law_1350 : decode cL_law 1350 = .ok (.iconst 2, 1) := by decide +kernel
theorem dL_law_1351 : decode cL_law 1351 = .ok (.iadd, 1) := by decide +kernel
theorem dL_law_1352 : decode cL_law 1352 = .ok (.iaload, 1) := by decide +kernel
theorem dL_law_1353 : decode cL_law 1353 = .ok (.aload_n 3, 1) := by decide +kernel
theorem dL_law_1354 : decode cL_law 1354 = .ok (.invokestatic 145, 3) := by decide +kernel
theorem dL_law_1357 : decode cL_law 1357 = .ok (.istore 5, 2) := by decide +kernel
theorem dL_law_1359 : decode cL_law 1359 = .ok (.aload_n 2, 1) := by decide +kernel
theorem dL_law_1360 : decode cL_law 1360 = .ok (.aload_n 0, 1) := by decide +kernel
theorem dL_law_1361 : decode cL_law 1361 = .ok (.iload 4, 2) := by decide +kernel
theorem dL_law_1363 : decode cL_law 1363 = .ok (.iconst 1, 1) := by decide +kernel
theorem dL_law_1364 : decode cL_law 1364 = .ok (.iadd, 1) := by decide +kernel
theorem dL_law_1365 : decode cL_law 1365 = .ok (.iaload, 1) := by decide +kernel
theorem dL_law_1366 : decode cL_law 1366 = .ok (.aload_n 0, 1) := by decide +kernel
theorem dL_law_1367 : decode cL_law 1367 = .ok (.iload 4, 2) := by decide +kernel
theorem dL_law_1369 : decode cL_law 1369 = .ok (.iconst 2, 1) := by decide +kernel
theorem dL_law_1370 : decode cL_law 1370 = .ok (.iadd, 1) := by decide +kernel
theorem dL_law_1371 : decode cL_law 1371 = .ok (.iaload, 1) := by decide +kernel
theorem dL_law_1372 : decode cL_law 1372 = .ok (.invokevirtual 147, 3) := by decide +kernel
theorem dL_law_1375 : decode cL_law 1375 = .ok (.istore 6, 2) := by decide +kernel
theorem dL_law_1377 : decode cL_law 1377 = .ok (.aload_n 2, 1) := by decide +kernel
theorem dL_law_1378 : decode cL_law 1378 = .ok (.invokevirtual 88, 3) := by decide +kernel
theorem dL_law_1381 : decode cL_law 1381 = .ok (.iload 5, 2) := by decide +kernel
theorem dL_law_1383 : decode cL_law 1383 = .ok (.if_icmp .eq 5, 3) := by decide +kernel
theorem dL_law_1386 : decode cL_law 1386 = .ok (.iconst 0, 1) := by decide +kernel
theorem dL_law_1387 : decode cL_law 1387 = .ok (.ireturn, 1) := by decide +kernel
theorem dL_law_1388 : decode cL_law 1388 = .ok (.iload 5, 2) := by decide +kernel
theorem dL_law_1390 : decode cL_law 1390 = .ok (.ifCond .ne 15, 3) := by decide +kernel
theorem dL_law_1393 : decode cL_law 1393 = .ok (.aload_n 3, 1) := by decide +kernel
theorem dL_law_1394 : decode cL_law 1394 = .ok (.iconst 0, 1) := by decide +kernel
theorem dL_law_1395 : decode cL_law 1395 = .ok (.laload, 1) := by decide +kernel
theorem dL_law_1396 : decode cL_law 1396 = .ok (.iload 6, 2) := by decide +kernel
theorem dL_law_1398 : decode cL_law 1398 = .ok (.i2l, 1) := by decide +kernel
theorem dL_law_1399 : decode cL_law 1399 = .ok (.lcmp, 1) := by decide +kernel
theorem dL_law_1400 : decode cL_law 1400 = .ok (.ifCond .eq 5, 3) := by decide +kernel
theorem dL_law_1403 : decode cL_law 1403 = .ok (.iconst 0, 1) := by decide +kernel
theorem dL_law_1404 : decode cL_law 1404 = .ok (.ireturn, 1) := by decide +kernel
theorem dL_law_1405 : decode cL_law 1405 = .ok (.goto 139, 3) := by decide +kernel
theorem dL_law_1408 : decode cL_law 1408 = .ok (.aload_n 1, 1) := by decide +kernel
theorem dL_law_1409 : decode cL_law 1409 = .ok (.aload_n 0, 1) := by decide +kernel
theorem dL_law_1410 : decode cL_law 1410 = .ok (.iload 4, 2) := by decide +kernel
theorem dL_law_1412 : decode cL_law 1412 = .ok (.iconst 1, 1) := by decide +kernel
theorem dL_law_1413 : decode cL_law 1413 = .ok (.iadd, 1) := by decide +kernel
theorem dL_law_1414 : decode cL_law 1414 = .ok (.iaload, 1) := by decide +kernel
theorem dL_law_1415 : decode cL_law 1415 = .ok (.aload_n 0, 1) := by decide +kernel
theorem dL_law_1416 : decode cL_law 1416 = .ok (.iload 4, 2) := by decide +kernel
theorem dL_law_1418 : decode cL_law 1418 = .ok (.iconst 2, 1) := by decide +kernel
theorem dL_law_1419 : decode cL_law 1419 = .ok (.iadd, 1) := by decide +kernel
theorem dL_law_1420 : decode cL_law 1420 = .ok (.iaload, 1) := by decide +kernel
theorem dL_law_1421 : decode cL_law 1421 = .ok (.aload_n 3, 1) := by decide +kernel
theorem dL_law_1422 : decode cL_law 1422 = .ok (.invokestatic 148, 3) := by decide +kernel
theorem dL_law_1425 : decode cL_law 1425 = .ok (.istore 5, 2) := by decide +kernel
theorem dL_law_1427 : decode cL_law 1427 = .ok (.aload_n 2, 1) := by decide +kernel
theorem dL_law_1428 : decode cL_law 1428 = .ok (.aload_n 0, 1) := by decide +kernel
theorem dL_law_1429 : decode cL_law 1429 = .ok (.iload 4, 2) := by decide +kernel
theorem dL_law_1431 : decode cL_law 1431 = .ok (.iconst 1, 1) := by decide +kernel
theorem dL_law_1432 : decode cL_law 1432 = .ok (.iadd, 1) := by decide +kernel
theorem dL_law_1433 : decode cL_law 1433 = .ok (.iaload, 1) := by decide +kernel
theorem dL_law_1434 : decode cL_law 1434 = .ok (.aload_n 0, 1) := by decide +kernel
theorem dL_law_1435 : decode cL_law 1435 = .ok (.iload 4, 2) := by decide +kernel
theorem dL_law_1437 : decode cL_law 1437 = .ok (.iconst 2, 1) := by decide +kernel
theorem dL_law_1438 : decode cL_law 1438 = .ok (.iadd, 1) := by decide +kernel
theorem dL_law_1439 : decode cL_law 1439 = .ok (.iaload, 1) := by decide +kernel
theorem dL_law_1440 : decode cL_law 1440 = .ok (.invokevirtual 150, 3) := by decide +kernel
theorem dL_law_1443 : decode cL_law 1443 = .ok (.istore 6, 2) := by decide +kernel
theorem dL_law_1445 : decode cL_law 1445 = .ok (.aload_n 2, 1) := by decide +kernel
theorem dL_law_1446 : decode cL_law 1446 = .ok (.invokevirtual 88, 3) := by decide +kernel
theorem dL_law_1449 : decode cL_law 1449 = .ok (.iload 5, 2) := by decide +kernel
theorem dL_law_1451 : decode cL_law 1451 = .ok (.if_icmp .eq 5, 3) := by decide +kernel
theorem dL_law_1454 : decode cL_law 1454 = .ok (.iconst 0, 1) := by decide +kernel
theorem dL_law_1455 : decode cL_law 1455 = .ok (.ireturn, 1) := by decide +kernel
theorem dL_law_1456 : decode cL_law 1456 = .ok (.iload 5, 2) := by decide +kernel
theorem dL_law_1458 : decode cL_law 1458 = .ok (.ifCond .ne 15, 3) := by decide +kernel
theorem dL_law_1461 : decode cL_law 1461 = .ok (.aload_n 3, 1) := by decide +kernel
theorem dL_law_1462 : decode cL_law 1462 = .ok (.iconst 0, 1) := by decide +kernel
theorem dL_law_1463 : decode cL_law 1463 = .ok (.laload, 1) := by decide +kernel
theorem dL_law_1464 : decode cL_law 1464 = .ok (.iload 6, 2) := by decide +kernel
theorem dL_law_1466 : decode cL_law 1466 = .ok (.i2l, 1) := by decide +kernel
theorem dL_law_1467 : decode cL_law 1467 = .ok (.lcmp, 1) := by decide +kernel
theorem dL_law_1468 : decode cL_law 1468 = .ok (.ifCond .eq 5, 3) := by decide +kernel
theorem dL_law_1471 : decode cL_law 1471 = .ok (.iconst 0, 1) := by decide +kernel
theorem dL_law_1472 : decode cL_law 1472 = .ok (.ireturn, 1) := by decide +kernel
theorem dL_law_1473 : decode cL_law 1473 = .ok (.goto 71, 3) := by decide +kernel
theorem dL_law_1476 : decode cL_law 1476 = .ok (.aload_n 1, 1) := by decide +kernel
theorem dL_law_1477 : decode cL_law 1477 = .ok (.aload_n 0, 1) := by decide +kernel
theorem dL_law_1478 : decode cL_law 1478 = .ok (.iload 4, 2) := by decide +kernel
theorem dL_law_1480 : decode cL_law 1480 = .ok (.iconst 1, 1) := by decide +kernel
theorem dL_law_1481 : decode cL_law 1481 = .ok (.iadd, 1) := by decide +kernel
theorem dL_law_1482 : decode cL_law 1482 = .ok (.iaload, 1) := by decide +kernel
theorem dL_law_1483 : decode cL_law 1483 = .ok (.aload_n 0, 1) := by decide +kernel
theorem dL_law_1484 : decode cL_law 1484 = .ok (.iload 4, 2) := by decide +kernel
theorem dL_law_1486 : decode cL_law 1486 = .ok (.iconst 2, 1) := by decide +kernel
theorem dL_law_1487 : decode cL_law 1487 = .ok (.iadd, 1) := by decide +kernel
theorem dL_law_1488 : decode cL_law 1488 = .ok (.iaload, 1) := by decide +kernel
theorem dL_law_1489 : decode cL_law 1489 = .ok (.aload_n 3, 1) := by decide +kernel
theorem dL_law_1490 : decode cL_law 1490 = .ok (.invokestatic 151, 3) := by decide +kernel
theorem dL_law_1493 : decode cL_law 1493 = .ok (.istore 5, 2) := by decide +kernel
theorem dL_law_1495 : decode cL_law 1495 = .ok (.aload_n 2, 1) := by decide +kernel
theorem dL_law_1496 : decode cL_law 1496 = .ok (.aload_n 0, 1) := by decide +kernel
theorem dL_law_1497 : decode cL_law 1497 = .ok (.iload 4, 2) := by decide +kernel
theorem dL_law_1499 : decode cL_law 1499 = .ok (.iconst 1, 1) := by decide +kernel
theorem dL_law_1500 : decode cL_law 1500 = .ok (.iadd, 1) := by decide +kernel
theorem dL_law_1501 : decode cL_law 1501 = .ok (.iaload, 1) := by decide +kernel
theorem dL_law_1502 : decode cL_law 1502 = .ok (.aload_n 0, 1) := by decide +kernel
theorem dL_law_1503 : decode cL_law 1503 = .ok (.iload 4, 2) := by decide +kernel
theorem dL_law_1505 : decode cL_law 1505 = .ok (.iconst 2, 1) := by decide +kernel
theorem dL_law_1506 : decode cL_law 1506 = .ok (.iadd, 1) := by decide +kernel
theorem dL_law_1507 : decode cL_law 1507 = .ok (.iaload, 1) := by decide +kernel
theorem dL_law_1508 : decode cL_law 1508 = .ok (.invokevirtual 153, 3) := by decide +kernel
theorem dL_law_1511 : decode cL_law 1511 = .ok (.istore 6, 2) := by decide +kernel
theorem dL_law_1513 : decode cL_law 1513 = .ok (.aload_n 2, 1) := by decide +kernel
theorem dL_law_1514 : decode cL_law 1514 = .ok (.invokevirtual 88, 3) := by decide +kernel
theorem dL_law_1517 : decode cL_law 1517 = .ok (.iload 5, 2) := by decide +kernel
theorem dL_law_1519 : decode cL_law 1519 = .ok (.if_icmp .eq 5, 3) := by decide +kernel
theorem dL_law_1522 : decode cL_law 1522 = .ok (.iconst 0, 1) := by decide +kernel
theorem dL_law_1523 : decode cL_law 1523 = .ok (.ireturn, 1) := by decide +kernel
theorem dL_law_1524 : decode cL_law 1524 = .ok (.iload 5, 2) := by decide +kernel
theorem dL_law_1526 : decode cL_law 1526 = .ok (.ifCond .ne 15, 3) := by decide +kernel
theorem dL_law_1529 : decode cL_law 1529 = .ok (.aload_n 3, 1) := by decide +kernel
theorem dL_law_1530 : decode cL_law 1530 = .ok (.iconst 0, 1) := by decide +kernel
theorem dL_law_1531 : decode cL_law 1531 = .ok (.laload, 1) := by decide +kernel
theorem dL_law_1532 : decode cL_law 1532 = .ok (.iload 6, 2) := by decide +kernel
theorem dL_law_1534 : decode cL_law 1534 = .ok (.i2l, 1) := by decide +kernel
theorem dL_law_1535 : decode cL_law 1535 = .ok (.lcmp, 1) := by decide +kernel
theorem dL_law_1536 : decode cL_law 1536 = .ok (.ifCond .eq 5, 3) := by decide +kernel
theorem dL_law_1539 : decode cL_law 1539 = .ok (.iconst 0, 1) := by decide +kernel
theorem dL_law_1540 : decode cL_law 1540 = .ok (.ireturn, 1) := by decide +kernel
theorem dL_law_1541 : decode cL_law 1541 = .ok (.goto 3, 3) := by decide +kernel
theorem dL_law_1544 : decode cL_law 1544 = .ok (.iinc 4 5, 3) := by decide +kernel
theorem dL_law_1547 : decode cL_law 1547 = .ok (.goto (-1524), 3) := by decide +kernel
theorem dL_law_1550 : decode cL_law 1550 = .ok (.iconst 1, 1) := by decide +kernel
theorem dL_law_1551 : decode cL_law 1551 = .ok (.ireturn, 1) := by decide +kernel
