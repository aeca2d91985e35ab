set_option maxRecDepth 20000 in
theorem ggX5_isReady_J6_bitCount_0f7a4 : GoodIn wsX5_isReady wsJ6_bitCount_0f7a4 := goodIn_r _ [6, 7, 8, 9] (by decide +kernel) (by decide +kernel)
set_option maxRecDepth 20000 in
theorem gX5_isReady_J6_bitCount_0f7a4 : GoodIn wsX5_isReady (va_wsS RX5 126 yJ6_bitCount_0f7a4 wsJ6_bitCount_0f7a4) := goodIn_app (goodIn_of _ (by decide +kernel)) ggX5_isReady_J6_bitCount_0f7a4
set_option maxRecDepth 20000 in
theorem ggX5_keptShot_X5_keptShots : GoodIn wsX5_keptShot wsX5_keptShots := goodIn_r _ [7, 2, 8, 9, 10, 11, 16, 17, 18, 19, 20, 21, 22, 23, 24, 25, 26, 27, 28, 29, 30, 31, 32, 33, 34] (by decide +kernel) (by decide +kernel)
set_option maxRecDepth 20000 in
theorem gX5_keptShot_X5_keptShots : GoodIn wsX5_keptShot (wsV RX5 182 RX5 yX5_keptShots wsX5_keptShots) := goodIn_app (goodIn_of _ (by decide +kernel)) ggX5_keptShot_X5_keptShots
set_option maxRecDepth 20000 in
theorem ggX5_keptShot_J9_floorMod_7cf53 : GoodIn wsX5_keptShot wsJ9_floorMod_7cf53 := goodIn_r _ [15] (by decide +kernel) (by decide +kernel)
set_option maxRecDepth 20000 in
theorem gX5_keptShot_J9_floorMod_7cf53 : GoodIn wsX5_keptShot (va_wsS RX5 291 yJ9_floorMod_7cf53 wsJ9_floorMod_7cf53) := goodIn_app (goodIn_of _ (by decide +kernel)) ggX5_keptShot_J9_floorMod_7cf53
set_option maxRecDepth 20000 in
theorem ggX5_isShot_X5_keptShots : GoodIn wsX5_isShot wsX5_keptShots := goodIn_r _ [5, 6, 7, 8, 9, 10, 11, 12, 13, 14, 15, 16, 17, 18, 19, 20, 21, 22, 23, 24, 25, 26, 27, 28, 29] (by decide +kernel) (by decide +kernel)
set_option maxRecDepth 20000 in
theorem gX5_isShot_X5_keptShots : GoodIn wsX5_isShot (wsV RX5 182 RX5 yX5_keptShots wsX5_keptShots) := goodIn_app (goodIn_of _ (by decide +kernel)) ggX5_isShot_X5_keptShots
set_option maxRecDepth 20000 in
theorem ggX6_init_X6_clears : GoodIn wsX6_init wsX6_clears := goodIn_r _ [22, 23, 17, 24, 16, 41, 42, 43, 44, 45, 46, 47, 48, 49, 50, 51, 52, 53, 54, 55, 56, 57, 58, 59, 60, 61, 62, 63] (by decide +kernel) (by decide +kernel)
set_option maxRecDepth 20000 in
theorem gX6_init_X6_clears : GoodIn wsX6_init (wsV RX6 46 RX6 yX6_clears wsX6_clears) := goodIn_app (goodIn_of _ (by decide +kernel)) ggX6_init_X6_clears
set_option maxRecDepth 20000 in
theorem ggX6_init_X6_cavityOf : GoodIn wsX6_init wsX6_cavityOf := goodIn_r _ [28, 13, 23, 41, 42, 43, 44, 45, 46, 47, 48, 49, 50, 51, 52, 53, 54, 55, 56, 57, 58, 59, 60, 61, 62, 63] (by decide +kernel) (by decide +kernel)
set_option maxRecDepth 20000 in
theorem gX6_init_X6_cavityOf : GoodIn wsX6_init (wsV RX6 49 RX6 yX6_cavityOf wsX6_cavityOf) := goodIn_app (goodIn_of _ (by decide +kernel)) ggX6_init_X6_cavityOf
set_option maxRecDepth 20000 in
theorem ggX6_init_X6_stageOf : GoodIn wsX6_init wsX6_stageOf := goodIn_r _ [32, 15, 24, 41, 42, 43, 44, 45, 46, 47, 48, 49, 50, 51, 52, 53, 54, 55, 56, 57, 58, 59, 60, 61, 62, 63] (by decide +kernel) (by decide +kernel)
set_option maxRecDepth 20000 in
theorem gX6_init_X6_stageOf : GoodIn wsX6_init (wsV RX6 57 RX6 yX6_stageOf wsX6_stageOf) := goodIn_app (goodIn_of _ (by decide +kernel)) ggX6_init_X6_stageOf
set_option maxRecDepth 20000 in
theorem ggX6_init_X6_takes : GoodIn wsX6_init wsX6_takes := goodIn_r _ [36, 23, 37, 17, 38, 24, 39, 10, 6, 13, 7, 8, 14, 9, 15, 16, 40, 41, 42, 43, 44, 45, 46, 47, 48, 49, 50, 51, 52, 53, 54, 55, 56, 57, 58, 59, 60, 61, 62, 63] (by decide +kernel) (by decide +kernel)
set_option maxRecDepth 20000 in
theorem gX6_init_X6_takes : GoodIn wsX6_init (wsV RX6 61 RX6 yX6_takes wsX6_takes) := goodIn_app (goodIn_of _ (by decide +kernel)) ggX6_init_X6_takes
set_option maxRecDepth 20000 in
theorem ggX6_number_X6_letterAt : GoodIn wsX6_number wsX6_letterAt := goodIn_r _ [8, 9, 3, 13, 14, 15, 16, 17, 18, 19, 20, 21, 22, 23, 24, 25, 26, 27, 28, 29, 30, 31, 32, 33, 34, 35] (by decide +kernel) (by decide +kernel)
set_option maxRecDepth 20000 in
theorem gX6_number_X6_letterAt : GoodIn wsX6_number (wsV RX6 91 RX6 yX6_letterAt wsX6_letterAt) := goodIn_app (goodIn_of _ (by decide +kernel)) ggX6_number_X6_letterAt
set_option maxRecDepth 20000 in
theorem ggX6_number_X6_isIn : GoodIn wsX6_number wsX6_isIn := goodIn_r _ [12] (by decide +kernel) (by decide +kernel)
set_option maxRecDepth 20000 in
theorem gX6_number_X6_isIn : GoodIn wsX6_number (va_wsS RX6 95 yX6_isIn wsX6_isIn) := goodIn_app (goodIn_of _ (by decide +kernel)) ggX6_number_X6_isIn
set_option maxRecDepth 20000 in
theorem ggX6_more_X6_letterAt : GoodIn wsX6_more wsX6_letterAt := goodIn_r _ [6, 7, 8, 17, 18, 19, 20, 21, 22, 23, 24, 25, 26, 27, 28, 29, 30, 31, 32, 33, 34, 35, 36, 37, 38, 39] (by decide +kernel) (by decide +kernel)
set_option maxRecDepth 20000 in
theorem gX6_more_X6_letterAt : GoodIn wsX6_more (wsV RX6 91 RX6 yX6_letterAt wsX6_letterAt) := goodIn_app (goodIn_of _ (by decide +kernel)) ggX6_more_X6_letterAt
set_option maxRecDepth 20000 in
theorem ggX6_more_X6_number : GoodIn wsX6_more wsX6_number := goodIn_r _ [12, 13, 1, 8, 2, 3, 4, 5, 6, 7, 14, 15, 16, 17, 18, 19, 20, 21, 22, 23, 24, 25, 26, 27, 28, 29, 30, 31, 32, 33, 34, 35, 36, 37, 38, 39] (by decide +kernel) (by decide +kernel)
set_option maxRecDepth 20000 in
theorem gX6_more_X6_number : GoodIn wsX6_more (wsV RX6 99 RX6 yX6_number wsX6_number) := goodIn_app (goodIn_of _ (by decide +kernel)) ggX6_more_X6_number
set_option maxRecDepth 20000 in
theorem ggX6_readsCavity_X6_number : GoodIn wsX6_readsCavity wsX6_number := goodIn_r _ [7, 2, 8, 9, 10, 11, 12, 6, 13, 14, 15, 16, 17, 27, 28, 29, 30, 31, 32, 33, 34, 35, 36, 37, 38, 39, 40, 41, 42, 43, 44, 45, 46, 47, 48, 49] (by decide +kernel) (by decide +kernel)
set_option maxRecDepth 20000 in
theorem gX6_readsCavity_X6_number : GoodIn wsX6_readsCavity (wsV RX6 99 RX6 yX6_number wsX6_number) := goodIn_app (goodIn_of _ (by decide +kernel)) ggX6_readsCavity_X6_number
set_option maxRecDepth 20000 in
theorem ggX6_readsCavity_X6_more : GoodIn wsX6_readsCavity wsX6_more := goodIn_r _ [21, 8, 10, 11, 12, 6, 13, 14, 9, 3, 4, 5, 7, 2, 15, 16, 17, 27, 28, 29, 30, 31, 32, 33, 34, 35, 36, 37, 38, 39, 40, 41, 42, 43, 44, 45, 46, 47, 48, 49] (by decide +kernel) (by decide +kernel)
set_option maxRecDepth 20000 in
theorem gX6_readsCavity_X6_more : GoodIn wsX6_readsCavity (wsV RX6 102 RX6 yX6_more wsX6_more) := goodIn_app (goodIn_of _ (by decide +kernel)) ggX6_readsCavity_X6_more
set_option maxRecDepth 20000 in
theorem ggX6_readsCavity_X6_cavityOf : GoodIn wsX6_readsCavity wsX6_cavityOf := goodIn_r _ [25, 26, 1, 27, 28, 29, 30, 31, 32, 33, 34, 35, 36, 37, 38, 39, 40, 41, 42, 43, 44, 45, 46, 47, 48, 49] (by decide +kernel) (by decide +kernel)
set_option maxRecDepth 20000 in
theorem gX6_readsCavity_X6_cavityOf : GoodIn wsX6_readsCavity (wsV RX6 49 RX6 yX6_cavityOf wsX6_cavityOf) := goodIn_app (goodIn_of _ (by decide +kernel)) ggX6_readsCavity_X6_cavityOf
set_option maxRecDepth 20000 in
theorem ggX6_readsCore_X6_number : GoodIn wsX6_readsCore wsX6_number := goodIn_r _ [8, 2, 9, 10, 11, 12, 13, 7, 14, 15, 16, 17, 18, 19, 20, 21, 22, 23, 24, 25, 26, 27, 28, 29, 30, 31, 32, 33, 34, 35, 36, 37, 38, 39, 40, 41] (by decide +kernel) (by decide +kernel)
set_option maxRecDepth 20000 in
theorem gX6_readsCore_X6_number : GoodIn wsX6_readsCore (wsV RX6 99 RX6 yX6_number wsX6_number) := goodIn_app (goodIn_of _ (by decide +kernel)) ggX6_readsCore_X6_number
set_option maxRecDepth 20000 in
theorem ggX6_readsStage_X6_number : GoodIn wsX6_readsStage wsX6_number := goodIn_r _ [8, 3, 9, 10, 11, 12, 13, 7, 14, 15, 16, 17, 18, 27, 28, 29, 30, 31, 32, 33, 34, 35, 36, 37, 38, 39, 40, 41, 42, 43, 44, 45, 46, 47, 48, 49] (by decide +kernel) (by decide +kernel)
set_option maxRecDepth 20000 in
theorem gX6_readsStage_X6_number : GoodIn wsX6_readsStage (wsV RX6 99 RX6 yX6_number wsX6_number) := goodIn_app (goodIn_of _ (by decide +kernel)) ggX6_readsStage_X6_number
set_option maxRecDepth 20000 in
theorem ggX6_readsStage_X6_more : GoodIn wsX6_readsStage wsX6_more := goodIn_r _ [22, 9, 11, 12, 13, 7, 14, 15, 10, 4, 5, 6, 8, 3, 16, 17, 18, 27, 28, 29, 30, 31, 32, 33, 34, 35, 36, 37, 38, 39, 40, 41, 42, 43, 44, 45, 46, 47, 48, 49] (by decide +kernel) (by decide +kernel)
set_option maxRecDepth 20000 in
theorem gX6_readsStage_X6_more : GoodIn wsX6_readsStage (wsV RX6 102 RX6 yX6_more wsX6_more) := goodIn_app (goodIn_of _ (by decide +kernel)) ggX6_readsStage_X6_more
set_option maxRecDepth 20000 in
theorem ggX6_readsStage_X6_stageOf : GoodIn wsX6_readsStage wsX6_stageOf := goodIn_r _ [26, 2, 1, 27, 28, 29, 30, 31, 32, 33, 34, 35, 36, 37, 38, 39, 40, 41, 42, 43, 44, 45, 46, 47, 48, 49] (by decide +kernel) (by decide +kernel)
set_option maxRecDepth 20000 in
theorem gX6_readsStage_X6_stageOf : GoodIn wsX6_readsStage (wsV RX6 57 RX6 yX6_stageOf wsX6_stageOf) := goodIn_app (goodIn_of _ (by decide +kernel)) ggX6_readsStage_X6_stageOf
set_option maxRecDepth 20000 in
theorem ggX6_readsRules_X6_lowOf : GoodIn wsX6_readsRules wsX6_lowOf := goodIn_r _ [6] (by decide +kernel) (by decide +kernel)
set_option maxRecDepth 20000 in
theorem gX6_readsRules_X6_lowOf : GoodIn wsX6_readsRules (va_wsS RX6 106 yX6_lowOf wsX6_lowOf) := goodIn_app (goodIn_of _ (by decide +kernel)) ggX6_readsRules_X6_lowOf
set_option maxRecDepth 20000 in
theorem ggX6_readsRules_X6_highOf : GoodIn wsX6_readsRules wsX6_highOf := goodIn_r _ [9] (by decide +kernel) (by decide +kernel)
set_option maxRecDepth 20000 in
theorem gX6_readsRules_X6_highOf : GoodIn wsX6_readsRules (va_wsS RX6 109 yX6_highOf wsX6_highOf) := goodIn_app (goodIn_of _ (by decide +kernel)) ggX6_readsRules_X6_highOf
set_option maxRecDepth 20000 in
theorem ggX6_readsRules_X6_number : GoodIn wsX6_readsRules wsX6_number := goodIn_r _ [13, 2, 14, 15, 16, 17, 18, 5, 19, 20, 21, 22, 23, 28, 29, 30, 31, 32, 33, 34, 35, 36, 37, 38, 39, 40, 41, 42, 43, 44, 45, 46, 47, 48, 49, 50] (by decide +kernel) (by decide +kernel)
set_option maxRecDepth 20000 in
theorem gX6_readsRules_X6_number : GoodIn wsX6_readsRules (wsV RX6 99 RX6 yX6_number wsX6_number) := goodIn_app (goodIn_of _ (by decide +kernel)) ggX6_readsRules_X6_number
set_option maxRecDepth 20000 in
theorem ggX6_readsRules_X6_more : GoodIn wsX6_readsRules wsX6_more := goodIn_r _ [27, 14, 16, 17, 18, 5, 19, 20, 15, 10, 11, 12, 13, 2, 21, 22, 23, 28, 29, 30, 31, 32, 33, 34, 35, 36, 37, 38, 39, 40, 41, 42, 43, 44, 45, 46, 47, 48, 49, 50] (by decide +kernel) (by decide +kernel)
set_option maxRecDepth 20000 in
theorem gX6_readsRules_X6_more : GoodIn wsX6_readsRules (wsV RX6 102 RX6 yX6_more wsX6_more) := goodIn_app (goodIn_of _ (by decide +kernel)) ggX6_readsRules_X6_more
set_option maxRecDepth 20000 in
theorem ggX6_readsItem_X6_readsCavity : GoodIn wsX6_readsItem wsX6_readsCavity := goodIn_r _ [5, 6, 7, 8, 9, 10, 4, 11, 12, 13, 14, 15, 16, 17, 18, 19, 20, 21, 22, 23, 24, 25, 26, 27, 28, 29, 30, 58, 59, 60, 61, 62, 63, 64, 65, 66, 67, 68, 69, 70, 71, 72, 73, 74, 75, 76, 77, 78, 79, 80] (by decide +kernel) (by decide +kernel)
set_option maxRecDepth 20000 in
theorem gX6_readsItem_X6_readsCavity : GoodIn wsX6_readsItem (wsV RX6 112 RX6 yX6_readsCavity wsX6_readsCavity) := goodIn_app (goodIn_of _ (by decide +kernel)) ggX6_readsItem_X6_readsCavity
set_option maxRecDepth 20000 in
theorem ggX6_readsItem_X6_readsCore : GoodIn wsX6_readsItem wsX6_readsCore := goodIn_r _ [34, 35, 7, 36, 8, 9, 10, 4, 11, 12, 13, 14, 15, 16, 17, 18, 19, 20, 21, 58, 59, 60, 61, 62, 63, 64, 65, 66, 67, 68, 69, 70, 71, 72, 73, 74, 75, 76, 77, 78, 79, 80] (by decide +kernel) (by decide +kernel)
set_option maxRecDepth 20000 in
theorem gX6_readsItem_X6_readsCore : GoodIn wsX6_readsItem (wsV RX6 116 RX6 yX6_readsCore wsX6_readsCore) := goodIn_app (goodIn_of _ (by decide +kernel)) ggX6_readsItem_X6_readsCore
set_option maxRecDepth 20000 in
theorem ggX6_readsItem_X6_readsStage : GoodIn wsX6_readsItem wsX6_readsStage := goodIn_r _ [40, 41, 42, 7, 8, 9, 10, 4, 11, 12, 13, 14, 15, 16, 17, 18, 19, 20, 21, 22, 23, 24, 25, 43, 44, 45, 46, 58, 59, 60, 61, 62, 63, 64, 65, 66, 67, 68, 69, 70, 71, 72, 73, 74, 75, 76, 77, 78, 79, 80] (by decide +kernel) (by decide +kernel)
set_option maxRecDepth 20000 in
theorem gX6_readsItem_X6_readsStage : GoodIn wsX6_readsItem (wsV RX6 119 RX6 yX6_readsStage wsX6_readsStage) := goodIn_app (goodIn_of _ (by decide +kernel)) ggX6_readsItem_X6_readsStage
set_option maxRecDepth 20000 in
theorem ggX6_readsItem_X6_readsRules : GoodIn wsX6_readsItem wsX6_readsRules := goodIn_r _ [50, 51, 7, 52, 53, 4, 54, 55, 56, 57, 8, 9, 10, 11, 12, 13, 14, 15, 16, 17, 18, 19, 20, 21, 22, 23, 24, 25, 58, 59, 60, 61, 62, 63, 64, 65, 66, 67, 68, 69, 70, 71, 72, 73, 74, 75, 76, 77, 78, 79, 80] (by decide +kernel) (by decide +kernel)
set_option maxRecDepth 20000 in
theorem gX6_readsItem_X6_readsRules : GoodIn wsX6_readsItem (wsV RX6 122 RX6 yX6_readsRules wsX6_readsRules) := goodIn_app (goodIn_of _ (by decide +kernel)) ggX6_readsItem_X6_readsRules
set_option maxRecDepth 20000 in
theorem ggX6_reads_X6_clears : GoodIn wsX6_reads wsX6_clears := goodIn_r _ [8, 9, 10, 11, 12, 66, 67, 68, 69, 70, 71, 72, 73, 74, 75, 76, 77, 78, 79, 80, 81, 82, 83, 84, 85, 86, 87, 88] (by decide +kernel) (by decide +kernel)
set_option maxRecDepth 20000 in
theorem gX6_reads_X6_clears : GoodIn wsX6_reads (wsV RX6 46 RX6 yX6_clears wsX6_clears) := goodIn_app (goodIn_of _ (by decide +kernel)) ggX6_reads_X6_clears
set_option maxRecDepth 20000 in
theorem ggX6_reads_X6_readsItem : GoodIn wsX6_reads wsX6_readsItem := goodIn_r _ [16, 17, 18, 19, 7, 20, 9, 21, 22, 23, 24, 25, 3, 2, 26, 27, 28, 29, 1, 30, 31, 32, 33, 34, 35, 36, 37, 38, 39, 40, 41, 42, 43, 44, 45, 10, 46, 47, 48, 49, 50, 11, 51, 52, 53, 54, 55, 56, 57, 58, 59, 12, 60, 61, 62, 63, 64, 65, 66, 67, 68, 69, 70, 71, 72, 73, 74, 75, 76, 77, 78, 79, 80, 81, 82, 83, 84, 85, 86, 87, 88] (by decide +kernel) (by decide +kernel)
set_option maxRecDepth 20000 in
theorem gX6_reads_X6_readsItem : GoodIn wsX6_reads (wsV RX6 125 RX6 yX6_readsItem wsX6_readsItem) := goodIn_app (goodIn_of _ (by decide +kernel)) ggX6_reads_X6_readsItem
set_option maxRecDepth 20000 in
theorem ggX6_reads_X6_letterAt : GoodIn wsX6_reads wsX6_letterAt := goodIn_r _ [29, 1, 2, 66, 67, 68, 69, 70, 71, 72, 73, 74, 75, 76, 77, 78, 79, 80, 81, 82, 83, 84, 85, 86, 87, 88] (by decide +kernel) (by decide +kernel)
set_option maxRecDepth 20000 in
theorem gX6_reads_X6_letterAt : GoodIn wsX6_reads (wsV RX6 91 RX6 yX6_letterAt wsX6_letterAt) := goodIn_app (goodIn_of _ (by decide +kernel)) ggX6_reads_X6_letterAt
set_option maxRecDepth 20000 in
theorem ggX6_fault_X6_reads : GoodIn wsX6_fault wsX6_reads := goodIn_r _ [5, 6, 7, 8, 9, 10, 11, 4, 12, 13, 14, 15, 16, 17, 18, 19, 20, 21, 22, 23, 24, 25, 26, 27, 28, 29, 30, 31, 32, 33, 34, 35, 36, 37, 38, 39, 40, 41, 42, 43, 44, 45, 46, 47, 48, 49, 50, 51, 52, 53, 54, 55, 56, 57, 58, 59, 60, 61, 62, 63, 64, 65, 66, 67, 68, 69, 70, 71, 72, 73, 74, 75, 76, 77, 78, 79, 80, 81, 82, 83, 84, 85, 86, 87, 88, 89, 90, 91, 92] (by decide +kernel) (by decide +kernel)
set_option maxRecDepth 20000 in
theorem gX6_fault_X6_reads : GoodIn wsX6_fault (wsV RX6 128 RX6 yX6_reads wsX6_reads) := goodIn_app (goodIn_of _ (by decide +kernel)) ggX6_fault_X6_reads
set_option maxRecDepth 20000 in
theorem ggX6_lay_X6_reads : GoodIn wsX6_lay wsX6_reads := goodIn_r _ [8, 9, 10, 11, 12, 13, 14, 7, 15, 1, 16, 2, 17, 18, 19, 20, 21, 22, 23, 24, 25, 26, 27, 28, 29, 30, 31, 32, 33, 34, 35, 36, 37, 38, 39, 40, 41, 42, 43, 44, 45, 46, 47, 48, 49, 50, 51, 52, 53, 54, 55, 56, 57, 58, 59, 60, 61, 62, 63, 64, 65, 66, 67, 68, 69, 70, 87, 88, 89, 90, 91, 92, 93, 94, 95, 96, 97, 98, 99, 100, 101, 102, 103, 104, 105, 106, 107, 108, 109] (by decide +kernel) (by decide +kernel)
set_option maxRecDepth 20000 in
theorem gX6_lay_X6_reads : GoodIn wsX6_lay (wsV RX6 128 RX6 yX6_reads wsX6_reads) := goodIn_app (goodIn_of _ (by decide +kernel)) ggX6_lay_X6_reads
set_option maxRecDepth 20000 in
theorem ggX6_lay_X6_areCores : GoodIn wsX6_lay wsX6_areCores := goodIn_r _ [74, 16, 51, 87, 88, 89, 90, 91, 92, 93, 94, 95, 96, 97, 98, 99, 100, 101, 102, 103, 104, 105, 106, 107, 108, 109] (by decide +kernel) (by decide +kernel)
set_option maxRecDepth 20000 in
theorem gX6_lay_X6_areCores : GoodIn wsX6_lay (wsV RX6 132 RX6 yX6_areCores wsX6_areCores) := goodIn_app (goodIn_of _ (by decide +kernel)) ggX6_lay_X6_areCores
set_option maxRecDepth 20000 in
theorem ggX6_lay_X6_takes : GoodIn wsX6_lay wsX6_takes := goodIn_r _ [78, 1, 3, 16, 79, 2, 80, 81, 82, 46, 83, 84, 51, 85, 56, 17, 86, 87, 88, 89, 90, 91, 92, 93, 94, 95, 96, 97, 98, 99, 100, 101, 102, 103, 104, 105, 106, 107, 108, 109] (by decide +kernel) (by decide +kernel)
set_option maxRecDepth 20000 in
theorem gX6_lay_X6_takes : GoodIn wsX6_lay (wsV RX6 61 RX6 yX6_takes wsX6_takes) := goodIn_app (goodIn_of _ (by decide +kernel)) ggX6_lay_X6_takes
set_option maxRecDepth 20000 in
theorem ggX6_fills_X6_speedAt : GoodIn wsX6_fills wsX6_speedAt := goodIn_r _ [9, 10, 11, 1, 4, 21, 22, 23, 24, 25, 26, 27, 28, 29, 30, 31, 32, 33, 34, 35, 36, 37, 38, 39, 40, 41, 42, 43] (by decide +kernel) (by decide +kernel)
set_option maxRecDepth 20000 in
theorem gX6_fills_X6_speedAt : GoodIn wsX6_fills (wsV RX6 139 RX6 yX6_speedAt wsX6_speedAt) := goodIn_app (goodIn_of _ (by decide +kernel)) ggX6_fills_X6_speedAt
set_option maxRecDepth 20000 in
theorem ggX6_fills_X6_easiest : GoodIn wsX6_fills wsX6_easiest := goodIn_r _ [15, 16, 2, 3, 4, 21, 22, 23, 24, 25, 26, 27, 28, 29, 30, 31, 32, 33, 34, 35, 36, 37, 38, 39, 40, 41, 42, 43] (by decide +kernel) (by decide +kernel)
set_option maxRecDepth 20000 in
theorem gX6_fills_X6_easiest : GoodIn wsX6_fills (wsV RX6 142 RX6 yX6_easiest wsX6_easiest) := goodIn_app (goodIn_of _ (by decide +kernel)) ggX6_fills_X6_easiest
set_option maxRecDepth 20000 in
theorem ggX6_fills_X6_comes : GoodIn wsX6_fills wsX6_comes := goodIn_r _ [20, 2, 3, 21, 22, 23, 24, 25, 26, 27, 28, 29, 30, 31, 32, 33, 34, 35, 36, 37, 38, 39, 40, 41, 42, 43] (by decide +kernel) (by decide +kernel)
set_option maxRecDepth 20000 in
theorem gX6_fills_X6_comes : GoodIn wsX6_fills (wsV RX6 145 RX6 yX6_comes wsX6_comes) := goodIn_app (goodIn_of _ (by decide +kernel)) ggX6_fills_X6_comes
set_option maxRecDepth 20000 in
theorem ggX6_holds_X6_comes : GoodIn wsX6_holds wsX6_comes := goodIn_r _ [10, 2, 11, 12, 13, 14, 15, 16, 17, 18, 19, 20, 21, 22, 23, 24, 25, 26, 27, 28, 29, 30, 31, 32, 33, 34] (by decide +kernel) (by decide +kernel)
set_option maxRecDepth 20000 in
theorem gX6_holds_X6_comes : GoodIn wsX6_holds (wsV RX6 145 RX6 yX6_comes wsX6_comes) := goodIn_app (goodIn_of _ (by decide +kernel)) ggX6_holds_X6_comes
set_option maxRecDepth 20000 in
theorem ggX6_tries_X6_fills : GoodIn wsX6_tries wsX6_fills := goodIn_r _ [9, 2, 1, 10, 3, 11, 12, 13, 8, 14, 15, 16, 17, 18, 19, 20, 4, 21, 22, 23, 24, 34, 35, 36, 37, 38, 39, 40, 41, 42, 43, 44, 45, 46, 47, 48, 49, 50, 51, 52, 53, 54, 55, 56] (by decide +kernel) (by decide +kernel)
set_option maxRecDepth 20000 in
theorem gX6_tries_X6_fills : GoodIn wsX6_tries (wsV RX6 148 RX6 yX6_fills wsX6_fills) := goodIn_app (goodIn_of _ (by decide +kernel)) ggX6_tries_X6_fills
set_option maxRecDepth 20000 in
theorem ggX6_tries_X6_why : GoodIn wsX6_tries wsX6_why := goodIn_r _ [28, 2, 3, 34, 35, 36, 37, 38, 39, 40, 41, 42, 43, 44, 45, 46, 47, 48, 49, 50, 51, 52, 53, 54, 55, 56] (by decide +kernel) (by decide +kernel)
set_option maxRecDepth 20000 in
theorem gX6_tries_X6_why : GoodIn wsX6_tries (wsV RX6 152 RX6 yX6_why wsX6_why) := goodIn_app (goodIn_of _ (by decide +kernel)) ggX6_tries_X6_why
set_option maxRecDepth 20000 in
theorem ggX6_tries_X6_holds : GoodIn wsX6_tries wsX6_holds := goodIn_r _ [32, 4, 1, 33, 3, 2, 21, 22, 23, 8, 24, 10, 34, 35, 36, 37, 38, 39, 40, 41, 42, 43, 44, 45, 46, 47, 48, 49, 50, 51, 52, 53, 54, 55, 56] (by decide +kernel) (by decide +kernel)
set_option maxRecDepth 20000 in
theorem gX6_tries_X6_holds : GoodIn wsX6_tries (wsV RX6 155 RX6 yX6_holds wsX6_holds) := goodIn_app (goodIn_of _ (by decide +kernel)) ggX6_tries_X6_holds
set_option maxRecDepth 20000 in
theorem ggX6_becomes_X6_keeps : GoodIn wsX6_becomes wsX6_keeps := goodIn_r _ [6, 7, 8, 1, 9, 10, 11, 12, 13, 14, 15, 16, 17, 18, 19, 20, 21, 22, 23, 24, 25, 26, 27, 28, 29, 30, 31] (by decide +kernel) (by decide +kernel)
set_option maxRecDepth 20000 in
theorem gX6_becomes_X6_keeps : GoodIn wsX6_becomes (wsV RX6 159 RX6 yX6_keeps wsX6_keeps) := goodIn_app (goodIn_of _ (by decide +kernel)) ggX6_becomes_X6_keeps
set_option maxRecDepth 20000 in
theorem ggX6_isCore_X6_isIn : GoodIn wsX6_isCore wsX6_isIn := goodIn_r _ [5] (by decide +kernel) (by decide +kernel)
set_option maxRecDepth 20000 in
theorem gX6_isCore_X6_isIn : GoodIn wsX6_isCore (va_wsS RX6 95 yX6_isIn wsX6_isIn) := goodIn_app (goodIn_of _ (by decide +kernel)) ggX6_isCore_X6_isIn
set_option maxRecDepth 20000 in
theorem ggX6_isCavity_X6_isIn : GoodIn wsX6_isCavity wsX6_isIn := goodIn_r _ [5] (by decide +kernel) (by decide +kernel)
set_option maxRecDepth 20000 in
theorem gX6_isCavity_X6_isIn : GoodIn wsX6_isCavity (va_wsS RX6 95 yX6_isIn wsX6_isIn) := goodIn_app (goodIn_of _ (by decide +kernel)) ggX6_isCavity_X6_isIn
set_option maxRecDepth 20000 in
theorem ggX6_isShot_X6_isIn : GoodIn wsX6_isShot wsX6_isIn := goodIn_r _ [5] (by decide +kernel) (by decide +kernel)
set_option maxRecDepth 20000 in
theorem gX6_isShot_X6_isIn : GoodIn wsX6_isShot (va_wsS RX6 95 yX6_isIn wsX6_isIn) := goodIn_app (goodIn_of _ (by decide +kernel)) ggX6_isShot_X6_isIn
set_option maxRecDepth 20000 in
theorem ggX6_mould_X6_isIn : GoodIn wsX6_mould wsX6_isIn := goodIn_r _ [5] (by decide +kernel) (by decide +kernel)
set_option maxRecDepth 20000 in
theorem gX6_mould_X6_isIn : GoodIn wsX6_mould (va_wsS RX6 95 yX6_isIn wsX6_isIn) := goodIn_app (goodIn_of _ (by decide +kernel)) ggX6_mould_X6_isIn
set_option maxRecDepth 20000 in
theorem ggX6_mould_X6_keeps : GoodIn wsX6_mould wsX6_keeps := goodIn_r _ [9, 10, 11, 1, 12, 13, 14, 15, 16, 17, 18, 19, 20, 21, 22, 23, 24, 25, 26, 27, 28, 29, 30, 31, 32, 33, 34] (by decide +kernel) (by decide +kernel)
set_option maxRecDepth 20000 in
theorem gX6_mould_X6_keeps : GoodIn wsX6_mould (wsV RX6 159 RX6 yX6_keeps wsX6_keeps) := goodIn_app (goodIn_of _ (by decide +kernel)) ggX6_mould_X6_keeps
set_option maxRecDepth 20000 in
theorem ggX6_against_X6_isCore : GoodIn wsX6_against wsX6_isCore := goodIn_r _ [5, 6, 7, 8, 4, 9, 16, 17, 18, 19, 20, 21, 22, 23, 24, 25, 26, 27, 28, 29, 30, 31, 32, 33, 34, 35, 36, 37, 38] (by decide +kernel) (by decide +kernel)
set_option maxRecDepth 20000 in
theorem gX6_against_X6_isCore : GoodIn wsX6_against (wsV RX6 162 RX6 yX6_isCore wsX6_isCore) := goodIn_app (goodIn_of _ (by decide +kernel)) ggX6_against_X6_isCore
set_option maxRecDepth 20000 in
theorem ggX6_against_X6_isIn : GoodIn wsX6_against wsX6_isIn := goodIn_r _ [9] (by decide +kernel) (by decide +kernel)
set_option maxRecDepth 20000 in
theorem gX6_against_X6_isIn : GoodIn wsX6_against (va_wsS RX6 95 yX6_isIn wsX6_isIn) := goodIn_app (goodIn_of _ (by decide +kernel)) ggX6_against_X6_isIn
set_option maxRecDepth 20000 in
theorem ggX6_against_X6_against1 : GoodIn wsX6_against wsX6_against1 := goodIn_r _ [13, 14, 15, 6, 16, 17, 18, 19, 20, 21, 22, 23, 24, 25, 26, 27, 28, 29, 30, 31, 32, 33, 34, 35, 36, 37, 38] (by decide +kernel) (by decide +kernel)
set_option maxRecDepth 20000 in
theorem gX6_against_X6_against1 : GoodIn wsX6_against (wsV RX6 165 RX6 yX6_against1 wsX6_against1) := goodIn_app (goodIn_of _ (by decide +kernel)) ggX6_against_X6_against1
set_option maxRecDepth 20000 in
theorem ggX6_core_X6_isCore : GoodIn wsX6_core wsX6_isCore := goodIn_r _ [6, 7, 8, 9, 5, 10, 25, 26, 27, 28, 29, 30, 31, 32, 33, 34, 35, 36, 37, 38, 39, 40, 41, 42, 43, 44, 45, 46, 47] (by decide +kernel) (by decide +kernel)
set_option maxRecDepth 20000 in
theorem gX6_core_X6_isCore : GoodIn wsX6_core (wsV RX6 162 RX6 yX6_isCore wsX6_isCore) := goodIn_app (goodIn_of _ (by decide +kernel)) ggX6_core_X6_isCore
set_option maxRecDepth 20000 in
theorem ggX6_core_X6_isIn : GoodIn wsX6_core wsX6_isIn := goodIn_r _ [10] (by decide +kernel) (by decide +kernel)
set_option maxRecDepth 20000 in
theorem gX6_core_X6_isIn : GoodIn wsX6_core (va_wsS RX6 95 yX6_isIn wsX6_isIn) := goodIn_app (goodIn_of _ (by decide +kernel)) ggX6_core_X6_isIn
set_option maxRecDepth 20000 in
theorem ggX6_core_X6_against1 : GoodIn wsX6_core wsX6_against1 := goodIn_r _ [14, 1, 15, 7, 25, 26, 27, 28, 29, 30, 31, 32, 33, 34, 35, 36, 37, 38, 39, 40, 41, 42, 43, 44, 45, 46, 47] (by decide +kernel) (by decide +kernel)
set_option maxRecDepth 20000 in
theorem gX6_core_X6_against1 : GoodIn wsX6_core (wsV RX6 165 RX6 yX6_against1 wsX6_against1) := goodIn_app (goodIn_of _ (by decide +kernel)) ggX6_core_X6_against1
set_option maxRecDepth 20000 in
theorem ggX6_core_X6_keeps : GoodIn wsX6_core wsX6_keeps := goodIn_r _ [19, 20, 21, 1, 25, 26, 27, 28, 29, 30, 31, 32, 33, 34, 35, 36, 37, 38, 39, 40, 41, 42, 43, 44, 45, 46, 47] (by decide +kernel) (by decide +kernel)
set_option maxRecDepth 20000 in
theorem gX6_core_X6_keeps : GoodIn wsX6_core (wsV RX6 159 RX6 yX6_keeps wsX6_keeps) := goodIn_app (goodIn_of _ (by decide +kernel)) ggX6_core_X6_keeps
set_option maxRecDepth 20000 in
theorem ggX6_core_X6_bits : GoodIn wsX6_core wsX6_bits := goodIn_r _ [24] (by decide +kernel) (by decide +kernel)
set_option maxRecDepth 20000 in
theorem gX6_core_X6_bits : GoodIn wsX6_core (va_wsS RX6 168 yX6_bits wsX6_bits) := goodIn_app (goodIn_of _ (by decide +kernel)) ggX6_core_X6_bits
set_option maxRecDepth 20000 in
theorem ggX6_drag_X6_isCavity : GoodIn wsX6_drag wsX6_isCavity := goodIn_r _ [5, 6, 7, 8, 4, 9, 21, 22, 23, 24, 25, 26, 27, 28, 29, 30, 31, 32, 33, 34, 35, 36, 37, 38, 39, 40, 41, 42, 43] (by decide +kernel) (by decide +kernel)
set_option maxRecDepth 20000 in
theorem gX6_drag_X6_isCavity : GoodIn wsX6_drag (wsV RX6 171 RX6 yX6_isCavity wsX6_isCavity) := goodIn_app (goodIn_of _ (by decide +kernel)) ggX6_drag_X6_isCavity
set_option maxRecDepth 20000 in
theorem ggX6_drag_X6_isIn : GoodIn wsX6_drag wsX6_isIn := goodIn_r _ [9] (by decide +kernel) (by decide +kernel)
set_option maxRecDepth 20000 in
theorem gX6_drag_X6_isIn : GoodIn wsX6_drag (va_wsS RX6 95 yX6_isIn wsX6_isIn) := goodIn_app (goodIn_of _ (by decide +kernel)) ggX6_drag_X6_isIn
set_option maxRecDepth 20000 in
theorem ggX6_drag_X6_becomes : GoodIn wsX6_drag wsX6_becomes := goodIn_r _ [13, 14, 15, 16, 17, 4, 18, 19, 20, 21, 22, 23, 24, 25, 26, 27, 28, 29, 30, 31, 32, 33, 34, 35, 36, 37, 38, 39, 40, 41, 42, 43] (by decide +kernel) (by decide +kernel)
set_option maxRecDepth 20000 in
theorem gX6_drag_X6_becomes : GoodIn wsX6_drag (wsV RX6 174 RX6 yX6_becomes wsX6_becomes) := goodIn_app (goodIn_of _ (by decide +kernel)) ggX6_drag_X6_becomes
set_option maxRecDepth 20000 in
theorem ggX6_speed_X6_isIn : GoodIn wsX6_speed wsX6_isIn := goodIn_r _ [5] (by decide +kernel) (by decide +kernel)
set_option maxRecDepth 20000 in
theorem gX6_speed_X6_isIn : GoodIn wsX6_speed (va_wsS RX6 95 yX6_isIn wsX6_isIn) := goodIn_app (goodIn_of _ (by decide +kernel)) ggX6_speed_X6_isIn
set_option maxRecDepth 20000 in
theorem ggX6_speed_X6_becomes : GoodIn wsX6_speed wsX6_becomes := goodIn_r _ [9, 10, 11, 12, 13, 4, 14, 15, 16, 17, 18, 19, 20, 21, 22, 23, 24, 25, 26, 27, 28, 29, 30, 31, 32, 33, 34, 35, 36, 37, 38, 39] (by decide +kernel) (by decide +kernel)
set_option maxRecDepth 20000 in
theorem gX6_speed_X6_becomes : GoodIn wsX6_speed (wsV RX6 174 RX6 yX6_becomes wsX6_becomes) := goodIn_app (goodIn_of _ (by decide +kernel)) ggX6_speed_X6_becomes
set_option maxRecDepth 20000 in
theorem ggX6_tell_X6_isIn : GoodIn wsX6_tell wsX6_isIn := goodIn_r _ [4] (by decide +kernel) (by decide +kernel)
set_option maxRecDepth 20000 in
theorem gX6_tell_X6_isIn : GoodIn wsX6_tell (va_wsS RX6 95 yX6_isIn wsX6_isIn) := goodIn_app (goodIn_of _ (by decide +kernel)) ggX6_tell_X6_isIn
set_option maxRecDepth 20000 in
theorem ggX6_tell_X6_lowOf : GoodIn wsX6_tell wsX6_lowOf := goodIn_r _ [7] (by decide +kernel) (by decide +kernel)
set_option maxRecDepth 20000 in
theorem gX6_tell_X6_lowOf : GoodIn wsX6_tell (va_wsS RX6 106 yX6_lowOf wsX6_lowOf) := goodIn_app (goodIn_of _ (by decide +kernel)) ggX6_tell_X6_lowOf
set_option maxRecDepth 20000 in
theorem ggX6_tell_X6_highOf : GoodIn wsX6_tell wsX6_highOf := goodIn_r _ [10] (by decide +kernel) (by decide +kernel)
set_option maxRecDepth 20000 in
theorem gX6_tell_X6_highOf : GoodIn wsX6_tell (va_wsS RX6 109 yX6_highOf wsX6_highOf) := goodIn_app (goodIn_of _ (by decide +kernel)) ggX6_tell_X6_highOf
set_option maxRecDepth 20000 in
theorem ggX6_tell_X6_becomes : GoodIn wsX6_tell wsX6_becomes := goodIn_r _ [14, 15, 16, 17, 18, 3, 19, 20, 21, 22, 23, 24, 25, 26, 27, 28, 29, 30, 31, 32, 33, 34, 35, 36, 37, 38, 39, 40, 41, 42, 43, 44] (by decide +kernel) (by decide +kernel)
set_option maxRecDepth 20000 in
theorem gX6_tell_X6_becomes : GoodIn wsX6_tell (wsV RX6 174 RX6 yX6_becomes wsX6_becomes) := goodIn_app (goodIn_of _ (by decide +kernel)) ggX6_tell_X6_becomes
set_option maxRecDepth 20000 in
theorem ggX6_shoot_X6_isReady : GoodIn wsX6_shoot wsX6_isReady := goodIn_r _ [7, 1, 8, 49, 50, 51, 52, 53, 54, 55, 56, 57, 58, 59, 60, 61, 62, 63, 64, 65, 66, 67, 68, 69, 70, 71] (by decide +kernel) (by decide +kernel)
set_option maxRecDepth 20000 in
theorem gX6_shoot_X6_isReady : GoodIn wsX6_shoot (wsV RX6 177 RX6 yX6_isReady wsX6_isReady) := goodIn_app (goodIn_of _ (by decide +kernel)) ggX6_shoot_X6_isReady
set_option maxRecDepth 20000 in
theorem ggX6_shoot_X6_keeps : GoodIn wsX6_shoot wsX6_keeps := goodIn_r _ [12, 13, 14, 1, 49, 50, 51, 52, 53, 54, 55, 56, 57, 58, 59, 60, 61, 62, 63, 64, 65, 66, 67, 68, 69, 70, 71] (by decide +kernel) (by decide +kernel)
set_option maxRecDepth 20000 in
theorem gX6_shoot_X6_keeps : GoodIn wsX6_shoot (wsV RX6 159 RX6 yX6_keeps wsX6_keeps) := goodIn_app (goodIn_of _ (by decide +kernel)) ggX6_shoot_X6_keeps
set_option maxRecDepth 20000 in
theorem ggX6_shoot_X6_tries : GoodIn wsX6_shoot wsX6_tries := goodIn_r _ [18, 2, 19, 1, 20, 21, 22, 23, 6, 24, 25, 26, 27, 28, 29, 30, 31, 32, 33, 34, 35, 36, 37, 38, 39, 40, 41, 42, 43, 44, 45, 46, 47, 48, 49, 50, 51, 52, 53, 54, 55, 56, 57, 58, 59, 60, 61, 62, 63, 64, 65, 66, 67, 68, 69, 70, 71] (by decide +kernel) (by decide +kernel)
set_option maxRecDepth 20000 in
theorem gX6_shoot_X6_tries : GoodIn wsX6_shoot (wsV RX6 180 RX6 yX6_tries wsX6_tries) := goodIn_app (goodIn_of _ (by decide +kernel)) ggX6_shoot_X6_tries
set_option maxRecDepth 20000 in
theorem ggX6_waitCool_X6_keeps : GoodIn wsX6_waitCool wsX6_keeps := goodIn_r _ [6, 7, 8, 1, 9, 10, 11, 12, 13, 14, 15, 16, 17, 18, 19, 20, 21, 22, 23, 24, 25, 26, 27, 28, 29, 30, 31] (by decide +kernel) (by decide +kernel)
set_option maxRecDepth 20000 in
theorem gX6_waitCool_X6_keeps : GoodIn wsX6_waitCool (wsV RX6 159 RX6 yX6_keeps wsX6_keeps) := goodIn_app (goodIn_of _ (by decide +kernel)) ggX6_waitCool_X6_keeps
set_option maxRecDepth 20000 in
theorem ggX6_isShort_X6_shortBy : GoodIn wsX6_isShort wsX6_shortBy := goodIn_r _ [6, 7, 8, 9, 10, 11, 12, 13, 14, 15, 16, 17, 18, 19, 20, 21, 22, 23, 24, 25, 26, 27, 28, 29, 30, 31] (by decide +kernel) (by decide +kernel)
set_option maxRecDepth 20000 in
theorem gX6_isShort_X6_shortBy : GoodIn wsX6_isShort (wsV RX6 183 RX6 yX6_shortBy wsX6_shortBy) := goodIn_app (goodIn_of _ (by decide +kernel)) ggX6_isShort_X6_shortBy
set_option maxRecDepth 20000 in
theorem ggX6_teach_X6_isShot : GoodIn wsX6_teach wsX6_isShot := goodIn_r _ [6, 1, 7, 8, 5, 9, 26, 27, 28, 29, 30, 31, 32, 33, 34, 35, 36, 37, 38, 39, 40, 41, 42, 43, 44, 45, 46, 47, 48] (by decide +kernel) (by decide +kernel)
set_option maxRecDepth 20000 in
theorem gX6_teach_X6_isShot : GoodIn wsX6_teach (wsV RX6 186 RX6 yX6_isShot wsX6_isShot) := goodIn_app (goodIn_of _ (by decide +kernel)) ggX6_teach_X6_isShot
set_option maxRecDepth 20000 in
theorem ggX6_teach_X6_isShort : GoodIn wsX6_teach wsX6_isShort := goodIn_r _ [13, 14, 15, 16, 17, 5, 18, 19, 1, 26, 27, 28, 29, 30, 31, 32, 33, 34, 35, 36, 37, 38, 39, 40, 41, 42, 43, 44, 45, 46, 47, 48] (by decide +kernel) (by decide +kernel)
set_option maxRecDepth 20000 in
theorem gX6_teach_X6_isShort : GoodIn wsX6_teach (wsV RX6 189 RX6 yX6_isShort wsX6_isShort) := goodIn_app (goodIn_of _ (by decide +kernel)) ggX6_teach_X6_isShort
set_option maxRecDepth 20000 in
theorem ggX6_teach_X6_keeps : GoodIn wsX6_teach wsX6_keeps := goodIn_r _ [23, 24, 25, 1, 26, 27, 28, 29, 30, 31, 32, 33, 34, 35, 36, 37, 38, 39, 40, 41, 42, 43, 44, 45, 46, 47, 48] (by decide +kernel) (by decide +kernel)
set_option maxRecDepth 20000 in
theorem gX6_teach_X6_keeps : GoodIn wsX6_teach (wsV RX6 159 RX6 yX6_keeps wsX6_keeps) := goodIn_app (goodIn_of _ (by decide +kernel)) ggX6_teach_X6_keeps
set_option maxRecDepth 20000 in
theorem ggX6_forget_X6_keeps : GoodIn wsX6_forget wsX6_keeps := goodIn_r _ [6, 7, 8, 1, 9, 10, 11, 12, 13, 14, 15, 16, 17, 18, 19, 20, 21, 22, 23, 24, 25, 26, 27, 28, 29, 30, 31] (by decide +kernel) (by decide +kernel)
set_option maxRecDepth 20000 in
theorem gX6_forget_X6_keeps : GoodIn wsX6_forget (wsV RX6 159 RX6 yX6_keeps wsX6_keeps) := goodIn_app (goodIn_of _ (by decide +kernel)) ggX6_forget_X6_keeps
set_option maxRecDepth 20000 in
theorem ggX6_wide_X6_isIn : GoodIn wsX6_wide wsX6_isIn := goodIn_r _ [4] (by decide +kernel) (by decide +kernel)
set_option maxRecDepth 20000 in
theorem gX6_wide_X6_isIn : GoodIn wsX6_wide (va_wsS RX6 95 yX6_isIn wsX6_isIn) := goodIn_app (goodIn_of _ (by decide +kernel)) ggX6_wide_X6_isIn
set_option maxRecDepth 20000 in
theorem ggX6_wide_X6_becomes : GoodIn wsX6_wide wsX6_becomes := goodIn_r _ [8, 9, 10, 11, 12, 3, 13, 14, 15, 16, 17, 18, 19, 20, 21, 22, 23, 24, 25, 26, 27, 28, 29, 30, 31, 32, 33, 34, 35, 36, 37, 38] (by decide +kernel) (by decide +kernel)
set_option maxRecDepth 20000 in
theorem gX6_wide_X6_becomes : GoodIn wsX6_wide (wsV RX6 174 RX6 yX6_becomes wsX6_becomes) := goodIn_app (goodIn_of _ (by decide +kernel)) ggX6_wide_X6_becomes
set_option maxRecDepth 20000 in
theorem ggX6_band_X6_isIn : GoodIn wsX6_band wsX6_isIn := goodIn_r _ [5] (by decide +kernel) (by decide +kernel)
set_option maxRecDepth 20000 in
theorem gX6_band_X6_isIn : GoodIn wsX6_band (va_wsS RX6 95 yX6_isIn wsX6_isIn) := goodIn_app (goodIn_of _ (by decide +kernel)) ggX6_band_X6_isIn
set_option maxRecDepth 20000 in
theorem ggX6_isBad_X6_overBy : GoodIn wsX6_isBad wsX6_overBy := goodIn_r _ [7, 2, 8, 17, 18, 19, 20, 21, 22, 23, 24, 25, 26, 27, 28, 29, 30, 31, 32, 33, 34, 35, 36, 37, 38, 39] (by decide +kernel) (by decide +kernel)
set_option maxRecDepth 20000 in
theorem gX6_isBad_X6_overBy : GoodIn wsX6_isBad (wsV RX6 192 RX6 yX6_overBy wsX6_overBy) := goodIn_app (goodIn_of _ (by decide +kernel)) ggX6_isBad_X6_overBy
set_option maxRecDepth 20000 in
theorem ggX6_isBad_X6_shortBy : GoodIn wsX6_isBad wsX6_shortBy := goodIn_r _ [12, 8, 2, 17, 18, 19, 20, 21, 22, 23, 24, 25, 26, 27, 28, 29, 30, 31, 32, 33, 34, 35, 36, 37, 38, 39] (by decide +kernel) (by decide +kernel)
set_option maxRecDepth 20000 in
theorem gX6_isBad_X6_shortBy : GoodIn wsX6_isBad (wsV RX6 183 RX6 yX6_shortBy wsX6_shortBy) := goodIn_app (goodIn_of _ (by decide +kernel)) ggX6_isBad_X6_shortBy
set_option maxRecDepth 20000 in
theorem ggX6_isBad_X6_amiss : GoodIn wsX6_isBad wsX6_amiss := goodIn_r _ [16, 2, 17, 18, 19, 20, 21, 22, 23, 24, 25, 26, 27, 28, 29, 30, 31, 32, 33, 34, 35, 36, 37, 38, 39] (by decide +kernel) (by decide +kernel)
set_option maxRecDepth 20000 in
theorem gX6_isBad_X6_amiss : GoodIn wsX6_isBad (wsV RX6 195 RX6 yX6_amiss wsX6_amiss) := goodIn_app (goodIn_of _ (by decide +kernel)) ggX6_isBad_X6_amiss
set_option maxRecDepth 20000 in
theorem ggX6_shot_X6_isShot : GoodIn wsX6_shot wsX6_isShot := goodIn_r _ [6, 1, 7, 8, 5, 9, 31, 32, 33, 34, 35, 36, 37, 38, 39, 40, 41, 42, 43, 44, 45, 46, 47, 48, 49, 50, 51, 52, 53] (by decide +kernel) (by decide +kernel)
set_option maxRecDepth 20000 in
theorem gX6_shot_X6_isShot : GoodIn wsX6_shot (wsV RX6 186 RX6 yX6_isShot wsX6_isShot) := goodIn_app (goodIn_of _ (by decide +kernel)) ggX6_shot_X6_isShot
set_option maxRecDepth 20000 in
theorem ggX6_shot_X6_isIn : GoodIn wsX6_shot wsX6_isIn := goodIn_r _ [9] (by decide +kernel) (by decide +kernel)
set_option maxRecDepth 20000 in
theorem gX6_shot_X6_isIn : GoodIn wsX6_shot (va_wsS RX6 95 yX6_isIn wsX6_isIn) := goodIn_app (goodIn_of _ (by decide +kernel)) ggX6_shot_X6_isIn
set_option maxRecDepth 20000 in
theorem ggX6_shot_X6_told : GoodIn wsX6_shot wsX6_told := goodIn_r _ [12] (by decide +kernel) (by decide +kernel)
set_option maxRecDepth 20000 in
theorem gX6_shot_X6_told : GoodIn wsX6_shot (va_wsS RX6 198 yX6_told wsX6_told) := goodIn_app (goodIn_of _ (by decide +kernel)) ggX6_shot_X6_told
set_option maxRecDepth 20000 in
theorem ggX6_shot_X6_isBad : GoodIn wsX6_shot wsX6_isBad := goodIn_r _ [16, 17, 1, 18, 19, 20, 5, 21, 22, 23, 24, 25, 26, 27, 28, 29, 30, 31, 32, 33, 34, 35, 36, 37, 38, 39, 40, 41, 42, 43, 44, 45, 46, 47, 48, 49, 50, 51, 52, 53] (by decide +kernel) (by decide +kernel)
set_option maxRecDepth 20000 in
theorem gX6_shot_X6_isBad : GoodIn wsX6_shot (wsV RX6 202 RX6 yX6_isBad wsX6_isBad) := goodIn_app (goodIn_of _ (by decide +kernel)) ggX6_shot_X6_isBad
set_option maxRecDepth 20000 in
theorem ggX6_shot_X6_amiss : GoodIn wsX6_shot wsX6_amiss := goodIn_r _ [30, 1, 31, 32, 33, 34, 35, 36, 37, 38, 39, 40, 41, 42, 43, 44, 45, 46, 47, 48, 49, 50, 51, 52, 53] (by decide +kernel) (by decide +kernel)
set_option maxRecDepth 20000 in
theorem gX6_shot_X6_amiss : GoodIn wsX6_shot (wsV RX6 195 RX6 yX6_amiss wsX6_amiss) := goodIn_app (goodIn_of _ (by decide +kernel)) ggX6_shot_X6_amiss
set_option maxRecDepth 20000 in
theorem ggX6_curve_X6_isShot : GoodIn wsX6_curve wsX6_isShot := goodIn_r _ [6, 1, 7, 8, 5, 9, 10, 11, 12, 13, 14, 15, 16, 17, 18, 19, 20, 21, 22, 23, 24, 25, 26, 27, 28, 29, 30, 31, 32] (by decide +kernel) (by decide +kernel)
set_option maxRecDepth 20000 in
theorem gX6_curve_X6_isShot : GoodIn wsX6_curve (wsV RX6 186 RX6 yX6_isShot wsX6_isShot) := goodIn_app (goodIn_of _ (by decide +kernel)) ggX6_curve_X6_isShot
set_option maxRecDepth 20000 in
theorem ggX6_curve_X6_isIn : GoodIn wsX6_curve wsX6_isIn := goodIn_r _ [9] (by decide +kernel) (by decide +kernel)
set_option maxRecDepth 20000 in
theorem gX6_curve_X6_isIn : GoodIn wsX6_curve (va_wsS RX6 95 yX6_isIn wsX6_isIn) := goodIn_app (goodIn_of _ (by decide +kernel)) ggX6_curve_X6_isIn
set_option maxRecDepth 20000 in
theorem ggX6_cavity_X6_isCavity : GoodIn wsX6_cavity wsX6_isCavity := goodIn_r _ [8, 9, 10, 11, 7, 12, 13, 14, 15, 16, 17, 18, 19, 20, 21, 22, 23, 24, 25, 26, 27, 28, 29, 30, 31, 32, 33, 34, 35] (by decide +kernel) (by decide +kernel)
set_option maxRecDepth 20000 in
theorem gX6_cavity_X6_isCavity : GoodIn wsX6_cavity (wsV RX6 171 RX6 yX6_isCavity wsX6_isCavity) := goodIn_app (goodIn_of _ (by decide +kernel)) ggX6_cavity_X6_isCavity
set_option maxRecDepth 20000 in
theorem ggX6_cavity_X6_isIn : GoodIn wsX6_cavity wsX6_isIn := goodIn_r _ [12] (by decide +kernel) (by decide +kernel)
set_option maxRecDepth 20000 in
theorem gX6_cavity_X6_isIn : GoodIn wsX6_cavity (va_wsS RX6 95 yX6_isIn wsX6_isIn) := goodIn_app (goodIn_of _ (by decide +kernel)) ggX6_cavity_X6_isIn
set_option maxRecDepth 20000 in
theorem ggX6_filled_X6_isShot : GoodIn wsX6_filled wsX6_isShot := goodIn_r _ [6, 1, 7, 8, 5, 9, 24, 25, 26, 27, 28, 29, 30, 31, 32, 33, 34, 35, 36, 37, 38, 39, 40, 41, 42, 43, 44, 45, 46] (by decide +kernel) (by decide +kernel)
set_option maxRecDepth 20000 in
theorem gX6_filled_X6_isShot : GoodIn wsX6_filled (wsV RX6 186 RX6 yX6_isShot wsX6_isShot) := goodIn_app (goodIn_of _ (by decide +kernel)) ggX6_filled_X6_isShot
set_option maxRecDepth 20000 in
theorem ggX6_filled_X6_isCavity : GoodIn wsX6_filled wsX6_isCavity := goodIn_r _ [13, 14, 7, 8, 5, 9, 24, 25, 26, 27, 28, 29, 30, 31, 32, 33, 34, 35, 36, 37, 38, 39, 40, 41, 42, 43, 44, 45, 46] (by decide +kernel) (by decide +kernel)
set_option maxRecDepth 20000 in
theorem gX6_filled_X6_isCavity : GoodIn wsX6_filled (wsV RX6 171 RX6 yX6_isCavity wsX6_isCavity) := goodIn_app (goodIn_of _ (by decide +kernel)) ggX6_filled_X6_isCavity
set_option maxRecDepth 20000 in
theorem ggX6_filled_X6_isIn : GoodIn wsX6_filled wsX6_isIn := goodIn_r _ [9] (by decide +kernel) (by decide +kernel)
set_option maxRecDepth 20000 in
theorem gX6_filled_X6_isIn : GoodIn wsX6_filled (va_wsS RX6 95 yX6_isIn wsX6_isIn) := goodIn_app (goodIn_of _ (by decide +kernel)) ggX6_filled_X6_isIn
set_option maxRecDepth 20000 in
theorem ggX6_filled_X6_shortBy : GoodIn wsX6_filled wsX6_shortBy := goodIn_r _ [18, 19, 1, 24, 25, 26, 27, 28, 29, 30, 31, 32, 33, 34, 35, 36, 37, 38, 39, 40, 41, 42, 43, 44, 45, 46] (by decide +kernel) (by decide +kernel)
set_option maxRecDepth 20000 in
theorem gX6_filled_X6_shortBy : GoodIn wsX6_filled (wsV RX6 183 RX6 yX6_shortBy wsX6_shortBy) := goodIn_app (goodIn_of _ (by decide +kernel)) ggX6_filled_X6_shortBy
set_option maxRecDepth 20000 in
theorem ggX6_filled_X6_overBy : GoodIn wsX6_filled wsX6_overBy := goodIn_r _ [23, 1, 19, 24, 25, 26, 27, 28, 29, 30, 31, 32, 33, 34, 35, 36, 37, 38, 39, 40, 41, 42, 43, 44, 45, 46] (by decide +kernel) (by decide +kernel)
set_option maxRecDepth 20000 in
theorem gX6_filled_X6_overBy : GoodIn wsX6_filled (wsV RX6 192 RX6 yX6_overBy wsX6_overBy) := goodIn_app (goodIn_of _ (by decide +kernel)) ggX6_filled_X6_overBy
set_option maxRecDepth 20000 in
theorem ggX6_tried_X6_isIn : GoodIn wsX6_tried wsX6_isIn := goodIn_r _ [5] (by decide +kernel) (by decide +kernel)
set_option maxRecDepth 20000 in
theorem gX6_tried_X6_isIn : GoodIn wsX6_tried (va_wsS RX6 95 yX6_isIn wsX6_isIn) := goodIn_app (goodIn_of _ (by decide +kernel)) ggX6_tried_X6_isIn
set_option maxRecDepth 20000 in
theorem ggX6_tried_X6_tries : GoodIn wsX6_tried wsX6_tries := goodIn_r _ [9, 1, 10, 11, 12, 13, 14, 15, 4, 16, 17, 18, 19, 20, 21, 22, 23, 24, 25, 26, 27, 28, 29, 30, 31, 32, 33, 34, 35, 36, 37, 38, 39, 40, 44, 45, 46, 47, 48, 49, 50, 51, 52, 53, 54, 55, 56, 57, 58, 59, 60, 61, 62, 63, 64, 65, 66] (by decide +kernel) (by decide +kernel)
set_option maxRecDepth 20000 in
theorem gX6_tried_X6_tries : GoodIn wsX6_tried (wsV RX6 180 RX6 yX6_tries wsX6_tries) := goodIn_app (goodIn_of _ (by decide +kernel)) ggX6_tried_X6_tries
set_option maxRecDepth 20000 in
theorem ggX6_tried_X6_told : GoodIn wsX6_tried wsX6_told := goodIn_r _ [43] (by decide +kernel) (by decide +kernel)
set_option maxRecDepth 20000 in
theorem gX6_tried_X6_told : GoodIn wsX6_tried (va_wsS RX6 198 yX6_told wsX6_told) := goodIn_app (goodIn_of _ (by decide +kernel)) ggX6_tried_X6_told
set_option maxRecDepth 20000 in
theorem ggX6_even_X6_isIn : GoodIn wsX6_even wsX6_isIn := goodIn_r _ [5] (by decide +kernel) (by decide +kernel)
set_option maxRecDepth 20000 in
theorem gX6_even_X6_isIn : GoodIn wsX6_even (va_wsS RX6 95 yX6_isIn wsX6_isIn) := goodIn_app (goodIn_of _ (by decide +kernel)) ggX6_even_X6_isIn
set_option maxRecDepth 20000 in
theorem ggX6_even_X6_tries : GoodIn wsX6_even wsX6_tries := goodIn_r _ [9, 1, 10, 11, 12, 13, 14, 15, 4, 16, 17, 18, 19, 20, 21, 22, 23, 24, 25, 26, 27, 28, 29, 30, 31, 32, 33, 34, 35, 36, 37, 38, 39, 40, 41, 42, 43, 44, 45, 46, 47, 48, 49, 50, 51, 52, 53, 54, 55, 56, 57, 58, 59, 60, 61, 62, 63] (by decide +kernel) (by decide +kernel)
set_option maxRecDepth 20000 in
theorem gX6_even_X6_tries : GoodIn wsX6_even (wsV RX6 180 RX6 yX6_tries wsX6_tries) := goodIn_app (goodIn_of _ (by decide +kernel)) ggX6_even_X6_tries
set_option maxRecDepth 20000 in
theorem ggX6_earlier_X6_isCore : GoodIn wsX6_earlier wsX6_isCore := goodIn_r _ [6, 7, 8, 9, 5, 10, 11, 12, 13, 14, 15, 16, 17, 18, 19, 20, 21, 22, 23, 24, 25, 26, 27, 28, 29, 30, 31, 32, 33] (by decide +kernel) (by decide +kernel)
set_option maxRecDepth 20000 in
theorem gX6_earlier_X6_isCore : GoodIn wsX6_earlier (wsV RX6 162 RX6 yX6_isCore wsX6_isCore) := goodIn_app (goodIn_of _ (by decide +kernel)) ggX6_earlier_X6_isCore
set_option maxRecDepth 20000 in
theorem ggX6_count_X6_bits : GoodIn wsX6_count wsX6_bits := goodIn_r _ [10] (by decide +kernel) (by decide +kernel)
set_option maxRecDepth 20000 in
theorem gX6_count_X6_bits : GoodIn wsX6_count (va_wsS RX6 168 yX6_bits wsX6_bits) := goodIn_app (goodIn_of _ (by decide +kernel)) ggX6_count_X6_bits
set_option maxRecDepth 20000 in
theorem ggX6_count_X6_isBad : GoodIn wsX6_count wsX6_isBad := goodIn_r _ [14, 1, 4, 15, 16, 17, 9, 18, 19, 20, 21, 22, 23, 24, 25, 26, 27, 32, 33, 34, 35, 36, 37, 38, 39, 40, 41, 42, 43, 44, 45, 46, 47, 48, 49, 50, 51, 52, 53, 54] (by decide +kernel) (by decide +kernel)
set_option maxRecDepth 20000 in
theorem gX6_count_X6_isBad : GoodIn wsX6_count (wsV RX6 202 RX6 yX6_isBad wsX6_isBad) := goodIn_app (goodIn_of _ (by decide +kernel)) ggX6_count_X6_isBad
set_option maxRecDepth 20000 in
theorem ggX6_count_X6_isReady : GoodIn wsX6_count wsX6_isReady := goodIn_r _ [31, 4, 2, 32, 33, 34, 35, 36, 37, 38, 39, 40, 41, 42, 43, 44, 45, 46, 47, 48, 49, 50, 51, 52, 53, 54] (by decide +kernel) (by decide +kernel)
set_option maxRecDepth 20000 in
theorem gX6_count_X6_isReady : GoodIn wsX6_count (wsV RX6 177 RX6 yX6_isReady wsX6_isReady) := goodIn_app (goodIn_of _ (by decide +kernel)) ggX6_count_X6_isReady
set_option maxRecDepth 20000 in
theorem ggJ0_length_8abf5_J0_coder_7d493 : GoodIn wsJ0_length_8abf5 wsJ0_coder_7d493 := goodIn_r _ [6, 7, 8] (by decide +kernel) (by decide +kernel)
set_option maxRecDepth 20000 in
theorem gJ0_length_8abf5_J0_coder_7d493 : GoodIn wsJ0_length_8abf5 (wsV RJ0 335 RJ0 yJ0_coder_7d493 wsJ0_coder_7d493) := goodIn_app (goodIn_of _ (by decide +kernel)) ggJ0_length_8abf5_J0_coder_7d493
set_option maxRecDepth 20000 in
theorem ggJ0_charAt_5068e_J0_isLatin1_aae02 : GoodIn wsJ0_charAt_5068e wsJ0_isLatin1_aae02 := goodIn_r _ [6, 7, 8] (by decide +kernel) (by decide +kernel)
set_option maxRecDepth 20000 in
theorem gJ0_charAt_5068e_J0_isLatin1_aae02 : GoodIn wsJ0_charAt_5068e (wsV RJ0 492 RJ0 yJ0_isLatin1_aae02 wsJ0_isLatin1_aae02) := goodIn_app (goodIn_of _ (by decide +kernel)) ggJ0_charAt_5068e_J0_isLatin1_aae02
set_option maxRecDepth 20000 in
theorem ggJ0_charAt_5068e_J1_charAt_3b067 : GoodIn wsJ0_charAt_5068e wsJ1_charAt_3b067 := goodIn_r _ [12, 13, 14, 5, 15, 16, 17, 18, 19, 20] (by decide +kernel) (by decide +kernel)
set_option maxRecDepth 20000 in
theorem gJ0_charAt_5068e_J1_charAt_3b067 : GoodIn wsJ0_charAt_5068e (va_wsS RJ0 495 yJ1_charAt_3b067 wsJ1_charAt_3b067) := goodIn_app (goodIn_of _ (by decide +kernel)) ggJ0_charAt_5068e_J1_charAt_3b067
set_option maxRecDepth 20000 in
theorem ggJ0_charAt_5068e_J2_charAt_3b067 : GoodIn wsJ0_charAt_5068e wsJ2_charAt_3b067 := goodIn_r _ [24, 25, 26, 23, 27, 28, 29, 30, 31, 14, 5, 15, 16, 17, 18, 19, 20, 32, 33, 34, 35, 36, 37] (by decide +kernel) (by decide +kernel)
set_option maxRecDepth 20000 in
theorem gJ0_charAt_5068e_J2_charAt_3b067 : GoodIn wsJ0_charAt_5068e (va_wsS RJ0 498 yJ2_charAt_3b067 wsJ2_charAt_3b067) := goodIn_app (goodIn_of _ (by decide +kernel)) ggJ0_charAt_5068e_J2_charAt_3b067
set_option maxRecDepth 20000 in
theorem ggJ0_checkIndex_df160_J3_checkIndex_8e157 : GoodIn wsJ0_checkIndex_df160 wsJ3_checkIndex_8e157 := goodIn_r _ [5] (by decide +kernel) (by decide +kernel)
set_option maxRecDepth 20000 in
theorem gJ0_checkIndex_df160_J3_checkIndex_8e157 : GoodIn wsJ0_checkIndex_df160 (va_wsS RJ0 1059 yJ3_checkIndex_8e157 wsJ3_checkIndex_8e157) := goodIn_app (goodIn_of _ (by decide +kernel)) ggJ0_checkIndex_df160_J3_checkIndex_8e157
set_option maxRecDepth 20000 in
theorem ggJ1_charAt_3b067_J0_checkIndex_df160 : GoodIn wsJ1_charAt_3b067 wsJ0_checkIndex_df160 := goodIn_r _ [4, 5, 6, 7, 8, 9] (by decide +kernel) (by decide +kernel)
set_option maxRecDepth 20000 in
theorem gJ1_charAt_3b067_J0_checkIndex_df160 : GoodIn wsJ1_charAt_3b067 (va_wsS RJ1 9 yJ0_checkIndex_df160 wsJ0_checkIndex_df160) := goodIn_app (goodIn_of _ (by decide +kernel)) ggJ1_charAt_3b067_J0_checkIndex_df160
set_option maxRecDepth 20000 in
theorem ggJ2_getChar_3b067_J2_length_9d52b : GoodIn wsJ2_getChar_3b067 wsJ2_length_9d52b := goodIn_r _ [7] (by decide +kernel) (by decide +kernel)
set_option maxRecDepth 20000 in
theorem gJ2_getChar_3b067_J2_length_9d52b : GoodIn wsJ2_getChar_3b067 (va_wsS RJ2 48 yJ2_length_9d52b wsJ2_length_9d52b) := goodIn_app (goodIn_of _ (by decide +kernel)) ggJ2_getChar_3b067_J2_length_9d52b
set_option maxRecDepth 20000 in
theorem ggJ2_charAt_3b067_J2_checkIndex_2214a : GoodIn wsJ2_charAt_3b067 wsJ2_checkIndex_2214a := goodIn_r _ [4, 5, 6, 3, 7, 8, 9, 10, 11, 12, 13, 14, 15, 16] (by decide +kernel) (by decide +kernel)
set_option maxRecDepth 20000 in
theorem gJ2_charAt_3b067_J2_checkIndex_2214a : GoodIn wsJ2_charAt_3b067 (va_wsS RJ2 67 yJ2_checkIndex_2214a wsJ2_checkIndex_2214a) := goodIn_app (goodIn_of _ (by decide +kernel)) ggJ2_charAt_3b067_J2_checkIndex_2214a
set_option maxRecDepth 20000 in
theorem ggJ2_charAt_3b067_J2_getChar_3b067 : GoodIn wsJ2_charAt_3b067 wsJ2_getChar_3b067 := goodIn_r _ [19, 20, 21, 22, 5, 6, 3, 7] (by decide +kernel) (by decide +kernel)
set_option maxRecDepth 20000 in
theorem gJ2_charAt_3b067_J2_getChar_3b067 : GoodIn wsJ2_charAt_3b067 (va_wsS RJ2 71 yJ2_getChar_3b067 wsJ2_getChar_3b067) := goodIn_app (goodIn_of _ (by decide +kernel)) ggJ2_charAt_3b067_J2_getChar_3b067
set_option maxRecDepth 20000 in
theorem ggJ2_checkIndex_2214a_J2_length_9d52b : GoodIn wsJ2_checkIndex_2214a wsJ2_length_9d52b := goodIn_r _ [4] (by decide +kernel) (by decide +kernel)
set_option maxRecDepth 20000 in
theorem gJ2_checkIndex_2214a_J2_length_9d52b : GoodIn wsJ2_checkIndex_2214a (va_wsS RJ2 48 yJ2_length_9d52b wsJ2_length_9d52b) := goodIn_app (goodIn_of _ (by decide +kernel)) ggJ2_checkIndex_2214a_J2_length_9d52b
set_option maxRecDepth 20000 in
theorem ggJ2_checkIndex_2214a_J0_checkIndex_df160 : GoodIn wsJ2_checkIndex_2214a wsJ0_checkIndex_df160 := goodIn_r _ [8, 9, 10, 11, 12, 13] (by decide +kernel) (by decide +kernel)
set_option maxRecDepth 20000 in
theorem gJ2_checkIndex_2214a_J0_checkIndex_df160 : GoodIn wsJ2_checkIndex_2214a (va_wsS RJ2 414 yJ0_checkIndex_df160 wsJ0_checkIndex_df160) := goodIn_app (goodIn_of _ (by decide +kernel)) ggJ2_checkIndex_2214a_J0_checkIndex_df160
