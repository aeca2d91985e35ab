set_option maxRecDepth 20000 in
theorem ggX0_rejects_X0_amissIn : GoodIn wsX0_rejects wsX0_amissIn := goodIn_r _ [8, 9, 10, 16, 17, 18, 19, 20, 21, 22, 23, 24, 11, 12, 13, 14, 15] (by decide +kernel) (by decide +kernel)
set_option maxRecDepth 20000 in
theorem gX0_rejects_X0_amissIn : GoodIn wsX0_rejects (wsV RX0 51 RX0 yX0_amissIn wsX0_amissIn) := goodIn_app (goodIn_of _ (by decide +kernel)) ggX0_rejects_X0_amissIn
set_option maxRecDepth 20000 in
theorem ggX1_canBeLaid_X1_chainEnds : GoodIn wsX1_canBeLaid wsX1_chainEnds := goodIn_r _ [8, 3, 9, 10, 11, 12, 13, 14, 15, 16, 17, 18, 19] (by decide +kernel) (by decide +kernel)
set_option maxRecDepth 20000 in
theorem gX1_canBeLaid_X1_chainEnds : GoodIn wsX1_canBeLaid (wsV RX1 58 RX1 yX1_chainEnds wsX1_chainEnds) := goodIn_app (goodIn_of _ (by decide +kernel)) ggX1_canBeLaid_X1_chainEnds
set_option maxRecDepth 20000 in
theorem ggX1_coreInTurn_X1_nextIn : GoodIn wsX1_coreInTurn wsX1_nextIn := goodIn_r _ [6, 1, 7, 8, 9, 10, 11, 12, 13, 14, 15, 16, 17] (by decide +kernel) (by decide +kernel)
set_option maxRecDepth 20000 in
theorem gX1_coreInTurn_X1_nextIn : GoodIn wsX1_coreInTurn (wsV RX1 62 RX1 yX1_nextIn wsX1_nextIn) := goodIn_app (goodIn_of _ (by decide +kernel)) ggX1_coreInTurn_X1_nextIn
set_option maxRecDepth 20000 in
theorem ggX2_make_X2_clear : GoodIn wsX2_make wsX2_clear := goodIn_r _ [6, 7, 8, 9, 10, 11, 12, 13, 64, 65, 66, 67, 68, 69, 70, 71, 72] (by decide +kernel) (by decide +kernel)
set_option maxRecDepth 20000 in
theorem gX2_make_X2_clear : GoodIn wsX2_make (wsV RX2 40 RX2 yX2_clear wsX2_clear) := goodIn_app (goodIn_of _ (by decide +kernel)) ggX2_make_X2_clear
set_option maxRecDepth 20000 in
theorem ggX2_make_X2_fill : GoodIn wsX2_make wsX2_fill := goodIn_r _ [17, 13, 12, 11, 18, 19, 20, 21, 22, 23, 24, 10, 25, 26, 27, 28, 5, 29, 30, 31, 32, 33, 7, 34, 35, 36, 37, 38, 39, 40, 41, 8, 9, 42, 43, 44, 45, 64, 65, 66, 67, 68, 69, 70, 71, 72, 73, 74, 75, 76, 77, 78, 79, 80, 81, 82, 54, 55, 56, 57, 58, 59, 60, 61, 62, 63] (by decide +kernel) (by decide +kernel)
set_option maxRecDepth 20000 in
theorem gX2_make_X2_fill : GoodIn wsX2_make (wsV RX2 43 RX2 yX2_fill wsX2_fill) := goodIn_app (goodIn_of _ (by decide +kernel)) ggX2_make_X2_fill
set_option maxRecDepth 20000 in
theorem ggX2_make_X2_hold : GoodIn wsX2_make wsX2_hold := goodIn_r _ [49, 25, 18, 19, 20, 21, 12, 7, 11, 10, 50, 51, 52, 5, 53, 8, 38, 39, 40, 41, 9, 54, 55, 56, 57, 58, 59, 60, 61, 62, 63, 64, 65, 66, 67, 68, 69, 70, 71, 72, 73, 74, 75, 76, 77, 78, 79, 80, 81, 82] (by decide +kernel) (by decide +kernel)
set_option maxRecDepth 20000 in
theorem gX2_make_X2_hold : GoodIn wsX2_make (wsV RX2 47 RX2 yX2_hold wsX2_hold) := goodIn_app (goodIn_of _ (by decide +kernel)) ggX2_make_X2_hold
set_option maxRecDepth 20000 in
theorem ggX2_fill_X2_speedHere : GoodIn wsX2_fill wsX2_speedHere := goodIn_r _ [17, 3, 4, 5, 6, 7, 8, 9, 10, 46, 47, 48, 49, 50, 51, 52, 53, 54, 55, 37, 38, 39, 40, 41, 42, 43, 44, 45, 56, 57, 58, 59, 60, 61, 62, 63, 64, 65] (by decide +kernel) (by decide +kernel)
set_option maxRecDepth 20000 in
theorem gX2_fill_X2_speedHere : GoodIn wsX2_fill (wsV RX2 56 RX2 yX2_speedHere wsX2_speedHere) := goodIn_app (goodIn_of _ (by decide +kernel)) ggX2_fill_X2_speedHere
set_option maxRecDepth 20000 in
theorem ggX2_fill_X2_push : GoodIn wsX2_fill wsX2_push := goodIn_r _ [21, 22, 23, 24, 25, 16, 26, 27, 28, 29, 30, 31, 2, 32, 56, 57, 58, 59, 60, 61, 62, 63, 64, 65, 37, 38, 39, 40, 41, 42, 43, 44, 45, 46, 47, 48, 49, 50, 51, 52, 53, 54, 55] (by decide +kernel) (by decide +kernel)
set_option maxRecDepth 20000 in
theorem gX2_fill_X2_push : GoodIn wsX2_fill (wsV RX2 66 RX2 yX2_push wsX2_push) := goodIn_app (goodIn_of _ (by decide +kernel)) ggX2_fill_X2_push
set_option maxRecDepth 20000 in
theorem ggX2_fill_X2_whySwitch : GoodIn wsX2_fill wsX2_whySwitch := goodIn_r _ [36, 3, 2, 11, 37, 38, 39, 40, 41, 42, 43, 44, 45, 56, 57, 58, 59, 60, 61, 62, 63, 64, 65] (by decide +kernel) (by decide +kernel)
set_option maxRecDepth 20000 in
theorem gX2_fill_X2_whySwitch : GoodIn wsX2_fill (wsV RX2 73 RX2 yX2_whySwitch wsX2_whySwitch) := goodIn_app (goodIn_of _ (by decide +kernel)) ggX2_fill_X2_whySwitch
set_option maxRecDepth 20000 in
theorem ggX2_push_X2_easiest : GoodIn wsX2_push wsX2_easiest := goodIn_r _ [6, 1, 33, 34, 35, 36, 37, 38, 39, 40, 41, 42, 24, 25, 26, 27, 28, 29, 30, 31, 32, 14, 15, 16, 17, 18, 19, 20, 21, 22, 23] (by decide +kernel) (by decide +kernel)
set_option maxRecDepth 20000 in
theorem gX2_push_X2_easiest : GoodIn wsX2_push (wsV RX2 88 RX2 yX2_easiest wsX2_easiest) := goodIn_app (goodIn_of _ (by decide +kernel)) ggX2_push_X2_easiest
set_option maxRecDepth 20000 in
theorem ggX2_push_X2_addMelt : GoodIn wsX2_push wsX2_addMelt := goodIn_r _ [10, 1, 11, 12, 13, 24, 25, 26, 27, 28, 29, 30, 31, 32, 33, 34, 35, 36, 37, 38, 39, 40, 41, 42] (by decide +kernel) (by decide +kernel)
set_option maxRecDepth 20000 in
theorem gX2_push_X2_addMelt : GoodIn wsX2_push (wsV RX2 95 RX2 yX2_addMelt wsX2_addMelt) := goodIn_app (goodIn_of _ (by decide +kernel)) ggX2_push_X2_addMelt
set_option maxRecDepth 20000 in
theorem ggX2_hold_X2_isFrozen : GoodIn wsX2_hold wsX2_isFrozen := goodIn_r _ [14, 15, 6, 31, 32, 33, 34, 35, 36, 37, 38, 39, 40, 41, 42, 43, 44, 45, 46, 47, 48, 49] (by decide +kernel) (by decide +kernel)
set_option maxRecDepth 20000 in
theorem gX2_hold_X2_isFrozen : GoodIn wsX2_hold (wsV RX2 105 RX2 yX2_isFrozen wsX2_isFrozen) := goodIn_app (goodIn_of _ (by decide +kernel)) ggX2_hold_X2_isFrozen
set_option maxRecDepth 20000 in
theorem ggX2_hold_X2_addMelt : GoodIn wsX2_hold wsX2_addMelt := goodIn_r _ [19, 7, 15, 6, 20, 31, 32, 33, 34, 35, 36, 37, 38, 39, 40, 41, 42, 43, 44, 45, 46, 47, 48, 49] (by decide +kernel) (by decide +kernel)
set_option maxRecDepth 20000 in
theorem gX2_hold_X2_addMelt : GoodIn wsX2_hold (wsV RX2 95 RX2 yX2_addMelt wsX2_addMelt) := goodIn_app (goodIn_of _ (by decide +kernel)) ggX2_hold_X2_addMelt
set_option maxRecDepth 20000 in
theorem ggX2_told_X2_balance : GoodIn wsX2_told wsX2_balance := goodIn_r _ [9, 10, 11, 12, 13, 14, 15, 16, 17, 28, 29, 30, 31, 32, 33, 34, 35, 36] (by decide +kernel) (by decide +kernel)
set_option maxRecDepth 20000 in
theorem gX2_told_X2_balance : GoodIn wsX2_told (wsV RX2 112 RX2 yX2_balance wsX2_balance) := goodIn_app (goodIn_of _ (by decide +kernel)) ggX2_told_X2_balance
set_option maxRecDepth 20000 in
theorem ggX2_told_X2_whole : GoodIn wsX2_told wsX2_whole := goodIn_r _ [21, 2, 22, 28, 29, 30, 31, 32, 33, 34, 35, 36] (by decide +kernel) (by decide +kernel)
set_option maxRecDepth 20000 in
theorem gX2_told_X2_whole : GoodIn wsX2_told (wsV RX2 116 RX2 yX2_whole wsX2_whole) := goodIn_app (goodIn_of _ (by decide +kernel)) ggX2_told_X2_whole
set_option maxRecDepth 20000 in
theorem ggX2_told_X2_greatestPressure : GoodIn wsX2_told wsX2_greatestPressure := goodIn_r _ [26, 27, 15, 16, 13, 17, 28, 29, 30, 31, 32, 33, 34, 35, 36] (by decide +kernel) (by decide +kernel)
set_option maxRecDepth 20000 in
theorem gX2_told_X2_greatestPressure : GoodIn wsX2_told (wsV RX2 119 RX2 yX2_greatestPressure wsX2_greatestPressure) := goodIn_app (goodIn_of _ (by decide +kernel)) ggX2_told_X2_greatestPressure
set_option maxRecDepth 20000 in
theorem ggX3_init_X0_init : GoodIn wsX3_init wsX0_init := goodIn_r _ [19, 20, 2, 3, 21, 22, 23, 4, 24, 25, 36, 37, 38, 39, 40] (by decide +kernel) (by decide +kernel)
set_option maxRecDepth 20000 in
theorem gX3_init_X0_init_n43 : GoodIn wsX3_init (wsX0_init) := ggX3_init_X0_init
set_option maxRecDepth 20000 in
theorem ggX3_startWith_X0_clear : GoodIn wsX3_startWith wsX0_clear := goodIn_r _ [18, 19, 20, 21, 42, 43, 44, 45, 46] (by decide +kernel) (by decide +kernel)
set_option maxRecDepth 20000 in
theorem gX3_startWith_X0_clear_n59 : GoodIn wsX3_startWith (wsX0_clear) := ggX3_startWith_X0_clear
set_option maxRecDepth 20000 in
theorem ggX3_copyFrom_X0_copyFrom : GoodIn wsX3_copyFrom wsX0_copyFrom := goodIn_r _ [18, 19, 20, 21, 22, 23, 3, 4, 5, 24, 35, 36, 37, 38, 39] (by decide +kernel) (by decide +kernel)
set_option maxRecDepth 20000 in
theorem gX3_copyFrom_X0_copyFrom_n62 : GoodIn wsX3_copyFrom (wsX0_copyFrom) := ggX3_copyFrom_X0_copyFrom
set_option maxRecDepth 20000 in
theorem ggX4_readInto_X1_clear : GoodIn wsX4_readInto wsX1_clear := goodIn_r _ [6, 7, 8, 9, 10, 11, 12, 13, 14, 46, 47, 48, 49, 50, 51, 52, 53, 54, 55] (by decide +kernel) (by decide +kernel)
set_option maxRecDepth 20000 in
theorem gX4_readInto_X1_clear_n22 : GoodIn wsX4_readInto (wsX1_clear) := ggX4_readInto_X1_clear
set_option maxRecDepth 20000 in
theorem ggX4_readInto_X4_readItem : GoodIn wsX4_readInto wsX4_readItem := goodIn_r _ [19, 2, 20, 21, 22, 23, 18, 24, 25, 4, 26, 27, 7, 28, 29, 30, 31, 32, 33, 8, 34, 35, 36, 37, 9, 38, 39, 40, 41, 42, 10, 11, 12, 13, 14, 43, 44, 45, 46, 47, 48, 49, 50, 51, 52, 53, 54, 55] (by decide +kernel) (by decide +kernel)
set_option maxRecDepth 20000 in
theorem gX4_readInto_X4_readItem : GoodIn wsX4_readInto (wsV RX4 27 RX4 yX4_readItem wsX4_readItem) := goodIn_app (goodIn_of _ (by decide +kernel)) ggX4_readInto_X4_readItem
set_option maxRecDepth 20000 in
theorem ggX4_readItem_X4_readNumbers : GoodIn wsX4_readItem wsX4_readNumbers := goodIn_r _ [7, 1, 2, 35, 36, 37] (by decide +kernel) (by decide +kernel)
set_option maxRecDepth 20000 in
theorem gX4_readItem_X4_readNumbers : GoodIn wsX4_readItem (wsV RX4 31 RX4 yX4_readNumbers wsX4_readNumbers) := goodIn_app (goodIn_of _ (by decide +kernel)) ggX4_readItem_X4_readNumbers
set_option maxRecDepth 20000 in
theorem ggX4_readItem_X1_addCavity : GoodIn wsX4_readItem wsX1_addCavity := goodIn_r _ [11, 12, 13, 14, 15, 38, 39, 40, 41, 42, 43, 44, 45, 46, 47] (by decide +kernel) (by decide +kernel)
set_option maxRecDepth 20000 in
theorem gX4_readItem_X1_addCavity_n35 : GoodIn wsX4_readItem (wsX1_addCavity) := ggX4_readItem_X1_addCavity
set_option maxRecDepth 20000 in
theorem ggX4_readItem_X1_addCore : GoodIn wsX4_readItem wsX1_addCore := goodIn_r _ [18, 19, 20, 38, 39, 40, 41, 42, 43, 44, 45, 46, 47] (by decide +kernel) (by decide +kernel)
set_option maxRecDepth 20000 in
theorem gX4_readItem_X1_addCore_n39 : GoodIn wsX4_readItem (wsX1_addCore) := ggX4_readItem_X1_addCore
set_option maxRecDepth 20000 in
theorem ggX4_readItem_X1_addStage : GoodIn wsX4_readItem wsX1_addStage := goodIn_r _ [23, 24, 25, 26, 38, 39, 40, 41, 42, 43, 44, 45, 46, 47] (by decide +kernel) (by decide +kernel)
set_option maxRecDepth 20000 in
theorem gX4_readItem_X1_addStage_n43 : GoodIn wsX4_readItem (wsX1_addStage) := ggX4_readItem_X1_addStage
set_option maxRecDepth 20000 in
theorem ggX4_readItem_X1_setThree : GoodIn wsX4_readItem wsX1_setThree := goodIn_r _ [29, 30, 31, 32, 33, 34, 38, 39, 40, 41, 42, 43, 44, 45, 46, 47] (by decide +kernel) (by decide +kernel)
set_option maxRecDepth 20000 in
theorem gX4_readItem_X1_setThree_n47 : GoodIn wsX4_readItem (wsX1_setThree) := ggX4_readItem_X1_setThree
set_option maxRecDepth 20000 in
theorem ggX5_init_X4_init : GoodIn wsX5_init wsX4_init := goodIn_r _ [26, 27, 2, 3, 28, 29, 30, 31, 178, 179, 180] (by decide +kernel) (by decide +kernel)
set_option maxRecDepth 20000 in
theorem gX5_init_X4_init_n11 : GoodIn wsX5_init (wsX4_init) := ggX5_init_X4_init
set_option maxRecDepth 20000 in
theorem ggX5_init_X1_init : GoodIn wsX5_init wsX1_init := goodIn_r _ [33, 34, 2, 3, 35, 28, 36, 37, 38, 39, 40, 41, 42, 43, 44, 190, 191, 192, 193, 194, 195, 196, 197, 198, 199] (by decide +kernel) (by decide +kernel)
set_option maxRecDepth 20000 in
theorem gX5_init_X1_init_n18 : GoodIn wsX5_init (wsX1_init) := ggX5_init_X1_init
set_option maxRecDepth 20000 in
theorem ggX5_init_X3_init : GoodIn wsX5_init wsX3_init := goodIn_r _ [46, 47, 2, 3, 28, 48, 49, 50, 51, 52, 53, 54, 55, 56, 57, 58, 59, 60, 61, 62, 63, 64, 65, 66, 67, 68, 200, 201, 202, 203, 204, 205, 206, 207, 208, 209, 219, 220, 221, 222, 223] (by decide +kernel) (by decide +kernel)
set_option maxRecDepth 20000 in
theorem gX5_init_X3_init_n39 : GoodIn wsX5_init (wsX3_init) := ggX5_init_X3_init
set_option maxRecDepth 20000 in
theorem ggX5_init_X2_init : GoodIn wsX5_init wsX2_init := goodIn_r _ [70, 71, 2, 3, 28, 72, 73, 74, 75, 76, 77, 78, 79, 80, 210, 211, 212, 213, 214, 215, 216, 217, 218] (by decide +kernel) (by decide +kernel)
set_option maxRecDepth 20000 in
theorem gX5_init_X2_init_n50 : GoodIn wsX5_init (wsX2_init) := ggX5_init_X2_init
set_option maxRecDepth 20000 in
theorem ggX5_init_J0_length_8abf5 : GoodIn wsX5_init wsJ0_length_8abf5 := goodIn_r _ [85, 86, 87, 88, 89, 84, 90, 91, 92] (by decide +kernel) (by decide +kernel)
set_option maxRecDepth 20000 in
theorem gX5_init_J0_length_8abf5 : GoodIn wsX5_init (wsV RX5 57 RJ0 yJ0_length_8abf5 wsJ0_length_8abf5) := goodIn_app (goodIn_of _ (by decide +kernel)) ggX5_init_J0_length_8abf5
set_option maxRecDepth 20000 in
theorem ggX5_init_J0_charAt_5068e : GoodIn wsX5_init wsJ0_charAt_5068e := goodIn_r _ [96, 86, 97, 98, 99, 84, 100, 91, 92, 101, 102, 103, 104, 105, 106, 107, 108, 109, 110, 111, 112, 113, 114, 115, 116, 117, 118, 119, 120, 121, 122, 123, 124, 125, 126, 127, 128, 129] (by decide +kernel) (by decide +kernel)
set_option maxRecDepth 20000 in
theorem gX5_init_J0_charAt_5068e : GoodIn wsX5_init (wsV RX5 63 RJ0 yJ0_charAt_5068e wsJ0_charAt_5068e) := goodIn_app (goodIn_of _ (by decide +kernel)) ggX5_init_J0_charAt_5068e
set_option maxRecDepth 20000 in
theorem ggX5_init_X4_append : GoodIn wsX5_init wsX4_append := goodIn_r _ [132, 31, 29, 178, 179, 180] (by decide +kernel) (by decide +kernel)
set_option maxRecDepth 20000 in
theorem gX5_init_X4_append_n67 : GoodIn wsX5_init (wsX4_append) := ggX5_init_X4_append
set_option maxRecDepth 20000 in
theorem ggX5_init_X4_readInto : GoodIn wsX5_init wsX4_readInto := goodIn_r _ [135, 31, 29, 136, 10, 137, 138, 35, 39, 41, 44, 139, 140, 141, 142, 143, 144, 145, 6, 146, 30, 147, 148, 149, 150, 151, 152, 153, 36, 37, 38, 154, 155, 156, 40, 157, 158, 159, 42, 43, 160, 161, 162, 178, 179, 180, 190, 191, 192, 193, 194, 195, 196, 197, 198, 199] (by decide +kernel) (by decide +kernel)
set_option maxRecDepth 20000 in
theorem gX5_init_X4_readInto_n71 : GoodIn wsX5_init (wsX4_readInto) := ggX5_init_X4_readInto
set_option maxRecDepth 20000 in
theorem ggX5_init_X5_takeDraft : GoodIn wsX5_init wsX5_takeDraft := goodIn_r _ [167, 12, 11, 19, 16, 168, 18, 169, 170, 48, 171, 140, 141, 142, 49, 50, 51, 52, 53, 54, 55, 56, 60, 172, 59, 173, 174, 64, 65, 66, 181, 182, 183, 184, 185, 186, 187, 188, 189, 190, 191, 192, 193, 194, 195, 196, 197, 198, 199, 200, 201, 202, 203, 204, 205, 206, 207, 208, 209, 219, 220, 221, 222, 223] (by decide +kernel) (by decide +kernel)
set_option maxRecDepth 20000 in
theorem gX5_init_X5_takeDraft : GoodIn wsX5_init (wsV RX5 75 RX5 yX5_takeDraft wsX5_takeDraft) := goodIn_app (goodIn_of _ (by decide +kernel)) ggX5_init_X5_takeDraft
set_option maxRecDepth 20000 in
theorem ggX5_init_X4_clear : GoodIn wsX5_init wsX4_clear := goodIn_r _ [177, 31, 178, 179, 180] (by decide +kernel) (by decide +kernel)
set_option maxRecDepth 20000 in
theorem gX5_init_X4_clear_n78 : GoodIn wsX5_init (wsX4_clear) := ggX5_init_X4_clear
set_option maxRecDepth 20000 in
theorem ggX5_write_X4_append : GoodIn wsX5_write wsX4_append := goodIn_r _ [5, 6, 7, 17, 18, 19] (by decide +kernel) (by decide +kernel)
set_option maxRecDepth 20000 in
theorem gX5_write_X4_append_n67 : GoodIn wsX5_write (wsX4_append) := ggX5_write_X4_append
set_option maxRecDepth 20000 in
theorem ggX5_wipe_X4_clear : GoodIn wsX5_wipe wsX4_clear := goodIn_r _ [5, 6, 16, 17, 18] (by decide +kernel) (by decide +kernel)
set_option maxRecDepth 20000 in
theorem gX5_wipe_X4_clear_n78 : GoodIn wsX5_wipe (wsX4_clear) := ggX5_wipe_X4_clear
set_option maxRecDepth 20000 in
theorem ggX5_fault_X4_readInto : GoodIn wsX5_fault wsX4_readInto := goodIn_r _ [6, 7, 8, 9, 10, 11, 12, 13, 14, 15, 16, 17, 18, 19, 20, 21, 22, 23, 4, 24, 25, 26, 27, 28, 29, 30, 31, 32, 33, 34, 35, 36, 37, 38, 39, 40, 41, 42, 43, 44, 45, 46, 47, 57, 58, 59, 60, 61, 62, 63, 64, 65, 66, 67, 68, 69] (by decide +kernel) (by decide +kernel)
set_option maxRecDepth 20000 in
theorem gX5_fault_X4_readInto_n71 : GoodIn wsX5_fault (wsX4_readInto) := ggX5_fault_X4_readInto
set_option maxRecDepth 20000 in
theorem ggX5_lay_X4_readInto : GoodIn wsX5_lay wsX4_readInto := goodIn_r _ [7, 8, 9, 10, 11, 12, 13, 14, 15, 16, 17, 18, 19, 20, 21, 22, 23, 24, 5, 25, 26, 27, 28, 29, 30, 31, 32, 33, 34, 35, 36, 37, 38, 39, 40, 41, 42, 43, 44, 45, 46, 47, 48, 104, 105, 106, 94, 95, 96, 97, 98, 99, 100, 101, 102, 103] (by decide +kernel) (by decide +kernel)
set_option maxRecDepth 20000 in
theorem gX5_lay_X4_readInto_n71 : GoodIn wsX5_lay (wsX4_readInto) := ggX5_lay_X4_readInto
set_option maxRecDepth 20000 in
theorem ggX5_lay_X1_canBeLaid : GoodIn wsX5_lay wsX1_canBeLaid := goodIn_r _ [51, 14, 16, 15, 52, 53, 54, 11, 55, 40, 94, 95, 96, 97, 98, 99, 100, 101, 102, 103] (by decide +kernel) (by decide +kernel)
set_option maxRecDepth 20000 in
theorem gX5_lay_X1_canBeLaid_n83 : GoodIn wsX5_lay (wsX1_canBeLaid) := ggX5_lay_X1_canBeLaid
set_option maxRecDepth 20000 in
theorem ggX5_lay_X5_takeDraft : GoodIn wsX5_lay wsX5_takeDraft := goodIn_r _ [60, 2, 3, 61, 62, 63, 64, 65, 66, 67, 68, 19, 20, 21, 69, 70, 71, 72, 73, 74, 75, 76, 77, 78, 79, 80, 81, 82, 83, 84, 85, 86, 87, 88, 89, 90, 91, 92, 93, 94, 95, 96, 97, 98, 99, 100, 101, 102, 103, 107, 108, 109, 110, 111, 112, 113, 114, 115, 116, 117, 118, 119, 120, 121] (by decide +kernel) (by decide +kernel)
set_option maxRecDepth 20000 in
theorem gX5_lay_X5_takeDraft : GoodIn wsX5_lay (wsV RX5 75 RX5 yX5_takeDraft wsX5_takeDraft) := goodIn_app (goodIn_of _ (by decide +kernel)) ggX5_lay_X5_takeDraft
set_option maxRecDepth 20000 in
theorem ggX5_takeDraft_X3_startWith : GoodIn wsX5_takeDraft wsX3_startWith := goodIn_r _ [8, 9, 10, 11, 12, 13, 14, 15, 16, 17, 18, 19, 20, 21, 22, 23, 24, 25, 26, 27, 28, 29, 39, 40, 41, 42, 43, 44, 45, 46, 47, 48, 49, 50, 51, 52, 53, 54, 55, 56, 57, 58, 59, 60, 61, 62, 63] (by decide +kernel) (by decide +kernel)
set_option maxRecDepth 20000 in
theorem gX5_takeDraft_X3_startWith_n90 : GoodIn wsX5_takeDraft (wsX3_startWith) := ggX5_takeDraft_X3_startWith
set_option maxRecDepth 20000 in
theorem ggX5_mould_X5_isFlag : GoodIn wsX5_mould wsX5_isFlag := goodIn_r _ [4] (by decide +kernel) (by decide +kernel)
set_option maxRecDepth 20000 in
theorem gX5_mould_X5_isFlag : GoodIn wsX5_mould (va_wsS RX5 94 yX5_isFlag wsX5_isFlag) := goodIn_app (goodIn_of _ (by decide +kernel)) ggX5_mould_X5_isFlag
set_option maxRecDepth 20000 in
theorem ggX5_mould_X5_shutMould : GoodIn wsX5_mould wsX5_shutMould := goodIn_r _ [8, 9, 10, 11, 12, 3, 13, 14, 15, 16, 17, 18, 19, 20, 21, 22, 23, 24, 25, 26, 27, 28, 29, 30, 31, 32, 33, 34, 35, 36, 37, 38, 39, 40, 41, 42, 43, 44, 45, 46, 47, 48, 53, 54, 55, 56, 57, 58, 59, 60, 61, 62, 63, 64, 65, 66, 67, 68, 69, 70, 71, 72, 73, 74, 75, 76] (by decide +kernel) (by decide +kernel)
set_option maxRecDepth 20000 in
theorem gX5_mould_X5_shutMould : GoodIn wsX5_mould (wsV RX5 97 RX5 yX5_shutMould wsX5_shutMould) := goodIn_app (goodIn_of _ (by decide +kernel)) ggX5_mould_X5_shutMould
set_option maxRecDepth 20000 in
theorem ggX5_mould_X5_openMould : GoodIn wsX5_mould wsX5_openMould := goodIn_r _ [52, 9, 10, 11, 12, 3, 13, 14, 15, 16, 17, 18, 19, 20, 21, 22, 23, 24, 25, 26, 27, 28, 29, 30, 31, 32, 33, 34, 35, 36, 37, 38, 39, 40, 41, 42, 43, 44, 45, 46, 47, 48, 53, 54, 55, 56, 57, 58, 59, 60, 61, 62, 63, 64, 65, 66, 67, 68, 69, 70, 71, 72, 73, 74, 75, 76] (by decide +kernel) (by decide +kernel)
set_option maxRecDepth 20000 in
theorem gX5_mould_X5_openMould : GoodIn wsX5_mould (wsV RX5 100 RX5 yX5_openMould wsX5_openMould) := goodIn_app (goodIn_of _ (by decide +kernel)) ggX5_mould_X5_openMould
set_option maxRecDepth 20000 in
theorem ggX5_shutMould_X5_startChange : GoodIn wsX5_shutMould wsX5_startChange := goodIn_r _ [6, 7, 8, 1, 9, 10, 11, 12, 13, 14, 15, 16, 17, 18, 19, 20, 21, 22, 23, 24, 25, 26, 27, 28, 29, 30, 31, 32, 33, 34, 35, 36, 37, 38, 39, 40, 41, 42, 43, 44, 45, 46, 47, 48, 49, 50, 51, 52, 53, 54, 55, 56, 57, 58, 59, 60, 61, 62, 63, 64, 65] (by decide +kernel) (by decide +kernel)
set_option maxRecDepth 20000 in
theorem gX5_shutMould_X5_startChange : GoodIn wsX5_shutMould (wsV RX5 107 RX5 yX5_startChange wsX5_startChange) := goodIn_app (goodIn_of _ (by decide +kernel)) ggX5_shutMould_X5_startChange
set_option maxRecDepth 20000 in
theorem ggX5_openMould_X5_startChange : GoodIn wsX5_openMould wsX5_startChange := goodIn_r _ [6, 7, 8, 1, 9, 10, 11, 12, 13, 14, 15, 16, 17, 18, 19, 20, 21, 22, 23, 24, 25, 26, 27, 28, 29, 30, 31, 32, 33, 34, 35, 36, 37, 38, 39, 40, 41, 42, 43, 44, 45, 46, 47, 48, 49, 50, 51, 52, 53, 54, 55, 56, 57, 58, 59, 60, 61, 62, 63, 64, 65] (by decide +kernel) (by decide +kernel)
set_option maxRecDepth 20000 in
theorem gX5_openMould_X5_startChange : GoodIn wsX5_openMould (wsV RX5 107 RX5 yX5_startChange wsX5_startChange) := goodIn_app (goodIn_of _ (by decide +kernel)) ggX5_openMould_X5_startChange
set_option maxRecDepth 20000 in
theorem ggX5_core_X5_isCore : GoodIn wsX5_core wsX5_isCore := goodIn_r _ [6, 7, 72, 73, 74, 75, 76, 77, 78, 79, 80, 91, 92, 93, 94, 95, 96, 97, 98, 99, 100] (by decide +kernel) (by decide +kernel)
set_option maxRecDepth 20000 in
theorem gX5_core_X5_isCore : GoodIn wsX5_core (wsV RX5 119 RX5 yX5_isCore wsX5_isCore) := goodIn_app (goodIn_of _ (by decide +kernel)) ggX5_core_X5_isCore
set_option maxRecDepth 20000 in
theorem ggX5_core_X5_isFlag : GoodIn wsX5_core wsX5_isFlag := goodIn_r _ [10] (by decide +kernel) (by decide +kernel)
set_option maxRecDepth 20000 in
theorem gX5_core_X5_isFlag : GoodIn wsX5_core (va_wsS RX5 94 yX5_isFlag wsX5_isFlag) := goodIn_app (goodIn_of _ (by decide +kernel)) ggX5_core_X5_isFlag
set_option maxRecDepth 20000 in
theorem ggX5_core_X5_barrier : GoodIn wsX5_core wsX5_barrier := goodIn_r _ [14, 1, 15, 16, 17, 18, 19, 20, 21, 22, 5, 23, 7, 2, 3, 4, 6, 24, 25, 26, 27, 72, 73, 74, 75, 76, 77, 78, 79, 80, 81, 82, 83, 84, 85, 86, 87, 88, 89, 90, 91, 92, 93, 94, 95, 96, 97, 98, 99, 100] (by decide +kernel) (by decide +kernel)
set_option maxRecDepth 20000 in
theorem gX5_core_X5_barrier : GoodIn wsX5_core (wsV RX5 122 RX5 yX5_barrier wsX5_barrier) := goodIn_app (goodIn_of _ (by decide +kernel)) ggX5_core_X5_barrier
set_option maxRecDepth 20000 in
theorem ggX5_core_X5_startChange : GoodIn wsX5_core wsX5_startChange := goodIn_r _ [31, 32, 33, 1, 34, 35, 36, 37, 38, 39, 16, 40, 41, 42, 43, 44, 45, 46, 47, 48, 49, 19, 50, 51, 52, 53, 54, 55, 56, 57, 58, 59, 60, 61, 62, 63, 64, 72, 73, 74, 75, 76, 77, 78, 79, 80, 81, 82, 83, 84, 85, 86, 87, 88, 89, 90, 101, 102, 103, 104, 105] (by decide +kernel) (by decide +kernel)
set_option maxRecDepth 20000 in
theorem gX5_core_X5_startChange : GoodIn wsX5_core (wsV RX5 107 RX5 yX5_startChange wsX5_startChange) := goodIn_app (goodIn_of _ (by decide +kernel)) ggX5_core_X5_startChange
set_option maxRecDepth 20000 in
theorem ggX5_core_J6_bitCount_0f7a4 : GoodIn wsX5_core wsJ6_bitCount_0f7a4 := goodIn_r _ [68, 69, 70, 71] (by decide +kernel) (by decide +kernel)
set_option maxRecDepth 20000 in
theorem gX5_core_J6_bitCount_0f7a4 : GoodIn wsX5_core (va_wsS RX5 126 yJ6_bitCount_0f7a4 wsJ6_bitCount_0f7a4) := goodIn_app (goodIn_of _ (by decide +kernel)) ggX5_core_J6_bitCount_0f7a4
set_option maxRecDepth 20000 in
theorem ggX5_against_X5_isCore : GoodIn wsX5_against wsX5_isCore := goodIn_r _ [5, 6, 28, 29, 30, 31, 32, 33, 34, 35, 36, 37, 38, 39, 40, 41, 42, 43, 44, 45, 46] (by decide +kernel) (by decide +kernel)
set_option maxRecDepth 20000 in
theorem gX5_against_X5_isCore : GoodIn wsX5_against (wsV RX5 119 RX5 yX5_isCore wsX5_isCore) := goodIn_app (goodIn_of _ (by decide +kernel)) ggX5_against_X5_isCore
set_option maxRecDepth 20000 in
theorem ggX5_against_X5_isFlag : GoodIn wsX5_against wsX5_isFlag := goodIn_r _ [9] (by decide +kernel) (by decide +kernel)
set_option maxRecDepth 20000 in
theorem gX5_against_X5_isFlag : GoodIn wsX5_against (va_wsS RX5 94 yX5_isFlag wsX5_isFlag) := goodIn_app (goodIn_of _ (by decide +kernel)) ggX5_against_X5_isFlag
set_option maxRecDepth 20000 in
theorem ggX5_against_X5_barrier : GoodIn wsX5_against wsX5_barrier := goodIn_r _ [13, 14, 15, 16, 17, 18, 19, 20, 21, 22, 4, 23, 6, 1, 2, 3, 5, 24, 25, 26, 27, 28, 29, 30, 31, 32, 33, 34, 35, 36, 47, 48, 49, 50, 51, 52, 53, 54, 55, 56, 37, 38, 39, 40, 41, 42, 43, 44, 45, 46] (by decide +kernel) (by decide +kernel)
set_option maxRecDepth 20000 in
theorem gX5_against_X5_barrier : GoodIn wsX5_against (wsV RX5 122 RX5 yX5_barrier wsX5_barrier) := goodIn_app (goodIn_of _ (by decide +kernel)) ggX5_against_X5_barrier
set_option maxRecDepth 20000 in
theorem ggX5_barrier_X3_isIn : GoodIn wsX5_barrier wsX3_isIn := goodIn_r _ [5, 6, 30, 31, 32, 33, 34, 35, 36, 37, 38, 39] (by decide +kernel) (by decide +kernel)
set_option maxRecDepth 20000 in
theorem gX5_barrier_X3_isIn_n132 : GoodIn wsX5_barrier (wsX3_isIn) := ggX5_barrier_X3_isIn
set_option maxRecDepth 20000 in
theorem ggX5_barrier_X5_outAheadOf : GoodIn wsX5_barrier wsX5_outAheadOf := goodIn_r _ [11, 12, 1, 13, 14, 15, 10, 16, 2, 3, 4, 5, 6, 21, 22, 23, 24, 25, 26, 27, 28, 29, 40, 41, 42, 43, 44, 45, 46, 47, 48, 49, 30, 31, 32, 33, 34, 35, 36, 37, 38, 39] (by decide +kernel) (by decide +kernel)
set_option maxRecDepth 20000 in
theorem gX5_barrier_X5_outAheadOf : GoodIn wsX5_barrier (wsV RX5 135 RX5 yX5_outAheadOf wsX5_outAheadOf) := goodIn_app (goodIn_of _ (by decide +kernel)) ggX5_barrier_X5_outAheadOf
set_option maxRecDepth 20000 in
theorem ggX5_barrier_X5_inBehind : GoodIn wsX5_barrier wsX5_inBehind := goodIn_r _ [20, 12, 1, 2, 3, 4, 5, 6, 21, 22, 23, 24, 25, 26, 27, 28, 29, 40, 41, 42, 43, 44, 45, 46, 47, 48, 49, 30, 31, 32, 33, 34, 35, 36, 37, 38, 39] (by decide +kernel) (by decide +kernel)
set_option maxRecDepth 20000 in
theorem gX5_barrier_X5_inBehind : GoodIn wsX5_barrier (wsV RX5 138 RX5 yX5_inBehind wsX5_inBehind) := goodIn_app (goodIn_of _ (by decide +kernel)) ggX5_barrier_X5_inBehind
set_option maxRecDepth 20000 in
theorem ggX5_outAheadOf_X5_isCore : GoodIn wsX5_outAheadOf wsX5_isCore := goodIn_r _ [7, 1, 13, 14, 15, 16, 17, 18, 19, 20, 21, 22, 23, 24, 25, 26, 27, 28, 29, 30, 31] (by decide +kernel) (by decide +kernel)
set_option maxRecDepth 20000 in
theorem gX5_outAheadOf_X5_isCore : GoodIn wsX5_outAheadOf (wsV RX5 119 RX5 yX5_isCore wsX5_isCore) := goodIn_app (goodIn_of _ (by decide +kernel)) ggX5_outAheadOf_X5_isCore
set_option maxRecDepth 20000 in
theorem ggX5_outAheadOf_X3_isIn : GoodIn wsX5_outAheadOf wsX3_isIn := goodIn_r _ [11, 12, 32, 33, 34, 35, 36, 37, 38, 39, 40, 41] (by decide +kernel) (by decide +kernel)
set_option maxRecDepth 20000 in
theorem gX5_outAheadOf_X3_isIn_n132 : GoodIn wsX5_outAheadOf (wsX3_isIn) := ggX5_outAheadOf_X3_isIn
set_option maxRecDepth 20000 in
theorem ggX5_inBehind_X3_isIn : GoodIn wsX5_inBehind wsX3_isIn := goodIn_r _ [6, 7, 27, 28, 29, 30, 31, 32, 33, 34, 35, 36] (by decide +kernel) (by decide +kernel)
set_option maxRecDepth 20000 in
theorem gX5_inBehind_X3_isIn_n132 : GoodIn wsX5_inBehind (wsX3_isIn) := ggX5_inBehind_X3_isIn
set_option maxRecDepth 20000 in
theorem ggX5_drag_X5_isCavity : GoodIn wsX5_drag wsX5_isCavity := goodIn_r _ [6, 7, 47, 48, 49, 50, 51, 52, 53, 54, 55, 66, 67, 68, 69, 70, 71, 72, 73, 74, 75] (by decide +kernel) (by decide +kernel)
set_option maxRecDepth 20000 in
theorem gX5_drag_X5_isCavity : GoodIn wsX5_drag (wsV RX5 148 RX5 yX5_isCavity wsX5_isCavity) := goodIn_app (goodIn_of _ (by decide +kernel)) ggX5_drag_X5_isCavity
set_option maxRecDepth 20000 in
theorem ggX5_drag_X5_startChange : GoodIn wsX5_drag wsX5_startChange := goodIn_r _ [11, 12, 13, 1, 14, 15, 16, 17, 18, 19, 20, 21, 22, 23, 24, 25, 26, 27, 28, 29, 30, 31, 32, 33, 34, 35, 36, 37, 38, 39, 40, 41, 42, 43, 44, 45, 46, 47, 48, 49, 50, 51, 52, 53, 54, 55, 56, 57, 58, 59, 60, 61, 62, 63, 64, 65, 76, 77, 78, 79, 80] (by decide +kernel) (by decide +kernel)
set_option maxRecDepth 20000 in
theorem gX5_drag_X5_startChange : GoodIn wsX5_drag (wsV RX5 107 RX5 yX5_startChange wsX5_startChange) := goodIn_app (goodIn_of _ (by decide +kernel)) ggX5_drag_X5_startChange
set_option maxRecDepth 20000 in
theorem ggX5_speed_X5_startChange : GoodIn wsX5_speed wsX5_startChange := goodIn_r _ [7, 8, 9, 2, 10, 11, 12, 13, 14, 15, 16, 17, 18, 19, 20, 21, 22, 23, 24, 25, 26, 27, 28, 29, 30, 31, 32, 33, 34, 35, 36, 37, 38, 39, 40, 41, 42, 43, 44, 45, 46, 47, 48, 49, 50, 51, 62, 63, 64, 65, 66, 67, 68, 69, 70, 71, 72, 73, 74, 75, 76] (by decide +kernel) (by decide +kernel)
set_option maxRecDepth 20000 in
theorem gX5_speed_X5_startChange : GoodIn wsX5_speed (wsV RX5 107 RX5 yX5_startChange wsX5_startChange) := goodIn_app (goodIn_of _ (by decide +kernel)) ggX5_speed_X5_startChange
set_option maxRecDepth 20000 in
theorem ggX5_tell_X5_startChange : GoodIn wsX5_tell wsX5_startChange := goodIn_r _ [8, 9, 10, 3, 11, 12, 13, 14, 15, 16, 17, 18, 19, 20, 21, 22, 23, 24, 25, 26, 27, 28, 29, 30, 31, 32, 33, 34, 35, 36, 37, 38, 39, 40, 41, 42, 43, 44, 45, 46, 47, 48, 49, 50, 51, 52, 53, 54, 55, 56, 57, 58, 59, 60, 61, 62, 63, 64, 65, 66, 67] (by decide +kernel) (by decide +kernel)
set_option maxRecDepth 20000 in
theorem gX5_tell_X5_startChange : GoodIn wsX5_tell (wsV RX5 107 RX5 yX5_startChange wsX5_startChange) := goodIn_app (goodIn_of _ (by decide +kernel)) ggX5_tell_X5_startChange
set_option maxRecDepth 20000 in
theorem ggX5_shoot_X5_isReady : GoodIn wsX5_shoot wsX5_isReady := goodIn_r _ [8, 1, 3, 9, 10, 11, 12, 13, 14, 15, 111, 112, 113, 114, 115, 116, 117, 118, 119, 120, 121, 122, 123, 124, 125, 126, 127, 128, 129, 130, 131, 132, 133, 134, 135, 136, 137, 138, 139] (by decide +kernel) (by decide +kernel)
set_option maxRecDepth 20000 in
theorem gX5_shoot_X5_isReady : GoodIn wsX5_shoot (wsV RX5 169 RX5 yX5_isReady wsX5_isReady) := goodIn_app (goodIn_of _ (by decide +kernel)) ggX5_shoot_X5_isReady
set_option maxRecDepth 20000 in
theorem ggX5_shoot_X5_startChange : GoodIn wsX5_shoot wsX5_startChange := goodIn_r _ [19, 20, 21, 1, 22, 23, 24, 25, 26, 27, 28, 29, 30, 31, 32, 33, 34, 35, 36, 37, 38, 39, 40, 41, 42, 43, 44, 45, 46, 47, 48, 49, 50, 51, 52, 53, 54, 111, 112, 113, 114, 115, 116, 117, 118, 119, 120, 121, 122, 123, 124, 125, 126, 127, 128, 129, 140, 141, 142, 143, 144] (by decide +kernel) (by decide +kernel)
set_option maxRecDepth 20000 in
theorem gX5_shoot_X5_startChange : GoodIn wsX5_shoot (wsV RX5 107 RX5 yX5_startChange wsX5_startChange) := goodIn_app (goodIn_of _ (by decide +kernel)) ggX5_shoot_X5_startChange
set_option maxRecDepth 20000 in
theorem ggX5_shoot_X2_make : GoodIn wsX5_shoot wsX2_make := goodIn_r _ [58, 59, 60, 61, 62, 56, 63, 64, 65, 66, 67, 68, 69, 70, 71, 72, 73, 74, 75, 24, 25, 26, 76, 77, 78, 79, 80, 81, 82, 83, 84, 85, 86, 87, 88, 89, 90, 91, 92, 93, 94, 95, 96, 97, 98, 99, 100, 101, 102, 103, 104, 105, 106, 107, 120, 121, 122, 123, 124, 125, 126, 127, 128, 129, 145, 146, 147, 148, 149, 150, 151, 152, 153, 130, 131, 132, 133, 134, 135, 136, 137, 138, 139] (by decide +kernel) (by decide +kernel)
set_option maxRecDepth 20000 in
theorem gX5_shoot_X2_make_n175 : GoodIn wsX5_shoot (wsX2_make) := ggX5_shoot_X2_make
set_option maxRecDepth 20000 in
theorem ggX5_shoot_X2_whole : GoodIn wsX5_shoot wsX2_whole := goodIn_r _ [110, 69, 59, 145, 146, 147, 148, 149, 150, 151, 152, 153] (by decide +kernel) (by decide +kernel)
set_option maxRecDepth 20000 in
theorem gX5_shoot_X2_whole_n179 : GoodIn wsX5_shoot (wsX2_whole) := ggX5_shoot_X2_whole
set_option maxRecDepth 20000 in
theorem ggX5_waitCool_X5_startChange : GoodIn wsX5_waitCool wsX5_startChange := goodIn_r _ [6, 7, 8, 1, 9, 10, 11, 12, 13, 14, 15, 16, 17, 18, 19, 20, 21, 22, 23, 24, 25, 26, 27, 28, 29, 30, 31, 32, 33, 34, 35, 36, 37, 38, 39, 40, 41, 55, 56, 57, 58, 59, 60, 61, 62, 63, 64, 65, 66, 67, 68, 69, 70, 71, 72, 73, 83, 84, 85, 86, 87] (by decide +kernel) (by decide +kernel)
set_option maxRecDepth 20000 in
theorem gX5_waitCool_X5_startChange : GoodIn wsX5_waitCool (wsV RX5 107 RX5 yX5_startChange wsX5_startChange) := goodIn_app (goodIn_of _ (by decide +kernel)) ggX5_waitCool_X5_startChange
set_option maxRecDepth 20000 in
theorem ggX5_waitCool_X5_keptShots : GoodIn wsX5_waitCool wsX5_keptShots := goodIn_r _ [45, 1, 10, 11, 12, 13, 55, 56, 57, 58, 59, 60, 61, 62, 63, 64, 65, 66, 67, 68, 69, 70, 71, 72, 73] (by decide +kernel) (by decide +kernel)
set_option maxRecDepth 20000 in
theorem gX5_waitCool_X5_keptShots : GoodIn wsX5_waitCool (wsV RX5 182 RX5 yX5_keptShots wsX5_keptShots) := goodIn_app (goodIn_of _ (by decide +kernel)) ggX5_waitCool_X5_keptShots
set_option maxRecDepth 20000 in
theorem ggX5_waitCool_X5_keptShot : GoodIn wsX5_waitCool wsX5_keptShot := goodIn_r _ [49, 50, 1, 42, 43, 44, 5, 45, 10, 11, 12, 13, 51, 52, 53, 54, 55, 56, 57, 58, 59, 60, 61, 62, 63, 64, 65, 66, 67, 68, 69, 70, 71, 72, 73] (by decide +kernel) (by decide +kernel)
set_option maxRecDepth 20000 in
theorem gX5_waitCool_X5_keptShot : GoodIn wsX5_waitCool (wsV RX5 185 RX5 yX5_keptShot wsX5_keptShot) := goodIn_app (goodIn_of _ (by decide +kernel)) ggX5_waitCool_X5_keptShot
set_option maxRecDepth 20000 in
theorem ggX5_startChange_X3_copyFrom : GoodIn wsX5_startChange wsX3_copyFrom := goodIn_r _ [12, 13, 14, 15, 16, 17, 18, 19, 20, 21, 22, 23, 24, 25, 26, 27, 28, 29, 30, 31, 32, 33, 34, 35, 36, 46, 47, 48, 49, 50, 51, 52, 53, 54, 55, 56, 57, 58, 59, 60] (by decide +kernel) (by decide +kernel)
set_option maxRecDepth 20000 in
theorem gX5_startChange_X3_copyFrom_n192 : GoodIn wsX5_startChange (wsX3_copyFrom) := ggX5_startChange_X3_copyFrom
set_option maxRecDepth 20000 in
theorem ggX5_teach_X5_isShot : GoodIn wsX5_teach wsX5_isShot := goodIn_r _ [7, 8, 9, 10, 6, 11, 2, 12, 13, 14, 15, 72, 73, 74, 75, 76, 77, 78, 79, 80, 81, 82, 83, 84, 85, 86, 87, 88, 89, 90] (by decide +kernel) (by decide +kernel)
set_option maxRecDepth 20000 in
theorem gX5_teach_X5_isShot : GoodIn wsX5_teach (wsV RX5 201 RX5 yX5_isShot wsX5_isShot) := goodIn_app (goodIn_of _ (by decide +kernel)) ggX5_teach_X5_isShot
set_option maxRecDepth 20000 in
theorem ggX5_teach_X5_keptShot : GoodIn wsX5_teach wsX5_keptShot := goodIn_r _ [19, 20, 2, 8, 9, 10, 6, 11, 12, 13, 14, 15, 21, 22, 23, 24, 72, 73, 74, 75, 76, 77, 78, 79, 80, 81, 82, 83, 84, 85, 86, 87, 88, 89, 90] (by decide +kernel) (by decide +kernel)
set_option maxRecDepth 20000 in
theorem gX5_teach_X5_keptShot : GoodIn wsX5_teach (wsV RX5 185 RX5 yX5_keptShot wsX5_keptShot) := goodIn_app (goodIn_of _ (by decide +kernel)) ggX5_teach_X5_keptShot
set_option maxRecDepth 20000 in
theorem ggX5_teach_X2_isShort : GoodIn wsX5_teach wsX2_isShort := goodIn_r _ [28, 29, 96, 97, 98, 99, 100, 101, 102, 103, 104, 105, 106, 107, 108, 109, 110, 111, 112, 113, 114] (by decide +kernel) (by decide +kernel)
set_option maxRecDepth 20000 in
theorem gX5_teach_X2_isShort_n204 : GoodIn wsX5_teach (wsX2_isShort) := ggX5_teach_X2_isShort
set_option maxRecDepth 20000 in
theorem ggX5_teach_X5_startChange : GoodIn wsX5_teach wsX5_startChange := goodIn_r _ [33, 34, 35, 2, 36, 12, 13, 14, 15, 37, 38, 39, 40, 41, 42, 43, 44, 45, 46, 47, 48, 49, 50, 51, 52, 53, 54, 55, 56, 57, 58, 59, 60, 61, 62, 63, 64, 72, 73, 74, 75, 76, 77, 78, 79, 80, 81, 82, 83, 84, 85, 86, 87, 88, 89, 90, 91, 92, 93, 94, 95] (by decide +kernel) (by decide +kernel)
set_option maxRecDepth 20000 in
theorem gX5_teach_X5_startChange : GoodIn wsX5_teach (wsV RX5 107 RX5 yX5_startChange wsX5_startChange) := goodIn_app (goodIn_of _ (by decide +kernel)) ggX5_teach_X5_startChange
set_option maxRecDepth 20000 in
theorem ggX5_teach_X0_learn : GoodIn wsX5_teach wsX0_learn := goodIn_r _ [67, 59, 62, 68, 13, 14, 15, 64, 69, 70, 71, 60, 61, 91, 92, 93, 94, 95, 106, 107, 108, 109, 110, 111, 112, 113, 114] (by decide +kernel) (by decide +kernel)
set_option maxRecDepth 20000 in
theorem gX5_teach_X0_learn_n212 : GoodIn wsX5_teach (wsX0_learn) := ggX5_teach_X0_learn
set_option maxRecDepth 20000 in
theorem ggX5_forget_X5_startChange : GoodIn wsX5_forget wsX5_startChange := goodIn_r _ [6, 7, 8, 1, 9, 10, 11, 12, 13, 14, 15, 16, 17, 18, 19, 20, 21, 22, 23, 24, 25, 26, 27, 28, 29, 30, 31, 32, 33, 34, 35, 36, 37, 38, 39, 40, 41, 45, 46, 47, 48, 49, 50, 51, 52, 53, 54, 55, 56, 57, 58, 59, 60, 61, 62, 63, 64, 65, 66, 67, 68] (by decide +kernel) (by decide +kernel)
set_option maxRecDepth 20000 in
theorem gX5_forget_X5_startChange : GoodIn wsX5_forget (wsV RX5 107 RX5 yX5_startChange wsX5_startChange) := goodIn_app (goodIn_of _ (by decide +kernel)) ggX5_forget_X5_startChange
set_option maxRecDepth 20000 in
theorem ggX5_forget_X0_clear : GoodIn wsX5_forget wsX0_clear := goodIn_r _ [44, 36, 37, 38, 64, 65, 66, 67, 68] (by decide +kernel) (by decide +kernel)
set_option maxRecDepth 20000 in
theorem gX5_forget_X0_clear_n221 : GoodIn wsX5_forget (wsX0_clear) := ggX5_forget_X0_clear
set_option maxRecDepth 20000 in
theorem ggX5_wide_X5_startChange : GoodIn wsX5_wide wsX5_startChange := goodIn_r _ [6, 7, 8, 1, 9, 10, 11, 12, 13, 14, 15, 16, 17, 18, 19, 20, 21, 22, 23, 24, 25, 26, 27, 28, 29, 30, 31, 32, 33, 34, 35, 36, 37, 38, 39, 40, 41, 42, 43, 44, 45, 46, 47, 48, 49, 50, 51, 52, 53, 54, 55, 56, 57, 58, 59, 60, 61, 62, 63, 64, 65] (by decide +kernel) (by decide +kernel)
set_option maxRecDepth 20000 in
theorem gX5_wide_X5_startChange : GoodIn wsX5_wide (wsV RX5 107 RX5 yX5_startChange wsX5_startChange) := goodIn_app (goodIn_of _ (by decide +kernel)) ggX5_wide_X5_startChange
set_option maxRecDepth 20000 in
theorem ggX5_band_X5_isTick : GoodIn wsX5_band wsX5_isTick := goodIn_r _ [5] (by decide +kernel) (by decide +kernel)
set_option maxRecDepth 20000 in
theorem gX5_band_X5_isTick : GoodIn wsX5_band (va_wsS RX5 225 yX5_isTick wsX5_isTick) := goodIn_app (goodIn_of _ (by decide +kernel)) ggX5_band_X5_isTick
set_option maxRecDepth 20000 in
theorem ggX5_band_X5_isFlag : GoodIn wsX5_band wsX5_isFlag := goodIn_r _ [8] (by decide +kernel) (by decide +kernel)
set_option maxRecDepth 20000 in
theorem gX5_band_X5_isFlag : GoodIn wsX5_band (va_wsS RX5 94 yX5_isFlag wsX5_isFlag) := goodIn_app (goodIn_of _ (by decide +kernel)) ggX5_band_X5_isFlag
set_option maxRecDepth 20000 in
theorem ggX5_shot_X5_isShot : GoodIn wsX5_shot wsX5_isShot := goodIn_r _ [6, 7, 8, 9, 5, 10, 1, 11, 12, 13, 14, 76, 77, 78, 79, 80, 81, 82, 83, 84, 85, 86, 87, 88, 89, 90, 91, 92, 93, 94] (by decide +kernel) (by decide +kernel)
set_option maxRecDepth 20000 in
theorem gX5_shot_X5_isShot : GoodIn wsX5_shot (wsV RX5 201 RX5 yX5_isShot wsX5_isShot) := goodIn_app (goodIn_of _ (by decide +kernel)) ggX5_shot_X5_isShot
set_option maxRecDepth 20000 in
theorem ggX5_shot_X5_keptShot : GoodIn wsX5_shot wsX5_keptShot := goodIn_r _ [18, 19, 1, 7, 8, 9, 5, 10, 11, 12, 13, 14, 20, 21, 22, 23, 76, 77, 78, 79, 80, 81, 82, 83, 84, 85, 86, 87, 88, 89, 90, 91, 92, 93, 94] (by decide +kernel) (by decide +kernel)
set_option maxRecDepth 20000 in
theorem gX5_shot_X5_keptShot : GoodIn wsX5_shot (wsV RX5 185 RX5 yX5_keptShot wsX5_keptShot) := goodIn_app (goodIn_of _ (by decide +kernel)) ggX5_shot_X5_keptShot
set_option maxRecDepth 20000 in
theorem ggX5_shot_X0_amissIn : GoodIn wsX5_shot wsX0_amissIn := goodIn_r _ [27, 28, 29, 100, 101, 102, 103, 104, 105, 106, 107, 108, 95, 96, 97, 98, 99] (by decide +kernel) (by decide +kernel)
set_option maxRecDepth 20000 in
theorem gX5_shot_X0_amissIn_n237 : GoodIn wsX5_shot (wsX0_amissIn) := ggX5_shot_X0_amissIn
set_option maxRecDepth 20000 in
theorem ggX5_shot_X5_isBad : GoodIn wsX5_shot wsX5_isBad := goodIn_r _ [33, 34, 1, 35, 36, 37, 38, 39, 40, 41, 13, 42, 43, 25, 44, 45, 46, 47, 48, 49, 24, 26, 27, 28, 29, 76, 77, 78, 79, 80, 81, 82, 83, 84, 85, 86, 87, 88, 89, 90, 91, 92, 93, 94, 109, 110, 111, 112, 113, 114, 115, 116, 117, 118, 100, 101, 102, 103, 104, 105, 106, 107, 108, 95, 96, 97, 98, 99] (by decide +kernel) (by decide +kernel)
set_option maxRecDepth 20000 in
theorem gX5_shot_X5_isBad : GoodIn wsX5_shot (wsV RX5 241 RX5 yX5_isBad wsX5_isBad) := goodIn_app (goodIn_of _ (by decide +kernel)) ggX5_shot_X5_isBad
set_option maxRecDepth 20000 in
theorem ggX5_shot_X2_told : GoodIn wsX5_shot wsX2_told := goodIn_r _ [52, 53, 54, 55, 56, 57, 58, 59, 36, 60, 61, 62, 12, 13, 14, 63, 64, 65, 66, 67, 68, 69, 70, 71, 72, 73, 74, 75, 100, 101, 102, 103, 104, 105, 106, 107, 108] (by decide +kernel) (by decide +kernel)
set_option maxRecDepth 20000 in
theorem gX5_shot_X2_told_n245 : GoodIn wsX5_shot (wsX2_told) := ggX5_shot_X2_told
set_option maxRecDepth 20000 in
theorem ggX5_isBad_X2_isFarOff : GoodIn wsX5_isBad wsX2_isFarOff := goodIn_r _ [6, 7, 8, 9, 10, 11, 44, 45, 46, 47, 48, 49, 50, 51, 52, 53, 54, 55, 56, 57, 58, 59, 60, 61, 62] (by decide +kernel) (by decide +kernel)
set_option maxRecDepth 20000 in
theorem gX5_isBad_X2_isFarOff_n248 : GoodIn wsX5_isBad (wsX2_isFarOff) := ggX5_isBad_X2_isFarOff
set_option maxRecDepth 20000 in
theorem ggX5_isBad_X0_rejects : GoodIn wsX5_isBad wsX0_rejects := goodIn_r _ [15, 16, 17, 18, 19, 20, 21, 13, 22, 23, 24, 63, 64, 65, 66, 67, 54, 55, 56, 57, 58, 59, 60, 61, 62] (by decide +kernel) (by decide +kernel)
set_option maxRecDepth 20000 in
theorem gX5_isBad_X0_rejects_n251 : GoodIn wsX5_isBad (wsX0_rejects) := ggX5_isBad_X0_rejects
set_option maxRecDepth 20000 in
theorem ggX5_curve_X5_isShot : GoodIn wsX5_curve wsX5_isShot := goodIn_r _ [5, 6, 7, 8, 4, 9, 10, 11, 12, 13, 14, 36, 37, 38, 39, 40, 41, 42, 43, 44, 45, 46, 47, 48, 49, 50, 51, 52, 53, 54] (by decide +kernel) (by decide +kernel)
set_option maxRecDepth 20000 in
theorem gX5_curve_X5_isShot : GoodIn wsX5_curve (wsV RX5 201 RX5 yX5_isShot wsX5_isShot) := goodIn_app (goodIn_of _ (by decide +kernel)) ggX5_curve_X5_isShot
set_option maxRecDepth 20000 in
theorem ggX5_curve_X5_isTick : GoodIn wsX5_curve wsX5_isTick := goodIn_r _ [17] (by decide +kernel) (by decide +kernel)
set_option maxRecDepth 20000 in
theorem gX5_curve_X5_isTick : GoodIn wsX5_curve (va_wsS RX5 225 yX5_isTick wsX5_isTick) := goodIn_app (goodIn_of _ (by decide +kernel)) ggX5_curve_X5_isTick
set_option maxRecDepth 20000 in
theorem ggX5_curve_X5_keptShot : GoodIn wsX5_curve wsX5_keptShot := goodIn_r _ [21, 22, 10, 6, 7, 8, 4, 9, 11, 12, 13, 14, 23, 24, 25, 26, 36, 37, 38, 39, 40, 41, 42, 43, 44, 45, 46, 47, 48, 49, 50, 51, 52, 53, 54] (by decide +kernel) (by decide +kernel)
set_option maxRecDepth 20000 in
theorem gX5_curve_X5_keptShot : GoodIn wsX5_curve (wsV RX5 185 RX5 yX5_keptShot wsX5_keptShot) := goodIn_app (goodIn_of _ (by decide +kernel)) ggX5_curve_X5_keptShot
set_option maxRecDepth 20000 in
theorem ggX5_cavity_X5_isCavity : GoodIn wsX5_cavity wsX5_isCavity := goodIn_r _ [7, 1, 8, 9, 10, 11, 12, 13, 14, 15, 16, 17, 18, 19, 20, 21, 22, 23, 24, 25, 26] (by decide +kernel) (by decide +kernel)
set_option maxRecDepth 20000 in
theorem gX5_cavity_X5_isCavity : GoodIn wsX5_cavity (wsV RX5 148 RX5 yX5_isCavity wsX5_isCavity) := goodIn_app (goodIn_of _ (by decide +kernel)) ggX5_cavity_X5_isCavity
set_option maxRecDepth 20000 in
theorem ggX5_filled_X5_isShot : GoodIn wsX5_filled wsX5_isShot := goodIn_r _ [10, 11, 12, 13, 9, 14, 15, 16, 17, 4, 18, 41, 42, 43, 44, 45, 46, 47, 48, 49, 60, 61, 62, 63, 64, 65, 66, 67, 68, 69] (by decide +kernel) (by decide +kernel)
set_option maxRecDepth 20000 in
theorem gX5_filled_X5_isShot : GoodIn wsX5_filled (wsV RX5 201 RX5 yX5_isShot wsX5_isShot) := goodIn_app (goodIn_of _ (by decide +kernel)) ggX5_filled_X5_isShot
set_option maxRecDepth 20000 in
theorem ggX5_filled_X5_isCavity : GoodIn wsX5_filled wsX5_isCavity := goodIn_r _ [22, 1, 41, 42, 43, 44, 45, 46, 47, 48, 49, 50, 51, 52, 53, 54, 55, 56, 57, 58, 59] (by decide +kernel) (by decide +kernel)
set_option maxRecDepth 20000 in
theorem gX5_filled_X5_isCavity : GoodIn wsX5_filled (wsV RX5 148 RX5 yX5_isCavity wsX5_isCavity) := goodIn_app (goodIn_of _ (by decide +kernel)) ggX5_filled_X5_isCavity
set_option maxRecDepth 20000 in
theorem ggX5_filled_X5_keptShot : GoodIn wsX5_filled wsX5_keptShot := goodIn_r _ [26, 27, 15, 11, 12, 13, 9, 14, 16, 17, 4, 18, 28, 29, 30, 31, 41, 42, 43, 44, 45, 46, 47, 48, 49, 60, 61, 62, 63, 64, 65, 66, 67, 68, 69] (by decide +kernel) (by decide +kernel)
set_option maxRecDepth 20000 in
theorem gX5_filled_X5_keptShot : GoodIn wsX5_filled (wsV RX5 185 RX5 yX5_keptShot wsX5_keptShot) := goodIn_app (goodIn_of _ (by decide +kernel)) ggX5_filled_X5_keptShot
set_option maxRecDepth 20000 in
theorem ggX5_tried_X2_make : GoodIn wsX5_tried wsX2_make := goodIn_r _ [7, 8, 9, 10, 11, 5, 12, 13, 14, 15, 16, 17, 18, 19, 20, 21, 22, 23, 24, 25, 26, 27, 28, 29, 30, 31, 32, 33, 34, 35, 36, 37, 38, 39, 40, 41, 42, 43, 44, 45, 46, 47, 48, 49, 50, 51, 52, 53, 54, 55, 56, 57, 58, 59, 84, 85, 86, 87, 88, 89, 90, 91, 92, 93, 94, 95, 96, 97, 98, 99, 100, 101, 102, 103, 104, 105, 106, 107, 108, 109, 110, 111, 112] (by decide +kernel) (by decide +kernel)
set_option maxRecDepth 20000 in
theorem gX5_tried_X2_make_n175 : GoodIn wsX5_tried (wsX2_make) := ggX5_tried_X2_make
set_option maxRecDepth 20000 in
theorem ggX5_tried_X2_told : GoodIn wsX5_tried wsX2_told := goodIn_r _ [62, 31, 18, 19, 17, 63, 64, 65, 5, 66, 15, 24, 25, 26, 27, 28, 29, 30, 67, 68, 69, 70, 8, 71, 72, 73, 74, 16, 94, 95, 96, 97, 98, 99, 100, 101, 102] (by decide +kernel) (by decide +kernel)
set_option maxRecDepth 20000 in
theorem gX5_tried_X2_told_n245 : GoodIn wsX5_tried (wsX2_told) := ggX5_tried_X2_told
set_option maxRecDepth 20000 in
theorem ggX5_even_X5_isFlag : GoodIn wsX5_even wsX5_isFlag := goodIn_r _ [4] (by decide +kernel) (by decide +kernel)
set_option maxRecDepth 20000 in
theorem gX5_even_X5_isFlag : GoodIn wsX5_even (va_wsS RX5 94 yX5_isFlag wsX5_isFlag) := goodIn_app (goodIn_of _ (by decide +kernel)) ggX5_even_X5_isFlag
set_option maxRecDepth 20000 in
theorem ggX5_even_X5_balanceWith : GoodIn wsX5_even wsX5_balanceWith := goodIn_r _ [8, 9, 10, 11, 12, 13, 14, 15, 16, 17, 18, 19, 20, 21, 22, 23, 24, 25, 26, 27, 28, 29, 30, 31, 32, 33, 34, 35, 36, 37, 38, 39, 40, 41, 42, 43, 44, 45, 46, 47, 48, 49, 50, 51, 52, 53, 54, 55, 56, 57, 58, 59, 60, 61, 62, 63, 64, 65, 66, 67, 68, 69, 70, 71, 72, 73, 74, 75, 76, 77, 78, 79, 80, 81, 82, 83, 84, 85, 86, 87, 88, 89, 90, 91, 92, 93, 94, 95, 96, 97, 98, 99, 100, 101, 102, 103, 104, 105, 106, 107, 108] (by decide +kernel) (by decide +kernel)
set_option maxRecDepth 20000 in
theorem gX5_even_X5_balanceWith : GoodIn wsX5_even (wsV RX5 279 RX5 yX5_balanceWith wsX5_balanceWith) := goodIn_app (goodIn_of _ (by decide +kernel)) ggX5_even_X5_balanceWith
set_option maxRecDepth 20000 in
theorem ggX5_balanceWith_X2_make : GoodIn wsX5_balanceWith wsX2_make := goodIn_r _ [7, 8, 9, 10, 11, 5, 12, 13, 14, 15, 16, 17, 18, 19, 20, 21, 22, 23, 24, 25, 26, 27, 28, 29, 30, 31, 32, 33, 34, 35, 36, 37, 38, 39, 40, 41, 42, 43, 44, 45, 46, 47, 48, 49, 50, 51, 52, 53, 54, 55, 56, 57, 58, 59, 72, 73, 74, 75, 76, 77, 78, 79, 80, 81, 82, 83, 84, 85, 86, 87, 88, 89, 90, 91, 92, 93, 94, 95, 96, 97, 98, 99, 100] (by decide +kernel) (by decide +kernel)
set_option maxRecDepth 20000 in
theorem gX5_balanceWith_X2_make_n175 : GoodIn wsX5_balanceWith (wsX2_make) := ggX5_balanceWith_X2_make
set_option maxRecDepth 20000 in
theorem ggX5_balanceWith_X2_balance : GoodIn wsX5_balanceWith wsX2_balance := goodIn_r _ [62, 15, 24, 25, 26, 27, 28, 29, 30, 82, 83, 84, 85, 86, 87, 88, 89, 90] (by decide +kernel) (by decide +kernel)
set_option maxRecDepth 20000 in
theorem gX5_balanceWith_X2_balance_n282 : GoodIn wsX5_balanceWith (wsX2_balance) := ggX5_balanceWith_X2_balance
set_option maxRecDepth 20000 in
theorem ggX5_earlier_X5_isCore : GoodIn wsX5_earlier wsX5_isCore := goodIn_r _ [6, 1, 7, 8, 9, 10, 11, 12, 13, 14, 15, 16, 17, 18, 19, 20, 21, 22, 23, 24, 25] (by decide +kernel) (by decide +kernel)
set_option maxRecDepth 20000 in
theorem gX5_earlier_X5_isCore : GoodIn wsX5_earlier (wsV RX5 119 RX5 yX5_isCore wsX5_isCore) := goodIn_app (goodIn_of _ (by decide +kernel)) ggX5_earlier_X5_isCore
set_option maxRecDepth 20000 in
theorem ggX5_order_X1_coreInTurn : GoodIn wsX5_order wsX1_coreInTurn := goodIn_r _ [5, 6, 7, 8, 9, 3, 10, 11, 21, 22, 23, 24, 25, 26, 27, 28, 29, 30] (by decide +kernel) (by decide +kernel)
set_option maxRecDepth 20000 in
theorem gX5_order_X1_coreInTurn_n285 : GoodIn wsX5_order (wsX1_coreInTurn) := ggX5_order_X1_coreInTurn
set_option maxRecDepth 20000 in
theorem ggX5_count_J6_bitCount_0f7a4 : GoodIn wsX5_count wsJ6_bitCount_0f7a4 := goodIn_r _ [8, 9, 10, 11] (by decide +kernel) (by decide +kernel)
set_option maxRecDepth 20000 in
theorem gX5_count_J6_bitCount_0f7a4 : GoodIn wsX5_count (va_wsS RX5 126 yJ6_bitCount_0f7a4 wsJ6_bitCount_0f7a4) := goodIn_app (goodIn_of _ (by decide +kernel)) ggX5_count_J6_bitCount_0f7a4
set_option maxRecDepth 20000 in
theorem ggX5_count_X5_keptShots : GoodIn wsX5_count wsX5_keptShots := goodIn_r _ [16, 2, 17, 18, 19, 20, 63, 64, 65, 66, 67, 68, 69, 70, 71, 82, 83, 84, 85, 86, 87, 88, 89, 90, 91] (by decide +kernel) (by decide +kernel)
set_option maxRecDepth 20000 in
theorem gX5_count_X5_keptShots : GoodIn wsX5_count (wsV RX5 182 RX5 yX5_keptShots wsX5_keptShots) := goodIn_app (goodIn_of _ (by decide +kernel)) ggX5_count_X5_keptShots
set_option maxRecDepth 20000 in
theorem ggX5_count_X5_badShots : GoodIn wsX5_count wsX5_badShots := goodIn_r _ [24, 12, 13, 14, 15, 16, 2, 17, 18, 19, 20, 25, 26, 27, 28, 29, 30, 31, 32, 33, 34, 35, 36, 37, 1, 38, 39, 40, 41, 42, 43, 44, 45, 46, 47, 48, 49, 50, 51, 52, 53, 54, 55, 56, 57, 58, 63, 64, 65, 66, 67, 68, 69, 70, 71, 82, 83, 84, 85, 86, 87, 88, 89, 90, 91, 72, 73, 74, 75, 76, 77, 78, 79, 80, 81, 100, 101, 102, 103, 104, 105, 106, 107, 108, 92, 93, 94, 95, 96] (by decide +kernel) (by decide +kernel)
set_option maxRecDepth 20000 in
theorem gX5_count_X5_badShots : GoodIn wsX5_count (wsV RX5 288 RX5 yX5_badShots wsX5_badShots) := goodIn_app (goodIn_of _ (by decide +kernel)) ggX5_count_X5_badShots
set_option maxRecDepth 20000 in
theorem ggX5_count_X5_isReady : GoodIn wsX5_count wsX5_isReady := goodIn_r _ [62, 2, 1, 5, 6, 7, 8, 9, 10, 11, 63, 64, 65, 66, 67, 68, 69, 70, 71, 82, 83, 84, 85, 86, 87, 88, 89, 90, 91, 72, 73, 74, 75, 76, 77, 78, 79, 80, 81] (by decide +kernel) (by decide +kernel)
set_option maxRecDepth 20000 in
theorem gX5_count_X5_isReady : GoodIn wsX5_count (wsV RX5 169 RX5 yX5_isReady wsX5_isReady) := goodIn_app (goodIn_of _ (by decide +kernel)) ggX5_count_X5_isReady
set_option maxRecDepth 20000 in
theorem ggX5_badShots_X5_keptShots : GoodIn wsX5_badShots wsX5_keptShots := goodIn_r _ [5, 6, 7, 8, 9, 10, 46, 47, 48, 49, 50, 51, 52, 53, 54, 55, 56, 57, 58, 59, 60, 61, 62, 63, 64] (by decide +kernel) (by decide +kernel)
set_option maxRecDepth 20000 in
theorem gX5_badShots_X5_keptShots : GoodIn wsX5_badShots (wsV RX5 182 RX5 yX5_keptShots wsX5_keptShots) := goodIn_app (goodIn_of _ (by decide +kernel)) ggX5_badShots_X5_keptShots
set_option maxRecDepth 20000 in
theorem ggX5_badShots_X5_keptShot : GoodIn wsX5_badShots wsX5_keptShot := goodIn_r _ [14, 15, 6, 1, 2, 3, 4, 5, 7, 8, 9, 10, 16, 17, 18, 19, 46, 47, 48, 49, 50, 51, 52, 53, 54, 55, 56, 57, 58, 59, 60, 61, 62, 63, 64] (by decide +kernel) (by decide +kernel)
set_option maxRecDepth 20000 in
theorem gX5_badShots_X5_keptShot : GoodIn wsX5_badShots (wsV RX5 185 RX5 yX5_keptShot wsX5_keptShot) := goodIn_app (goodIn_of _ (by decide +kernel)) ggX5_badShots_X5_keptShot
set_option maxRecDepth 20000 in
theorem ggX5_badShots_X5_isBad : GoodIn wsX5_badShots wsX5_isBad := goodIn_r _ [23, 24, 6, 25, 26, 27, 28, 29, 30, 31, 9, 32, 33, 34, 35, 36, 37, 38, 39, 40, 41, 42, 43, 44, 45, 46, 47, 48, 49, 50, 51, 52, 53, 54, 55, 56, 57, 58, 59, 60, 61, 62, 63, 64, 65, 66, 67, 68, 69, 70, 71, 72, 73, 74, 75, 76, 77, 78, 79, 80, 81, 82, 83, 84, 85, 86, 87, 88] (by decide +kernel) (by decide +kernel)
set_option maxRecDepth 20000 in
theorem gX5_badShots_X5_isBad : GoodIn wsX5_badShots (wsV RX5 241 RX5 yX5_isBad wsX5_isBad) := goodIn_app (goodIn_of _ (by decide +kernel)) ggX5_badShots_X5_isBad
set_option maxRecDepth 20000 in
theorem ggX5_isReady_J6_bitCount_0f7a4 : GoodIn wsX5_isReady wsJ6_bitCount_0f7a4 := goodIn_r _ [6, 7, 8, 9] (by decide +kernel) (by decide +kernel)
set_option maxRecDepth 20000 in
theorem gX5_isReady_J6_bitCount_0f7a4 : GoodIn wsX5_isReady (va_wsS RX5 126 yJ6_bitCount_0f7a4 wsJ6_bitCount_0f7a4) := goodIn_app (goodIn_of _ (by decide +kernel)) ggX5_isReady_J6_bitCount_0f7a4
set_option maxRecDepth 20000 in
theorem ggX5_keptShot_X5_keptShots : GoodIn wsX5_keptShot wsX5_keptShots := goodIn_r _ [7, 2, 8, 9, 10, 11, 16, 17, 18, 19, 20, 21, 22, 23, 24, 25, 26, 27, 28, 29, 30, 31, 32, 33, 34] (by decide +kernel) (by decide +kernel)
set_option maxRecDepth 20000 in
theorem gX5_keptShot_X5_keptShots : GoodIn wsX5_keptShot (wsV RX5 182 RX5 yX5_keptShots wsX5_keptShots) := goodIn_app (goodIn_of _ (by decide +kernel)) ggX5_keptShot_X5_keptShots
set_option maxRecDepth 20000 in
theorem ggX5_keptShot_J9_floorMod_7cf53 : GoodIn wsX5_keptShot wsJ9_floorMod_7cf53 := goodIn_r _ [15] (by decide +kernel) (by decide +kernel)
set_option maxRecDepth 20000 in
theorem gX5_keptShot_J9_floorMod_7cf53 : GoodIn wsX5_keptShot (va_wsS RX5 291 yJ9_floorMod_7cf53 wsJ9_floorMod_7cf53) := goodIn_app (goodIn_of _ (by decide +kernel)) ggX5_keptShot_J9_floorMod_7cf53
set_option maxRecDepth 20000 in
theorem ggX5_isShot_X5_keptShots : GoodIn wsX5_isShot wsX5_keptShots := goodIn_r _ [5, 6, 7, 8, 9, 10, 11, 12, 13, 14, 15, 16, 17, 18, 19, 20, 21, 22, 23, 24, 25, 26, 27, 28, 29] (by decide +kernel) (by decide +kernel)
set_option maxRecDepth 20000 in
theorem gX5_isShot_X5_keptShots : GoodIn wsX5_isShot (wsV RX5 182 RX5 yX5_keptShots wsX5_keptShots) := goodIn_app (goodIn_of _ (by decide +kernel)) ggX5_isShot_X5_keptShots
set_option maxRecDepth 20000 in
theorem ggX6_init_X6_clears : GoodIn wsX6_init wsX6_clears := goodIn_r _ [22, 23, 17, 24, 16, 41, 42, 43, 44, 45, 46, 47, 48, 49, 50, 51, 52, 53, 54, 55, 56, 57, 58, 59, 60, 61, 62, 63] (by decide +kernel) (by decide +kernel)
set_option maxRecDepth 20000 in
theorem gX6_init_X6_clears : GoodIn wsX6_init (wsV RX6 46 RX6 yX6_clears wsX6_clears) := goodIn_app (goodIn_of _ (by decide +kernel)) ggX6_init_X6_clears
set_option maxRecDepth 20000 in
theorem ggX6_init_X6_cavityOf : GoodIn wsX6_init wsX6_cavityOf := goodIn_r _ [28, 13, 23, 41, 42, 43, 44, 45, 46, 47, 48, 49, 50, 51, 52, 53, 54, 55, 56, 57, 58, 59, 60, 61, 62, 63] (by decide +kernel) (by decide +kernel)
set_option maxRecDepth 20000 in
theorem gX6_init_X6_cavityOf : GoodIn wsX6_init (wsV RX6 49 RX6 yX6_cavityOf wsX6_cavityOf) := goodIn_app (goodIn_of _ (by decide +kernel)) ggX6_init_X6_cavityOf
set_option maxRecDepth 20000 in
theorem ggX6_init_X6_stageOf : GoodIn wsX6_init wsX6_stageOf := goodIn_r _ [32, 15, 24, 41, 42, 43, 44, 45, 46, 47, 48, 49, 50, 51, 52, 53, 54, 55, 56, 57, 58, 59, 60, 61, 62, 63] (by decide +kernel) (by decide +kernel)
set_option maxRecDepth 20000 in
theorem gX6_init_X6_stageOf : GoodIn wsX6_init (wsV RX6 57 RX6 yX6_stageOf wsX6_stageOf) := goodIn_app (goodIn_of _ (by decide +kernel)) ggX6_init_X6_stageOf
set_option maxRecDepth 20000 in
theorem ggX6_init_X6_takes : GoodIn wsX6_init wsX6_takes := goodIn_r _ [36, 23, 37, 17, 38, 24, 39, 10, 6, 13, 7, 8, 14, 9, 15, 16, 40, 41, 42, 43, 44, 45, 46, 47, 48, 49, 50, 51, 52, 53, 54, 55, 56, 57, 58, 59, 60, 61, 62, 63] (by decide +kernel) (by decide +kernel)
set_option maxRecDepth 20000 in
theorem gX6_init_X6_takes : GoodIn wsX6_init (wsV RX6 61 RX6 yX6_takes wsX6_takes) := goodIn_app (goodIn_of _ (by decide +kernel)) ggX6_init_X6_takes
set_option maxRecDepth 20000 in
theorem ggX6_number_X6_letterAt : GoodIn wsX6_number wsX6_letterAt := goodIn_r _ [8, 9, 3, 13, 14, 15, 16, 17, 18, 19, 20, 21, 22, 23, 24, 25, 26, 27, 28, 29, 30, 31, 32, 33, 34, 35] (by decide +kernel) (by decide +kernel)
set_option maxRecDepth 20000 in
theorem gX6_number_X6_letterAt : GoodIn wsX6_number (wsV RX6 91 RX6 yX6_letterAt wsX6_letterAt) := goodIn_app (goodIn_of _ (by decide +kernel)) ggX6_number_X6_letterAt
set_option maxRecDepth 20000 in
theorem ggX6_number_X6_isIn : GoodIn wsX6_number wsX6_isIn := goodIn_r _ [12] (by decide +kernel) (by decide +kernel)
set_option maxRecDepth 20000 in
theorem gX6_number_X6_isIn : GoodIn wsX6_number (va_wsS RX6 95 yX6_isIn wsX6_isIn) := goodIn_app (goodIn_of _ (by decide +kernel)) ggX6_number_X6_isIn
set_option maxRecDepth 20000 in
theorem ggX6_more_X6_letterAt : GoodIn wsX6_more wsX6_letterAt := goodIn_r _ [6, 7, 8, 17, 18, 19, 20, 21, 22, 23, 24, 25, 26, 27, 28, 29, 30, 31, 32, 33, 34, 35, 36, 37, 38, 39] (by decide +kernel) (by decide +kernel)
set_option maxRecDepth 20000 in
theorem gX6_more_X6_letterAt : GoodIn wsX6_more (wsV RX6 91 RX6 yX6_letterAt wsX6_letterAt) := goodIn_app (goodIn_of _ (by decide +kernel)) ggX6_more_X6_letterAt
set_option maxRecDepth 20000 in
theorem ggX6_more_X6_number : GoodIn wsX6_more wsX6_number := goodIn_r _ [12, 13, 1, 8, 2, 3, 4, 5, 6, 7, 14, 15, 16, 17, 18, 19, 20, 21, 22, 23, 24, 25, 26, 27, 28, 29, 30, 31, 32, 33, 34, 35, 36, 37, 38, 39] (by decide +kernel) (by decide +kernel)
set_option maxRecDepth 20000 in
theorem gX6_more_X6_number : GoodIn wsX6_more (wsV RX6 99 RX6 yX6_number wsX6_number) := goodIn_app (goodIn_of _ (by decide +kernel)) ggX6_more_X6_number
set_option maxRecDepth 20000 in
theorem ggX6_readsCavity_X6_number : GoodIn wsX6_readsCavity wsX6_number := goodIn_r _ [7, 2, 8, 9, 10, 11, 12, 6, 13, 14, 15, 16, 17, 27, 28, 29, 30, 31, 32, 33, 34, 35, 36, 37, 38, 39, 40, 41, 42, 43, 44, 45, 46, 47, 48, 49] (by decide +kernel) (by decide +kernel)
set_option maxRecDepth 20000 in
theorem gX6_readsCavity_X6_number : GoodIn wsX6_readsCavity (wsV RX6 99 RX6 yX6_number wsX6_number) := goodIn_app (goodIn_of _ (by decide +kernel)) ggX6_readsCavity_X6_number
set_option maxRecDepth 20000 in
theorem ggX6_readsCavity_X6_more : GoodIn wsX6_readsCavity wsX6_more := goodIn_r _ [21, 8, 10, 11, 12, 6, 13, 14, 9, 3, 4, 5, 7, 2, 15, 16, 17, 27, 28, 29, 30, 31, 32, 33, 34, 35, 36, 37, 38, 39, 40, 41, 42, 43, 44, 45, 46, 47, 48, 49] (by decide +kernel) (by decide +kernel)
set_option maxRecDepth 20000 in
theorem gX6_readsCavity_X6_more : GoodIn wsX6_readsCavity (wsV RX6 102 RX6 yX6_more wsX6_more) := goodIn_app (goodIn_of _ (by decide +kernel)) ggX6_readsCavity_X6_more
set_option maxRecDepth 20000 in
theorem ggX6_readsCavity_X6_cavityOf : GoodIn wsX6_readsCavity wsX6_cavityOf := goodIn_r _ [25, 26, 1, 27, 28, 29, 30, 31, 32, 33, 34, 35, 36, 37, 38, 39, 40, 41, 42, 43, 44, 45, 46, 47, 48, 49] (by decide +kernel) (by decide +kernel)
set_option maxRecDepth 20000 in
theorem gX6_readsCavity_X6_cavityOf : GoodIn wsX6_readsCavity (wsV RX6 49 RX6 yX6_cavityOf wsX6_cavityOf) := goodIn_app (goodIn_of _ (by decide +kernel)) ggX6_readsCavity_X6_cavityOf
set_option maxRecDepth 20000 in
theorem ggX6_readsCore_X6_number : GoodIn wsX6_readsCore wsX6_number := goodIn_r _ [8, 2, 9, 10, 11, 12, 13, 7, 14, 15, 16, 17, 18, 19, 20, 21, 22, 23, 24, 25, 26, 27, 28, 29, 30, 31, 32, 33, 34, 35, 36, 37, 38, 39, 40, 41] (by decide +kernel) (by decide +kernel)
set_option maxRecDepth 20000 in
theorem gX6_readsCore_X6_number : GoodIn wsX6_readsCore (wsV RX6 99 RX6 yX6_number wsX6_number) := goodIn_app (goodIn_of _ (by decide +kernel)) ggX6_readsCore_X6_number
set_option maxRecDepth 20000 in
theorem ggX6_readsStage_X6_number : GoodIn wsX6_readsStage wsX6_number := goodIn_r _ [8, 3, 9, 10, 11, 12, 13, 7, 14, 15, 16, 17, 18, 27, 28, 29, 30, 31, 32, 33, 34, 35, 36, 37, 38, 39, 40, 41, 42, 43, 44, 45, 46, 47, 48, 49] (by decide +kernel) (by decide +kernel)
set_option maxRecDepth 20000 in
theorem gX6_readsStage_X6_number : GoodIn wsX6_readsStage (wsV RX6 99 RX6 yX6_number wsX6_number) := goodIn_app (goodIn_of _ (by decide +kernel)) ggX6_readsStage_X6_number
set_option maxRecDepth 20000 in
theorem ggX6_readsStage_X6_more : GoodIn wsX6_readsStage wsX6_more := goodIn_r _ [22, 9, 11, 12, 13, 7, 14, 15, 10, 4, 5, 6, 8, 3, 16, 17, 18, 27, 28, 29, 30, 31, 32, 33, 34, 35, 36, 37, 38, 39, 40, 41, 42, 43, 44, 45, 46, 47, 48, 49] (by decide +kernel) (by decide +kernel)
set_option maxRecDepth 20000 in
theorem gX6_readsStage_X6_more : GoodIn wsX6_readsStage (wsV RX6 102 RX6 yX6_more wsX6_more) := goodIn_app (goodIn_of _ (by decide +kernel)) ggX6_readsStage_X6_more
set_option maxRecDepth 20000 in
theorem ggX6_readsStage_X6_stageOf : GoodIn wsX6_readsStage wsX6_stageOf := goodIn_r _ [26, 2, 1, 27, 28, 29, 30, 31, 32, 33, 34, 35, 36, 37, 38, 39, 40, 41, 42, 43, 44, 45, 46, 47, 48, 49] (by decide +kernel) (by decide +kernel)
set_option maxRecDepth 20000 in
theorem gX6_readsStage_X6_stageOf : GoodIn wsX6_readsStage (wsV RX6 57 RX6 yX6_stageOf wsX6_stageOf) := goodIn_app (goodIn_of _ (by decide +kernel)) ggX6_readsStage_X6_stageOf
set_option maxRecDepth 20000 in
theorem ggX6_readsRules_X6_lowOf : GoodIn wsX6_readsRules wsX6_lowOf := goodIn_r _ [6] (by decide +kernel) (by decide +kernel)
set_option maxRecDepth 20000 in
theorem gX6_readsRules_X6_lowOf : GoodIn wsX6_readsRules (va_wsS RX6 106 yX6_lowOf wsX6_lowOf) := goodIn_app (goodIn_of _ (by decide +kernel)) ggX6_readsRules_X6_lowOf
set_option maxRecDepth 20000 in
theorem ggX6_readsRules_X6_highOf : GoodIn wsX6_readsRules wsX6_highOf := goodIn_r _ [9] (by decide +kernel) (by decide +kernel)
set_option maxRecDepth 20000 in
theorem gX6_readsRules_X6_highOf : GoodIn wsX6_readsRules (va_wsS RX6 109 yX6_highOf wsX6_highOf) := goodIn_app (goodIn_of _ (by decide +kernel)) ggX6_readsRules_X6_highOf
set_option maxRecDepth 20000 in
theorem ggX6_readsRules_X6_number : GoodIn wsX6_readsRules wsX6_number := goodIn_r _ [13, 2, 14, 15, 16, 17, 18, 5, 19, 20, 21, 22, 23, 28, 29, 30, 31, 32, 33, 34, 35, 36, 37, 38, 39, 40, 41, 42, 43, 44, 45, 46, 47, 48, 49, 50] (by decide +kernel) (by decide +kernel)
set_option maxRecDepth 20000 in
theorem gX6_readsRules_X6_number : GoodIn wsX6_readsRules (wsV RX6 99 RX6 yX6_number wsX6_number) := goodIn_app (goodIn_of _ (by decide +kernel)) ggX6_readsRules_X6_number
set_option maxRecDepth 20000 in
theorem ggX6_readsRules_X6_more : GoodIn wsX6_readsRules wsX6_more := goodIn_r _ [27, 14, 16, 17, 18, 5, 19, 20, 15, 10, 11, 12, 13, 2, 21, 22, 23, 28, 29, 30, 31, 32, 33, 34, 35, 36, 37, 38, 39, 40, 41, 42, 43, 44, 45, 46, 47, 48, 49, 50] (by decide +kernel) (by decide +kernel)
set_option maxRecDepth 20000 in
theorem gX6_readsRules_X6_more : GoodIn wsX6_readsRules (wsV RX6 102 RX6 yX6_more wsX6_more) := goodIn_app (goodIn_of _ (by decide +kernel)) ggX6_readsRules_X6_more
set_option maxRecDepth 20000 in
theorem ggX6_readsItem_X6_readsCavity : GoodIn wsX6_readsItem wsX6_readsCavity := goodIn_r _ [5, 6, 7, 8, 9, 10, 4, 11, 12, 13, 14, 15, 16, 17, 18, 19, 20, 21, 22, 23, 24, 25, 26, 27, 28, 29, 30, 58, 59, 60, 61, 62, 63, 64, 65, 66, 67, 68, 69, 70, 71, 72, 73, 74, 75, 76, 77, 78, 79, 80] (by decide +kernel) (by decide +kernel)
set_option maxRecDepth 20000 in
theorem gX6_readsItem_X6_readsCavity : GoodIn wsX6_readsItem (wsV RX6 112 RX6 yX6_readsCavity wsX6_readsCavity) := goodIn_app (goodIn_of _ (by decide +kernel)) ggX6_readsItem_X6_readsCavity
set_option maxRecDepth 20000 in
theorem ggX6_readsItem_X6_readsCore : GoodIn wsX6_readsItem wsX6_readsCore := goodIn_r _ [34, 35, 7, 36, 8, 9, 10, 4, 11, 12, 13, 14, 15, 16, 17, 18, 19, 20, 21, 58, 59, 60, 61, 62, 63, 64, 65, 66, 67, 68, 69, 70, 71, 72, 73, 74, 75, 76, 77, 78, 79, 80] (by decide +kernel) (by decide +kernel)
set_option maxRecDepth 20000 in
theorem gX6_readsItem_X6_readsCore : GoodIn wsX6_readsItem (wsV RX6 116 RX6 yX6_readsCore wsX6_readsCore) := goodIn_app (goodIn_of _ (by decide +kernel)) ggX6_readsItem_X6_readsCore
set_option maxRecDepth 20000 in
theorem ggX6_readsItem_X6_readsStage : GoodIn wsX6_readsItem wsX6_readsStage := goodIn_r _ [40, 41, 42, 7, 8, 9, 10, 4, 11, 12, 13, 14, 15, 16, 17, 18, 19, 20, 21, 22, 23, 24, 25, 43, 44, 45, 46, 58, 59, 60, 61, 62, 63, 64, 65, 66, 67, 68, 69, 70, 71, 72, 73, 74, 75, 76, 77, 78, 79, 80] (by decide +kernel) (by decide +kernel)
set_option maxRecDepth 20000 in
theorem gX6_readsItem_X6_readsStage : GoodIn wsX6_readsItem (wsV RX6 119 RX6 yX6_readsStage wsX6_readsStage) := goodIn_app (goodIn_of _ (by decide +kernel)) ggX6_readsItem_X6_readsStage
set_option maxRecDepth 20000 in
theorem ggX6_readsItem_X6_readsRules : GoodIn wsX6_readsItem wsX6_readsRules := goodIn_r _ [50, 51, 7, 52, 53, 4, 54, 55, 56, 57, 8, 9, 10, 11, 12, 13, 14, 15, 16, 17, 18, 19, 20, 21, 22, 23, 24, 25, 58, 59, 60, 61, 62, 63, 64, 65, 66, 67, 68, 69, 70, 71, 72, 73, 74, 75, 76, 77, 78, 79, 80] (by decide +kernel) (by decide +kernel)
set_option maxRecDepth 20000 in
theorem gX6_readsItem_X6_readsRules : GoodIn wsX6_readsItem (wsV RX6 122 RX6 yX6_readsRules wsX6_readsRules) := goodIn_app (goodIn_of _ (by decide +kernel)) ggX6_readsItem_X6_readsRules
set_option maxRecDepth 20000 in
theorem ggX6_reads_X6_clears : GoodIn wsX6_reads wsX6_clears := goodIn_r _ [8, 9, 10, 11, 12, 66, 67, 68, 69, 70, 71, 72, 73, 74, 75, 76, 77, 78, 79, 80, 81, 82, 83, 84, 85, 86, 87, 88] (by decide +kernel) (by decide +kernel)
set_option maxRecDepth 20000 in
theorem gX6_reads_X6_clears : GoodIn wsX6_reads (wsV RX6 46 RX6 yX6_clears wsX6_clears) := goodIn_app (goodIn_of _ (by decide +kernel)) ggX6_reads_X6_clears
set_option maxRecDepth 20000 in
theorem ggX6_reads_X6_readsItem : GoodIn wsX6_reads wsX6_readsItem := goodIn_r _ [16, 17, 18, 19, 7, 20, 9, 21, 22, 23, 24, 25, 3, 2, 26, 27, 28, 29, 1, 30, 31, 32, 33, 34, 35, 36, 37, 38, 39, 40, 41, 42, 43, 44, 45, 10, 46, 47, 48, 49, 50, 11, 51, 52, 53, 54, 55, 56, 57, 58, 59, 12, 60, 61, 62, 63, 64, 65, 66, 67, 68, 69, 70, 71, 72, 73, 74, 75, 76, 77, 78, 79, 80, 81, 82, 83, 84, 85, 86, 87, 88] (by decide +kernel) (by decide +kernel)
set_option maxRecDepth 20000 in
theorem gX6_reads_X6_readsItem : GoodIn wsX6_reads (wsV RX6 125 RX6 yX6_readsItem wsX6_readsItem) := goodIn_app (goodIn_of _ (by decide +kernel)) ggX6_reads_X6_readsItem
set_option maxRecDepth 20000 in
theorem ggX6_reads_X6_letterAt : GoodIn wsX6_reads wsX6_letterAt := goodIn_r _ [29, 1, 2, 66, 67, 68, 69, 70, 71, 72, 73, 74, 75, 76, 77, 78, 79, 80, 81, 82, 83, 84, 85, 86, 87, 88] (by decide +kernel) (by decide +kernel)
set_option maxRecDepth 20000 in
theorem gX6_reads_X6_letterAt : GoodIn wsX6_reads (wsV RX6 91 RX6 yX6_letterAt wsX6_letterAt) := goodIn_app (goodIn_of _ (by decide +kernel)) ggX6_reads_X6_letterAt
set_option maxRecDepth 20000 in
theorem ggX6_fault_X6_reads : GoodIn wsX6_fault wsX6_reads := goodIn_r _ [5, 6, 7, 8, 9, 10, 11, 4, 12, 13, 14, 15, 16, 17, 18, 19, 20, 21, 22, 23, 24, 25, 26, 27, 28, 29, 30, 31, 32, 33, 34, 35, 36, 37, 38, 39, 40, 41, 42, 43, 44, 45, 46, 47, 48, 49, 50, 51, 52, 53, 54, 55, 56, 57, 58, 59, 60, 61, 62, 63, 64, 65, 66, 67, 68, 69, 70, 71, 72, 73, 74, 75, 76, 77, 78, 79, 80, 81, 82, 83, 84, 85, 86, 87, 88, 89, 90, 91, 92] (by decide +kernel) (by decide +kernel)
set_option maxRecDepth 20000 in
theorem gX6_fault_X6_reads : GoodIn wsX6_fault (wsV RX6 128 RX6 yX6_reads wsX6_reads) := goodIn_app (goodIn_of _ (by decide +kernel)) ggX6_fault_X6_reads
set_option maxRecDepth 20000 in
theorem ggX6_lay_X6_reads : GoodIn wsX6_lay wsX6_reads := goodIn_r _ [8, 9, 10, 11, 12, 13, 14, 7, 15, 1, 16, 2, 17, 18, 19, 20, 21, 22, 23, 24, 25, 26, 27, 28, 29, 30, 31, 32, 33, 34, 35, 36, 37, 38, 39, 40, 41, 42, 43, 44, 45, 46, 47, 48, 49, 50, 51, 52, 53, 54, 55, 56, 57, 58, 59, 60, 61, 62, 63, 64, 65, 66, 67, 68, 69, 70, 87, 88, 89, 90, 91, 92, 93, 94, 95, 96, 97, 98, 99, 100, 101, 102, 103, 104, 105, 106, 107, 108, 109] (by decide +kernel) (by decide +kernel)
set_option maxRecDepth 20000 in
theorem gX6_lay_X6_reads : GoodIn wsX6_lay (wsV RX6 128 RX6 yX6_reads wsX6_reads) := goodIn_app (goodIn_of _ (by decide +kernel)) ggX6_lay_X6_reads
set_option maxRecDepth 20000 in
theorem ggX6_lay_X6_areCores : GoodIn wsX6_lay wsX6_areCores := goodIn_r _ [74, 16, 51, 87, 88, 89, 90, 91, 92, 93, 94, 95, 96, 97, 98, 99, 100, 101, 102, 103, 104, 105, 106, 107, 108, 109] (by decide +kernel) (by decide +kernel)
set_option maxRecDepth 20000 in
theorem gX6_lay_X6_areCores : GoodIn wsX6_lay (wsV RX6 132 RX6 yX6_areCores wsX6_areCores) := goodIn_app (goodIn_of _ (by decide +kernel)) ggX6_lay_X6_areCores
set_option maxRecDepth 20000 in
theorem ggX6_lay_X6_takes : GoodIn wsX6_lay wsX6_takes := goodIn_r _ [78, 1, 3, 16, 79, 2, 80, 81, 82, 46, 83, 84, 51, 85, 56, 17, 86, 87, 88, 89, 90, 91, 92, 93, 94, 95, 96, 97, 98, 99, 100, 101, 102, 103, 104, 105, 106, 107, 108, 109] (by decide +kernel) (by decide +kernel)
set_option maxRecDepth 20000 in
theorem gX6_lay_X6_takes : GoodIn wsX6_lay (wsV RX6 61 RX6 yX6_takes wsX6_takes) := goodIn_app (goodIn_of _ (by decide +kernel)) ggX6_lay_X6_takes
set_option maxRecDepth 20000 in
theorem ggX6_fills_X6_speedAt : GoodIn wsX6_fills wsX6_speedAt := goodIn_r _ [9, 10, 11, 1, 4, 21, 22, 23, 24, 25, 26, 27, 28, 29, 30, 31, 32, 33, 34, 35, 36, 37, 38, 39, 40, 41, 42, 43] (by decide +kernel) (by decide +kernel)
set_option maxRecDepth 20000 in
theorem gX6_fills_X6_speedAt : GoodIn wsX6_fills (wsV RX6 139 RX6 yX6_speedAt wsX6_speedAt) := goodIn_app (goodIn_of _ (by decide +kernel)) ggX6_fills_X6_speedAt
set_option maxRecDepth 20000 in
theorem ggX6_fills_X6_easiest : GoodIn wsX6_fills wsX6_easiest := goodIn_r _ [15, 16, 2, 3, 4, 21, 22, 23, 24, 25, 26, 27, 28, 29, 30, 31, 32, 33, 34, 35, 36, 37, 38, 39, 40, 41, 42, 43] (by decide +kernel) (by decide +kernel)
set_option maxRecDepth 20000 in
theorem gX6_fills_X6_easiest : GoodIn wsX6_fills (wsV RX6 142 RX6 yX6_easiest wsX6_easiest) := goodIn_app (goodIn_of _ (by decide +kernel)) ggX6_fills_X6_easiest
set_option maxRecDepth 20000 in
theorem ggX6_fills_X6_comes : GoodIn wsX6_fills wsX6_comes := goodIn_r _ [20, 2, 3, 21, 22, 23, 24, 25, 26, 27, 28, 29, 30, 31, 32, 33, 34, 35, 36, 37, 38, 39, 40, 41, 42, 43] (by decide +kernel) (by decide +kernel)
set_option maxRecDepth 20000 in
theorem gX6_fills_X6_comes : GoodIn wsX6_fills (wsV RX6 145 RX6 yX6_comes wsX6_comes) := goodIn_app (goodIn_of _ (by decide +kernel)) ggX6_fills_X6_comes
set_option maxRecDepth 20000 in
theorem ggX6_holds_X6_comes : GoodIn wsX6_holds wsX6_comes := goodIn_r _ [10, 2, 11, 12, 13, 14, 15, 16, 17, 18, 19, 20, 21, 22, 23, 24, 25, 26, 27, 28, 29, 30, 31, 32, 33, 34] (by decide +kernel) (by decide +kernel)
set_option maxRecDepth 20000 in
theorem gX6_holds_X6_comes : GoodIn wsX6_holds (wsV RX6 145 RX6 yX6_comes wsX6_comes) := goodIn_app (goodIn_of _ (by decide +kernel)) ggX6_holds_X6_comes
set_option maxRecDepth 20000 in
theorem ggX6_tries_X6_fills : GoodIn wsX6_tries wsX6_fills := goodIn_r _ [9, 2, 1, 10, 3, 11, 12, 13, 8, 14, 15, 16, 17, 18, 19, 20, 4, 21, 22, 23, 24, 34, 35, 36, 37, 38, 39, 40, 41, 42, 43, 44, 45, 46, 47, 48, 49, 50, 51, 52, 53, 54, 55, 56] (by decide +kernel) (by decide +kernel)
set_option maxRecDepth 20000 in
theorem gX6_tries_X6_fills : GoodIn wsX6_tries (wsV RX6 148 RX6 yX6_fills wsX6_fills) := goodIn_app (goodIn_of _ (by decide +kernel)) ggX6_tries_X6_fills
set_option maxRecDepth 20000 in
theorem ggX6_tries_X6_why : GoodIn wsX6_tries wsX6_why := goodIn_r _ [28, 2, 3, 34, 35, 36, 37, 38, 39, 40, 41, 42, 43, 44, 45, 46, 47, 48, 49, 50, 51, 52, 53, 54, 55, 56] (by decide +kernel) (by decide +kernel)
set_option maxRecDepth 20000 in
theorem gX6_tries_X6_why : GoodIn wsX6_tries (wsV RX6 152 RX6 yX6_why wsX6_why) := goodIn_app (goodIn_of _ (by decide +kernel)) ggX6_tries_X6_why
set_option maxRecDepth 20000 in
theorem ggX6_tries_X6_holds : GoodIn wsX6_tries wsX6_holds := goodIn_r _ [32, 4, 1, 33, 3, 2, 21, 22, 23, 8, 24, 10, 34, 35, 36, 37, 38, 39, 40, 41, 42, 43, 44, 45, 46, 47, 48, 49, 50, 51, 52, 53, 54, 55, 56] (by decide +kernel) (by decide +kernel)
set_option maxRecDepth 20000 in
theorem gX6_tries_X6_holds : GoodIn wsX6_tries (wsV RX6 155 RX6 yX6_holds wsX6_holds) := goodIn_app (goodIn_of _ (by decide +kernel)) ggX6_tries_X6_holds
set_option maxRecDepth 20000 in
theorem ggX6_becomes_X6_keeps : GoodIn wsX6_becomes wsX6_keeps := goodIn_r _ [6, 7, 8, 1, 9, 10, 11, 12, 13, 14, 15, 16, 17, 18, 19, 20, 21, 22, 23, 24, 25, 26, 27, 28, 29, 30, 31] (by decide +kernel) (by decide +kernel)
set_option maxRecDepth 20000 in
theorem gX6_becomes_X6_keeps : GoodIn wsX6_becomes (wsV RX6 159 RX6 yX6_keeps wsX6_keeps) := goodIn_app (goodIn_of _ (by decide +kernel)) ggX6_becomes_X6_keeps
set_option maxRecDepth 20000 in
theorem ggX6_isCore_X6_isIn : GoodIn wsX6_isCore wsX6_isIn := goodIn_r _ [5] (by decide +kernel) (by decide +kernel)
set_option maxRecDepth 20000 in
theorem gX6_isCore_X6_isIn : GoodIn wsX6_isCore (va_wsS RX6 95 yX6_isIn wsX6_isIn) := goodIn_app (goodIn_of _ (by decide +kernel)) ggX6_isCore_X6_isIn
set_option maxRecDepth 20000 in
theorem ggX6_isCavity_X6_isIn : GoodIn wsX6_isCavity wsX6_isIn := goodIn_r _ [5] (by decide +kernel) (by decide +kernel)
set_option maxRecDepth 20000 in
theorem gX6_isCavity_X6_isIn : GoodIn wsX6_isCavity (va_wsS RX6 95 yX6_isIn wsX6_isIn) := goodIn_app (goodIn_of _ (by decide +kernel)) ggX6_isCavity_X6_isIn
set_option maxRecDepth 20000 in
theorem ggX6_isShot_X6_isIn : GoodIn wsX6_isShot wsX6_isIn := goodIn_r _ [5] (by decide +kernel) (by decide +kernel)
set_option maxRecDepth 20000 in
theorem gX6_isShot_X6_isIn : GoodIn wsX6_isShot (va_wsS RX6 95 yX6_isIn wsX6_isIn) := goodIn_app (goodIn_of _ (by decide +kernel)) ggX6_isShot_X6_isIn
set_option maxRecDepth 20000 in
theorem ggX6_mould_X6_isIn : GoodIn wsX6_mould wsX6_isIn := goodIn_r _ [5] (by decide +kernel) (by decide +kernel)
set_option maxRecDepth 20000 in
theorem gX6_mould_X6_isIn : GoodIn wsX6_mould (va_wsS RX6 95 yX6_isIn wsX6_isIn) := goodIn_app (goodIn_of _ (by decide +kernel)) ggX6_mould_X6_isIn
set_option maxRecDepth 20000 in
theorem ggX6_mould_X6_keeps : GoodIn wsX6_mould wsX6_keeps := goodIn_r _ [9, 10, 11, 1, 12, 13, 14, 15, 16, 17, 18, 19, 20, 21, 22, 23, 24, 25, 26, 27, 28, 29, 30, 31, 32, 33, 34] (by decide +kernel) (by decide +kernel)
set_option maxRecDepth 20000 in
theorem gX6_mould_X6_keeps : GoodIn wsX6_mould (wsV RX6 159 RX6 yX6_keeps wsX6_keeps) := goodIn_app (goodIn_of _ (by decide +kernel)) ggX6_mould_X6_keeps
set_option maxRecDepth 20000 in
theorem ggX6_against_X6_isCore : GoodIn wsX6_against wsX6_isCore := goodIn_r _ [5, 6, 7, 8, 4, 9, 16, 17, 18, 19, 20, 21, 22, 23, 24, 25, 26, 27, 28, 29, 30, 31, 32, 33, 34, 35, 36, 37, 38] (by decide +kernel) (by decide +kernel)
set_option maxRecDepth 20000 in
theorem gX6_against_X6_isCore : GoodIn wsX6_against (wsV RX6 162 RX6 yX6_isCore wsX6_isCore) := goodIn_app (goodIn_of _ (by decide +kernel)) ggX6_against_X6_isCore
set_option maxRecDepth 20000 in
theorem ggX6_against_X6_isIn : GoodIn wsX6_against wsX6_isIn := goodIn_r _ [9] (by decide +kernel) (by decide +kernel)
set_option maxRecDepth 20000 in
theorem gX6_against_X6_isIn : GoodIn wsX6_against (va_wsS RX6 95 yX6_isIn wsX6_isIn) := goodIn_app (goodIn_of _ (by decide +kernel)) ggX6_against_X6_isIn
set_option maxRecDepth 20000 in
theorem ggX6_against_X6_against1 : GoodIn wsX6_against wsX6_against1 := goodIn_r _ [13, 14, 15, 6, 16, 17, 18, 19, 20, 21, 22, 23, 24, 25, 26, 27, 28, 29, 30, 31, 32, 33, 34, 35, 36, 37, 38] (by decide +kernel) (by decide +kernel)
set_option maxRecDepth 20000 in
theorem gX6_against_X6_against1 : GoodIn wsX6_against (wsV RX6 165 RX6 yX6_against1 wsX6_against1) := goodIn_app (goodIn_of _ (by decide +kernel)) ggX6_against_X6_against1
set_option maxRecDepth 20000 in
theorem ggX6_core_X6_isCore : GoodIn wsX6_core wsX6_isCore := goodIn_r _ [6, 7, 8, 9, 5, 10, 25, 26, 27, 28, 29, 30, 31, 32, 33, 34, 35, 36, 37, 38, 39, 40, 41, 42, 43, 44, 45, 46, 47] (by decide +kernel) (by decide +kernel)
set_option maxRecDepth 20000 in
theorem gX6_core_X6_isCore : GoodIn wsX6_core (wsV RX6 162 RX6 yX6_isCore wsX6_isCore) := goodIn_app (goodIn_of _ (by decide +kernel)) ggX6_core_X6_isCore
set_option maxRecDepth 20000 in
theorem ggX6_core_X6_isIn : GoodIn wsX6_core wsX6_isIn := goodIn_r _ [10] (by decide +kernel) (by decide +kernel)
set_option maxRecDepth 20000 in
theorem gX6_core_X6_isIn : GoodIn wsX6_core (va_wsS RX6 95 yX6_isIn wsX6_isIn) := goodIn_app (goodIn_of _ (by decide +kernel)) ggX6_core_X6_isIn
set_option maxRecDepth 20000 in
theorem ggX6_core_X6_against1 : GoodIn wsX6_core wsX6_against1 := goodIn_r _ [14, 1, 15, 7, 25, 26, 27, 28, 29, 30, 31, 32, 33, 34, 35, 36, 37, 38, 39, 40, 41, 42, 43, 44, 45, 46, 47] (by decide +kernel) (by decide +kernel)
set_option maxRecDepth 20000 in
theorem gX6_core_X6_against1 : GoodIn wsX6_core (wsV RX6 165 RX6 yX6_against1 wsX6_against1) := goodIn_app (goodIn_of _ (by decide +kernel)) ggX6_core_X6_against1
set_option maxRecDepth 20000 in
theorem ggX6_core_X6_keeps : GoodIn wsX6_core wsX6_keeps := goodIn_r _ [19, 20, 21, 1, 25, 26, 27, 28, 29, 30, 31, 32, 33, 34, 35, 36, 37, 38, 39, 40, 41, 42, 43, 44, 45, 46, 47] (by decide +kernel) (by decide +kernel)
set_option maxRecDepth 20000 in
theorem gX6_core_X6_keeps : GoodIn wsX6_core (wsV RX6 159 RX6 yX6_keeps wsX6_keeps) := goodIn_app (goodIn_of _ (by decide +kernel)) ggX6_core_X6_keeps
set_option maxRecDepth 20000 in
theorem ggX6_core_X6_bits : GoodIn wsX6_core wsX6_bits := goodIn_r _ [24] (by decide +kernel) (by decide +kernel)
set_option maxRecDepth 20000 in
theorem gX6_core_X6_bits : GoodIn wsX6_core (va_wsS RX6 168 yX6_bits wsX6_bits) := goodIn_app (goodIn_of _ (by decide +kernel)) ggX6_core_X6_bits
set_option maxRecDepth 20000 in
theorem ggX6_drag_X6_isCavity : GoodIn wsX6_drag wsX6_isCavity := goodIn_r _ [5, 6, 7, 8, 4, 9, 21, 22, 23, 24, 25, 26, 27, 28, 29, 30, 31, 32, 33, 34, 35, 36, 37, 38, 39, 40, 41, 42, 43] (by decide +kernel) (by decide +kernel)
set_option maxRecDepth 20000 in
theorem gX6_drag_X6_isCavity : GoodIn wsX6_drag (wsV RX6 171 RX6 yX6_isCavity wsX6_isCavity) := goodIn_app (goodIn_of _ (by decide +kernel)) ggX6_drag_X6_isCavity
set_option maxRecDepth 20000 in
theorem ggX6_drag_X6_isIn : GoodIn wsX6_drag wsX6_isIn := goodIn_r _ [9] (by decide +kernel) (by decide +kernel)
set_option maxRecDepth 20000 in
theorem gX6_drag_X6_isIn : GoodIn wsX6_drag (va_wsS RX6 95 yX6_isIn wsX6_isIn) := goodIn_app (goodIn_of _ (by decide +kernel)) ggX6_drag_X6_isIn
set_option maxRecDepth 20000 in
theorem ggX6_drag_X6_becomes : GoodIn wsX6_drag wsX6_becomes := goodIn_r _ [13, 14, 15, 16, 17, 4, 18, 19, 20, 21, 22, 23, 24, 25, 26, 27, 28, 29, 30, 31, 32, 33, 34, 35, 36, 37, 38, 39, 40, 41, 42, 43] (by decide +kernel) (by decide +kernel)
set_option maxRecDepth 20000 in
theorem gX6_drag_X6_becomes : GoodIn wsX6_drag (wsV RX6 174 RX6 yX6_becomes wsX6_becomes) := goodIn_app (goodIn_of _ (by decide +kernel)) ggX6_drag_X6_becomes
set_option maxRecDepth 20000 in
theorem ggX6_speed_X6_isIn : GoodIn wsX6_speed wsX6_isIn := goodIn_r _ [5] (by decide +kernel) (by decide +kernel)
set_option maxRecDepth 20000 in
theorem gX6_speed_X6_isIn : GoodIn wsX6_speed (va_wsS RX6 95 yX6_isIn wsX6_isIn) := goodIn_app (goodIn_of _ (by decide +kernel)) ggX6_speed_X6_isIn
set_option maxRecDepth 20000 in
theorem ggX6_speed_X6_becomes : GoodIn wsX6_speed wsX6_becomes := goodIn_r _ [9, 10, 11, 12, 13, 4, 14, 15, 16, 17, 18, 19, 20, 21, 22, 23, 24, 25, 26, 27, 28, 29, 30, 31, 32, 33, 34, 35, 36, 37, 38, 39] (by decide +kernel) (by decide +kernel)
set_option maxRecDepth 20000 in
theorem gX6_speed_X6_becomes : GoodIn wsX6_speed (wsV RX6 174 RX6 yX6_becomes wsX6_becomes) := goodIn_app (goodIn_of _ (by decide +kernel)) ggX6_speed_X6_becomes
set_option maxRecDepth 20000 in
theorem ggX6_tell_X6_isIn : GoodIn wsX6_tell wsX6_isIn := goodIn_r _ [4] (by decide +kernel) (by decide +kernel)
set_option maxRecDepth 20000 in
theorem gX6_tell_X6_isIn : GoodIn wsX6_tell (va_wsS RX6 95 yX6_isIn wsX6_isIn) := goodIn_app (goodIn_of _ (by decide +kernel)) ggX6_tell_X6_isIn
set_option maxRecDepth 20000 in
theorem ggX6_tell_X6_lowOf : GoodIn wsX6_tell wsX6_lowOf := goodIn_r _ [7] (by decide +kernel) (by decide +kernel)
set_option maxRecDepth 20000 in
theorem gX6_tell_X6_lowOf : GoodIn wsX6_tell (va_wsS RX6 106 yX6_lowOf wsX6_lowOf) := goodIn_app (goodIn_of _ (by decide +kernel)) ggX6_tell_X6_lowOf
set_option maxRecDepth 20000 in
theorem ggX6_tell_X6_highOf : GoodIn wsX6_tell wsX6_highOf := goodIn_r _ [10] (by decide +kernel) (by decide +kernel)
set_option maxRecDepth 20000 in
theorem gX6_tell_X6_highOf : GoodIn wsX6_tell (va_wsS RX6 109 yX6_highOf wsX6_highOf) := goodIn_app (goodIn_of _ (by decide +kernel)) ggX6_tell_X6_highOf
set_option maxRecDepth 20000 in
theorem ggX6_tell_X6_becomes : GoodIn wsX6_tell wsX6_becomes := goodIn_r _ [14, 15, 16, 17, 18, 3, 19, 20, 21, 22, 23, 24, 25, 26, 27, 28, 29, 30, 31, 32, 33, 34, 35, 36, 37, 38, 39, 40, 41, 42, 43, 44] (by decide +kernel) (by decide +kernel)
set_option maxRecDepth 20000 in
theorem gX6_tell_X6_becomes : GoodIn wsX6_tell (wsV RX6 174 RX6 yX6_becomes wsX6_becomes) := goodIn_app (goodIn_of _ (by decide +kernel)) ggX6_tell_X6_becomes
set_option maxRecDepth 20000 in
theorem ggX6_shoot_X6_isReady : GoodIn wsX6_shoot wsX6_isReady := goodIn_r _ [7, 1, 8, 49, 50, 51, 52, 53, 54, 55, 56, 57, 58, 59, 60, 61, 62, 63, 64, 65, 66, 67, 68, 69, 70, 71] (by decide +kernel) (by decide +kernel)
set_option maxRecDepth 20000 in
theorem gX6_shoot_X6_isReady : GoodIn wsX6_shoot (wsV RX6 177 RX6 yX6_isReady wsX6_isReady) := goodIn_app (goodIn_of _ (by decide +kernel)) ggX6_shoot_X6_isReady
set_option maxRecDepth 20000 in
theorem ggX6_shoot_X6_keeps : GoodIn wsX6_shoot wsX6_keeps := goodIn_r _ [12, 13, 14, 1, 49, 50, 51, 52, 53, 54, 55, 56, 57, 58, 59, 60, 61, 62, 63, 64, 65, 66, 67, 68, 69, 70, 71] (by decide +kernel) (by decide +kernel)
set_option maxRecDepth 20000 in
theorem gX6_shoot_X6_keeps : GoodIn wsX6_shoot (wsV RX6 159 RX6 yX6_keeps wsX6_keeps) := goodIn_app (goodIn_of _ (by decide +kernel)) ggX6_shoot_X6_keeps
set_option maxRecDepth 20000 in
theorem ggX6_shoot_X6_tries : GoodIn wsX6_shoot wsX6_tries := goodIn_r _ [18, 2, 19, 1, 20, 21, 22, 23, 6, 24, 25, 26, 27, 28, 29, 30, 31, 32, 33, 34, 35, 36, 37, 38, 39, 40, 41, 42, 43, 44, 45, 46, 47, 48, 49, 50, 51, 52, 53, 54, 55, 56, 57, 58, 59, 60, 61, 62, 63, 64, 65, 66, 67, 68, 69, 70, 71] (by decide +kernel) (by decide +kernel)
set_option maxRecDepth 20000 in
theorem gX6_shoot_X6_tries : GoodIn wsX6_shoot (wsV RX6 180 RX6 yX6_tries wsX6_tries) := goodIn_app (goodIn_of _ (by decide +kernel)) ggX6_shoot_X6_tries
set_option maxRecDepth 20000 in
theorem ggX6_waitCool_X6_keeps : GoodIn wsX6_waitCool wsX6_keeps := goodIn_r _ [6, 7, 8, 1, 9, 10, 11, 12, 13, 14, 15, 16, 17, 18, 19, 20, 21, 22, 23, 24, 25, 26, 27, 28, 29, 30, 31] (by decide +kernel) (by decide +kernel)
set_option maxRecDepth 20000 in
theorem gX6_waitCool_X6_keeps : GoodIn wsX6_waitCool (wsV RX6 159 RX6 yX6_keeps wsX6_keeps) := goodIn_app (goodIn_of _ (by decide +kernel)) ggX6_waitCool_X6_keeps
set_option maxRecDepth 20000 in
theorem ggX6_isShort_X6_shortBy : GoodIn wsX6_isShort wsX6_shortBy := goodIn_r _ [6, 7, 8, 9, 10, 11, 12, 13, 14, 15, 16, 17, 18, 19, 20, 21, 22, 23, 24, 25, 26, 27, 28, 29, 30, 31] (by decide +kernel) (by decide +kernel)
set_option maxRecDepth 20000 in
theorem gX6_isShort_X6_shortBy : GoodIn wsX6_isShort (wsV RX6 183 RX6 yX6_shortBy wsX6_shortBy) := goodIn_app (goodIn_of _ (by decide +kernel)) ggX6_isShort_X6_shortBy
set_option maxRecDepth 20000 in
theorem ggX6_teach_X6_isShot : GoodIn wsX6_teach wsX6_isShot := goodIn_r _ [6, 1, 7, 8, 5, 9, 26, 27, 28, 29, 30, 31, 32, 33, 34, 35, 36, 37, 38, 39, 40, 41, 42, 43, 44, 45, 46, 47, 48] (by decide +kernel) (by decide +kernel)
set_option maxRecDepth 20000 in
theorem gX6_teach_X6_isShot : GoodIn wsX6_teach (wsV RX6 186 RX6 yX6_isShot wsX6_isShot) := goodIn_app (goodIn_of _ (by decide +kernel)) ggX6_teach_X6_isShot
set_option maxRecDepth 20000 in
theorem ggX6_teach_X6_isShort : GoodIn wsX6_teach wsX6_isShort := goodIn_r _ [13, 14, 15, 16, 17, 5, 18, 19, 1, 26, 27, 28, 29, 30, 31, 32, 33, 34, 35, 36, 37, 38, 39, 40, 41, 42, 43, 44, 45, 46, 47, 48] (by decide +kernel) (by decide +kernel)
set_option maxRecDepth 20000 in
theorem gX6_teach_X6_isShort : GoodIn wsX6_teach (wsV RX6 189 RX6 yX6_isShort wsX6_isShort) := goodIn_app (goodIn_of _ (by decide +kernel)) ggX6_teach_X6_isShort
set_option maxRecDepth 20000 in
theorem ggX6_teach_X6_keeps : GoodIn wsX6_teach wsX6_keeps := goodIn_r _ [23, 24, 25, 1, 26, 27, 28, 29, 30, 31, 32, 33, 34, 35, 36, 37, 38, 39, 40, 41, 42, 43, 44, 45, 46, 47, 48] (by decide +kernel) (by decide +kernel)
set_option maxRecDepth 20000 in
theorem gX6_teach_X6_keeps : GoodIn wsX6_teach (wsV RX6 159 RX6 yX6_keeps wsX6_keeps) := goodIn_app (goodIn_of _ (by decide +kernel)) ggX6_teach_X6_keeps
set_option maxRecDepth 20000 in
theorem ggX6_forget_X6_keeps : GoodIn wsX6_forget wsX6_keeps := goodIn_r _ [6, 7, 8, 1, 9, 10, 11, 12, 13, 14, 15, 16, 17, 18, 19, 20, 21, 22, 23, 24, 25, 26, 27, 28, 29, 30, 31] (by decide +kernel) (by decide +kernel)
set_option maxRecDepth 20000 in
theorem gX6_forget_X6_keeps : GoodIn wsX6_forget (wsV RX6 159 RX6 yX6_keeps wsX6_keeps) := goodIn_app (goodIn_of _ (by decide +kernel)) ggX6_forget_X6_keeps
set_option maxRecDepth 20000 in
theorem ggX6_wide_X6_isIn : GoodIn wsX6_wide wsX6_isIn := goodIn_r _ [4] (by decide +kernel) (by decide +kernel)
set_option maxRecDepth 20000 in
theorem gX6_wide_X6_isIn : GoodIn wsX6_wide (va_wsS RX6 95 yX6_isIn wsX6_isIn) := goodIn_app (goodIn_of _ (by decide +kernel)) ggX6_wide_X6_isIn
set_option maxRecDepth 20000 in
theorem ggX6_wide_X6_becomes : GoodIn wsX6_wide wsX6_becomes := goodIn_r _ [8, 9, 10, 11, 12, 3, 13, 14, 15, 16, 17, 18, 19, 20, 21, 22, 23, 24, 25, 26, 27, 28, 29, 30, 31, 32, 33, 34, 35, 36, 37, 38] (by decide +kernel) (by decide +kernel)
set_option maxRecDepth 20000 in
theorem gX6_wide_X6_becomes : GoodIn wsX6_wide (wsV RX6 174 RX6 yX6_becomes wsX6_becomes) := goodIn_app (goodIn_of _ (by decide +kernel)) ggX6_wide_X6_becomes
set_option maxRecDepth 20000 in
theorem ggX6_band_X6_isIn : GoodIn wsX6_band wsX6_isIn := goodIn_r _ [5] (by decide +kernel) (by decide +kernel)
set_option maxRecDepth 20000 in
theorem gX6_band_X6_isIn : GoodIn wsX6_band (va_wsS RX6 95 yX6_isIn wsX6_isIn) := goodIn_app (goodIn_of _ (by decide +kernel)) ggX6_band_X6_isIn
set_option maxRecDepth 20000 in
theorem ggX6_isBad_X6_overBy : GoodIn wsX6_isBad wsX6_overBy := goodIn_r _ [7, 2, 8, 17, 18, 19, 20, 21, 22, 23, 24, 25, 26, 27, 28, 29, 30, 31, 32, 33, 34, 35, 36, 37, 38, 39] (by decide +kernel) (by decide +kernel)
set_option maxRecDepth 20000 in
theorem gX6_isBad_X6_overBy : GoodIn wsX6_isBad (wsV RX6 192 RX6 yX6_overBy wsX6_overBy) := goodIn_app (goodIn_of _ (by decide +kernel)) ggX6_isBad_X6_overBy
set_option maxRecDepth 20000 in
theorem ggX6_isBad_X6_shortBy : GoodIn wsX6_isBad wsX6_shortBy := goodIn_r _ [12, 8, 2, 17, 18, 19, 20, 21, 22, 23, 24, 25, 26, 27, 28, 29, 30, 31, 32, 33, 34, 35, 36, 37, 38, 39] (by decide +kernel) (by decide +kernel)
set_option maxRecDepth 20000 in
theorem gX6_isBad_X6_shortBy : GoodIn wsX6_isBad (wsV RX6 183 RX6 yX6_shortBy wsX6_shortBy) := goodIn_app (goodIn_of _ (by decide +kernel)) ggX6_isBad_X6_shortBy
set_option maxRecDepth 20000 in
theorem ggX6_isBad_X6_amiss : GoodIn wsX6_isBad wsX6_amiss := goodIn_r _ [16, 2, 17, 18, 19, 20, 21, 22, 23, 24, 25, 26, 27, 28, 29, 30, 31, 32, 33, 34, 35, 36, 37, 38, 39] (by decide +kernel) (by decide +kernel)
set_option maxRecDepth 20000 in
theorem gX6_isBad_X6_amiss : GoodIn wsX6_isBad (wsV RX6 195 RX6 yX6_amiss wsX6_amiss) := goodIn_app (goodIn_of _ (by decide +kernel)) ggX6_isBad_X6_amiss
set_option maxRecDepth 20000 in
theorem ggX6_shot_X6_isShot : GoodIn wsX6_shot wsX6_isShot := goodIn_r _ [6, 1, 7, 8, 5, 9, 31, 32, 33, 34, 35, 36, 37, 38, 39, 40, 41, 42, 43, 44, 45, 46, 47, 48, 49, 50, 51, 52, 53] (by decide +kernel) (by decide +kernel)
set_option maxRecDepth 20000 in
theorem gX6_shot_X6_isShot : GoodIn wsX6_shot (wsV RX6 186 RX6 yX6_isShot wsX6_isShot) := goodIn_app (goodIn_of _ (by decide +kernel)) ggX6_shot_X6_isShot
set_option maxRecDepth 20000 in
theorem ggX6_shot_X6_isIn : GoodIn wsX6_shot wsX6_isIn := goodIn_r _ [9] (by decide +kernel) (by decide +kernel)
set_option maxRecDepth 20000 in
theorem gX6_shot_X6_isIn : GoodIn wsX6_shot (va_wsS RX6 95 yX6_isIn wsX6_isIn) := goodIn_app (goodIn_of _ (by decide +kernel)) ggX6_shot_X6_isIn
set_option maxRecDepth 20000 in
theorem ggX6_shot_X6_told : GoodIn wsX6_shot wsX6_told := goodIn_r _ [12] (by decide +kernel) (by decide +kernel)
set_option maxRecDepth 20000 in
theorem gX6_shot_X6_told : GoodIn wsX6_shot (va_wsS RX6 198 yX6_told wsX6_told) := goodIn_app (goodIn_of _ (by decide +kernel)) ggX6_shot_X6_told
set_option maxRecDepth 20000 in
theorem ggX6_shot_X6_isBad : GoodIn wsX6_shot wsX6_isBad := goodIn_r _ [16, 17, 1, 18, 19, 20, 5, 21, 22, 23, 24, 25, 26, 27, 28, 29, 30, 31, 32, 33, 34, 35, 36, 37, 38, 39, 40, 41, 42, 43, 44, 45, 46, 47, 48, 49, 50, 51, 52, 53] (by decide +kernel) (by decide +kernel)
set_option maxRecDepth 20000 in
theorem gX6_shot_X6_isBad : GoodIn wsX6_shot (wsV RX6 202 RX6 yX6_isBad wsX6_isBad) := goodIn_app (goodIn_of _ (by decide +kernel)) ggX6_shot_X6_isBad
set_option maxRecDepth 20000 in
theorem ggX6_shot_X6_amiss : GoodIn wsX6_shot wsX6_amiss := goodIn_r _ [30, 1, 31, 32, 33, 34, 35, 36, 37, 38, 39, 40, 41, 42, 43, 44, 45, 46, 47, 48, 49, 50, 51, 52, 53] (by decide +kernel) (by decide +kernel)
set_option maxRecDepth 20000 in
theorem gX6_shot_X6_amiss : GoodIn wsX6_shot (wsV RX6 195 RX6 yX6_amiss wsX6_amiss) := goodIn_app (goodIn_of _ (by decide +kernel)) ggX6_shot_X6_amiss
set_option maxRecDepth 20000 in
theorem ggX6_curve_X6_isShot : GoodIn wsX6_curve wsX6_isShot := goodIn_r _ [6, 1, 7, 8, 5, 9, 10, 11, 12, 13, 14, 15, 16, 17, 18, 19, 20, 21, 22, 23, 24, 25, 26, 27, 28, 29, 30, 31, 32] (by decide +kernel) (by decide +kernel)
set_option maxRecDepth 20000 in
theorem gX6_curve_X6_isShot : GoodIn wsX6_curve (wsV RX6 186 RX6 yX6_isShot wsX6_isShot) := goodIn_app (goodIn_of _ (by decide +kernel)) ggX6_curve_X6_isShot
set_option maxRecDepth 20000 in
theorem ggX6_curve_X6_isIn : GoodIn wsX6_curve wsX6_isIn := goodIn_r _ [9] (by decide +kernel) (by decide +kernel)
set_option maxRecDepth 20000 in
theorem gX6_curve_X6_isIn : GoodIn wsX6_curve (va_wsS RX6 95 yX6_isIn wsX6_isIn) := goodIn_app (goodIn_of _ (by decide +kernel)) ggX6_curve_X6_isIn
set_option maxRecDepth 20000 in
theorem ggX6_cavity_X6_isCavity : GoodIn wsX6_cavity wsX6_isCavity := goodIn_r _ [8, 9, 10, 11, 7, 12, 13, 14, 15, 16, 17, 18, 19, 20, 21, 22, 23, 24, 25, 26, 27, 28, 29, 30, 31, 32, 33, 34, 35] (by decide +kernel) (by decide +kernel)
set_option maxRecDepth 20000 in
theorem gX6_cavity_X6_isCavity : GoodIn wsX6_cavity (wsV RX6 171 RX6 yX6_isCavity wsX6_isCavity) := goodIn_app (goodIn_of _ (by decide +kernel)) ggX6_cavity_X6_isCavity
set_option maxRecDepth 20000 in
theorem ggX6_cavity_X6_isIn : GoodIn wsX6_cavity wsX6_isIn := goodIn_r _ [12] (by decide +kernel) (by decide +kernel)
set_option maxRecDepth 20000 in
theorem gX6_cavity_X6_isIn : GoodIn wsX6_cavity (va_wsS RX6 95 yX6_isIn wsX6_isIn) := goodIn_app (goodIn_of _ (by decide +kernel)) ggX6_cavity_X6_isIn
set_option maxRecDepth 20000 in
theorem ggX6_filled_X6_isShot : GoodIn wsX6_filled wsX6_isShot := goodIn_r _ [6, 1, 7, 8, 5, 9, 24, 25, 26, 27, 28, 29, 30, 31, 32, 33, 34, 35, 36, 37, 38, 39, 40, 41, 42, 43, 44, 45, 46] (by decide +kernel) (by decide +kernel)
set_option maxRecDepth 20000 in
theorem gX6_filled_X6_isShot : GoodIn wsX6_filled (wsV RX6 186 RX6 yX6_isShot wsX6_isShot) := goodIn_app (goodIn_of _ (by decide +kernel)) ggX6_filled_X6_isShot
set_option maxRecDepth 20000 in
theorem ggX6_filled_X6_isCavity : GoodIn wsX6_filled wsX6_isCavity := goodIn_r _ [13, 14, 7, 8, 5, 9, 24, 25, 26, 27, 28, 29, 30, 31, 32, 33, 34, 35, 36, 37, 38, 39, 40, 41, 42, 43, 44, 45, 46] (by decide +kernel) (by decide +kernel)
set_option maxRecDepth 20000 in
theorem gX6_filled_X6_isCavity : GoodIn wsX6_filled (wsV RX6 171 RX6 yX6_isCavity wsX6_isCavity) := goodIn_app (goodIn_of _ (by decide +kernel)) ggX6_filled_X6_isCavity
set_option maxRecDepth 20000 in
theorem ggX6_filled_X6_isIn : GoodIn wsX6_filled wsX6_isIn := goodIn_r _ [9] (by decide +kernel) (by decide +kernel)
set_option maxRecDepth 20000 in
theorem gX6_filled_X6_isIn : GoodIn wsX6_filled (va_wsS RX6 95 yX6_isIn wsX6_isIn) := goodIn_app (goodIn_of _ (by decide +kernel)) ggX6_filled_X6_isIn
set_option maxRecDepth 20000 in
theorem ggX6_filled_X6_shortBy : GoodIn wsX6_filled wsX6_shortBy := goodIn_r _ [18, 19, 1, 24, 25, 26, 27, 28, 29, 30, 31, 32, 33, 34, 35, 36, 37, 38, 39, 40, 41, 42, 43, 44, 45, 46] (by decide +kernel) (by decide +kernel)
set_option maxRecDepth 20000 in
theorem gX6_filled_X6_shortBy : GoodIn wsX6_filled (wsV RX6 183 RX6 yX6_shortBy wsX6_shortBy) := goodIn_app (goodIn_of _ (by decide +kernel)) ggX6_filled_X6_shortBy
set_option maxRecDepth 20000 in
theorem ggX6_filled_X6_overBy : GoodIn wsX6_filled wsX6_overBy := goodIn_r _ [23, 1, 19, 24, 25, 26, 27, 28, 29, 30, 31, 32, 33, 34, 35, 36, 37, 38, 39, 40, 41, 42, 43, 44, 45, 46] (by decide +kernel) (by decide +kernel)
set_option maxRecDepth 20000 in
theorem gX6_filled_X6_overBy : GoodIn wsX6_filled (wsV RX6 192 RX6 yX6_overBy wsX6_overBy) := goodIn_app (goodIn_of _ (by decide +kernel)) ggX6_filled_X6_overBy
set_option maxRecDepth 20000 in
theorem ggX6_tried_X6_isIn : GoodIn wsX6_tried wsX6_isIn := goodIn_r _ [5] (by decide +kernel) (by decide +kernel)
set_option maxRecDepth 20000 in
theorem gX6_tried_X6_isIn : GoodIn wsX6_tried (va_wsS RX6 95 yX6_isIn wsX6_isIn) := goodIn_app (goodIn_of _ (by decide +kernel)) ggX6_tried_X6_isIn
set_option maxRecDepth 20000 in
theorem ggX6_tried_X6_tries : GoodIn wsX6_tried wsX6_tries := goodIn_r _ [9, 1, 10, 11, 12, 13, 14, 15, 4, 16, 17, 18, 19, 20, 21, 22, 23, 24, 25, 26, 27, 28, 29, 30, 31, 32, 33, 34, 35, 36, 37, 38, 39, 40, 44, 45, 46, 47, 48, 49, 50, 51, 52, 53, 54, 55, 56, 57, 58, 59, 60, 61, 62, 63, 64, 65, 66] (by decide +kernel) (by decide +kernel)
set_option maxRecDepth 20000 in
theorem gX6_tried_X6_tries : GoodIn wsX6_tried (wsV RX6 180 RX6 yX6_tries wsX6_tries) := goodIn_app (goodIn_of _ (by decide +kernel)) ggX6_tried_X6_tries
set_option maxRecDepth 20000 in
theorem ggX6_tried_X6_told : GoodIn wsX6_tried wsX6_told := goodIn_r _ [43] (by decide +kernel) (by decide +kernel)
set_option maxRecDepth 20000 in
theorem gX6_tried_X6_told : GoodIn wsX6_tried (va_wsS RX6 198 yX6_told wsX6_told) := goodIn_app (goodIn_of _ (by decide +kernel)) ggX6_tried_X6_told
set_option maxRecDepth 20000 in
theorem ggX6_even_X6_isIn : GoodIn wsX6_even wsX6_isIn := goodIn_r _ [5] (by decide +kernel) (by decide +kernel)
set_option maxRecDepth 20000 in
theorem gX6_even_X6_isIn : GoodIn wsX6_even (va_wsS RX6 95 yX6_isIn wsX6_isIn) := goodIn_app (goodIn_of _ (by decide +kernel)) ggX6_even_X6_isIn
set_option maxRecDepth 20000 in
theorem ggX6_even_X6_tries : GoodIn wsX6_even wsX6_tries := goodIn_r _ [9, 1, 10, 11, 12, 13, 14, 15, 4, 16, 17, 18, 19, 20, 21, 22, 23, 24, 25, 26, 27, 28, 29, 30, 31, 32, 33, 34, 35, 36, 37, 38, 39, 40, 41, 42, 43, 44, 45, 46, 47, 48, 49, 50, 51, 52, 53, 54, 55, 56, 57, 58, 59, 60, 61, 62, 63] (by decide +kernel) (by decide +kernel)
set_option maxRecDepth 20000 in
theorem gX6_even_X6_tries : GoodIn wsX6_even (wsV RX6 180 RX6 yX6_tries wsX6_tries) := goodIn_app (goodIn_of _ (by decide +kernel)) ggX6_even_X6_tries
set_option maxRecDepth 20000 in
theorem ggX6_earlier_X6_isCore : GoodIn wsX6_earlier wsX6_isCore := goodIn_r _ [6, 7, 8, 9, 5, 10, 11, 12, 13, 14, 15, 16, 17, 18, 19, 20, 21, 22, 23, 24, 25, 26, 27, 28, 29, 30, 31, 32, 33] (by decide +kernel) (by decide +kernel)
set_option maxRecDepth 20000 in
theorem gX6_earlier_X6_isCore : GoodIn wsX6_earlier (wsV RX6 162 RX6 yX6_isCore wsX6_isCore) := goodIn_app (goodIn_of _ (by decide +kernel)) ggX6_earlier_X6_isCore
set_option maxRecDepth 20000 in
theorem ggX6_count_X6_bits : GoodIn wsX6_count wsX6_bits := goodIn_r _ [10] (by decide +kernel) (by decide +kernel)
set_option maxRecDepth 20000 in
theorem gX6_count_X6_bits : GoodIn wsX6_count (va_wsS RX6 168 yX6_bits wsX6_bits) := goodIn_app (goodIn_of _ (by decide +kernel)) ggX6_count_X6_bits
set_option maxRecDepth 20000 in
theorem ggX6_count_X6_isBad : GoodIn wsX6_count wsX6_isBad := goodIn_r _ [14, 1, 4, 15, 16, 17, 9, 18, 19, 20, 21, 22, 23, 24, 25, 26, 27, 32, 33, 34, 35, 36, 37, 38, 39, 40, 41, 42, 43, 44, 45, 46, 47, 48, 49, 50, 51, 52, 53, 54] (by decide +kernel) (by decide +kernel)
set_option maxRecDepth 20000 in
theorem gX6_count_X6_isBad : GoodIn wsX6_count (wsV RX6 202 RX6 yX6_isBad wsX6_isBad) := goodIn_app (goodIn_of _ (by decide +kernel)) ggX6_count_X6_isBad
set_option maxRecDepth 20000 in
theorem ggX6_count_X6_isReady : GoodIn wsX6_count wsX6_isReady := goodIn_r _ [31, 4, 2, 32, 33, 34, 35, 36, 37, 38, 39, 40, 41, 42, 43, 44, 45, 46, 47, 48, 49, 50, 51, 52, 53, 54] (by decide +kernel) (by decide +kernel)
set_option maxRecDepth 20000 in
theorem gX6_count_X6_isReady : GoodIn wsX6_count (wsV RX6 177 RX6 yX6_isReady wsX6_isReady) := goodIn_app (goodIn_of _ (by decide +kernel)) ggX6_count_X6_isReady
set_option maxRecDepth 20000 in
theorem ggJ0_length_8abf5_J0_coder_7d493 : GoodIn wsJ0_length_8abf5 wsJ0_coder_7d493 := goodIn_r _ [6, 7, 8] (by decide +kernel) (by decide +kernel)
set_option maxRecDepth 20000 in
theorem gJ0_length_8abf5_J0_coder_7d493 : GoodIn wsJ0_length_8abf5 (wsV RJ0 335 RJ0 yJ0_coder_7d493 wsJ0_coder_7d493) := goodIn_app (goodIn_of _ (by decide +kernel)) ggJ0_length_8abf5_J0_coder_7d493
set_option maxRecDepth 20000 in
theorem ggJ0_charAt_5068e_J0_isLatin1_aae02 : GoodIn wsJ0_charAt_5068e wsJ0_isLatin1_aae02 := goodIn_r _ [6, 7, 8] (by decide +kernel) (by decide +kernel)
set_option maxRecDepth 20000 in
theorem gJ0_charAt_5068e_J0_isLatin1_aae02 : GoodIn wsJ0_charAt_5068e (wsV RJ0 492 RJ0 yJ0_isLatin1_aae02 wsJ0_isLatin1_aae02) := goodIn_app (goodIn_of _ (by decide +kernel)) ggJ0_charAt_5068e_J0_isLatin1_aae02
set_option maxRecDepth 20000 in
theorem ggJ0_charAt_5068e_J1_charAt_3b067 : GoodIn wsJ0_charAt_5068e wsJ1_charAt_3b067 := goodIn_r _ [12, 13, 14, 5, 15, 16, 17, 18, 19, 20] (by decide +kernel) (by decide +kernel)
set_option maxRecDepth 20000 in
theorem gJ0_charAt_5068e_J1_charAt_3b067 : GoodIn wsJ0_charAt_5068e (va_wsS RJ0 495 yJ1_charAt_3b067 wsJ1_charAt_3b067) := goodIn_app (goodIn_of _ (by decide +kernel)) ggJ0_charAt_5068e_J1_charAt_3b067
set_option maxRecDepth 20000 in
theorem ggJ0_charAt_5068e_J2_charAt_3b067 : GoodIn wsJ0_charAt_5068e wsJ2_charAt_3b067 := goodIn_r _ [24, 25, 26, 23, 27, 28, 29, 30, 31, 14, 5, 15, 16, 17, 18, 19, 20, 32, 33, 34, 35, 36, 37] (by decide +kernel) (by decide +kernel)
set_option maxRecDepth 20000 in
theorem gJ0_charAt_5068e_J2_charAt_3b067 : GoodIn wsJ0_charAt_5068e (va_wsS RJ0 498 yJ2_charAt_3b067 wsJ2_charAt_3b067) := goodIn_app (goodIn_of _ (by decide +kernel)) ggJ0_charAt_5068e_J2_charAt_3b067
set_option maxRecDepth 20000 in
theorem ggJ0_checkIndex_df160_J3_checkIndex_8e157 : GoodIn wsJ0_checkIndex_df160 wsJ3_checkIndex_8e157 := goodIn_r _ [5] (by decide +kernel) (by decide +kernel)
set_option maxRecDepth 20000 in
theorem gJ0_checkIndex_df160_J3_checkIndex_8e157 : GoodIn wsJ0_checkIndex_df160 (va_wsS RJ0 1059 yJ3_checkIndex_8e157 wsJ3_checkIndex_8e157) := goodIn_app (goodIn_of _ (by decide +kernel)) ggJ0_checkIndex_df160_J3_checkIndex_8e157
set_option maxRecDepth 20000 in
theorem ggJ1_charAt_3b067_J0_checkIndex_df160 : GoodIn wsJ1_charAt_3b067 wsJ0_checkIndex_df160 := goodIn_r _ [4, 5, 6, 7, 8, 9] (by decide +kernel) (by decide +kernel)
set_option maxRecDepth 20000 in
theorem gJ1_charAt_3b067_J0_checkIndex_df160 : GoodIn wsJ1_charAt_3b067 (va_wsS RJ1 9 yJ0_checkIndex_df160 wsJ0_checkIndex_df160) := goodIn_app (goodIn_of _ (by decide +kernel)) ggJ1_charAt_3b067_J0_checkIndex_df160
set_option maxRecDepth 20000 in
theorem ggJ2_getChar_3b067_J2_length_9d52b : GoodIn wsJ2_getChar_3b067 wsJ2_length_9d52b := goodIn_r _ [7] (by decide +kernel) (by decide +kernel)
set_option maxRecDepth 20000 in
theorem gJ2_getChar_3b067_J2_length_9d52b : GoodIn wsJ2_getChar_3b067 (va_wsS RJ2 48 yJ2_length_9d52b wsJ2_length_9d52b) := goodIn_app (goodIn_of _ (by decide +kernel)) ggJ2_getChar_3b067_J2_length_9d52b
set_option maxRecDepth 20000 in
theorem ggJ2_charAt_3b067_J2_checkIndex_2214a : GoodIn wsJ2_charAt_3b067 wsJ2_checkIndex_2214a := goodIn_r _ [4, 5, 6, 3, 7, 8, 9, 10, 11, 12, 13, 14, 15, 16] (by decide +kernel) (by decide +kernel)
set_option maxRecDepth 20000 in
theorem gJ2_charAt_3b067_J2_checkIndex_2214a : GoodIn wsJ2_charAt_3b067 (va_wsS RJ2 67 yJ2_checkIndex_2214a wsJ2_checkIndex_2214a) := goodIn_app (goodIn_of _ (by decide +kernel)) ggJ2_charAt_3b067_J2_checkIndex_2214a
set_option maxRecDepth 20000 in
theorem ggJ2_charAt_3b067_J2_getChar_3b067 : GoodIn wsJ2_charAt_3b067 wsJ2_getChar_3b067 := goodIn_r _ [19, 20, 21, 22, 5, 6, 3, 7] (by decide +kernel) (by decide +kernel)
set_option maxRecDepth 20000 in
theorem gJ2_charAt_3b067_J2_getChar_3b067 : GoodIn wsJ2_charAt_3b067 (va_wsS RJ2 71 yJ2_getChar_3b067 wsJ2_getChar_3b067) := goodIn_app (goodIn_of _ (by decide +kernel)) ggJ2_charAt_3b067_J2_getChar_3b067
set_option maxRecDepth 20000 in
theorem ggJ2_checkIndex_2214a_J2_length_9d52b : GoodIn wsJ2_checkIndex_2214a wsJ2_length_9d52b := goodIn_r _ [4] (by decide +kernel) (by decide +kernel)
set_option maxRecDepth 20000 in
theorem gJ2_checkIndex_2214a_J2_length_9d52b : GoodIn wsJ2_checkIndex_2214a (va_wsS RJ2 48 yJ2_length_9d52b wsJ2_length_9d52b) := goodIn_app (goodIn_of _ (by decide +kernel)) ggJ2_checkIndex_2214a_J2_length_9d52b
set_option maxRecDepth 20000 in
theorem ggJ2_checkIndex_2214a_J0_checkIndex_df160 : GoodIn wsJ2_checkIndex_2214a wsJ0_checkIndex_df160 := goodIn_r _ [8, 9, 10, 11, 12, 13] (by decide +kernel) (by decide +kernel)
set_option maxRecDepth 20000 in
theorem gJ2_checkIndex_2214a_J0_checkIndex_df160 : GoodIn wsJ2_checkIndex_2214a (va_wsS RJ2 414 yJ0_checkIndex_df160 wsJ0_checkIndex_df160) := goodIn_app (goodIn_of _ (by decide +kernel)) ggJ2_checkIndex_2214a_J0_checkIndex_df160
set_option maxRecDepth 20000 in
theorem ggL_law_X5_init : GoodIn wsL_law wsX5_init := goodIn_r _ [8, 9, 10, 11, 12, 13, 14, 15, 16, 17, 18, 19, 20, 21, 22, 23, 24, 25, 26, 27, 28, 29, 30, 31, 32, 33, 34, 35, 36, 37, 38, 39, 40, 41, 42, 43, 44, 45, 46, 47, 48, 49, 50, 51, 52, 53, 54, 55, 56, 57, 58, 59, 60, 61, 62, 63, 64, 65, 66, 67, 68, 69, 70, 71, 72, 73, 74, 75, 76, 77, 78, 79, 80, 81, 82, 83, 84, 85, 86, 87, 88, 89, 90, 91, 92, 93, 94, 95, 96, 97, 98, 99, 100, 101, 102, 103, 104, 105, 106, 107, 108, 109, 110, 111, 112, 113, 114, 115, 116, 117, 118, 119, 120, 121, 122, 123, 124, 125, 126, 127, 128, 129, 130, 131, 132, 133, 134, 135, 136, 137, 138, 139, 140, 141, 142, 143, 144, 145, 146, 147, 148, 149, 150, 151, 152, 153, 154, 155, 156, 157, 158, 159, 160, 161, 162, 163, 164, 165, 166, 167, 168, 169, 170, 171, 172, 173, 2, 174, 175, 176, 177, 178, 179, 180, 181, 182, 183, 184, 786, 787, 788, 754, 755, 756, 757, 758, 759, 760, 761, 762, 789, 790, 791, 792, 793, 794, 795, 796, 797, 798, 799, 800, 801, 802, 803, 804, 805, 806, 807, 808, 809, 810, 811, 812, 813, 814, 815, 816, 817, 818, 819, 820, 821, 822] (by decide +kernel) (by decide +kernel)
set_option maxRecDepth 20000 in
theorem gL_law_X5_init : GoodIn wsL_law (wsX5_init) := ggL_law_X5_init
set_option maxRecDepth 20000 in
theorem ggL_law_X6_init : GoodIn wsL_law wsX6_init := goodIn_r _ [187, 188, 10, 11, 36, 189, 190, 191, 192, 193, 194, 195, 196, 197, 198, 199, 200, 201, 202, 203, 204, 5, 205, 206, 207, 208, 209, 210, 211, 212, 213, 214, 215, 216, 217, 218, 219, 220, 221, 222, 223, 763, 764, 765, 766, 767, 768, 769, 770, 771, 772, 773, 774, 775, 776, 777, 778, 779, 780, 781, 782, 783, 784, 785] (by decide +kernel) (by decide +kernel)
set_option maxRecDepth 20000 in
theorem gL_law_X6_init : GoodIn wsL_law (wsX6_init) := ggL_law_X6_init
set_option maxRecDepth 20000 in
theorem ggL_law_X5_write : GoodIn wsL_law wsX5_write := goodIn_r _ [227, 15, 138, 14, 139, 140, 39, 37, 754, 755, 756, 757, 758, 759, 760, 761, 762, 786, 787, 788] (by decide +kernel) (by decide +kernel)
set_option maxRecDepth 20000 in
theorem gL_law_X5_write : GoodIn wsL_law (wsV RL 13 RX5 yX5_write wsX5_write) := goodIn_app (goodIn_of _ (by decide +kernel)) ggL_law_X5_write
set_option maxRecDepth 20000 in
theorem ggL_law_X6_write : GoodIn wsL_law wsX6_write := goodIn_r _ [231, 232, 189, 763, 764, 765, 766, 767, 768, 769, 770, 771, 772, 773, 774, 775, 776, 777, 778, 779, 780, 781, 782, 783, 784, 785] (by decide +kernel) (by decide +kernel)
set_option maxRecDepth 20000 in
theorem gL_law_X6_write : GoodIn wsL_law (wsV RL 17 RX6 yX6_write wsX6_write) := goodIn_app (goodIn_of _ (by decide +kernel)) ggL_law_X6_write
set_option maxRecDepth 20000 in
theorem ggL_law_X5_wipe : GoodIn wsL_law wsX5_wipe := goodIn_r _ [236, 15, 182, 14, 183, 184, 39, 754, 755, 756, 757, 758, 759, 760, 761, 762, 786, 787, 788] (by decide +kernel) (by decide +kernel)
set_option maxRecDepth 20000 in
theorem gL_law_X5_wipe : GoodIn wsL_law (wsV RL 18 RX5 yX5_wipe wsX5_wipe) := goodIn_app (goodIn_of _ (by decide +kernel)) ggL_law_X5_wipe
set_option maxRecDepth 20000 in
theorem ggL_law_X6_wipe : GoodIn wsL_law wsX6_wipe := goodIn_r _ [240, 232, 763, 764, 765, 766, 767, 768, 769, 770, 771, 772, 773, 774, 775, 776, 777, 778, 779, 780, 781, 782, 783, 784, 785] (by decide +kernel) (by decide +kernel)
set_option maxRecDepth 20000 in
theorem gL_law_X6_wipe : GoodIn wsL_law (wsV RL 22 RX6 yX6_wipe wsX6_wipe) := goodIn_app (goodIn_of _ (by decide +kernel)) ggL_law_X6_wipe
set_option maxRecDepth 20000 in
theorem ggL_law_X5_fault : GoodIn wsL_law wsX5_fault := goodIn_r _ [244, 15, 20, 141, 14, 142, 143, 39, 37, 144, 18, 145, 146, 43, 47, 49, 52, 147, 148, 149, 150, 151, 152, 153, 154, 38, 155, 156, 157, 158, 159, 160, 161, 44, 45, 46, 162, 163, 164, 48, 165, 166, 167, 50, 51, 168, 169, 170, 754, 755, 756, 757, 758, 759, 760, 761, 762, 786, 787, 788, 789, 790, 791, 792, 793, 794, 795, 796, 797, 798] (by decide +kernel) (by decide +kernel)
set_option maxRecDepth 20000 in
theorem gL_law_X5_fault : GoodIn wsL_law (wsV RL 23 RX5 yX5_fault wsX5_fault) := goodIn_app (goodIn_of _ (by decide +kernel)) ggL_law_X5_fault
set_option maxRecDepth 20000 in
theorem ggL_law_X6_fault : GoodIn wsL_law wsX6_fault := goodIn_r _ [248, 249, 250, 251, 5, 252, 232, 189, 253, 202, 203, 204, 205, 206, 201, 207, 200, 254, 255, 256, 257, 258, 259, 260, 261, 262, 263, 264, 265, 266, 267, 268, 269, 270, 271, 272, 273, 274, 275, 276, 277, 208, 209, 210, 211, 197, 278, 279, 280, 281, 198, 282, 283, 284, 285, 199, 212, 213, 214, 215, 286, 287, 288, 289, 290, 291, 292, 293, 294, 295, 763, 764, 765, 766, 767, 768, 769, 770, 771, 772, 773, 774, 775, 776, 777, 778, 779, 780, 781, 782, 783, 784, 785] (by decide +kernel) (by decide +kernel)
set_option maxRecDepth 20000 in
theorem gL_law_X6_fault : GoodIn wsL_law (wsV RL 26 RX6 yX6_fault wsX6_fault) := goodIn_app (goodIn_of _ (by decide +kernel)) ggL_law_X6_fault
set_option maxRecDepth 20000 in
theorem ggL_law_X5_lay : GoodIn wsL_law wsX5_lay := goodIn_r _ [299, 15, 20, 19, 141, 14, 142, 143, 39, 37, 144, 18, 145, 146, 43, 47, 49, 52, 147, 148, 149, 150, 151, 152, 153, 154, 38, 155, 156, 157, 158, 159, 160, 161, 44, 45, 46, 162, 163, 164, 48, 165, 166, 167, 50, 51, 168, 169, 170, 300, 301, 302, 303, 304, 305, 306, 171, 172, 173, 2, 174, 27, 24, 175, 26, 176, 177, 56, 178, 57, 58, 59, 60, 61, 62, 63, 64, 68, 179, 67, 180, 181, 72, 73, 74, 754, 755, 756, 757, 758, 759, 760, 761, 762, 789, 790, 791, 792, 793, 794, 795, 796, 797, 798, 786, 787, 788, 799, 800, 801, 802, 803, 804, 805, 806, 807, 808, 818, 819, 820, 821, 822] (by decide +kernel) (by decide +kernel)
set_option maxRecDepth 20000 in
theorem gL_law_X5_lay : GoodIn wsL_law (wsV RL 27 RX5 yX5_lay wsX5_lay) := goodIn_app (goodIn_of _ (by decide +kernel)) ggL_law_X5_lay
set_option maxRecDepth 20000 in
theorem ggL_law_X6_lay : GoodIn wsL_law wsX6_lay := goodIn_r _ [310, 206, 207, 220, 249, 250, 251, 5, 252, 232, 189, 253, 202, 203, 204, 205, 201, 200, 254, 255, 256, 257, 258, 259, 260, 261, 262, 263, 264, 265, 266, 267, 268, 269, 270, 271, 272, 273, 274, 275, 276, 277, 208, 209, 210, 211, 197, 278, 279, 280, 281, 198, 282, 283, 284, 285, 199, 212, 213, 214, 215, 286, 287, 288, 289, 290, 291, 292, 293, 294, 295, 311, 312, 313, 314, 216, 217, 218, 219, 221, 222, 194, 190, 191, 192, 193, 223, 763, 764, 765, 766, 767, 768, 769, 770, 771, 772, 773, 774, 775, 776, 777, 778, 779, 780, 781, 782, 783, 784, 785] (by decide +kernel) (by decide +kernel)
set_option maxRecDepth 20000 in
theorem gL_law_X6_lay : GoodIn wsL_law (wsV RL 30 RX6 yX6_lay wsX6_lay) := goodIn_app (goodIn_of _ (by decide +kernel)) ggL_law_X6_lay
set_option maxRecDepth 20000 in
theorem ggL_law_X5_mould : GoodIn wsL_law wsX5_mould := goodIn_r _ [318, 319, 320, 2, 321, 322, 323, 324, 325, 27, 326, 327, 328, 329, 23, 22, 24, 330, 331, 332, 333, 334, 26, 335, 336, 56, 178, 148, 149, 150, 57, 58, 59, 60, 61, 62, 63, 64, 68, 337, 67, 338, 339, 72, 73, 74, 75, 340, 76, 341, 342, 343, 344, 754, 755, 756, 757, 758, 759, 760, 761, 762, 799, 800, 801, 802, 803, 804, 805, 806, 807, 808, 818, 819, 820, 821, 822] (by decide +kernel) (by decide +kernel)
set_option maxRecDepth 20000 in
theorem gL_law_X5_mould : GoodIn wsL_law (wsV RL 31 RX5 yX5_mould wsX5_mould) := goodIn_app (goodIn_of _ (by decide +kernel)) ggL_law_X5_mould
set_option maxRecDepth 20000 in
theorem ggL_law_X6_mould : GoodIn wsL_law wsX6_mould := goodIn_r _ [348, 194, 271, 272, 5, 273, 349, 350, 351, 352, 223, 195, 763, 764, 765, 766, 767, 768, 769, 770, 771, 772, 773, 774, 775, 776, 777, 778, 779, 780, 781, 782, 783, 784, 785] (by decide +kernel) (by decide +kernel)
set_option maxRecDepth 20000 in
theorem gL_law_X6_mould : GoodIn wsL_law (wsV RL 34 RX6 yX6_mould wsX6_mould) := goodIn_app (goodIn_of _ (by decide +kernel)) ggL_law_X6_mould
set_option maxRecDepth 20000 in
theorem ggL_law_X5_core : GoodIn wsL_law wsX5_core := goodIn_r _ [356, 27, 357, 358, 359, 2, 360, 19, 319, 320, 321, 361, 362, 363, 364, 365, 26, 366, 367, 60, 368, 369, 370, 371, 372, 373, 374, 375, 326, 327, 328, 329, 23, 22, 24, 330, 331, 332, 333, 334, 335, 336, 56, 178, 148, 149, 150, 57, 58, 59, 61, 62, 63, 64, 68, 337, 67, 338, 339, 72, 73, 74, 75, 340, 76, 376, 377, 378, 379, 380, 381, 382, 754, 755, 756, 757, 758, 759, 760, 761, 762, 799, 800, 801, 802, 803, 804, 805, 806, 807, 808, 789, 790, 791, 792, 793, 794, 795, 796, 797, 798, 818, 819, 820, 821, 822] (by decide +kernel) (by decide +kernel)
set_option maxRecDepth 20000 in
theorem gL_law_X5_core : GoodIn wsL_law (wsV RL 35 RX5 yX5_core wsX5_core) := goodIn_app (goodIn_of _ (by decide +kernel)) ggL_law_X5_core
set_option maxRecDepth 20000 in
theorem ggL_law_X6_core : GoodIn wsL_law wsX6_core := goodIn_r _ [386, 194, 387, 388, 389, 5, 390, 221, 271, 272, 273, 391, 392, 393, 394, 192, 349, 350, 351, 352, 223, 195, 395, 396, 397, 763, 764, 765, 766, 767, 768, 769, 770, 771, 772, 773, 774, 775, 776, 777, 778, 779, 780, 781, 782, 783, 784, 785] (by decide +kernel) (by decide +kernel)
set_option maxRecDepth 20000 in
theorem gL_law_X6_core : GoodIn wsL_law (wsV RL 39 RX6 yX6_core wsX6_core) := goodIn_app (goodIn_of _ (by decide +kernel)) ggL_law_X6_core
set_option maxRecDepth 20000 in
theorem ggL_law_X5_against : GoodIn wsL_law wsX5_against := goodIn_r _ [401, 357, 358, 359, 2, 360, 19, 319, 320, 321, 361, 362, 363, 364, 27, 365, 26, 366, 367, 60, 368, 369, 370, 371, 372, 373, 374, 375, 754, 755, 756, 757, 758, 759, 760, 761, 762, 789, 790, 791, 792, 793, 794, 795, 796, 797, 798, 799, 800, 801, 802, 803, 804, 805, 806, 807, 808] (by decide +kernel) (by decide +kernel)
set_option maxRecDepth 20000 in
theorem gL_law_X5_against : GoodIn wsL_law (wsV RL 40 RX5 yX5_against wsX5_against) := goodIn_app (goodIn_of _ (by decide +kernel)) ggL_law_X5_against
set_option maxRecDepth 20000 in
theorem ggL_law_X6_against : GoodIn wsL_law wsX6_against := goodIn_r _ [405, 387, 388, 389, 5, 390, 221, 271, 272, 273, 391, 392, 393, 394, 194, 192, 763, 764, 765, 766, 767, 768, 769, 770, 771, 772, 773, 774, 775, 776, 777, 778, 779, 780, 781, 782, 783, 784, 785] (by decide +kernel) (by decide +kernel)
set_option maxRecDepth 20000 in
theorem gL_law_X6_against : GoodIn wsL_law (wsV RL 43 RX6 yX6_against wsX6_against) := goodIn_app (goodIn_of _ (by decide +kernel)) ggL_law_X6_against
set_option maxRecDepth 20000 in
theorem ggL_law_X5_drag : GoodIn wsL_law wsX5_drag := goodIn_r _ [409, 27, 410, 411, 412, 2, 413, 19, 326, 327, 328, 329, 23, 22, 24, 330, 331, 332, 333, 334, 26, 335, 336, 56, 178, 148, 149, 150, 57, 58, 59, 60, 61, 62, 63, 64, 68, 337, 67, 338, 339, 72, 73, 74, 75, 340, 76, 754, 755, 756, 757, 758, 759, 760, 761, 762, 799, 800, 801, 802, 803, 804, 805, 806, 807, 808, 789, 790, 791, 792, 793, 794, 795, 796, 797, 798, 818, 819, 820, 821, 822] (by decide +kernel) (by decide +kernel)
set_option maxRecDepth 20000 in
theorem gL_law_X5_drag : GoodIn wsL_law (wsV RL 44 RX5 yX5_drag wsX5_drag) := goodIn_app (goodIn_of _ (by decide +kernel)) ggL_law_X5_drag
set_option maxRecDepth 20000 in
theorem ggL_law_X6_drag : GoodIn wsL_law wsX6_drag := goodIn_r _ [417, 418, 419, 420, 5, 421, 220, 271, 272, 273, 422, 423, 424, 425, 194, 349, 350, 351, 352, 223, 195, 763, 764, 765, 766, 767, 768, 769, 770, 771, 772, 773, 774, 775, 776, 777, 778, 779, 780, 781, 782, 783, 784, 785] (by decide +kernel) (by decide +kernel)
set_option maxRecDepth 20000 in
theorem gL_law_X6_drag : GoodIn wsL_law (wsV RL 47 RX6 yX6_drag wsX6_drag) := goodIn_app (goodIn_of _ (by decide +kernel)) ggL_law_X6_drag
set_option maxRecDepth 20000 in
theorem ggL_law_X5_speed : GoodIn wsL_law wsX5_speed := goodIn_r _ [429, 19, 27, 326, 327, 328, 2, 329, 23, 22, 24, 330, 331, 332, 333, 334, 26, 335, 336, 56, 178, 148, 149, 150, 57, 58, 59, 60, 61, 62, 63, 64, 68, 337, 67, 338, 339, 72, 73, 74, 75, 340, 76, 754, 755, 756, 757, 758, 759, 760, 761, 762, 789, 790, 791, 792, 793, 794, 795, 796, 797, 798, 799, 800, 801, 802, 803, 804, 805, 806, 807, 808, 818, 819, 820, 821, 822] (by decide +kernel) (by decide +kernel)
set_option maxRecDepth 20000 in
theorem gL_law_X5_speed : GoodIn wsL_law (wsV RL 48 RX5 yX5_speed wsX5_speed) := goodIn_app (goodIn_of _ (by decide +kernel)) ggL_law_X5_speed
set_option maxRecDepth 20000 in
theorem ggL_law_X6_speed : GoodIn wsL_law wsX6_speed := goodIn_r _ [433, 222, 271, 272, 5, 273, 422, 423, 424, 425, 194, 349, 350, 351, 352, 223, 195, 763, 764, 765, 766, 767, 768, 769, 770, 771, 772, 773, 774, 775, 776, 777, 778, 779, 780, 781, 782, 783, 784, 785] (by decide +kernel) (by decide +kernel)
set_option maxRecDepth 20000 in
theorem gL_law_X6_speed : GoodIn wsL_law (wsV RL 51 RX6 yX6_speed wsX6_speed) := goodIn_app (goodIn_of _ (by decide +kernel)) ggL_law_X6_speed
set_option maxRecDepth 20000 in
theorem ggL_law_X5_tell : GoodIn wsL_law wsX5_tell := goodIn_r _ [437, 438, 439, 27, 326, 327, 328, 2, 329, 23, 22, 24, 330, 331, 332, 333, 334, 26, 335, 336, 56, 178, 148, 149, 150, 57, 58, 59, 60, 61, 62, 63, 64, 68, 337, 67, 338, 339, 72, 73, 74, 75, 340, 76, 754, 755, 756, 757, 758, 759, 760, 761, 762, 799, 800, 801, 802, 803, 804, 805, 806, 807, 808, 818, 819, 820, 821, 822] (by decide +kernel) (by decide +kernel)
set_option maxRecDepth 20000 in
theorem gL_law_X5_tell : GoodIn wsL_law (wsV RL 52 RX5 yX5_tell wsX5_tell) := goodIn_app (goodIn_of _ (by decide +kernel)) ggL_law_X5_tell
set_option maxRecDepth 20000 in
theorem ggL_law_X6_tell : GoodIn wsL_law wsX6_tell := goodIn_r _ [443, 271, 272, 5, 273, 290, 291, 292, 293, 294, 295, 422, 423, 424, 425, 194, 349, 350, 351, 352, 223, 195, 763, 764, 765, 766, 767, 768, 769, 770, 771, 772, 773, 774, 775, 776, 777, 778, 779, 780, 781, 782, 783, 784, 785] (by decide +kernel) (by decide +kernel)
set_option maxRecDepth 20000 in
theorem gL_law_X6_tell : GoodIn wsL_law (wsV RL 55 RX6 yX6_tell wsX6_tell) := goodIn_app (goodIn_of _ (by decide +kernel)) ggL_law_X6_tell
set_option maxRecDepth 20000 in
theorem ggL_law_X5_shoot : GoodIn wsL_law wsX5_shoot := goodIn_r _ [447, 27, 29, 19, 448, 449, 450, 2, 451, 376, 377, 378, 379, 380, 381, 382, 326, 327, 328, 329, 23, 22, 24, 330, 331, 332, 333, 334, 26, 335, 336, 56, 178, 148, 149, 150, 57, 58, 59, 60, 61, 62, 63, 64, 68, 337, 67, 338, 339, 72, 73, 74, 75, 340, 76, 452, 31, 453, 454, 87, 455, 456, 457, 458, 80, 81, 82, 83, 84, 86, 88, 459, 460, 461, 462, 463, 464, 465, 466, 85, 467, 468, 469, 470, 471, 472, 473, 474, 475, 476, 477, 478, 479, 480, 481, 482, 483, 484, 485, 486, 487, 488, 489, 490, 491, 492, 493, 494, 495, 496, 497, 754, 755, 756, 757, 758, 759, 760, 761, 762, 799, 800, 801, 802, 803, 804, 805, 806, 807, 808, 789, 790, 791, 792, 793, 794, 795, 796, 797, 798, 818, 819, 820, 821, 822, 809, 810, 811, 812, 813, 814, 815, 816, 817] (by decide +kernel) (by decide +kernel)
set_option maxRecDepth 20000 in
theorem gL_law_X5_shoot : GoodIn wsL_law (wsV RL 56 RX5 yX5_shoot wsX5_shoot) := goodIn_app (goodIn_of _ (by decide +kernel)) ggL_law_X5_shoot
set_option maxRecDepth 20000 in
theorem ggL_law_X6_shoot : GoodIn wsL_law wsX6_shoot := goodIn_r _ [501, 194, 196, 502, 503, 504, 5, 505, 221, 349, 350, 351, 352, 223, 195, 506, 507, 508, 509, 510, 220, 511, 512, 513, 514, 190, 515, 516, 517, 518, 222, 193, 519, 520, 521, 522, 523, 524, 525, 526, 527, 528, 529, 530, 531, 532, 533, 534, 191, 763, 764, 765, 766, 767, 768, 769, 770, 771, 772, 773, 774, 775, 776, 777, 778, 779, 780, 781, 782, 783, 784, 785] (by decide +kernel) (by decide +kernel)
set_option maxRecDepth 20000 in
theorem gL_law_X6_shoot : GoodIn wsL_law (wsV RL 59 RX6 yX6_shoot wsX6_shoot) := goodIn_app (goodIn_of _ (by decide +kernel)) ggL_law_X6_shoot
set_option maxRecDepth 20000 in
theorem ggL_law_X5_waitCool : GoodIn wsL_law wsX5_waitCool := goodIn_r _ [538, 27, 326, 327, 328, 2, 329, 23, 22, 24, 330, 331, 332, 333, 334, 26, 335, 336, 56, 178, 148, 149, 150, 57, 58, 59, 60, 61, 62, 63, 64, 68, 337, 67, 338, 339, 72, 73, 74, 75, 340, 76, 539, 540, 541, 542, 543, 544, 545, 546, 29, 547, 548, 549, 550, 754, 755, 756, 757, 758, 759, 760, 761, 762, 799, 800, 801, 802, 803, 804, 805, 806, 807, 808, 809, 810, 811, 812, 813, 814, 815, 816, 817, 818, 819, 820, 821, 822] (by decide +kernel) (by decide +kernel)
set_option maxRecDepth 20000 in
theorem gL_law_X5_waitCool : GoodIn wsL_law (wsV RL 60 RX5 yX5_waitCool wsX5_waitCool) := goodIn_app (goodIn_of _ (by decide +kernel)) ggL_law_X5_waitCool
set_option maxRecDepth 20000 in
theorem ggL_law_X6_waitCool : GoodIn wsL_law wsX6_waitCool := goodIn_r _ [554, 194, 349, 350, 351, 5, 352, 223, 195, 763, 764, 765, 766, 767, 768, 769, 770, 771, 772, 773, 774, 775, 776, 777, 778, 779, 780, 781, 782, 783, 784, 785] (by decide +kernel) (by decide +kernel)
set_option maxRecDepth 20000 in
theorem gL_law_X6_waitCool : GoodIn wsL_law (wsV RL 63 RX6 yX6_waitCool wsX6_waitCool) := goodIn_app (goodIn_of _ (by decide +kernel)) ggL_law_X6_waitCool
set_option maxRecDepth 20000 in
theorem ggL_law_X5_undo : GoodIn wsL_law wsX5_undo := goodIn_r _ [558, 24, 23, 22, 27, 754, 755, 756, 757, 758, 759, 760, 761, 762] (by decide +kernel) (by decide +kernel)
set_option maxRecDepth 20000 in
theorem gL_law_X5_undo : GoodIn wsL_law (wsV RL 64 RX5 yX5_undo wsX5_undo) := goodIn_app (goodIn_of _ (by decide +kernel)) ggL_law_X5_undo
set_option maxRecDepth 20000 in
theorem ggL_law_X6_undo : GoodIn wsL_law wsX6_undo := goodIn_r _ [562, 223, 194, 195, 763, 764, 765, 766, 767, 768, 769, 770, 771, 772, 773, 774, 775, 776, 777, 778, 779, 780, 781, 782, 783, 784, 785] (by decide +kernel) (by decide +kernel)
set_option maxRecDepth 20000 in
theorem gL_law_X6_undo : GoodIn wsL_law (wsV RL 67 RX6 yX6_undo wsX6_undo) := goodIn_app (goodIn_of _ (by decide +kernel)) ggL_law_X6_undo
set_option maxRecDepth 20000 in
theorem ggL_law_X5_teach : GoodIn wsL_law wsX5_teach := goodIn_r _ [566, 19, 27, 567, 568, 569, 2, 570, 539, 540, 541, 542, 330, 331, 332, 333, 543, 544, 545, 546, 29, 547, 548, 549, 550, 571, 31, 572, 573, 80, 326, 327, 328, 329, 23, 22, 24, 334, 26, 335, 336, 56, 178, 148, 149, 150, 57, 58, 59, 60, 61, 62, 63, 64, 68, 337, 67, 338, 339, 72, 73, 74, 75, 340, 76, 574, 575, 576, 577, 578, 465, 466, 754, 755, 756, 757, 758, 759, 760, 761, 762, 799, 800, 801, 802, 803, 804, 805, 806, 807, 808, 818, 819, 820, 821, 822, 789, 790, 791, 792, 793, 794, 795, 796, 797, 798, 809, 810, 811, 812, 813, 814, 815, 816, 817] (by decide +kernel) (by decide +kernel)
set_option maxRecDepth 20000 in
theorem gL_law_X5_teach : GoodIn wsL_law (wsV RL 68 RX5 yX5_teach wsX5_teach) := goodIn_app (goodIn_of _ (by decide +kernel)) ggL_law_X5_teach
set_option maxRecDepth 20000 in
theorem ggL_law_X6_teach : GoodIn wsL_law wsX6_teach := goodIn_r _ [582, 194, 583, 584, 585, 5, 586, 271, 272, 273, 587, 588, 589, 590, 220, 591, 592, 593, 594, 190, 349, 350, 351, 352, 223, 195, 763, 764, 765, 766, 767, 768, 769, 770, 771, 772, 773, 774, 775, 776, 777, 778, 779, 780, 781, 782, 783, 784, 785] (by decide +kernel) (by decide +kernel)
set_option maxRecDepth 20000 in
theorem gL_law_X6_teach : GoodIn wsL_law (wsV RL 71 RX6 yX6_teach wsX6_teach) := goodIn_app (goodIn_of _ (by decide +kernel)) ggL_law_X6_teach
set_option maxRecDepth 20000 in
theorem ggL_law_X5_forget : GoodIn wsL_law wsX5_forget := goodIn_r _ [598, 27, 326, 327, 328, 2, 329, 23, 22, 24, 330, 331, 332, 333, 334, 26, 335, 336, 56, 178, 148, 149, 150, 57, 58, 59, 60, 61, 62, 63, 64, 68, 337, 67, 338, 339, 72, 73, 74, 75, 340, 76, 179, 180, 181, 754, 755, 756, 757, 758, 759, 760, 761, 762, 799, 800, 801, 802, 803, 804, 805, 806, 807, 808, 818, 819, 820, 821, 822] (by decide +kernel) (by decide +kernel)
set_option maxRecDepth 20000 in
theorem gL_law_X5_forget : GoodIn wsL_law (wsV RL 72 RX5 yX5_forget wsX5_forget) := goodIn_app (goodIn_of _ (by decide +kernel)) ggL_law_X5_forget
set_option maxRecDepth 20000 in
theorem ggL_law_X6_forget : GoodIn wsL_law wsX6_forget := goodIn_r _ [602, 194, 349, 350, 351, 5, 352, 223, 195, 763, 764, 765, 766, 767, 768, 769, 770, 771, 772, 773, 774, 775, 776, 777, 778, 779, 780, 781, 782, 783, 784, 785] (by decide +kernel) (by decide +kernel)
set_option maxRecDepth 20000 in
theorem gL_law_X6_forget : GoodIn wsL_law (wsV RL 75 RX6 yX6_forget wsX6_forget) := goodIn_app (goodIn_of _ (by decide +kernel)) ggL_law_X6_forget
set_option maxRecDepth 20000 in
theorem ggL_law_X5_wide : GoodIn wsL_law wsX5_wide := goodIn_r _ [606, 27, 326, 327, 328, 2, 329, 23, 22, 24, 330, 331, 332, 333, 334, 26, 335, 336, 56, 178, 148, 149, 150, 57, 58, 59, 60, 61, 62, 63, 64, 68, 337, 67, 338, 339, 72, 73, 74, 75, 340, 76, 754, 755, 756, 757, 758, 759, 760, 761, 762, 799, 800, 801, 802, 803, 804, 805, 806, 807, 808, 818, 819, 820, 821, 822] (by decide +kernel) (by decide +kernel)
set_option maxRecDepth 20000 in
theorem gL_law_X5_wide : GoodIn wsL_law (wsV RL 76 RX5 yX5_wide wsX5_wide) := goodIn_app (goodIn_of _ (by decide +kernel)) ggL_law_X5_wide
set_option maxRecDepth 20000 in
theorem ggL_law_X6_wide : GoodIn wsL_law wsX6_wide := goodIn_r _ [610, 271, 272, 5, 273, 422, 423, 424, 425, 194, 349, 350, 351, 352, 223, 195, 763, 764, 765, 766, 767, 768, 769, 770, 771, 772, 773, 774, 775, 776, 777, 778, 779, 780, 781, 782, 783, 784, 785] (by decide +kernel) (by decide +kernel)
set_option maxRecDepth 20000 in
theorem gL_law_X6_wide : GoodIn wsL_law (wsV RL 79 RX6 yX6_wide wsX6_wide) := goodIn_app (goodIn_of _ (by decide +kernel)) ggL_law_X6_wide
set_option maxRecDepth 20000 in
theorem ggL_law_X5_band : GoodIn wsL_law wsX5_band := goodIn_r _ [614, 27, 615, 616, 2, 617, 319, 320, 321, 754, 755, 756, 757, 758, 759, 760, 761, 762, 799, 800, 801, 802, 803, 804, 805, 806, 807, 808, 818, 819, 820, 821, 822] (by decide +kernel) (by decide +kernel)
set_option maxRecDepth 20000 in
theorem gL_law_X5_band : GoodIn wsL_law (wsV RL 80 RX5 yX5_band wsX5_band) := goodIn_app (goodIn_of _ (by decide +kernel)) ggL_law_X5_band
set_option maxRecDepth 20000 in
theorem ggL_law_X6_band : GoodIn wsL_law wsX6_band := goodIn_r _ [621, 194, 271, 272, 5, 273, 763, 764, 765, 766, 767, 768, 769, 770, 771, 772, 773, 774, 775, 776, 777, 778, 779, 780, 781, 782, 783, 784, 785] (by decide +kernel) (by decide +kernel)
set_option maxRecDepth 20000 in
theorem gL_law_X6_band : GoodIn wsL_law (wsV RL 83 RX6 yX6_band wsX6_band) := goodIn_app (goodIn_of _ (by decide +kernel)) ggL_law_X6_band
set_option maxRecDepth 20000 in
theorem ggL_law_X5_shot : GoodIn wsL_law wsX5_shot := goodIn_r _ [625, 27, 567, 568, 569, 2, 570, 539, 540, 541, 542, 330, 331, 332, 333, 543, 544, 545, 546, 29, 547, 548, 549, 550, 626, 67, 627, 628, 75, 76, 629, 630, 631, 632, 19, 633, 31, 634, 635, 80, 636, 637, 638, 639, 640, 641, 72, 73, 74, 642, 643, 644, 645, 85, 86, 88, 84, 646, 647, 648, 649, 82, 463, 464, 465, 466, 650, 495, 496, 497, 87, 651, 652, 653, 654, 83, 754, 755, 756, 757, 758, 759, 760, 761, 762, 799, 800, 801, 802, 803, 804, 805, 806, 807, 808, 818, 819, 820, 821, 822, 809, 810, 811, 812, 813, 814, 815, 816, 817, 789, 790, 791, 792, 793, 794, 795, 796, 797, 798] (by decide +kernel) (by decide +kernel)
set_option maxRecDepth 20000 in
theorem gL_law_X5_shot : GoodIn wsL_law (wsV RL 84 RX5 yX5_shot wsX5_shot) := goodIn_app (goodIn_of _ (by decide +kernel)) ggL_law_X5_shot
set_option maxRecDepth 20000 in
theorem ggL_law_X6_shot : GoodIn wsL_law wsX6_shot := goodIn_r _ [658, 194, 583, 584, 585, 5, 586, 271, 272, 273, 659, 660, 661, 662, 663, 664, 665, 220, 666, 667, 668, 669, 190, 591, 592, 593, 594, 670, 671, 672, 673, 763, 764, 765, 766, 767, 768, 769, 770, 771, 772, 773, 774, 775, 776, 777, 778, 779, 780, 781, 782, 783, 784, 785] (by decide +kernel) (by decide +kernel)
set_option maxRecDepth 20000 in
theorem gL_law_X6_shot : GoodIn wsL_law (wsV RL 87 RX6 yX6_shot wsX6_shot) := goodIn_app (goodIn_of _ (by decide +kernel)) ggL_law_X6_shot
set_option maxRecDepth 20000 in
theorem ggL_law_X5_curve : GoodIn wsL_law wsX5_curve := goodIn_r _ [677, 567, 568, 569, 2, 570, 539, 540, 541, 542, 27, 330, 331, 332, 333, 615, 616, 617, 543, 544, 545, 546, 29, 547, 548, 549, 550, 809, 810, 811, 812, 813, 814, 815, 816, 817, 754, 755, 756, 757, 758, 759, 760, 761, 762, 799, 800, 801, 802, 803, 804, 805, 806, 807, 808] (by decide +kernel) (by decide +kernel)
set_option maxRecDepth 20000 in
theorem gL_law_X5_curve : GoodIn wsL_law (wsV RL 88 RX5 yX5_curve wsX5_curve) := goodIn_app (goodIn_of _ (by decide +kernel)) ggL_law_X5_curve
set_option maxRecDepth 20000 in
theorem ggL_law_X6_curve : GoodIn wsL_law wsX6_curve := goodIn_r _ [681, 194, 583, 584, 585, 5, 586, 271, 272, 273, 763, 764, 765, 766, 767, 768, 769, 770, 771, 772, 773, 774, 775, 776, 777, 778, 779, 780, 781, 782, 783, 784, 785] (by decide +kernel) (by decide +kernel)
set_option maxRecDepth 20000 in
theorem gL_law_X6_curve : GoodIn wsL_law (wsV RL 91 RX6 yX6_curve wsX6_curve) := goodIn_app (goodIn_of _ (by decide +kernel)) ggL_law_X6_curve
set_option maxRecDepth 20000 in
theorem ggL_law_X5_cavity : GoodIn wsL_law wsX5_cavity := goodIn_r _ [685, 19, 27, 410, 411, 412, 2, 413, 754, 755, 756, 757, 758, 759, 760, 761, 762, 789, 790, 791, 792, 793, 794, 795, 796, 797, 798, 799, 800, 801, 802, 803, 804, 805, 806, 807, 808] (by decide +kernel) (by decide +kernel)
set_option maxRecDepth 20000 in
theorem gL_law_X5_cavity : GoodIn wsL_law (wsV RL 92 RX5 yX5_cavity wsX5_cavity) := goodIn_app (goodIn_of _ (by decide +kernel)) ggL_law_X5_cavity
set_option maxRecDepth 20000 in
theorem ggL_law_X6_cavity : GoodIn wsL_law wsX6_cavity := goodIn_r _ [689, 190, 194, 191, 418, 419, 420, 5, 421, 220, 271, 272, 273, 763, 764, 765, 766, 767, 768, 769, 770, 771, 772, 773, 774, 775, 776, 777, 778, 779, 780, 781, 782, 783, 784, 785] (by decide +kernel) (by decide +kernel)
set_option maxRecDepth 20000 in
theorem gL_law_X6_cavity : GoodIn wsL_law (wsV RL 95 RX6 yX6_cavity wsX6_cavity) := goodIn_app (goodIn_of _ (by decide +kernel)) ggL_law_X6_cavity
set_option maxRecDepth 20000 in
theorem ggL_law_X5_filled : GoodIn wsL_law wsX5_filled := goodIn_r _ [693, 19, 694, 465, 332, 466, 567, 568, 569, 2, 570, 539, 540, 541, 542, 27, 330, 331, 333, 410, 411, 412, 413, 543, 544, 545, 546, 29, 547, 548, 549, 550, 809, 810, 811, 812, 813, 814, 815, 816, 817, 754, 755, 756, 757, 758, 759, 760, 761, 762, 789, 790, 791, 792, 793, 794, 795, 796, 797, 798, 799, 800, 801, 802, 803, 804, 805, 806, 807, 808] (by decide +kernel) (by decide +kernel)
set_option maxRecDepth 20000 in
theorem gL_law_X5_filled : GoodIn wsL_law (wsV RL 96 RX5 yX5_filled wsX5_filled) := goodIn_app (goodIn_of _ (by decide +kernel)) ggL_law_X5_filled
set_option maxRecDepth 20000 in
theorem ggL_law_X6_filled : GoodIn wsL_law wsX6_filled := goodIn_r _ [698, 194, 583, 584, 585, 5, 586, 271, 272, 273, 418, 419, 420, 421, 220, 591, 592, 593, 594, 190, 666, 667, 668, 669, 763, 764, 765, 766, 767, 768, 769, 770, 771, 772, 773, 774, 775, 776, 777, 778, 779, 780, 781, 782, 783, 784, 785] (by decide +kernel) (by decide +kernel)
set_option maxRecDepth 20000 in
theorem gL_law_X6_filled : GoodIn wsL_law (wsV RL 100 RX6 yX6_filled wsX6_filled) := goodIn_app (goodIn_of _ (by decide +kernel)) ggL_law_X6_filled
set_option maxRecDepth 20000 in
theorem ggL_law_X5_tried : GoodIn wsL_law wsX5_tried := goodIn_r _ [702, 32, 19, 27, 452, 31, 453, 454, 87, 455, 456, 457, 458, 80, 81, 82, 83, 84, 86, 88, 459, 460, 461, 462, 463, 331, 332, 333, 464, 465, 466, 85, 467, 468, 469, 470, 471, 472, 473, 474, 475, 476, 477, 478, 479, 480, 481, 482, 483, 484, 485, 486, 487, 488, 489, 490, 491, 492, 493, 494, 643, 644, 645, 646, 647, 648, 649, 650, 495, 496, 497, 651, 652, 653, 654, 754, 755, 756, 757, 758, 759, 760, 761, 762, 799, 800, 801, 802, 803, 804, 805, 806, 807, 808, 809, 810, 811, 812, 813, 814, 815, 816, 817, 789, 790, 791, 792, 793, 794, 795, 796, 797, 798] (by decide +kernel) (by decide +kernel)
set_option maxRecDepth 20000 in
theorem gL_law_X5_tried : GoodIn wsL_law (wsV RL 101 RX5 yX5_tried wsX5_tried) := goodIn_app (goodIn_of _ (by decide +kernel)) ggL_law_X5_tried
set_option maxRecDepth 20000 in
theorem ggL_law_X6_tried : GoodIn wsL_law wsX6_tried := goodIn_r _ [706, 196, 271, 272, 5, 273, 506, 507, 508, 509, 510, 194, 220, 511, 512, 513, 514, 190, 515, 516, 517, 518, 222, 193, 519, 520, 521, 522, 523, 524, 525, 526, 527, 528, 529, 530, 531, 532, 533, 534, 191, 659, 660, 661, 763, 764, 765, 766, 767, 768, 769, 770, 771, 772, 773, 774, 775, 776, 777, 778, 779, 780, 781, 782, 783, 784, 785] (by decide +kernel) (by decide +kernel)
set_option maxRecDepth 20000 in
theorem gL_law_X6_tried : GoodIn wsL_law (wsV RL 104 RX6 yX6_tried wsX6_tried) := goodIn_app (goodIn_of _ (by decide +kernel)) ggL_law_X6_tried
set_option maxRecDepth 20000 in
theorem ggL_law_X5_even : GoodIn wsL_law wsX5_even := goodIn_r _ [710, 319, 320, 2, 321, 711, 712, 713, 714, 32, 19, 27, 452, 31, 453, 454, 87, 455, 456, 457, 458, 80, 81, 82, 83, 84, 86, 88, 459, 460, 461, 462, 463, 331, 332, 333, 464, 465, 466, 85, 467, 468, 469, 470, 471, 472, 473, 474, 475, 476, 477, 478, 479, 480, 481, 482, 483, 484, 485, 486, 487, 488, 489, 490, 491, 492, 493, 494, 647, 648, 649, 754, 755, 756, 757, 758, 759, 760, 761, 762, 799, 800, 801, 802, 803, 804, 805, 806, 807, 808, 809, 810, 811, 812, 813, 814, 815, 816, 817, 789, 790, 791, 792, 793, 794, 795, 796, 797, 798] (by decide +kernel) (by decide +kernel)
set_option maxRecDepth 20000 in
theorem gL_law_X5_even : GoodIn wsL_law (wsV RL 105 RX5 yX5_even wsX5_even) := goodIn_app (goodIn_of _ (by decide +kernel)) ggL_law_X5_even
set_option maxRecDepth 20000 in
theorem ggL_law_X6_even : GoodIn wsL_law wsX6_even := goodIn_r _ [718, 196, 271, 272, 5, 273, 506, 507, 508, 509, 510, 194, 220, 511, 512, 513, 514, 190, 515, 516, 517, 518, 222, 193, 519, 520, 521, 522, 523, 524, 525, 526, 527, 528, 529, 530, 531, 532, 533, 534, 191, 763, 764, 765, 766, 767, 768, 769, 770, 771, 772, 773, 774, 775, 776, 777, 778, 779, 780, 781, 782, 783, 784, 785] (by decide +kernel) (by decide +kernel)
set_option maxRecDepth 20000 in
theorem gL_law_X6_even : GoodIn wsL_law (wsV RL 108 RX6 yX6_even wsX6_even) := goodIn_app (goodIn_of _ (by decide +kernel)) ggL_law_X6_even
set_option maxRecDepth 20000 in
theorem ggL_law_X5_earlier : GoodIn wsL_law wsX5_earlier := goodIn_r _ [722, 19, 357, 358, 359, 2, 360, 754, 755, 756, 757, 758, 759, 760, 761, 762, 789, 790, 791, 792, 793, 794, 795, 796, 797, 798] (by decide +kernel) (by decide +kernel)
set_option maxRecDepth 20000 in
theorem gL_law_X5_earlier : GoodIn wsL_law (wsV RL 109 RX5 yX5_earlier wsX5_earlier) := goodIn_app (goodIn_of _ (by decide +kernel)) ggL_law_X5_earlier
set_option maxRecDepth 20000 in
theorem ggL_law_X6_earlier : GoodIn wsL_law wsX6_earlier := goodIn_r _ [726, 192, 387, 388, 389, 5, 390, 221, 271, 272, 273, 763, 764, 765, 766, 767, 768, 769, 770, 771, 772, 773, 774, 775, 776, 777, 778, 779, 780, 781, 782, 783, 784, 785] (by decide +kernel) (by decide +kernel)
set_option maxRecDepth 20000 in
theorem gL_law_X6_earlier : GoodIn wsL_law (wsV RL 112 RX6 yX6_earlier wsX6_earlier) := goodIn_app (goodIn_of _ (by decide +kernel)) ggL_law_X6_earlier
set_option maxRecDepth 20000 in
theorem ggL_law_X5_order : GoodIn wsL_law wsX5_order := goodIn_r _ [730, 19, 731, 18, 732, 733, 47, 734, 735, 736, 737, 48, 754, 755, 756, 757, 758, 759, 760, 761, 762, 789, 790, 791, 792, 793, 794, 795, 796, 797, 798] (by decide +kernel) (by decide +kernel)
set_option maxRecDepth 20000 in
theorem gL_law_X5_order : GoodIn wsL_law (wsV RL 113 RX5 yX5_order wsX5_order) := goodIn_app (goodIn_of _ (by decide +kernel)) ggL_law_X5_order
set_option maxRecDepth 20000 in
theorem ggL_law_X6_order : GoodIn wsL_law wsX6_order := goodIn_r _ [741, 221, 192, 763, 764, 765, 766, 767, 768, 769, 770, 771, 772, 773, 774, 775, 776, 777, 778, 779, 780, 781, 782, 783, 784, 785] (by decide +kernel) (by decide +kernel)
set_option maxRecDepth 20000 in
theorem gL_law_X6_order : GoodIn wsL_law (wsV RL 116 RX6 yX6_order wsX6_order) := goodIn_app (goodIn_of _ (by decide +kernel)) ggL_law_X6_order
set_option maxRecDepth 20000 in
theorem ggL_law_X5_count : GoodIn wsL_law wsX5_count := goodIn_r _ [745, 19, 27, 24, 15, 376, 377, 378, 379, 380, 381, 382, 539, 540, 541, 2, 542, 330, 331, 332, 333, 746, 747, 748, 749, 543, 544, 545, 546, 29, 547, 548, 549, 550, 629, 630, 631, 632, 633, 31, 634, 635, 80, 636, 637, 638, 639, 67, 640, 641, 72, 73, 74, 642, 626, 627, 628, 75, 76, 448, 449, 450, 451, 754, 755, 756, 757, 758, 759, 760, 761, 762, 789, 790, 791, 792, 793, 794, 795, 796, 797, 798, 799, 800, 801, 802, 803, 804, 805, 806, 807, 808, 818, 819, 820, 821, 822, 786, 787, 788, 809, 810, 811, 812, 813, 814, 815, 816, 817] (by decide +kernel) (by decide +kernel)
set_option maxRecDepth 20000 in
theorem gL_law_X5_count : GoodIn wsL_law (wsV RL 117 RX5 yX5_count wsX5_count) := goodIn_app (goodIn_of _ (by decide +kernel)) ggL_law_X5_count
set_option maxRecDepth 20000 in
theorem ggL_law_X6_count : GoodIn wsL_law wsX6_count := goodIn_r _ [753, 220, 221, 222, 194, 223, 232, 395, 396, 5, 397, 662, 663, 664, 665, 666, 667, 668, 669, 190, 591, 592, 593, 594, 670, 671, 672, 673, 502, 503, 504, 505, 763, 764, 765, 766, 767, 768, 769, 770, 771, 772, 773, 774, 775, 776, 777, 778, 779, 780, 781, 782, 783, 784, 785] (by decide +kernel) (by decide +kernel)
set_option maxRecDepth 20000 in
theorem gL_law_X6_count : GoodIn wsL_law (wsV RL 120 RX6 yX6_count wsX6_count) := goodIn_app (goodIn_of _ (by decide +kernel)) ggL_law_X6_count
