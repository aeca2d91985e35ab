set_option maxRecDepth 20000 in
theorem ggX0_rejects_X0_amissIn : GoodIn wsX0_rejects wsX0_amissIn := goodIn_r _ [8, 9, 10, 16, 17, 18, 19, 20, 21, 22, 23, 24, 11, 12, 13, 14, 15] (by decide +kernel) (by decide +kernel)
set_option maxRecDepth 20000 in
theorem gX0_rejects_X0_amissIn : GoodIn wsX0_rejects (wsV RX0 51 RX0 yX0_amissIn wsX0_amissIn) := goodIn_app (goodIn_of _ (by decide +kernel)) ggX0_rejects_X0_amissIn
set_option maxRecDepth 20000 in
theorem ggX1_canBeLaid_X1_chainEnds : GoodIn wsX1_canBeLaid wsX1_chainEnds := goodIn_r _ [8, 3, 9, 10, 11, 12, 13, 14, 15, 16, 17, 18, 19] (by decide +kernel) (by decide +kernel)
set_option maxRecDepth 20000 in
theorem gX1_canBeLaid_X1_chainEnds : GoodIn wsX1_canBeLaid (wsV RX1 58 RX1 yX1_chainEnds wsX1_chainEnds) := goodIn_app (goodIn_of _ (by decide +kernel)) ggX1_canBeLaid_X1_chainEnds
set_option maxRecDepth 20000 in
theorem ggX1_coreInTurn_X1_nextIn : GoodIn wsX1_coreInTurn wsX1_nextIn := goodIn_r _ [6, 1, 7, 8, 9, 10, 11, 12, 13, 14, 15, 16, 17] (by decide +kernel) (by decide +kernel)
set_option maxRecDepth 20000 in
theorem gX1_coreInTurn_X1_nextIn : GoodIn wsX1_coreInTurn (wsV RX1 62 RX1 yX1_nextIn wsX1_nextIn) := goodIn_app (goodIn_of _ (by decide +kernel)) ggX1_coreInTurn_X1_nextIn
set_option maxRecDepth 20000 in
theorem ggX2_make_X2_clear : GoodIn wsX2_make wsX2_clear := goodIn_r _ [6, 7, 8, 9, 10, 11, 12, 13, 64, 65, 66, 67, 68, 69, 70, 71, 72] (by decide +kernel) (by decide +kernel)
set_option maxRecDepth 20000 in
theorem gX2_make_X2_clear : GoodIn wsX2_make (wsV RX2 40 RX2 yX2_clear wsX2_clear) := goodIn_app (goodIn_of _ (by decide +kernel)) ggX2_make_X2_clear
set_option maxRecDepth 20000 in
theorem ggX2_make_X2_fill : GoodIn wsX2_make wsX2_fill := goodIn_r _ [17, 13, 12, 11, 18, 19, 20, 21, 22, 23, 24, 10, 25, 26, 27, 28, 5, 29, 30, 31, 32, 33, 7, 34, 35, 36, 37, 38, 39, 40, 41, 8, 9, 42, 43, 44, 45, 64, 65, 66, 67, 68, 69, 70, 71, 72, 73, 74, 75, 76, 77, 78, 79, 80, 81, 82, 54, 55, 56, 57, 58, 59, 60, 61, 62, 63] (by decide +kernel) (by decide +kernel)
set_option maxRecDepth 20000 in
theorem gX2_make_X2_fill : GoodIn wsX2_make (wsV RX2 43 RX2 yX2_fill wsX2_fill) := goodIn_app (goodIn_of _ (by decide +kernel)) ggX2_make_X2_fill
set_option maxRecDepth 20000 in
theorem ggX2_make_X2_hold : GoodIn wsX2_make wsX2_hold := goodIn_r _ [49, 25, 18, 19, 20, 21, 12, 7, 11, 10, 50, 51, 52, 5, 53, 8, 38, 39, 40, 41, 9, 54, 55, 56, 57, 58, 59, 60, 61, 62, 63, 64, 65, 66, 67, 68, 69, 70, 71, 72, 73, 74, 75, 76, 77, 78, 79, 80, 81, 82] (by decide +kernel) (by decide +kernel)
set_option maxRecDepth 20000 in
theorem gX2_make_X2_hold : GoodIn wsX2_make (wsV RX2 47 RX2 yX2_hold wsX2_hold) := goodIn_app (goodIn_of _ (by decide +kernel)) ggX2_make_X2_hold
set_option maxRecDepth 20000 in
theorem ggX2_fill_X2_speedHere : GoodIn wsX2_fill wsX2_speedHere := goodIn_r _ [17, 3, 4, 5, 6, 7, 8, 9, 10, 46, 47, 48, 49, 50, 51, 52, 53, 54, 55, 37, 38, 39, 40, 41, 42, 43, 44, 45, 56, 57, 58, 59, 60, 61, 62, 63, 64, 65] (by decide +kernel) (by decide +kernel)
set_option maxRecDepth 20000 in
theorem gX2_fill_X2_speedHere : GoodIn wsX2_fill (wsV RX2 56 RX2 yX2_speedHere wsX2_speedHere) := goodIn_app (goodIn_of _ (by decide +kernel)) ggX2_fill_X2_speedHere
set_option maxRecDepth 20000 in
theorem ggX2_fill_X2_push : GoodIn wsX2_fill wsX2_push := goodIn_r _ [21, 22, 23, 24, 25, 16, 26, 27, 28, 29, 30, 31, 2, 32, 56, 57, 58, 59, 60, 61, 62, 63, 64, 65, 37, 38, 39, 40, 41, 42, 43, 44, 45, 46, 47, 48, 49, 50, 51, 52, 53, 54, 55] (by decide +kernel) (by decide +kernel)
set_option maxRecDepth 20000 in
theorem gX2_fill_X2_push : GoodIn wsX2_fill (wsV RX2 66 RX2 yX2_push wsX2_push) := goodIn_app (goodIn_of _ (by decide +kernel)) ggX2_fill_X2_push
set_option maxRecDepth 20000 in
theorem ggX2_fill_X2_whySwitch : GoodIn wsX2_fill wsX2_whySwitch := goodIn_r _ [36, 3, 2, 11, 37, 38, 39, 40, 41, 42, 43, 44, 45, 56, 57, 58, 59, 60, 61, 62, 63, 64, 65] (by decide +kernel) (by decide +kernel)
set_option maxRecDepth 20000 in
theorem gX2_fill_X2_whySwitch : GoodIn wsX2_fill (wsV RX2 73 RX2 yX2_whySwitch wsX2_whySwitch) := goodIn_app (goodIn_of _ (by decide +kernel)) ggX2_fill_X2_whySwitch
set_option maxRecDepth 20000 in
theorem ggX2_push_X2_easiest : GoodIn wsX2_push wsX2_easiest := goodIn_r _ [6, 1, 33, 34, 35, 36, 37, 38, 39, 40, 41, 42, 24, 25, 26, 27, 28, 29, 30, 31, 32, 14, 15, 16, 17, 18, 19, 20, 21, 22, 23] (by decide +kernel) (by decide +kernel)
set_option maxRecDepth 20000 in
theorem gX2_push_X2_easiest : GoodIn wsX2_push (wsV RX2 88 RX2 yX2_easiest wsX2_easiest) := goodIn_app (goodIn_of _ (by decide +kernel)) ggX2_push_X2_easiest
set_option maxRecDepth 20000 in
theorem ggX2_push_X2_addMelt : GoodIn wsX2_push wsX2_addMelt := goodIn_r _ [10, 1, 11, 12, 13, 24, 25, 26, 27, 28, 29, 30, 31, 32, 33, 34, 35, 36, 37, 38, 39, 40, 41, 42] (by decide +kernel) (by decide +kernel)
set_option maxRecDepth 20000 in
theorem gX2_push_X2_addMelt : GoodIn wsX2_push (wsV RX2 95 RX2 yX2_addMelt wsX2_addMelt) := goodIn_app (goodIn_of _ (by decide +kernel)) ggX2_push_X2_addMelt
set_option maxRecDepth 20000 in
theorem ggX2_hold_X2_isFrozen : GoodIn wsX2_hold wsX2_isFrozen := goodIn_r _ [14, 15, 6, 31, 32, 33, 34, 35, 36, 37, 38, 39, 40, 41, 42, 43, 44, 45, 46, 47, 48, 49] (by decide +kernel) (by decide +kernel)
set_option maxRecDepth 20000 in
theorem gX2_hold_X2_isFrozen : GoodIn wsX2_hold (wsV RX2 105 RX2 yX2_isFrozen wsX2_isFrozen) := goodIn_app (goodIn_of _ (by decide +kernel)) ggX2_hold_X2_isFrozen
set_option maxRecDepth 20000 in
theorem ggX2_hold_X2_addMelt : GoodIn wsX2_hold wsX2_addMelt := goodIn_r _ [19, 7, 15, 6, 20, 31, 32, 33, 34, 35, 36, 37, 38, 39, 40, 41, 42, 43, 44, 45, 46, 47, 48, 49] (by decide +kernel) (by decide +kernel)
set_option maxRecDepth 20000 in
theorem gX2_hold_X2_addMelt : GoodIn wsX2_hold (wsV RX2 95 RX2 yX2_addMelt wsX2_addMelt) := goodIn_app (goodIn_of _ (by decide +kernel)) ggX2_hold_X2_addMelt
set_option maxRecDepth 20000 in
theorem ggX2_told_X2_balance : GoodIn wsX2_told wsX2_balance := goodIn_r _ [9, 10, 11, 12, 13, 14, 15, 16, 17, 28, 29, 30, 31, 32, 33, 34, 35, 36] (by decide +kernel) (by decide +kernel)
set_option maxRecDepth 20000 in
theorem gX2_told_X2_balance : GoodIn wsX2_told (wsV RX2 112 RX2 yX2_balance wsX2_balance) := goodIn_app (goodIn_of _ (by decide +kernel)) ggX2_told_X2_balance
set_option maxRecDepth 20000 in
theorem ggX2_told_X2_whole : GoodIn wsX2_told wsX2_whole := goodIn_r _ [21, 2, 22, 28, 29, 30, 31, 32, 33, 34, 35, 36] (by decide +kernel) (by decide +kernel)
set_option maxRecDepth 20000 in
theorem gX2_told_X2_whole : GoodIn wsX2_told (wsV RX2 116 RX2 yX2_whole wsX2_whole) := goodIn_app (goodIn_of _ (by decide +kernel)) ggX2_told_X2_whole
set_option maxRecDepth 20000 in
theorem ggX2_told_X2_greatestPressure : GoodIn wsX2_told wsX2_greatestPressure := goodIn_r _ [26, 27, 15, 16, 13, 17, 28, 29, 30, 31, 32, 33, 34, 35, 36] (by decide +kernel) (by decide +kernel)
set_option maxRecDepth 20000 in
theorem gX2_told_X2_greatestPressure : GoodIn wsX2_told (wsV RX2 119 RX2 yX2_greatestPressure wsX2_greatestPressure) := goodIn_app (goodIn_of _ (by decide +kernel)) ggX2_told_X2_greatestPressure
set_option maxRecDepth 20000 in
theorem ggX3_init_X0_init : GoodIn wsX3_init wsX0_init := goodIn_r _ [19, 20, 2, 3, 21, 22, 23, 4, 24, 25, 36, 37, 38, 39, 40] (by decide +kernel) (by decide +kernel)
set_option maxRecDepth 20000 in
theorem gX3_init_X0_init_n43 : GoodIn wsX3_init (wsX0_init) := ggX3_init_X0_init
set_option maxRecDepth 20000 in
theorem ggX3_startWith_X0_clear : GoodIn wsX3_startWith wsX0_clear := goodIn_r _ [18, 19, 20, 21, 42, 43, 44, 45, 46] (by decide +kernel) (by decide +kernel)
set_option maxRecDepth 20000 in
theorem gX3_startWith_X0_clear_n59 : GoodIn wsX3_startWith (wsX0_clear) := ggX3_startWith_X0_clear
set_option maxRecDepth 20000 in
theorem ggX3_copyFrom_X0_copyFrom : GoodIn wsX3_copyFrom wsX0_copyFrom := goodIn_r _ [18, 19, 20, 21, 22, 23, 3, 4, 5, 24, 35, 36, 37, 38, 39] (by decide +kernel) (by decide +kernel)
set_option maxRecDepth 20000 in
theorem gX3_copyFrom_X0_copyFrom_n62 : GoodIn wsX3_copyFrom (wsX0_copyFrom) := ggX3_copyFrom_X0_copyFrom
set_option maxRecDepth 20000 in
theorem ggX4_readInto_X1_clear : GoodIn wsX4_readInto wsX1_clear := goodIn_r _ [6, 7, 8, 9, 10, 11, 12, 13, 14, 46, 47, 48, 49, 50, 51, 52, 53, 54, 55] (by decide +kernel) (by decide +kernel)
set_option maxRecDepth 20000 in
theorem gX4_readInto_X1_clear_n22 : GoodIn wsX4_readInto (wsX1_clear) := ggX4_readInto_X1_clear
set_option maxRecDepth 20000 in
theorem ggX4_readInto_X4_readItem : GoodIn wsX4_readInto wsX4_readItem := goodIn_r _ [19, 2, 20, 21, 22, 23, 18, 24, 25, 4, 26, 27, 7, 28, 29, 30, 31, 32, 33, 8, 34, 35, 36, 37, 9, 38, 39, 40, 41, 42, 10, 11, 12, 13, 14, 43, 44, 45, 46, 47, 48, 49, 50, 51, 52, 53, 54, 55] (by decide +kernel) (by decide +kernel)
set_option maxRecDepth 20000 in
theorem gX4_readInto_X4_readItem : GoodIn wsX4_readInto (wsV RX4 27 RX4 yX4_readItem wsX4_readItem) := goodIn_app (goodIn_of _ (by decide +kernel)) ggX4_readInto_X4_readItem
set_option maxRecDepth 20000 in
theorem ggX4_readItem_X4_readNumbers : GoodIn wsX4_readItem wsX4_readNumbers := goodIn_r _ [7, 1, 2, 35, 36, 37] (by decide +kernel) (by decide +kernel)
set_option maxRecDepth 20000 in
theorem gX4_readItem_X4_readNumbers : GoodIn wsX4_readItem (wsV RX4 31 RX4 yX4_readNumbers wsX4_readNumbers) := goodIn_app (goodIn_of _ (by decide +kernel)) ggX4_readItem_X4_readNumbers
set_option maxRecDepth 20000 in
theorem ggX4_readItem_X1_addCavity : GoodIn wsX4_readItem wsX1_addCavity := goodIn_r _ [11, 12, 13, 14, 15, 38, 39, 40, 41, 42, 43, 44, 45, 46, 47] (by decide +kernel) (by decide +kernel)
set_option maxRecDepth 20000 in
theorem gX4_readItem_X1_addCavity_n35 : GoodIn wsX4_readItem (wsX1_addCavity) := ggX4_readItem_X1_addCavity
set_option maxRecDepth 20000 in
theorem ggX4_readItem_X1_addCore : GoodIn wsX4_readItem wsX1_addCore := goodIn_r _ [18, 19, 20, 38, 39, 40, 41, 42, 43, 44, 45, 46, 47] (by decide +kernel) (by decide +kernel)
set_option maxRecDepth 20000 in
theorem gX4_readItem_X1_addCore_n39 : GoodIn wsX4_readItem (wsX1_addCore) := ggX4_readItem_X1_addCore
set_option maxRecDepth 20000 in
theorem ggX4_readItem_X1_addStage : GoodIn wsX4_readItem wsX1_addStage := goodIn_r _ [23, 24, 25, 26, 38, 39, 40, 41, 42, 43, 44, 45, 46, 47] (by decide +kernel) (by decide +kernel)
set_option maxRecDepth 20000 in
theorem gX4_readItem_X1_addStage_n43 : GoodIn wsX4_readItem (wsX1_addStage) := ggX4_readItem_X1_addStage
set_option maxRecDepth 20000 in
theorem ggX4_readItem_X1_setThree : GoodIn wsX4_readItem wsX1_setThree := goodIn_r _ [29, 30, 31, 32, 33, 34, 38, 39, 40, 41, 42, 43, 44, 45, 46, 47] (by decide +kernel) (by decide +kernel)
set_option maxRecDepth 20000 in
theorem gX4_readItem_X1_setThree_n47 : GoodIn wsX4_readItem (wsX1_setThree) := ggX4_readItem_X1_setThree
set_option maxRecDepth 20000 in
theorem ggX5_init_X4_init : GoodIn wsX5_init wsX4_init := goodIn_r _ [26, 27, 2, 3, 28, 29, 30, 31, 178, 179, 180] (by decide +kernel) (by decide +kernel)
set_option maxRecDepth 20000 in
theorem gX5_init_X4_init_n11 : GoodIn wsX5_init (wsX4_init) := ggX5_init_X4_init
set_option maxRecDepth 20000 in
theorem ggX5_init_X1_init : GoodIn wsX5_init wsX1_init := goodIn_r _ [33, 34, 2, 3, 35, 28, 36, 37, 38, 39, 40, 41, 42, 43, 44, 190, 191, 192, 193, 194, 195, 196, 197, 198, 199] (by decide +kernel) (by decide +kernel)
set_option maxRecDepth 20000 in
theorem gX5_init_X1_init_n18 : GoodIn wsX5_init (wsX1_init) := ggX5_init_X1_init
set_option maxRecDepth 20000 in
theorem ggX5_init_X3_init : GoodIn wsX5_init wsX3_init := goodIn_r _ [46, 47, 2, 3, 28, 48, 49, 50, 51, 52, 53, 54, 55, 56, 57, 58, 59, 60, 61, 62, 63, 64, 65, 66, 67, 68, 200, 201, 202, 203, 204, 205, 206, 207, 208, 209, 219, 220, 221, 222, 223] (by decide +kernel) (by decide +kernel)
set_option maxRecDepth 20000 in
theorem gX5_init_X3_init_n39 : GoodIn wsX5_init (wsX3_init) := ggX5_init_X3_init
set_option maxRecDepth 20000 in
theorem ggX5_init_X2_init : GoodIn wsX5_init wsX2_init := goodIn_r _ [70, 71, 2, 3, 28, 72, 73, 74, 75, 76, 77, 78, 79, 80, 210, 211, 212, 213, 214, 215, 216, 217, 218] (by decide +kernel) (by decide +kernel)
set_option maxRecDepth 20000 in
theorem gX5_init_X2_init_n50 : GoodIn wsX5_init (wsX2_init) := ggX5_init_X2_init
set_option maxRecDepth 20000 in
theorem ggX5_init_J0_length_8abf5 : GoodIn wsX5_init wsJ0_length_8abf5 := goodIn_r _ [85, 86, 87, 88, 89, 84, 90, 91, 92] (by decide +kernel) (by decide +kernel)
set_option maxRecDepth 20000 in
theorem gX5_init_J0_length_8abf5 : GoodIn wsX5_init (wsV RX5 57 RJ0 yJ0_length_8abf5 wsJ0_length_8abf5) := goodIn_app (goodIn_of _ (by decide +kernel)) ggX5_init_J0_length_8abf5
set_option maxRecDepth 20000 in
theorem ggX5_init_J0_charAt_5068e : GoodIn wsX5_init wsJ0_charAt_5068e := goodIn_r _ [96, 86, 97, 98, 99, 84, 100, 91, 92, 101, 102, 103, 104, 105, 106, 107, 108, 109, 110, 111, 112, 113, 114, 115, 116, 117, 118, 119, 120, 121, 122, 123, 124, 125, 126, 127, 128, 129] (by decide +kernel) (by decide +kernel)
set_option maxRecDepth 20000 in
theorem gX5_init_J0_charAt_5068e : GoodIn wsX5_init (wsV RX5 63 RJ0 yJ0_charAt_5068e wsJ0_charAt_5068e) := goodIn_app (goodIn_of _ (by decide +kernel)) ggX5_init_J0_charAt_5068e
set_option maxRecDepth 20000 in
theorem ggX5_init_X4_append : GoodIn wsX5_init wsX4_append := goodIn_r _ [132, 31, 29, 178, 179, 180] (by decide +kernel) (by decide +kernel)
set_option maxRecDepth 20000 in
theorem gX5_init_X4_append_n67 : GoodIn wsX5_init (wsX4_append) := ggX5_init_X4_append
set_option maxRecDepth 20000 in
theorem ggX5_init_X4_readInto : GoodIn wsX5_init wsX4_readInto := goodIn_r _ [135, 31, 29, 136, 10, 137, 138, 35, 39, 41, 44, 139, 140, 141, 142, 143, 144, 145, 6, 146, 30, 147, 148, 149, 150, 151, 152, 153, 36, 37, 38, 154, 155, 156, 40, 157, 158, 159, 42, 43, 160, 161, 162, 178, 179, 180, 190, 191, 192, 193, 194, 195, 196, 197, 198, 199] (by decide +kernel) (by decide +kernel)
set_option maxRecDepth 20000 in
theorem gX5_init_X4_readInto_n71 : GoodIn wsX5_init (wsX4_readInto) := ggX5_init_X4_readInto
set_option maxRecDepth 20000 in
theorem ggX5_init_X5_takeDraft : GoodIn wsX5_init wsX5_takeDraft := goodIn_r _ [167, 12, 11, 19, 16, 168, 18, 169, 170, 48, 171, 140, 141, 142, 49, 50, 51, 52, 53, 54, 55, 56, 60, 172, 59, 173, 174, 64, 65, 66, 181, 182, 183, 184, 185, 186, 187, 188, 189, 190, 191, 192, 193, 194, 195, 196, 197, 198, 199, 200, 201, 202, 203, 204, 205, 206, 207, 208, 209, 219, 220, 221, 222, 223] (by decide +kernel) (by decide +kernel)
set_option maxRecDepth 20000 in
theorem gX5_init_X5_takeDraft : GoodIn wsX5_init (wsV RX5 75 RX5 yX5_takeDraft wsX5_takeDraft) := goodIn_app (goodIn_of _ (by decide +kernel)) ggX5_init_X5_takeDraft
set_option maxRecDepth 20000 in
theorem ggX5_init_X4_clear : GoodIn wsX5_init wsX4_clear := goodIn_r _ [177, 31, 178, 179, 180] (by decide +kernel) (by decide +kernel)
set_option maxRecDepth 20000 in
theorem gX5_init_X4_clear_n78 : GoodIn wsX5_init (wsX4_clear) := ggX5_init_X4_clear
set_option maxRecDepth 20000 in
theorem ggX5_write_X4_append : GoodIn wsX5_write wsX4_append := goodIn_r _ [5, 6, 7, 17, 18, 19] (by decide +kernel) (by decide +kernel)
set_option maxRecDepth 20000 in
theorem gX5_write_X4_append_n67 : GoodIn wsX5_write (wsX4_append) := ggX5_write_X4_append
set_option maxRecDepth 20000 in
theorem ggX5_wipe_X4_clear : GoodIn wsX5_wipe wsX4_clear := goodIn_r _ [5, 6, 16, 17, 18] (by decide +kernel) (by decide +kernel)
set_option maxRecDepth 20000 in
theorem gX5_wipe_X4_clear_n78 : GoodIn wsX5_wipe (wsX4_clear) := ggX5_wipe_X4_clear
set_option maxRecDepth 20000 in
theorem ggX5_fault_X4_readInto : GoodIn wsX5_fault wsX4_readInto := goodIn_r _ [6, 7, 8, 9, 10, 11, 12, 13, 14, 15, 16, 17, 18, 19, 20, 21, 22, 23, 4, 24, 25, 26, 27, 28, 29, 30, 31, 32, 33, 34, 35, 36, 37, 38, 39, 40, 41, 42, 43, 44, 45, 46, 47, 57, 58, 59, 60, 61, 62, 63, 64, 65, 66, 67, 68, 69] (by decide +kernel) (by decide +kernel)
set_option maxRecDepth 20000 in
theorem gX5_fault_X4_readInto_n71 : GoodIn wsX5_fault (wsX4_readInto) := ggX5_fault_X4_readInto
set_option maxRecDepth 20000 in
theorem ggX5_lay_X4_readInto : GoodIn wsX5_lay wsX4_readInto := goodIn_r _ [7, 8, 9, 10, 11, 12, 13, 14, 15, 16, 17, 18, 19, 20, 21, 22, 23, 24, 5, 25, 26, 27, 28, 29, 30, 31, 32, 33, 34, 35, 36, 37, 38, 39, 40, 41, 42, 43, 44, 45, 46, 47, 48, 104, 105, 106, 94, 95, 96, 97, 98, 99, 100, 101, 102, 103] (by decide +kernel) (by decide +kernel)
set_option maxRecDepth 20000 in
theorem gX5_lay_X4_readInto_n71 : GoodIn wsX5_lay (wsX4_readInto) := ggX5_lay_X4_readInto
set_option maxRecDepth 20000 in
theorem ggX5_lay_X1_canBeLaid : GoodIn wsX5_lay wsX1_canBeLaid := goodIn_r _ [51, 14, 16, 15, 52, 53, 54, 11, 55, 40, 94, 95, 96, 97, 98, 99, 100, 101, 102, 103] (by decide +kernel) (by decide +kernel)
set_option maxRecDepth 20000 in
theorem gX5_lay_X1_canBeLaid_n83 : GoodIn wsX5_lay (wsX1_canBeLaid) := ggX5_lay_X1_canBeLaid
set_option maxRecDepth 20000 in
theorem ggX5_lay_X5_takeDraft : GoodIn wsX5_lay wsX5_takeDraft := goodIn_r _ [60, 2, 3, 61, 62, 63, 64, 65, 66, 67, 68, 19, 20, 21, 69, 70, 71, 72, 73, 74, 75, 76, 77, 78, 79, 80, 81, 82, 83, 84, 85, 86, 87, 88, 89, 90, 91, 92, 93, 94, 95, 96, 97, 98, 99, 100, 101, 102, 103, 107, 108, 109, 110, 111, 112, 113, 114, 115, 116, 117, 118, 119, 120, 121] (by decide +kernel) (by decide +kernel)
set_option maxRecDepth 20000 in
theorem gX5_lay_X5_takeDraft : GoodIn wsX5_lay (wsV RX5 75 RX5 yX5_takeDraft wsX5_takeDraft) := goodIn_app (goodIn_of _ (by decide +kernel)) ggX5_lay_X5_takeDraft
set_option maxRecDepth 20000 in
theorem ggX5_takeDraft_X3_startWith : GoodIn wsX5_takeDraft wsX3_startWith := goodIn_r _ [8, 9, 10, 11, 12, 13, 14, 15, 16, 17, 18, 19, 20, 21, 22, 23, 24, 25, 26, 27, 28, 29, 39, 40, 41, 42, 43, 44, 45, 46, 47, 48, 49, 50, 51, 52, 53, 54, 55, 56, 57, 58, 59, 60, 61, 62, 63] (by decide +kernel) (by decide +kernel)
set_option maxRecDepth 20000 in
theorem gX5_takeDraft_X3_startWith_n90 : GoodIn wsX5_takeDraft (wsX3_startWith) := ggX5_takeDraft_X3_startWith
set_option maxRecDepth 20000 in
theorem ggX5_mould_X5_isFlag : GoodIn wsX5_mould wsX5_isFlag := goodIn_r _ [4] (by decide +kernel) (by decide +kernel)
set_option maxRecDepth 20000 in
theorem gX5_mould_X5_isFlag : GoodIn wsX5_mould (va_wsS RX5 94 yX5_isFlag wsX5_isFlag) := goodIn_app (goodIn_of _ (by decide +kernel)) ggX5_mould_X5_isFlag
set_option maxRecDepth 20000 in
theorem ggX5_mould_X5_shutMould : GoodIn wsX5_mould wsX5_shutMould := goodIn_r _ [8, 9, 10, 11, 12, 3, 13, 14, 15, 16, 17, 18, 19, 20, 21, 22, 23, 24, 25, 26, 27, 28, 29, 30, 31, 32, 33, 34, 35, 36, 37, 38, 39, 40, 41, 42, 43, 44, 45, 46, 47, 48, 53, 54, 55, 56, 57, 58, 59, 60, 61, 62, 63, 64, 65, 66, 67, 68, 69, 70, 71, 72, 73, 74, 75, 76] (by decide +kernel) (by decide +kernel)
set_option maxRecDepth 20000 in
theorem gX5_mould_X5_shutMould : GoodIn wsX5_mould (wsV RX5 97 RX5 yX5_shutMould wsX5_shutMould) := goodIn_app (goodIn_of _ (by decide +kernel)) ggX5_mould_X5_shutMould
set_option maxRecDepth 20000 in
theorem ggX5_mould_X5_openMould : GoodIn wsX5_mould wsX5_openMould := goodIn_r _ [52, 9, 10, 11, 12, 3, 13, 14, 15, 16, 17, 18, 19, 20, 21, 22, 23, 24, 25, 26, 27, 28, 29, 30, 31, 32, 33, 34, 35, 36, 37, 38, 39, 40, 41, 42, 43, 44, 45, 46, 47, 48, 53, 54, 55, 56, 57, 58, 59, 60, 61, 62, 63, 64, 65, 66, 67, 68, 69, 70, 71, 72, 73, 74, 75, 76] (by decide +kernel) (by decide +kernel)
set_option maxRecDepth 20000 in
theorem gX5_mould_X5_openMould : GoodIn wsX5_mould (wsV RX5 100 RX5 yX5_openMould wsX5_openMould) := goodIn_app (goodIn_of _ (by decide +kernel)) ggX5_mould_X5_openMould
set_option maxRecDepth 20000 in
theorem ggX5_shutMould_X5_startChange : GoodIn wsX5_shutMould wsX5_startChange := goodIn_r _ [6, 7, 8, 1, 9, 10, 11, 12, 13, 14, 15, 16, 17, 18, 19, 20, 21, 22, 23, 24, 25, 26, 27, 28, 29, 30, 31, 32, 33, 34, 35, 36, 37, 38, 39, 40, 41, 42, 43, 44, 45, 46, 47, 48, 49, 50, 51, 52, 53, 54, 55, 56, 57, 58, 59, 60, 61, 62, 63, 64, 65] (by decide +kernel) (by decide +kernel)
set_option maxRecDepth 20000 in
theorem gX5_shutMould_X5_startChange : GoodIn wsX5_shutMould (wsV RX5 107 RX5 yX5_startChange wsX5_startChange) := goodIn_app (goodIn_of _ (by decide +kernel)) ggX5_shutMould_X5_startChange
set_option maxRecDepth 20000 in
theorem ggX5_openMould_X5_startChange : GoodIn wsX5_openMould wsX5_startChange := goodIn_r _ [6, 7, 8, 1, 9, 10, 11, 12, 13, 14, 15, 16, 17, 18, 19, 20, 21, 22, 23, 24, 25, 26, 27, 28, 29, 30, 31, 32, 33, 34, 35, 36, 37, 38, 39, 40, 41, 42, 43, 44, 45, 46, 47, 48, 49, 50, 51, 52, 53, 54, 55, 56, 57, 58, 59, 60, 61, 62, 63, 64, 65] (by decide +kernel) (by decide +kernel)
set_option maxRecDepth 20000 in
theorem gX5_openMould_X5_startChange : GoodIn wsX5_openMould (wsV RX5 107 RX5 yX5_startChange wsX5_startChange) := goodIn_app (goodIn_of _ (by decide +kernel)) ggX5_openMould_X5_startChange
set_option maxRecDepth 20000 in
theorem ggX5_core_X5_isCore : GoodIn wsX5_core wsX5_isCore := goodIn_r _ [6, 7, 72, 73, 74, 75, 76, 77, 78, 79, 80, 91, 92, 93, 94, 95, 96, 97, 98, 99, 100] (by decide +kernel) (by decide +kernel)
set_option maxRecDepth 20000 in
theorem gX5_core_X5_isCore : GoodIn wsX5_core (wsV RX5 119 RX5 yX5_isCore wsX5_isCore) := goodIn_app (goodIn_of _ (by decide +kernel)) ggX5_core_X5_isCore
set_option maxRecDepth 20000 in
theorem ggX5_core_X5_isFlag : GoodIn wsX5_core wsX5_isFlag := goodIn_r _ [10] (by decide +kernel) (by decide +kernel)
set_option maxRecDepth 20000 in
theorem gX5_core_X5_isFlag : GoodIn wsX5_core (va_wsS RX5 94 yX5_isFlag wsX5_isFlag) := goodIn_app (goodIn_of _ (by decide +kernel)) ggX5_core_X5_isFlag
set_option maxRecDepth 20000 in
theorem ggX5_core_X5_barrier : GoodIn wsX5_core wsX5_barrier := goodIn_r _ [14, 1, 15, 16, 17, 18, 19, 20, 21, 22, 5, 23, 7, 2, 3, 4, 6, 24, 25, 26, 27, 72, 73, 74, 75, 76, 77, 78, 79, 80, 81, 82, 83, 84, 85, 86, 87, 88, 89, 90, 91, 92, 93, 94, 95, 96, 97, 98, 99, 100] (by decide +kernel) (by decide +kernel)
set_option maxRecDepth 20000 in
theorem gX5_core_X5_barrier : GoodIn wsX5_core (wsV RX5 122 RX5 yX5_barrier wsX5_barrier) := goodIn_app (goodIn_of _ (by decide +kernel)) ggX5_core_X5_barrier
set_option maxRecDepth 20000 in
theorem ggX5_core_X5_startChange : GoodIn wsX5_core wsX5_startChange := goodIn_r _ [31, 32, 33, 1, 34, 35, 36, 37, 38, 39, 16, 40, 41, 42, 43, 44, 45, 46, 47, 48, 49, 19, 50, 51, 52, 53, 54, 55, 56, 57, 58, 59, 60, 61, 62, 63, 64, 72, 73, 74, 75, 76, 77, 78, 79, 80, 81, 82, 83, 84, 85, 86, 87, 88, 89, 90, 101, 102, 103, 104, 105] (by decide +kernel) (by decide +kernel)
set_option maxRecDepth 20000 in
theorem gX5_core_X5_startChange : GoodIn wsX5_core (wsV RX5 107 RX5 yX5_startChange wsX5_startChange) := goodIn_app (goodIn_of _ (by decide +kernel)) ggX5_core_X5_startChange
set_option maxRecDepth 20000 in
theorem ggX5_core_J6_bitCount_0f7a4 : GoodIn wsX5_core wsJ6_bitCount_0f7a4 := goodIn_r _ [68, 69, 70, 71] (by decide +kernel) (by decide +kernel)
set_option maxRecDepth 20000 in
theorem gX5_core_J6_bitCount_0f7a4 : GoodIn wsX5_core (va_wsS RX5 126 yJ6_bitCount_0f7a4 wsJ6_bitCount_0f7a4) := goodIn_app (goodIn_of _ (by decide +kernel)) ggX5_core_J6_bitCount_0f7a4
set_option maxRecDepth 20000 in
theorem ggX5_against_X5_isCore : GoodIn wsX5_against wsX5_isCore := goodIn_r _ [5, 6, 28, 29, 30, 31, 32, 33, 34, 35, 36, 37, 38, 39, 40, 41, 42, 43, 44, 45, 46] (by decide +kernel) (by decide +kernel)
set_option maxRecDepth 20000 in
theorem gX5_against_X5_isCore : GoodIn wsX5_against (wsV RX5 119 RX5 yX5_isCore wsX5_isCore) := goodIn_app (goodIn_of _ (by decide +kernel)) ggX5_against_X5_isCore
set_option maxRecDepth 20000 in
theorem ggX5_against_X5_isFlag : GoodIn wsX5_against wsX5_isFlag := goodIn_r _ [9] (by decide +kernel) (by decide +kernel)
set_option maxRecDepth 20000 in
theorem gX5_against_X5_isFlag : GoodIn wsX5_against (va_wsS RX5 94 yX5_isFlag wsX5_isFlag) := goodIn_app (goodIn_of _ (by decide +kernel)) ggX5_against_X5_isFlag
set_option maxRecDepth 20000 in
theorem ggX5_against_X5_barrier : GoodIn wsX5_against wsX5_barrier := goodIn_r _ [13, 14, 15, 16, 17, 18, 19, 20, 21, 22, 4, 23, 6, 1, 2, 3, 5, 24, 25, 26, 27, 28, 29, 30, 31, 32, 33, 34, 35, 36, 47, 48, 49, 50, 51, 52, 53, 54, 55, 56, 37, 38, 39, 40, 41, 42, 43, 44, 45, 46] (by decide +kernel) (by decide +kernel)
set_option maxRecDepth 20000 in
theorem gX5_against_X5_barrier : GoodIn wsX5_against (wsV RX5 122 RX5 yX5_barrier wsX5_barrier) := goodIn_app (goodIn_of _ (by decide +kernel)) ggX5_against_X5_barrier
set_option maxRecDepth 20000 in
theorem ggX5_barrier_X3_isIn : GoodIn wsX5_barrier wsX3_isIn := goodIn_r _ [5, 6, 30, 31, 32, 33, 34, 35, 36, 37, 38, 39] (by decide +kernel) (by decide +kernel)
set_option maxRecDepth 20000 in
theorem gX5_barrier_X3_isIn_n132 : GoodIn wsX5_barrier (wsX3_isIn) := ggX5_barrier_X3_isIn
set_option maxRecDepth 20000 in
theorem ggX5_barrier_X5_outAheadOf : GoodIn wsX5_barrier wsX5_outAheadOf := goodIn_r _ [11, 12, 1, 13, 14, 15, 10, 16, 2, 3, 4, 5, 6, 21, 22, 23, 24, 25, 26, 27, 28, 29, 40, 41, 42, 43, 44, 45, 46, 47, 48, 49, 30, 31, 32, 33, 34, 35, 36, 37, 38, 39] (by decide +kernel) (by decide +kernel)
set_option maxRecDepth 20000 in
theorem gX5_barrier_X5_outAheadOf : GoodIn wsX5_barrier (wsV RX5 135 RX5 yX5_outAheadOf wsX5_outAheadOf) := goodIn_app (goodIn_of _ (by decide +kernel)) ggX5_barrier_X5_outAheadOf
set_option maxRecDepth 20000 in
theorem ggX5_barrier_X5_inBehind : GoodIn wsX5_barrier wsX5_inBehind := goodIn_r _ [20, 12, 1, 2, 3, 4, 5, 6, 21, 22, 23, 24, 25, 26, 27, 28, 29, 40, 41, 42, 43, 44, 45, 46, 47, 48, 49, 30, 31, 32, 33, 34, 35, 36, 37, 38, 39] (by decide +kernel) (by decide +kernel)
set_option maxRecDepth 20000 in
theorem gX5_barrier_X5_inBehind : GoodIn wsX5_barrier (wsV RX5 138 RX5 yX5_inBehind wsX5_inBehind) := goodIn_app (goodIn_of _ (by decide +kernel)) ggX5_barrier_X5_inBehind
set_option maxRecDepth 20000 in
theorem ggX5_outAheadOf_X5_isCore : GoodIn wsX5_outAheadOf wsX5_isCore := goodIn_r _ [7, 1, 13, 14, 15, 16, 17, 18, 19, 20, 21, 22, 23, 24, 25, 26, 27, 28, 29, 30, 31] (by decide +kernel) (by decide +kernel)
set_option maxRecDepth 20000 in
theorem gX5_outAheadOf_X5_isCore : GoodIn wsX5_outAheadOf (wsV RX5 119 RX5 yX5_isCore wsX5_isCore) := goodIn_app (goodIn_of _ (by decide +kernel)) ggX5_outAheadOf_X5_isCore
set_option maxRecDepth 20000 in
theorem ggX5_outAheadOf_X3_isIn : GoodIn wsX5_outAheadOf wsX3_isIn := goodIn_r _ [11, 12, 32, 33, 34, 35, 36, 37, 38, 39, 40, 41] (by decide +kernel) (by decide +kernel)
set_option maxRecDepth 20000 in
theorem gX5_outAheadOf_X3_isIn_n132 : GoodIn wsX5_outAheadOf (wsX3_isIn) := ggX5_outAheadOf_X3_isIn
set_option maxRecDepth 20000 in
theorem ggX5_inBehind_X3_isIn : GoodIn wsX5_inBehind wsX3_isIn := goodIn_r _ [6, 7, 27, 28, 29, 30, 31, 32, 33, 34, 35, 36] (by decide +kernel) (by decide +kernel)
set_option maxRecDepth 20000 in
theorem gX5_inBehind_X3_isIn_n132 : GoodIn wsX5_inBehind (wsX3_isIn) := ggX5_inBehind_X3_isIn
set_option maxRecDepth 20000 in
theorem ggX5_drag_X5_isCavity : GoodIn wsX5_drag wsX5_isCavity := goodIn_r _ [6, 7, 47, 48, 49, 50, 51, 52, 53, 54, 55, 66, 67, 68, 69, 70, 71, 72, 73, 74, 75] (by decide +kernel) (by decide +kernel)
set_option maxRecDepth 20000 in
theorem gX5_drag_X5_isCavity : GoodIn wsX5_drag (wsV RX5 148 RX5 yX5_isCavity wsX5_isCavity) := goodIn_app (goodIn_of _ (by decide +kernel)) ggX5_drag_X5_isCavity
set_option maxRecDepth 20000 in
theorem ggX5_drag_X5_startChange : GoodIn wsX5_drag wsX5_startChange := goodIn_r _ [11, 12, 13, 1, 14, 15, 16, 17, 18, 19, 20, 21, 22, 23, 24, 25, 26, 27, 28, 29, 30, 31, 32, 33, 34, 35, 36, 37, 38, 39, 40, 41, 42, 43, 44, 45, 46, 47, 48, 49, 50, 51, 52, 53, 54, 55, 56, 57, 58, 59, 60, 61, 62, 63, 64, 65, 76, 77, 78, 79, 80] (by decide +kernel) (by decide +kernel)
set_option maxRecDepth 20000 in
theorem gX5_drag_X5_startChange : GoodIn wsX5_drag (wsV RX5 107 RX5 yX5_startChange wsX5_startChange) := goodIn_app (goodIn_of _ (by decide +kernel)) ggX5_drag_X5_startChange
set_option maxRecDepth 20000 in
theorem ggX5_speed_X5_startChange : GoodIn wsX5_speed wsX5_startChange := goodIn_r _ [7, 8, 9, 2, 10, 11, 12, 13, 14, 15, 16, 17, 18, 19, 20, 21, 22, 23, 24, 25, 26, 27, 28, 29, 30, 31, 32, 33, 34, 35, 36, 37, 38, 39, 40, 41, 42, 43, 44, 45, 46, 47, 48, 49, 50, 51, 62, 63, 64, 65, 66, 67, 68, 69, 70, 71, 72, 73, 74, 75, 76] (by decide +kernel) (by decide +kernel)
set_option maxRecDepth 20000 in
theorem gX5_speed_X5_startChange : GoodIn wsX5_speed (wsV RX5 107 RX5 yX5_startChange wsX5_startChange) := goodIn_app (goodIn_of _ (by decide +kernel)) ggX5_speed_X5_startChange
set_option maxRecDepth 20000 in
theorem ggX5_tell_X5_startChange : GoodIn wsX5_tell wsX5_startChange := goodIn_r _ [8, 9, 10, 3, 11, 12, 13, 14, 15, 16, 17, 18, 19, 20, 21, 22, 23, 24, 25, 26, 27, 28, 29, 30, 31, 32, 33, 34, 35, 36, 37, 38, 39, 40, 41, 42, 43, 44, 45, 46, 47, 48, 49, 50, 51, 52, 53, 54, 55, 56, 57, 58, 59, 60, 61, 62, 63, 64, 65, 66, 67] (by decide +kernel) (by decide +kernel)
set_option maxRecDepth 20000 in
theorem gX5_tell_X5_startChange : GoodIn wsX5_tell (wsV RX5 107 RX5 yX5_startChange wsX5_startChange) := goodIn_app (goodIn_of _ (by decide +kernel)) ggX5_tell_X5_startChange
set_option maxRecDepth 20000 in
theorem ggX5_shoot_X5_isReady : GoodIn wsX5_shoot wsX5_isReady := goodIn_r _ [8, 1, 3, 9, 10, 11, 12, 13, 14, 15, 111, 112, 113, 114, 115, 116, 117, 118, 119, 120, 121, 122, 123, 124, 125, 126, 127, 128, 129, 130, 131, 132, 133, 134, 135, 136, 137, 138, 139] (by decide +kernel) (by decide +kernel)
set_option maxRecDepth 20000 in
theorem gX5_shoot_X5_isReady : GoodIn wsX5_shoot (wsV RX5 169 RX5 yX5_isReady wsX5_isReady) := goodIn_app (goodIn_of _ (by decide +kernel)) ggX5_shoot_X5_isReady
set_option maxRecDepth 20000 in
theorem ggX5_shoot_X5_startChange : GoodIn wsX5_shoot wsX5_startChange := goodIn_r _ [19, 20, 21, 1, 22, 23, 24, 25, 26, 27, 28, 29, 30, 31, 32, 33, 34, 35, 36, 37, 38, 39, 40, 41, 42, 43, 44, 45, 46, 47, 48, 49, 50, 51, 52, 53, 54, 111, 112, 113, 114, 115, 116, 117, 118, 119, 120, 121, 122, 123, 124, 125, 126, 127, 128, 129, 140, 141, 142, 143, 144] (by decide +kernel) (by decide +kernel)
set_option maxRecDepth 20000 in
theorem gX5_shoot_X5_startChange : GoodIn wsX5_shoot (wsV RX5 107 RX5 yX5_startChange wsX5_startChange) := goodIn_app (goodIn_of _ (by decide +kernel)) ggX5_shoot_X5_startChange
set_option maxRecDepth 20000 in
theorem ggX5_shoot_X2_make : GoodIn wsX5_shoot wsX2_make := goodIn_r _ [58, 59, 60, 61, 62, 56, 63, 64, 65, 66, 67, 68, 69, 70, 71, 72, 73, 74, 75, 24, 25, 26, 76, 77, 78, 79, 80, 81, 82, 83, 84, 85, 86, 87, 88, 89, 90, 91, 92, 93, 94, 95, 96, 97, 98, 99, 100, 101, 102, 103, 104, 105, 106, 107, 120, 121, 122, 123, 124, 125, 126, 127, 128, 129, 145, 146, 147, 148, 149, 150, 151, 152, 153, 130, 131, 132, 133, 134, 135, 136, 137, 138, 139] (by decide +kernel) (by decide +kernel)
set_option maxRecDepth 20000 in
theorem gX5_shoot_X2_make_n175 : GoodIn wsX5_shoot (wsX2_make) := ggX5_shoot_X2_make
set_option maxRecDepth 20000 in
theorem ggX5_shoot_X2_whole : GoodIn wsX5_shoot wsX2_whole := goodIn_r _ [110, 69, 59, 145, 146, 147, 148, 149, 150, 151, 152, 153] (by decide +kernel) (by decide +kernel)
set_option maxRecDepth 20000 in
theorem gX5_shoot_X2_whole_n179 : GoodIn wsX5_shoot (wsX2_whole) := ggX5_shoot_X2_whole
set_option maxRecDepth 20000 in
theorem ggX5_waitCool_X5_startChange : GoodIn wsX5_waitCool wsX5_startChange := goodIn_r _ [6, 7, 8, 1, 9, 10, 11, 12, 13, 14, 15, 16, 17, 18, 19, 20, 21, 22, 23, 24, 25, 26, 27, 28, 29, 30, 31, 32, 33, 34, 35, 36, 37, 38, 39, 40, 41, 55, 56, 57, 58, 59, 60, 61, 62, 63, 64, 65, 66, 67, 68, 69, 70, 71, 72, 73, 83, 84, 85, 86, 87] (by decide +kernel) (by decide +kernel)
set_option maxRecDepth 20000 in
theorem gX5_waitCool_X5_startChange : GoodIn wsX5_waitCool (wsV RX5 107 RX5 yX5_startChange wsX5_startChange) := goodIn_app (goodIn_of _ (by decide +kernel)) ggX5_waitCool_X5_startChange
set_option maxRecDepth 20000 in
theorem ggX5_waitCool_X5_keptShots : GoodIn wsX5_waitCool wsX5_keptShots := goodIn_r _ [45, 1, 10, 11, 12, 13, 55, 56, 57, 58, 59, 60, 61, 62, 63, 64, 65, 66, 67, 68, 69, 70, 71, 72, 73] (by decide +kernel) (by decide +kernel)
set_option maxRecDepth 20000 in
theorem gX5_waitCool_X5_keptShots : GoodIn wsX5_waitCool (wsV RX5 182 RX5 yX5_keptShots wsX5_keptShots) := goodIn_app (goodIn_of _ (by decide +kernel)) ggX5_waitCool_X5_keptShots
set_option maxRecDepth 20000 in
theorem ggX5_waitCool_X5_keptShot : GoodIn wsX5_waitCool wsX5_keptShot := goodIn_r _ [49, 50, 1, 42, 43, 44, 5, 45, 10, 11, 12, 13, 51, 52, 53, 54, 55, 56, 57, 58, 59, 60, 61, 62, 63, 64, 65, 66, 67, 68, 69, 70, 71, 72, 73] (by decide +kernel) (by decide +kernel)
set_option maxRecDepth 20000 in
theorem gX5_waitCool_X5_keptShot : GoodIn wsX5_waitCool (wsV RX5 185 RX5 yX5_keptShot wsX5_keptShot) := goodIn_app (goodIn_of _ (by decide +kernel)) ggX5_waitCool_X5_keptShot
set_option maxRecDepth 20000 in
theorem ggX5_startChange_X3_copyFrom : GoodIn wsX5_startChange wsX3_copyFrom := goodIn_r _ [12, 13, 14, 15, 16, 17, 18, 19, 20, 21, 22, 23, 24, 25, 26, 27, 28, 29, 30, 31, 32, 33, 34, 35, 36, 46, 47, 48, 49, 50, 51, 52, 53, 54, 55, 56, 57, 58, 59, 60] (by decide +kernel) (by decide +kernel)
set_option maxRecDepth 20000 in
theorem gX5_startChange_X3_copyFrom_n192 : GoodIn wsX5_startChange (wsX3_copyFrom) := ggX5_startChange_X3_copyFrom
set_option maxRecDepth 20000 in
theorem ggX5_teach_X5_isShot : GoodIn wsX5_teach wsX5_isShot := goodIn_r _ [7, 8, 9, 10, 6, 11, 2, 12, 13, 14, 15, 72, 73, 74, 75, 76, 77, 78, 79, 80, 81, 82, 83, 84, 85, 86, 87, 88, 89, 90] (by decide +kernel) (by decide +kernel)
set_option maxRecDepth 20000 in
theorem gX5_teach_X5_isShot : GoodIn wsX5_teach (wsV RX5 201 RX5 yX5_isShot wsX5_isShot) := goodIn_app (goodIn_of _ (by decide +kernel)) ggX5_teach_X5_isShot
set_option maxRecDepth 20000 in
theorem ggX5_teach_X5_keptShot : GoodIn wsX5_teach wsX5_keptShot := goodIn_r _ [19, 20, 2, 8, 9, 10, 6, 11, 12, 13, 14, 15, 21, 22, 23, 24, 72, 73, 74, 75, 76, 77, 78, 79, 80, 81, 82, 83, 84, 85, 86, 87, 88, 89, 90] (by decide +kernel) (by decide +kernel)
set_option maxRecDepth 20000 in
theorem gX5_teach_X5_keptShot : GoodIn wsX5_teach (wsV RX5 185 RX5 yX5_keptShot wsX5_keptShot) := goodIn_app (goodIn_of _ (by decide +kernel)) ggX5_teach_X5_keptShot
set_option maxRecDepth 20000 in
theorem ggX5_teach_X2_isShort : GoodIn wsX5_teach wsX2_isShort := goodIn_r _ [28, 29, 96, 97, 98, 99, 100, 101, 102, 103, 104, 105, 106, 107, 108, 109, 110, 111, 112, 113, 114] (by decide +kernel) (by decide +kernel)
set_option maxRecDepth 20000 in
theorem gX5_teach_X2_isShort_n204 : GoodIn wsX5_teach (wsX2_isShort) := ggX5_teach_X2_isShort
set_option maxRecDepth 20000 in
theorem ggX5_teach_X5_startChange : GoodIn wsX5_teach wsX5_startChange := goodIn_r _ [33, 34, 35, 2, 36, 12, 13, 14, 15, 37, 38, 39, 40, 41, 42, 43, 44, 45, 46, 47, 48, 49, 50, 51, 52, 53, 54, 55, 56, 57, 58, 59, 60, 61, 62, 63, 64, 72, 73, 74, 75, 76, 77, 78, 79, 80, 81, 82, 83, 84, 85, 86, 87, 88, 89, 90, 91, 92, 93, 94, 95] (by decide +kernel) (by decide +kernel)
set_option maxRecDepth 20000 in
theorem gX5_teach_X5_startChange : GoodIn wsX5_teach (wsV RX5 107 RX5 yX5_startChange wsX5_startChange) := goodIn_app (goodIn_of _ (by decide +kernel)) ggX5_teach_X5_startChange
set_option maxRecDepth 20000 in
theorem ggX5_teach_X0_learn : GoodIn wsX5_teach wsX0_learn := goodIn_r _ [67, 59, 62, 68, 13, 14, 15, 64, 69, 70, 71, 60, 61, 91, 92, 93, 94, 95, 106, 107, 108, 109, 110, 111, 112, 113, 114] (by decide +kernel) (by decide +kernel)
set_option maxRecDepth 20000 in
theorem gX5_teach_X0_learn_n212 : GoodIn wsX5_teach (wsX0_learn) := ggX5_teach_X0_learn
set_option maxRecDepth 20000 in
theorem ggX5_forget_X5_startChange : GoodIn wsX5_forget wsX5_startChange := goodIn_r _ [6, 7, 8, 1, 9, 10, 11, 12, 13, 14, 15, 16, 17, 18, 19, 20, 21, 22, 23, 24, 25, 26, 27, 28, 29, 30, 31, 32, 33, 34, 35, 36, 37, 38, 39, 40, 41, 45, 46, 47, 48, 49, 50, 51, 52, 53, 54, 55, 56, 57, 58, 59, 60, 61, 62, 63, 64, 65, 66, 67, 68] (by decide +kernel) (by decide +kernel)
set_option maxRecDepth 20000 in
theorem gX5_forget_X5_startChange : GoodIn wsX5_forget (wsV RX5 107 RX5 yX5_startChange wsX5_startChange) := goodIn_app (goodIn_of _ (by decide +kernel)) ggX5_forget_X5_startChange
set_option maxRecDepth 20000 in
theorem ggX5_forget_X0_clear : GoodIn wsX5_forget wsX0_clear := goodIn_r _ [44, 36, 37, 38, 64, 65, 66, 67, 68] (by decide +kernel) (by decide +kernel)
set_option maxRecDepth 20000 in
theorem gX5_forget_X0_clear_n221 : GoodIn wsX5_forget (wsX0_clear) := ggX5_forget_X0_clear
set_option maxRecDepth 20000 in
theorem ggX5_wide_X5_startChange : GoodIn wsX5_wide wsX5_startChange := goodIn_r _ [6, 7, 8, 1, 9, 10, 11, 12, 13, 14, 15, 16, 17, 18, 19, 20, 21, 22, 23, 24, 25, 26, 27, 28, 29, 30, 31, 32, 33, 34, 35, 36, 37, 38, 39, 40, 41, 42, 43, 44, 45, 46, 47, 48, 49, 50, 51, 52, 53, 54, 55, 56, 57, 58, 59, 60, 61, 62, 63, 64, 65] (by decide +kernel) (by decide +kernel)
set_option maxRecDepth 20000 in
theorem gX5_wide_X5_startChange : GoodIn wsX5_wide (wsV RX5 107 RX5 yX5_startChange wsX5_startChange) := goodIn_app (goodIn_of _ (by decide +kernel)) ggX5_wide_X5_startChange
set_option maxRecDepth 20000 in
theorem ggX5_band_X5_isTick : GoodIn wsX5_band wsX5_isTick := goodIn_r _ [5] (by decide +kernel) (by decide +kernel)
set_option maxRecDepth 20000 in
theorem gX5_band_X5_isTick : GoodIn wsX5_band (va_wsS RX5 225 yX5_isTick wsX5_isTick) := goodIn_app (goodIn_of _ (by decide +kernel)) ggX5_band_X5_isTick
set_option maxRecDepth 20000 in
theorem ggX5_band_X5_isFlag : GoodIn wsX5_band wsX5_isFlag := goodIn_r _ [8] (by decide +kernel) (by decide +kernel)
set_option maxRecDepth 20000 in
theorem gX5_band_X5_isFlag : GoodIn wsX5_band (va_wsS RX5 94 yX5_isFlag wsX5_isFlag) := goodIn_app (goodIn_of _ (by decide +kernel)) ggX5_band_X5_isFlag
set_option maxRecDepth 20000 in
theorem ggX5_shot_X5_isShot : GoodIn wsX5_shot wsX5_isShot := goodIn_r _ [6, 7, 8, 9, 5, 10, 1, 11, 12, 13, 14, 76, 77, 78, 79, 80, 81, 82, 83, 84, 85, 86, 87, 88, 89, 90, 91, 92, 93, 94] (by decide +kernel) (by decide +kernel)
set_option maxRecDepth 20000 in
theorem gX5_shot_X5_isShot : GoodIn wsX5_shot (wsV RX5 201 RX5 yX5_isShot wsX5_isShot) := goodIn_app (goodIn_of _ (by decide +kernel)) ggX5_shot_X5_isShot
set_option maxRecDepth 20000 in
theorem ggX5_shot_X5_keptShot : GoodIn wsX5_shot wsX5_keptShot := goodIn_r _ [18, 19, 1, 7, 8, 9, 5, 10, 11, 12, 13, 14, 20, 21, 22, 23, 76, 77, 78, 79, 80, 81, 82, 83, 84, 85, 86, 87, 88, 89, 90, 91, 92, 93, 94] (by decide +kernel) (by decide +kernel)
set_option maxRecDepth 20000 in
theorem gX5_shot_X5_keptShot : GoodIn wsX5_shot (wsV RX5 185 RX5 yX5_keptShot wsX5_keptShot) := goodIn_app (goodIn_of _ (by decide +kernel)) ggX5_shot_X5_keptShot
set_option maxRecDepth 20000 in
theorem ggX5_shot_X0_amissIn : GoodIn wsX5_shot wsX0_amissIn := goodIn_r _ [27, 28, 29, 100, 101, 102, 103, 104, 105, 106, 107, 108, 95, 96, 97, 98, 99] (by decide +kernel) (by decide +kernel)
set_option maxRecDepth 20000 in
theorem gX5_shot_X0_amissIn_n237 : GoodIn wsX5_shot (wsX0_amissIn) := ggX5_shot_X0_amissIn
set_option maxRecDepth 20000 in
theorem ggX5_shot_X5_isBad : GoodIn wsX5_shot wsX5_isBad := goodIn_r _ [33, 34, 1, 35, 36, 37, 38, 39, 40, 41, 13, 42, 43, 25, 44, 45, 46, 47, 48, 49, 24, 26, 27, 28, 29, 76, 77, 78, 79, 80, 81, 82, 83, 84, 85, 86, 87, 88, 89, 90, 91, 92, 93, 94, 109, 110, 111, 112, 113, 114, 115, 116, 117, 118, 100, 101, 102, 103, 104, 105, 106, 107, 108, 95, 96, 97, 98, 99] (by decide +kernel) (by decide +kernel)
set_option maxRecDepth 20000 in
theorem gX5_shot_X5_isBad : GoodIn wsX5_shot (wsV RX5 241 RX5 yX5_isBad wsX5_isBad) := goodIn_app (goodIn_of _ (by decide +kernel)) ggX5_shot_X5_isBad
set_option maxRecDepth 20000 in
theorem ggX5_shot_X2_told : GoodIn wsX5_shot wsX2_told := goodIn_r _ [52, 53, 54, 55, 56, 57, 58, 59, 36, 60, 61, 62, 12, 13, 14, 63, 64, 65, 66, 67, 68, 69, 70, 71, 72, 73, 74, 75, 100, 101, 102, 103, 104, 105, 106, 107, 108] (by decide +kernel) (by decide +kernel)
set_option maxRecDepth 20000 in
theorem gX5_shot_X2_told_n245 : GoodIn wsX5_shot (wsX2_told) := ggX5_shot_X2_told
set_option maxRecDepth 20000 in
theorem ggX5_isBad_X2_isFarOff : GoodIn wsX5_isBad wsX2_isFarOff := goodIn_r _ [6, 7, 8, 9, 10, 11, 44, 45, 46, 47, 48, 49, 50, 51, 52, 53, 54, 55, 56, 57, 58, 59, 60, 61, 62] (by decide +kernel) (by decide +kernel)
set_option maxRecDepth 20000 in
theorem gX5_isBad_X2_isFarOff_n248 : GoodIn wsX5_isBad (wsX2_isFarOff) := ggX5_isBad_X2_isFarOff
set_option maxRecDepth 20000 in
theorem ggX5_isBad_X0_rejects : GoodIn wsX5_isBad wsX0_rejects := goodIn_r _ [15, 16, 17, 18, 19, 20, 21, 13, 22, 23, 24, 63, 64, 65, 66, 67, 54, 55, 56, 57, 58, 59, 60, 61, 62] (by decide +kernel) (by decide +kernel)
set_option maxRecDepth 20000 in
theorem gX5_isBad_X0_rejects_n251 : GoodIn wsX5_isBad (wsX0_rejects) := ggX5_isBad_X0_rejects
set_option maxRecDepth 20000 in
theorem ggX5_curve_X5_isShot : GoodIn wsX5_curve wsX5_isShot := goodIn_r _ [5, 6, 7, 8, 4, 9, 10, 11, 12, 13, 14, 36, 37, 38, 39, 40, 41, 42, 43, 44, 45, 46, 47, 48, 49, 50, 51, 52, 53, 54] (by decide +kernel) (by decide +kernel)
set_option maxRecDepth 20000 in
theorem gX5_curve_X5_isShot : GoodIn wsX5_curve (wsV RX5 201 RX5 yX5_isShot wsX5_isShot) := goodIn_app (goodIn_of _ (by decide +kernel)) ggX5_curve_X5_isShot
set_option maxRecDepth 20000 in
theorem ggX5_curve_X5_isTick : GoodIn wsX5_curve wsX5_isTick := goodIn_r _ [17] (by decide +kernel) (by decide +kernel)
set_option maxRecDepth 20000 in
theorem gX5_curve_X5_isTick : GoodIn wsX5_curve (va_wsS RX5 225 yX5_isTick wsX5_isTick) := goodIn_app (goodIn_of _ (by decide +kernel)) ggX5_curve_X5_isTick
set_option maxRecDepth 20000 in
theorem ggX5_curve_X5_keptShot : GoodIn wsX5_curve wsX5_keptShot := goodIn_r _ [21, 22, 10, 6, 7, 8, 4, 9, 11, 12, 13, 14, 23, 24, 25, 26, 36, 37, 38, 39, 40, 41, 42, 43, 44, 45, 46, 47, 48, 49, 50, 51, 52, 53, 54] (by decide +kernel) (by decide +kernel)
set_option maxRecDepth 20000 in
theorem gX5_curve_X5_keptShot : GoodIn wsX5_curve (wsV RX5 185 RX5 yX5_keptShot wsX5_keptShot) := goodIn_app (goodIn_of _ (by decide +kernel)) ggX5_curve_X5_keptShot
set_option maxRecDepth 20000 in
theorem ggX5_cavity_X5_isCavity : GoodIn wsX5_cavity wsX5_isCavity := goodIn_r _ [7, 1, 8, 9, 10, 11, 12, 13, 14, 15, 16, 17, 18, 19, 20, 21, 22, 23, 24, 25, 26] (by decide +kernel) (by decide +kernel)
set_option maxRecDepth 20000 in
theorem gX5_cavity_X5_isCavity : GoodIn wsX5_cavity (wsV RX5 148 RX5 yX5_isCavity wsX5_isCavity) := goodIn_app (goodIn_of _ (by decide +kernel)) ggX5_cavity_X5_isCavity
set_option maxRecDepth 20000 in
theorem ggX5_filled_X5_isShot : GoodIn wsX5_filled wsX5_isShot := goodIn_r _ [10, 11, 12, 13, 9, 14, 15, 16, 17, 4, 18, 41, 42, 43, 44, 45, 46, 47, 48, 49, 60, 61, 62, 63, 64, 65, 66, 67, 68, 69] (by decide +kernel) (by decide +kernel)
set_option maxRecDepth 20000 in
theorem gX5_filled_X5_isShot : GoodIn wsX5_filled (wsV RX5 201 RX5 yX5_isShot wsX5_isShot) := goodIn_app (goodIn_of _ (by decide +kernel)) ggX5_filled_X5_isShot
set_option maxRecDepth 20000 in
theorem ggX5_filled_X5_isCavity : GoodIn wsX5_filled wsX5_isCavity := goodIn_r _ [22, 1, 41, 42, 43, 44, 45, 46, 47, 48, 49, 50, 51, 52, 53, 54, 55, 56, 57, 58, 59] (by decide +kernel) (by decide +kernel)
set_option maxRecDepth 20000 in
theorem gX5_filled_X5_isCavity : GoodIn wsX5_filled (wsV RX5 148 RX5 yX5_isCavity wsX5_isCavity) := goodIn_app (goodIn_of _ (by decide +kernel)) ggX5_filled_X5_isCavity
set_option maxRecDepth 20000 in
theorem ggX5_filled_X5_keptShot : GoodIn wsX5_filled wsX5_keptShot := goodIn_r _ [26, 27, 15, 11, 12, 13, 9, 14, 16, 17, 4, 18, 28, 29, 30, 31, 41, 42, 43, 44, 45, 46, 47, 48, 49, 60, 61, 62, 63, 64, 65, 66, 67, 68, 69] (by decide +kernel) (by decide +kernel)
set_option maxRecDepth 20000 in
theorem gX5_filled_X5_keptShot : GoodIn wsX5_filled (wsV RX5 185 RX5 yX5_keptShot wsX5_keptShot) := goodIn_app (goodIn_of _ (by decide +kernel)) ggX5_filled_X5_keptShot
set_option maxRecDepth 20000 in
theorem ggX5_tried_X2_make : GoodIn wsX5_tried wsX2_make := goodIn_r _ [7, 8, 9, 10, 11, 5, 12, 13, 14, 15, 16, 17, 18, 19, 20, 21, 22, 23, 24, 25, 26, 27, 28, 29, 30, 31, 32, 33, 34, 35, 36, 37, 38, 39, 40, 41, 42, 43, 44, 45, 46, 47, 48, 49, 50, 51, 52, 53, 54, 55, 56, 57, 58, 59, 84, 85, 86, 87, 88, 89, 90, 91, 92, 93, 94, 95, 96, 97, 98, 99, 100, 101, 102, 103, 104, 105, 106, 107, 108, 109, 110, 111, 112] (by decide +kernel) (by decide +kernel)
set_option maxRecDepth 20000 in
theorem gX5_tried_X2_make_n175 : GoodIn wsX5_tried (wsX2_make) := ggX5_tried_X2_make
set_option maxRecDepth 20000 in
theorem ggX5_tried_X2_told : GoodIn wsX5_tried wsX2_told := goodIn_r _ [62, 31, 18, 19, 17, 63, 64, 65, 5, 66, 15, 24, 25, 26, 27, 28, 29, 30, 67, 68, 69, 70, 8, 71, 72, 73, 74, 16, 94, 95, 96, 97, 98, 99, 100, 101, 102] (by decide +kernel) (by decide +kernel)
set_option maxRecDepth 20000 in
theorem gX5_tried_X2_told_n245 : GoodIn wsX5_tried (wsX2_told) := ggX5_tried_X2_told
set_option maxRecDepth 20000 in
theorem ggX5_even_X5_isFlag : GoodIn wsX5_even wsX5_isFlag := goodIn_r _ [4] (by decide +kernel) (by decide +kernel)
set_option maxRecDepth 20000 in
theorem gX5_even_X5_isFlag : GoodIn wsX5_even (va_wsS RX5 94 yX5_isFlag wsX5_isFlag) := goodIn_app (goodIn_of _ (by decide +kernel)) ggX5_even_X5_isFlag
set_option maxRecDepth 20000 in
theorem ggX5_even_X5_balanceWith : GoodIn wsX5_even wsX5_balanceWith := goodIn_r _ [8, 9, 10, 11, 12, 13, 14, 15, 16, 17, 18, 19, 20, 21, 22, 23, 24, 25, 26, 27, 28, 29, 30, 31, 32, 33, 34, 35, 36, 37, 38, 39, 40, 41, 42, 43, 44, 45, 46, 47, 48, 49, 50, 51, 52, 53, 54, 55, 56, 57, 58, 59, 60, 61, 62, 63, 64, 65, 66, 67, 68, 69, 70, 71, 72, 73, 74, 75, 76, 77, 78, 79, 80, 81, 82, 83, 84, 85, 86, 87, 88, 89, 90, 91, 92, 93, 94, 95, 96, 97, 98, 99, 100, 101, 102, 103, 104, 105, 106, 107, 108] (by decide +kernel) (by decide +kernel)
set_option maxRecDepth 20000 in
theorem gX5_even_X5_balanceWith : GoodIn wsX5_even (wsV RX5 279 RX5 yX5_balanceWith wsX5_balanceWith) := goodIn_app (goodIn_of _ (by decide +kernel)) ggX5_even_X5_balanceWith
set_option maxRecDepth 20000 in
theorem ggX5_balanceWith_X2_make : GoodIn wsX5_balanceWith wsX2_make := goodIn_r _ [7, 8, 9, 10, 11, 5, 12, 13, 14, 15, 16, 17, 18, 19, 20, 21, 22, 23, 24, 25, 26, 27, 28, 29, 30, 31, 32, 33, 34, 35, 36, 37, 38, 39, 40, 41, 42, 43, 44, 45, 46, 47, 48, 49, 50, 51, 52, 53, 54, 55, 56, 57, 58, 59, 72, 73, 74, 75, 76, 77, 78, 79, 80, 81, 82, 83, 84, 85, 86, 87, 88, 89, 90, 91, 92, 93, 94, 95, 96, 97, 98, 99, 100] (by decide +kernel) (by decide +kernel)
set_option maxRecDepth 20000 in
theorem gX5_balanceWith_X2_make_n175 : GoodIn wsX5_balanceWith (wsX2_make) := ggX5_balanceWith_X2_make
set_option maxRecDepth 20000 in
theorem ggX5_balanceWith_X2_balance : GoodIn wsX5_balanceWith wsX2_balance := goodIn_r _ [62, 15, 24, 25, 26, 27, 28, 29, 30, 82, 83, 84, 85, 86, 87, 88, 89, 90] (by decide +kernel) (by decide +kernel)
set_option maxRecDepth 20000 in
theorem gX5_balanceWith_X2_balance_n282 : GoodIn wsX5_balanceWith (wsX2_balance) := ggX5_balanceWith_X2_balance
set_option maxRecDepth 20000 in
theorem ggX5_earlier_X5_isCore : GoodIn wsX5_earlier wsX5_isCore := goodIn_r _ [6, 1, 7, 8, 9, 10, 11, 12, 13, 14, 15, 16, 17, 18, 19, 20, 21, 22, 23, 24, 25] (by decide +kernel) (by decide +kernel)
set_option maxRecDepth 20000 in
theorem gX5_earlier_X5_isCore : GoodIn wsX5_earlier (wsV RX5 119 RX5 yX5_isCore wsX5_isCore) := goodIn_app (goodIn_of _ (by decide +kernel)) ggX5_earlier_X5_isCore
set_option maxRecDepth 20000 in
theorem ggX5_order_X1_coreInTurn : GoodIn wsX5_order wsX1_coreInTurn := goodIn_r _ [5, 6, 7, 8, 9, 3, 10, 11, 21, 22, 23, 24, 25, 26, 27, 28, 29, 30] (by decide +kernel) (by decide +kernel)
set_option maxRecDepth 20000 in
theorem gX5_order_X1_coreInTurn_n285 : GoodIn wsX5_order (wsX1_coreInTurn) := ggX5_order_X1_coreInTurn
set_option maxRecDepth 20000 in
theorem ggX5_count_J6_bitCount_0f7a4 : GoodIn wsX5_count wsJ6_bitCount_0f7a4 := goodIn_r _ [8, 9, 10, 11] (by decide +kernel) (by decide +kernel)
set_option maxRecDepth 20000 in
theorem gX5_count_J6_bitCount_0f7a4 : GoodIn wsX5_count (va_wsS RX5 126 yJ6_bitCount_0f7a4 wsJ6_bitCount_0f7a4) := goodIn_app (goodIn_of _ (by decide +kernel)) ggX5_count_J6_bitCount_0f7a4
set_option maxRecDepth 20000 in
theorem ggX5_count_X5_keptShots : GoodIn wsX5_count wsX5_keptShots := goodIn_r _ [16, 2, 17, 18, 19, 20, 63, 64, 65, 66, 67, 68, 69, 70, 71, 82, 83, 84, 85, 86, 87, 88, 89, 90, 91] (by decide +kernel) (by decide +kernel)
set_option maxRecDepth 20000 in
theorem gX5_count_X5_keptShots : GoodIn wsX5_count (wsV RX5 182 RX5 yX5_keptShots wsX5_keptShots) := goodIn_app (goodIn_of _ (by decide +kernel)) ggX5_count_X5_keptShots
set_option maxRecDepth 20000 in
theorem ggX5_count_X5_badShots : GoodIn wsX5_count wsX5_badShots := goodIn_r _ [24, 12, 13, 14, 15, 16, 2, 17, 18, 19, 20, 25, 26, 27, 28, 29, 30, 31, 32, 33, 34, 35, 36, 37, 1, 38, 39, 40, 41, 42, 43, 44, 45, 46, 47, 48, 49, 50, 51, 52, 53, 54, 55, 56, 57, 58, 63, 64, 65, 66, 67, 68, 69, 70, 71, 82, 83, 84, 85, 86, 87, 88, 89, 90, 91, 72, 73, 74, 75, 76, 77, 78, 79, 80, 81, 100, 101, 102, 103, 104, 105, 106, 107, 108, 92, 93, 94, 95, 96] (by decide +kernel) (by decide +kernel)
set_option maxRecDepth 20000 in
theorem gX5_count_X5_badShots : GoodIn wsX5_count (wsV RX5 288 RX5 yX5_badShots wsX5_badShots) := goodIn_app (goodIn_of _ (by decide +kernel)) ggX5_count_X5_badShots
set_option maxRecDepth 20000 in
theorem ggX5_count_X5_isReady : GoodIn wsX5_count wsX5_isReady := goodIn_r _ [62, 2, 1, 5, 6, 7, 8, 9, 10, 11, 63, 64, 65, 66, 67, 68, 69, 70, 71, 82, 83, 84, 85, 86, 87, 88, 89, 90, 91, 72, 73, 74, 75, 76, 77, 78, 79, 80, 81] (by decide +kernel) (by decide +kernel)
set_option maxRecDepth 20000 in
theorem gX5_count_X5_isReady : GoodIn wsX5_count (wsV RX5 169 RX5 yX5_isReady wsX5_isReady) := goodIn_app (goodIn_of _ (by decide +kernel)) ggX5_count_X5_isReady
set_option maxRecDepth 20000 in
theorem ggX5_badShots_X5_keptShots : GoodIn wsX5_badShots wsX5_keptShots := goodIn_r _ [5, 6, 7, 8, 9, 10, 46, 47, 48, 49, 50, 51, 52, 53, 54, 55, 56, 57, 58, 59, 60, 61, 62, 63, 64] (by decide +kernel) (by decide +kernel)
set_option maxRecDepth 20000 in
theorem gX5_badShots_X5_keptShots : GoodIn wsX5_badShots (wsV RX5 182 RX5 yX5_keptShots wsX5_keptShots) := goodIn_app (goodIn_of _ (by decide +kernel)) ggX5_badShots_X5_keptShots
set_option maxRecDepth 20000 in
theorem ggX5_badShots_X5_keptShot : GoodIn wsX5_badShots wsX5_keptShot := goodIn_r _ [14, 15, 6, 1, 2, 3, 4, 5, 7, 8, 9, 10, 16, 17, 18, 19, 46, 47, 48, 49, 50, 51, 52, 53, 54, 55, 56, 57, 58, 59, 60, 61, 62, 63, 64] (by decide +kernel) (by decide +kernel)
set_option maxRecDepth 20000 in
theorem gX5_badShots_X5_keptShot : GoodIn wsX5_badShots (wsV RX5 185 RX5 yX5_keptShot wsX5_keptShot) := goodIn_app (goodIn_of _ (by decide +kernel)) ggX5_badShots_X5_keptShot
set_option maxRecDepth 20000 in
theorem ggX5_badShots_X5_isBad : GoodIn wsX5_badShots wsX5_isBad := goodIn_r _ [23, 24, 6, 25, 26, 27, 28, 29, 30, 31, 9, 32, 33, 34, 35, 36, 37, 38, 39, 40, 41, 42, 43, 44, 45, 46, 47, 48, 49, 50, 51, 52, 53, 54, 55, 56, 57, 58, 59, 60, 61, 62, 63, 64, 65, 66, 67, 68, 69, 70, 71, 72, 73, 74, 75, 76, 77, 78, 79, 80, 81, 82, 83, 84, 85, 86, 87, 88] (by decide +kernel) (by decide +kernel)
set_option maxRecDepth 20000 in
theorem gX5_badShots_X5_isBad : GoodIn wsX5_badShots (wsV RX5 241 RX5 yX5_isBad wsX5_isBad) := goodIn_app (goodIn_of _ (by decide +kernel)) ggX5_badShots_X5_isBad
