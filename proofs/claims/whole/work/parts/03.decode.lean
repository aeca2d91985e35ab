/-- rows of a method's code, decided together -/
theorem dec_row {b : ByteArray} {t : List (Nat × Instr × Nat)} (h : t.all (fun q => decide (decode b q.1 = .ok q.2)) = true) (k : Nat) {pc : Nat} {i : Instr × Nat} (hk : t[k]? = some (pc, i)) : decode b pc = .ok i := by
  have h1 := List.all_eq_true.mp h (pc, i) (List.mem_of_getElem? hk)
  have h2 : decide (decode b pc = .ok i) = true := h1
  exact of_decide_eq_true h2
def tX0_init : List (Nat × Instr × Nat) := [(0, .aload_n 0, 1), (1, .invokespecial 3, 3), (4, .aload_n 0, 1), (5, .iconst 0, 1), (6, .putfield 9, 3), (9, .aload_n 0, 1), (10, .iconst 0, 1), (11, .putfield 15, 3), (14, .aload_n 0, 1), (15, .iconst 0, 1), (16, .putfield 18, 3), (19, .aload_n 0, 1), (20, .bipush 60, 2), (22, .newarray .int, 2), (24, .putfield 21, 3), (27, .aload_n 0, 1), (28, .bipush 60, 2), (30, .newarray .int, 2), (32, .putfield 25, 3), (35, .return_, 1)]
theorem aX0_init : tX0_init.all (fun q => decide (decode cX0_init q.1 = .ok q.2)) = true := by decide +kernel
theorem dX0_init_0 : decode cX0_init 0 = .ok (.aload_n 0, 1) := dec_row aX0_init 0 rfl
theorem dX0_init_1 : decode cX0_init 1 = .ok (.invokespecial 3, 3) := dec_row aX0_init 1 rfl
theorem dX0_init_4 : decode cX0_init 4 = .ok (.aload_n 0, 1) := dec_row aX0_init 2 rfl
theorem dX0_init_5 : decode cX0_init 5 = .ok (.iconst 0, 1) := dec_row aX0_init 3 rfl
theorem dX0_init_6 : decode cX0_init 6 = .ok (.putfield 9, 3) := dec_row aX0_init 4 rfl
theorem dX0_init_9 : decode cX0_init 9 = .ok (.aload_n 0, 1) := dec_row aX0_init 5 rfl
theorem dX0_init_10 : decode cX0_init 10 = .ok (.iconst 0, 1) := dec_row aX0_init 6 rfl
theorem dX0_init_11 : decode cX0_init 11 = .ok (.putfield 15, 3) := dec_row aX0_init 7 rfl
theorem dX0_init_14 : decode cX0_init 14 = .ok (.aload_n 0, 1) := dec_row aX0_init 8 rfl
theorem dX0_init_15 : decode cX0_init 15 = .ok (.iconst 0, 1) := dec_row aX0_init 9 rfl
theorem dX0_init_16 : decode cX0_init 16 = .ok (.putfield 18, 3) := dec_row aX0_init 10 rfl
theorem dX0_init_19 : decode cX0_init 19 = .ok (.aload_n 0, 1) := dec_row aX0_init 11 rfl
theorem dX0_init_20 : decode cX0_init 20 = .ok (.bipush 60, 2) := dec_row aX0_init 12 rfl
theorem dX0_init_22 : decode cX0_init 22 = .ok (.newarray .int, 2) := dec_row aX0_init 13 rfl
theorem dX0_init_24 : decode cX0_init 24 = .ok (.putfield 21, 3) := dec_row aX0_init 14 rfl
theorem dX0_init_27 : decode cX0_init 27 = .ok (.aload_n 0, 1) := dec_row aX0_init 15 rfl
theorem dX0_init_28 : decode cX0_init 28 = .ok (.bipush 60, 2) := dec_row aX0_init 16 rfl
theorem dX0_init_30 : decode cX0_init 30 = .ok (.newarray .int, 2) := dec_row aX0_init 17 rfl
theorem dX0_init_32 : decode cX0_init 32 = .ok (.putfield 25, 3) := dec_row aX0_init 18 rfl
theorem dX0_init_35 : decode cX0_init 35 = .ok (.return_, 1) := dec_row aX0_init 19 rfl
def tX0_clear : List (Nat × Instr × Nat) := [(0, .aload_n 0, 1), (1, .iconst 0, 1), (2, .putfield 9, 3), (5, .aload_n 0, 1), (6, .iconst 0, 1), (7, .putfield 15, 3), (10, .aload_n 0, 1), (11, .iconst 0, 1), (12, .putfield 18, 3), (15, .return_, 1)]
theorem aX0_clear : tX0_clear.all (fun q => decide (decode cX0_clear q.1 = .ok q.2)) = true := by decide +kernel
theorem dX0_clear_0 : decode cX0_clear 0 = .ok (.aload_n 0, 1) := dec_row aX0_clear 0 rfl
theorem dX0_clear_1 : decode cX0_clear 1 = .ok (.iconst 0, 1) := dec_row aX0_clear 1 rfl
theorem dX0_clear_2 : decode cX0_clear 2 = .ok (.putfield 9, 3) := dec_row aX0_clear 2 rfl
theorem dX0_clear_5 : decode cX0_clear 5 = .ok (.aload_n 0, 1) := dec_row aX0_clear 3 rfl
theorem dX0_clear_6 : decode cX0_clear 6 = .ok (.iconst 0, 1) := dec_row aX0_clear 4 rfl
theorem dX0_clear_7 : decode cX0_clear 7 = .ok (.putfield 15, 3) := dec_row aX0_clear 5 rfl
theorem dX0_clear_10 : decode cX0_clear 10 = .ok (.aload_n 0, 1) := dec_row aX0_clear 6 rfl
theorem dX0_clear_11 : decode cX0_clear 11 = .ok (.iconst 0, 1) := dec_row aX0_clear 7 rfl
theorem dX0_clear_12 : decode cX0_clear 12 = .ok (.putfield 18, 3) := dec_row aX0_clear 8 rfl
theorem dX0_clear_15 : decode cX0_clear 15 = .ok (.return_, 1) := dec_row aX0_clear 9 rfl
def tX0_copyFrom : List (Nat × Instr × Nat) := [(0, .aload_n 0, 1), (1, .aload_n 1, 1), (2, .getfield 9, 3), (5, .putfield 9, 3), (8, .aload_n 0, 1), (9, .aload_n 1, 1), (10, .getfield 15, 3), (13, .putfield 15, 3), (16, .aload_n 0, 1), (17, .aload_n 1, 1), (18, .getfield 18, 3), (21, .putfield 18, 3), (24, .aload_n 1, 1), (25, .getfield 21, 3), (28, .iconst 0, 1), (29, .aload_n 0, 1), (30, .getfield 21, 3), (33, .iconst 0, 1), (34, .bipush 60, 2), (36, .invokestatic 28, 3), (39, .aload_n 1, 1), (40, .getfield 25, 3), (43, .iconst 0, 1), (44, .aload_n 0, 1), (45, .getfield 25, 3), (48, .iconst 0, 1), (49, .bipush 60, 2), (51, .invokestatic 28, 3), (54, .return_, 1)]
theorem aX0_copyFrom : tX0_copyFrom.all (fun q => decide (decode cX0_copyFrom q.1 = .ok q.2)) = true := by decide +kernel
theorem dX0_copyFrom_0 : decode cX0_copyFrom 0 = .ok (.aload_n 0, 1) := dec_row aX0_copyFrom 0 rfl
theorem dX0_copyFrom_1 : decode cX0_copyFrom 1 = .ok (.aload_n 1, 1) := dec_row aX0_copyFrom 1 rfl
theorem dX0_copyFrom_2 : decode cX0_copyFrom 2 = .ok (.getfield 9, 3) := dec_row aX0_copyFrom 2 rfl
theorem dX0_copyFrom_5 : decode cX0_copyFrom 5 = .ok (.putfield 9, 3) := dec_row aX0_copyFrom 3 rfl
theorem dX0_copyFrom_8 : decode cX0_copyFrom 8 = .ok (.aload_n 0, 1) := dec_row aX0_copyFrom 4 rfl
theorem dX0_copyFrom_9 : decode cX0_copyFrom 9 = .ok (.aload_n 1, 1) := dec_row aX0_copyFrom 5 rfl
theorem dX0_copyFrom_10 : decode cX0_copyFrom 10 = .ok (.getfield 15, 3) := dec_row aX0_copyFrom 6 rfl
theorem dX0_copyFrom_13 : decode cX0_copyFrom 13 = .ok (.putfield 15, 3) := dec_row aX0_copyFrom 7 rfl
theorem dX0_copyFrom_16 : decode cX0_copyFrom 16 = .ok (.aload_n 0, 1) := dec_row aX0_copyFrom 8 rfl
theorem dX0_copyFrom_17 : decode cX0_copyFrom 17 = .ok (.aload_n 1, 1) := dec_row aX0_copyFrom 9 rfl
theorem dX0_copyFrom_18 : decode cX0_copyFrom 18 = .ok (.getfield 18, 3) := dec_row aX0_copyFrom 10 rfl
theorem dX0_copyFrom_21 : decode cX0_copyFrom 21 = .ok (.putfield 18, 3) := dec_row aX0_copyFrom 11 rfl
theorem dX0_copyFrom_24 : decode cX0_copyFrom 24 = .ok (.aload_n 1, 1) := dec_row aX0_copyFrom 12 rfl
theorem dX0_copyFrom_25 : decode cX0_copyFrom 25 = .ok (.getfield 21, 3) := dec_row aX0_copyFrom 13 rfl
theorem dX0_copyFrom_28 : decode cX0_copyFrom 28 = .ok (.iconst 0, 1) := dec_row aX0_copyFrom 14 rfl
theorem dX0_copyFrom_29 : decode cX0_copyFrom 29 = .ok (.aload_n 0, 1) := dec_row aX0_copyFrom 15 rfl
theorem dX0_copyFrom_30 : decode cX0_copyFrom 30 = .ok (.getfield 21, 3) := dec_row aX0_copyFrom 16 rfl
theorem dX0_copyFrom_33 : decode cX0_copyFrom 33 = .ok (.iconst 0, 1) := dec_row aX0_copyFrom 17 rfl
theorem dX0_copyFrom_34 : decode cX0_copyFrom 34 = .ok (.bipush 60, 2) := dec_row aX0_copyFrom 18 rfl
theorem dX0_copyFrom_36 : decode cX0_copyFrom 36 = .ok (.invokestatic 28, 3) := dec_row aX0_copyFrom 19 rfl
theorem dX0_copyFrom_39 : decode cX0_copyFrom 39 = .ok (.aload_n 1, 1) := dec_row aX0_copyFrom 20 rfl
theorem dX0_copyFrom_40 : decode cX0_copyFrom 40 = .ok (.getfield 25, 3) := dec_row aX0_copyFrom 21 rfl
theorem dX0_copyFrom_43 : decode cX0_copyFrom 43 = .ok (.iconst 0, 1) := dec_row aX0_copyFrom 22 rfl
theorem dX0_copyFrom_44 : decode cX0_copyFrom 44 = .ok (.aload_n 0, 1) := dec_row aX0_copyFrom 23 rfl
theorem dX0_copyFrom_45 : decode cX0_copyFrom 45 = .ok (.getfield 25, 3) := dec_row aX0_copyFrom 24 rfl
theorem dX0_copyFrom_48 : decode cX0_copyFrom 48 = .ok (.iconst 0, 1) := dec_row aX0_copyFrom 25 rfl
theorem dX0_copyFrom_49 : decode cX0_copyFrom 49 = .ok (.bipush 60, 2) := dec_row aX0_copyFrom 26 rfl
theorem dX0_copyFrom_51 : decode cX0_copyFrom 51 = .ok (.invokestatic 28, 3) := dec_row aX0_copyFrom 27 rfl
theorem dX0_copyFrom_54 : decode cX0_copyFrom 54 = .ok (.return_, 1) := dec_row aX0_copyFrom 28 rfl
def tX0_learn_0 : List (Nat × Instr × Nat) := [(0, .aload_n 0, 1), (1, .getfield 9, 3), (4, .ifCond .ne 7, 3), (7, .iconst 1, 1), (8, .goto 4, 3), (11, .iconst 0, 1), (12, .istore_n 2, 1), (13, .iconst 0, 1), (14, .istore_n 3, 1), (15, .iload_n 3, 1), (16, .bipush 60, 2), (18, .if_icmp .ge 69, 3), (21, .aload_n 1, 1), (22, .getfield 34, 3), (25, .iload_n 3, 1), (26, .iaload, 1), (27, .istore 4, 2), (29, .aload_n 0, 1), (30, .getfield 21, 3), (33, .iload_n 3, 1), (34, .iload_n 2, 1), (35, .ifCond .eq 8, 3), (38, .iload 4, 2), (40, .goto 14, 3), (43, .aload_n 0, 1), (44, .getfield 21, 3), (47, .iload_n 3, 1), (48, .iaload, 1), (49, .iload 4, 2), (51, .invokestatic 39, 3), (54, .iastore, 1), (55, .aload_n 0, 1), (56, .getfield 25, 3), (59, .iload_n 3, 1), (60, .iload_n 2, 1), (61, .ifCond .eq 8, 3), (64, .iload 4, 2), (66, .goto 14, 3), (69, .aload_n 0, 1), (70, .getfield 25, 3), (73, .iload_n 3, 1), (74, .iaload, 1), (75, .iload 4, 2), (77, .invokestatic 45, 3), (80, .iastore, 1), (81, .iinc 3 1, 3), (84, .goto (-69), 3), (87, .aload_n 0, 1), (88, .iload_n 2, 1), (89, .ifCond .eq 10, 3)]
theorem aX0_learn_0 : tX0_learn_0.all (fun q => decide (decode cX0_learn q.1 = .ok q.2)) = true := by decide +kernel
theorem dX0_learn_0 : decode cX0_learn 0 = .ok (.aload_n 0, 1) := dec_row aX0_learn_0 0 rfl
theorem dX0_learn_1 : decode cX0_learn 1 = .ok (.getfield 9, 3) := dec_row aX0_learn_0 1 rfl
theorem dX0_learn_4 : decode cX0_learn 4 = .ok (.ifCond .ne 7, 3) := dec_row aX0_learn_0 2 rfl
theorem dX0_learn_7 : decode cX0_learn 7 = .ok (.iconst 1, 1) := dec_row aX0_learn_0 3 rfl
theorem dX0_learn_8 : decode cX0_learn 8 = .ok (.goto 4, 3) := dec_row aX0_learn_0 4 rfl
theorem dX0_learn_11 : decode cX0_learn 11 = .ok (.iconst 0, 1) := dec_row aX0_learn_0 5 rfl
theorem dX0_learn_12 : decode cX0_learn 12 = .ok (.istore_n 2, 1) := dec_row aX0_learn_0 6 rfl
theorem dX0_learn_13 : decode cX0_learn 13 = .ok (.iconst 0, 1) := dec_row aX0_learn_0 7 rfl
theorem dX0_learn_14 : decode cX0_learn 14 = .ok (.istore_n 3, 1) := dec_row aX0_learn_0 8 rfl
theorem dX0_learn_15 : decode cX0_learn 15 = .ok (.iload_n 3, 1) := dec_row aX0_learn_0 9 rfl
theorem dX0_learn_16 : decode cX0_learn 16 = .ok (.bipush 60, 2) := dec_row aX0_learn_0 10 rfl
theorem dX0_learn_18 : decode cX0_learn 18 = .ok (.if_icmp .ge 69, 3) := dec_row aX0_learn_0 11 rfl
theorem dX0_learn_21 : decode cX0_learn 21 = .ok (.aload_n 1, 1) := dec_row aX0_learn_0 12 rfl
theorem dX0_learn_22 : decode cX0_learn 22 = .ok (.getfield 34, 3) := dec_row aX0_learn_0 13 rfl
theorem dX0_learn_25 : decode cX0_learn 25 = .ok (.iload_n 3, 1) := dec_row aX0_learn_0 14 rfl
theorem dX0_learn_26 : decode cX0_learn 26 = .ok (.iaload, 1) := dec_row aX0_learn_0 15 rfl
theorem dX0_learn_27 : decode cX0_learn 27 = .ok (.istore 4, 2) := dec_row aX0_learn_0 16 rfl
theorem dX0_learn_29 : decode cX0_learn 29 = .ok (.aload_n 0, 1) := dec_row aX0_learn_0 17 rfl
theorem dX0_learn_30 : decode cX0_learn 30 = .ok (.getfield 21, 3) := dec_row aX0_learn_0 18 rfl
theorem dX0_learn_33 : decode cX0_learn 33 = .ok (.iload_n 3, 1) := dec_row aX0_learn_0 19 rfl
theorem dX0_learn_34 : decode cX0_learn 34 = .ok (.iload_n 2, 1) := dec_row aX0_learn_0 20 rfl
theorem dX0_learn_35 : decode cX0_learn 35 = .ok (.ifCond .eq 8, 3) := dec_row aX0_learn_0 21 rfl
theorem dX0_learn_38 : decode cX0_learn 38 = .ok (.iload 4, 2) := dec_row aX0_learn_0 22 rfl
theorem dX0_learn_40 : decode cX0_learn 40 = .ok (.goto 14, 3) := dec_row aX0_learn_0 23 rfl
theorem dX0_learn_43 : decode cX0_learn 43 = .ok (.aload_n 0, 1) := dec_row aX0_learn_0 24 rfl
theorem dX0_learn_44 : decode cX0_learn 44 = .ok (.getfield 21, 3) := dec_row aX0_learn_0 25 rfl
theorem dX0_learn_47 : decode cX0_learn 47 = .ok (.iload_n 3, 1) := dec_row aX0_learn_0 26 rfl
theorem dX0_learn_48 : decode cX0_learn 48 = .ok (.iaload, 1) := dec_row aX0_learn_0 27 rfl
theorem dX0_learn_49 : decode cX0_learn 49 = .ok (.iload 4, 2) := dec_row aX0_learn_0 28 rfl
theorem dX0_learn_51 : decode cX0_learn 51 = .ok (.invokestatic 39, 3) := dec_row aX0_learn_0 29 rfl
theorem dX0_learn_54 : decode cX0_learn 54 = .ok (.iastore, 1) := dec_row aX0_learn_0 30 rfl
theorem dX0_learn_55 : decode cX0_learn 55 = .ok (.aload_n 0, 1) := dec_row aX0_learn_0 31 rfl
theorem dX0_learn_56 : decode cX0_learn 56 = .ok (.getfield 25, 3) := dec_row aX0_learn_0 32 rfl
theorem dX0_learn_59 : decode cX0_learn 59 = .ok (.iload_n 3, 1) := dec_row aX0_learn_0 33 rfl
theorem dX0_learn_60 : decode cX0_learn 60 = .ok (.iload_n 2, 1) := dec_row aX0_learn_0 34 rfl
theorem dX0_learn_61 : decode cX0_learn 61 = .ok (.ifCond .eq 8, 3) := dec_row aX0_learn_0 35 rfl
theorem dX0_learn_64 : decode cX0_learn 64 = .ok (.iload 4, 2) := dec_row aX0_learn_0 36 rfl
theorem dX0_learn_66 : decode cX0_learn 66 = .ok (.goto 14, 3) := dec_row aX0_learn_0 37 rfl
theorem dX0_learn_69 : decode cX0_learn 69 = .ok (.aload_n 0, 1) := dec_row aX0_learn_0 38 rfl
theorem dX0_learn_70 : decode cX0_learn 70 = .ok (.getfield 25, 3) := dec_row aX0_learn_0 39 rfl
theorem dX0_learn_73 : decode cX0_learn 73 = .ok (.iload_n 3, 1) := dec_row aX0_learn_0 40 rfl
theorem dX0_learn_74 : decode cX0_learn 74 = .ok (.iaload, 1) := dec_row aX0_learn_0 41 rfl
theorem dX0_learn_75 : decode cX0_learn 75 = .ok (.iload 4, 2) := dec_row aX0_learn_0 42 rfl
theorem dX0_learn_77 : decode cX0_learn 77 = .ok (.invokestatic 45, 3) := dec_row aX0_learn_0 43 rfl
theorem dX0_learn_80 : decode cX0_learn 80 = .ok (.iastore, 1) := dec_row aX0_learn_0 44 rfl
theorem dX0_learn_81 : decode cX0_learn 81 = .ok (.iinc 3 1, 3) := dec_row aX0_learn_0 45 rfl
theorem dX0_learn_84 : decode cX0_learn 84 = .ok (.goto (-69), 3) := dec_row aX0_learn_0 46 rfl
theorem dX0_learn_87 : decode cX0_learn 87 = .ok (.aload_n 0, 1) := dec_row aX0_learn_0 47 rfl
theorem dX0_learn_88 : decode cX0_learn 88 = .ok (.iload_n 2, 1) := dec_row aX0_learn_0 48 rfl
theorem dX0_learn_89 : decode cX0_learn 89 = .ok (.ifCond .eq 10, 3) := dec_row aX0_learn_0 49 rfl
def tX0_learn_1 : List (Nat × Instr × Nat) := [(92, .aload_n 1, 1), (93, .getfield 48, 3), (96, .goto 14, 3), (99, .aload_n 0, 1), (100, .getfield 15, 3), (103, .aload_n 1, 1), (104, .getfield 48, 3), (107, .invokestatic 39, 3), (110, .putfield 15, 3), (113, .aload_n 0, 1), (114, .aload_n 0, 1), (115, .getfield 18, 3), (118, .aload_n 1, 1), (119, .getfield 48, 3), (122, .invokestatic 45, 3), (125, .putfield 18, 3), (128, .aload_n 0, 1), (129, .dup, 1), (130, .getfield 9, 3), (133, .iconst 1, 1), (134, .iadd, 1), (135, .putfield 9, 3), (138, .return_, 1)]
theorem aX0_learn_1 : tX0_learn_1.all (fun q => decide (decode cX0_learn q.1 = .ok q.2)) = true := by decide +kernel
theorem dX0_learn_92 : decode cX0_learn 92 = .ok (.aload_n 1, 1) := dec_row aX0_learn_1 0 rfl
theorem dX0_learn_93 : decode cX0_learn 93 = .ok (.getfield 48, 3) := dec_row aX0_learn_1 1 rfl
theorem dX0_learn_96 : decode cX0_learn 96 = .ok (.goto 14, 3) := dec_row aX0_learn_1 2 rfl
theorem dX0_learn_99 : decode cX0_learn 99 = .ok (.aload_n 0, 1) := dec_row aX0_learn_1 3 rfl
theorem dX0_learn_100 : decode cX0_learn 100 = .ok (.getfield 15, 3) := dec_row aX0_learn_1 4 rfl
theorem dX0_learn_103 : decode cX0_learn 103 = .ok (.aload_n 1, 1) := dec_row aX0_learn_1 5 rfl
theorem dX0_learn_104 : decode cX0_learn 104 = .ok (.getfield 48, 3) := dec_row aX0_learn_1 6 rfl
theorem dX0_learn_107 : decode cX0_learn 107 = .ok (.invokestatic 39, 3) := dec_row aX0_learn_1 7 rfl
theorem dX0_learn_110 : decode cX0_learn 110 = .ok (.putfield 15, 3) := dec_row aX0_learn_1 8 rfl
theorem dX0_learn_113 : decode cX0_learn 113 = .ok (.aload_n 0, 1) := dec_row aX0_learn_1 9 rfl
theorem dX0_learn_114 : decode cX0_learn 114 = .ok (.aload_n 0, 1) := dec_row aX0_learn_1 10 rfl
theorem dX0_learn_115 : decode cX0_learn 115 = .ok (.getfield 18, 3) := dec_row aX0_learn_1 11 rfl
theorem dX0_learn_118 : decode cX0_learn 118 = .ok (.aload_n 1, 1) := dec_row aX0_learn_1 12 rfl
theorem dX0_learn_119 : decode cX0_learn 119 = .ok (.getfield 48, 3) := dec_row aX0_learn_1 13 rfl
theorem dX0_learn_122 : decode cX0_learn 122 = .ok (.invokestatic 45, 3) := dec_row aX0_learn_1 14 rfl
theorem dX0_learn_125 : decode cX0_learn 125 = .ok (.putfield 18, 3) := dec_row aX0_learn_1 15 rfl
theorem dX0_learn_128 : decode cX0_learn 128 = .ok (.aload_n 0, 1) := dec_row aX0_learn_1 16 rfl
theorem dX0_learn_129 : decode cX0_learn 129 = .ok (.dup, 1) := dec_row aX0_learn_1 17 rfl
theorem dX0_learn_130 : decode cX0_learn 130 = .ok (.getfield 9, 3) := dec_row aX0_learn_1 18 rfl
theorem dX0_learn_133 : decode cX0_learn 133 = .ok (.iconst 1, 1) := dec_row aX0_learn_1 19 rfl
theorem dX0_learn_134 : decode cX0_learn 134 = .ok (.iadd, 1) := dec_row aX0_learn_1 20 rfl
theorem dX0_learn_135 : decode cX0_learn 135 = .ok (.putfield 9, 3) := dec_row aX0_learn_1 21 rfl
theorem dX0_learn_138 : decode cX0_learn 138 = .ok (.return_, 1) := dec_row aX0_learn_1 22 rfl
def tX0_amissIn : List (Nat × Instr × Nat) := [(0, .iconst 0, 1), (1, .istore_n 3, 1), (2, .iconst 0, 1), (3, .istore 4, 2), (5, .iload 4, 2), (7, .bipush 60, 2), (9, .if_icmp .ge 49, 3), (12, .aload_n 1, 1), (13, .getfield 34, 3), (16, .iload 4, 2), (18, .iaload, 1), (19, .istore 5, 2), (21, .iload 5, 2), (23, .aload_n 0, 1), (24, .getfield 21, 3), (27, .iload 4, 2), (29, .iaload, 1), (30, .iload_n 2, 1), (31, .isub, 1), (32, .if_icmp .lt 17, 3), (35, .iload 5, 2), (37, .aload_n 0, 1), (38, .getfield 25, 3), (41, .iload 4, 2), (43, .iaload, 1), (44, .iload_n 2, 1), (45, .iadd, 1), (46, .if_icmp .le 6, 3), (49, .iinc 3 1, 3), (52, .iinc 4 1, 3), (55, .goto (-50), 3), (58, .iload_n 3, 1), (59, .ireturn, 1)]
theorem aX0_amissIn : tX0_amissIn.all (fun q => decide (decode cX0_amissIn q.1 = .ok q.2)) = true := by decide +kernel
theorem dX0_amissIn_0 : decode cX0_amissIn 0 = .ok (.iconst 0, 1) := dec_row aX0_amissIn 0 rfl
theorem dX0_amissIn_1 : decode cX0_amissIn 1 = .ok (.istore_n 3, 1) := dec_row aX0_amissIn 1 rfl
theorem dX0_amissIn_2 : decode cX0_amissIn 2 = .ok (.iconst 0, 1) := dec_row aX0_amissIn 2 rfl
theorem dX0_amissIn_3 : decode cX0_amissIn 3 = .ok (.istore 4, 2) := dec_row aX0_amissIn 3 rfl
theorem dX0_amissIn_5 : decode cX0_amissIn 5 = .ok (.iload 4, 2) := dec_row aX0_amissIn 4 rfl
theorem dX0_amissIn_7 : decode cX0_amissIn 7 = .ok (.bipush 60, 2) := dec_row aX0_amissIn 5 rfl
theorem dX0_amissIn_9 : decode cX0_amissIn 9 = .ok (.if_icmp .ge 49, 3) := dec_row aX0_amissIn 6 rfl
theorem dX0_amissIn_12 : decode cX0_amissIn 12 = .ok (.aload_n 1, 1) := dec_row aX0_amissIn 7 rfl
theorem dX0_amissIn_13 : decode cX0_amissIn 13 = .ok (.getfield 34, 3) := dec_row aX0_amissIn 8 rfl
theorem dX0_amissIn_16 : decode cX0_amissIn 16 = .ok (.iload 4, 2) := dec_row aX0_amissIn 9 rfl
theorem dX0_amissIn_18 : decode cX0_amissIn 18 = .ok (.iaload, 1) := dec_row aX0_amissIn 10 rfl
theorem dX0_amissIn_19 : decode cX0_amissIn 19 = .ok (.istore 5, 2) := dec_row aX0_amissIn 11 rfl
theorem dX0_amissIn_21 : decode cX0_amissIn 21 = .ok (.iload 5, 2) := dec_row aX0_amissIn 12 rfl
theorem dX0_amissIn_23 : decode cX0_amissIn 23 = .ok (.aload_n 0, 1) := dec_row aX0_amissIn 13 rfl
theorem dX0_amissIn_24 : decode cX0_amissIn 24 = .ok (.getfield 21, 3) := dec_row aX0_amissIn 14 rfl
theorem dX0_amissIn_27 : decode cX0_amissIn 27 = .ok (.iload 4, 2) := dec_row aX0_amissIn 15 rfl
theorem dX0_amissIn_29 : decode cX0_amissIn 29 = .ok (.iaload, 1) := dec_row aX0_amissIn 16 rfl
theorem dX0_amissIn_30 : decode cX0_amissIn 30 = .ok (.iload_n 2, 1) := dec_row aX0_amissIn 17 rfl
theorem dX0_amissIn_31 : decode cX0_amissIn 31 = .ok (.isub, 1) := dec_row aX0_amissIn 18 rfl
theorem dX0_amissIn_32 : decode cX0_amissIn 32 = .ok (.if_icmp .lt 17, 3) := dec_row aX0_amissIn 19 rfl
theorem dX0_amissIn_35 : decode cX0_amissIn 35 = .ok (.iload 5, 2) := dec_row aX0_amissIn 20 rfl
theorem dX0_amissIn_37 : decode cX0_amissIn 37 = .ok (.aload_n 0, 1) := dec_row aX0_amissIn 21 rfl
theorem dX0_amissIn_38 : decode cX0_amissIn 38 = .ok (.getfield 25, 3) := dec_row aX0_amissIn 22 rfl
theorem dX0_amissIn_41 : decode cX0_amissIn 41 = .ok (.iload 4, 2) := dec_row aX0_amissIn 23 rfl
theorem dX0_amissIn_43 : decode cX0_amissIn 43 = .ok (.iaload, 1) := dec_row aX0_amissIn 24 rfl
theorem dX0_amissIn_44 : decode cX0_amissIn 44 = .ok (.iload_n 2, 1) := dec_row aX0_amissIn 25 rfl
theorem dX0_amissIn_45 : decode cX0_amissIn 45 = .ok (.iadd, 1) := dec_row aX0_amissIn 26 rfl
theorem dX0_amissIn_46 : decode cX0_amissIn 46 = .ok (.if_icmp .le 6, 3) := dec_row aX0_amissIn 27 rfl
theorem dX0_amissIn_49 : decode cX0_amissIn 49 = .ok (.iinc 3 1, 3) := dec_row aX0_amissIn 28 rfl
theorem dX0_amissIn_52 : decode cX0_amissIn 52 = .ok (.iinc 4 1, 3) := dec_row aX0_amissIn 29 rfl
theorem dX0_amissIn_55 : decode cX0_amissIn 55 = .ok (.goto (-50), 3) := dec_row aX0_amissIn 30 rfl
theorem dX0_amissIn_58 : decode cX0_amissIn 58 = .ok (.iload_n 3, 1) := dec_row aX0_amissIn 31 rfl
theorem dX0_amissIn_59 : decode cX0_amissIn 59 = .ok (.ireturn, 1) := dec_row aX0_amissIn 32 rfl
def tX0_rejects : List (Nat × Instr × Nat) := [(0, .aload_n 0, 1), (1, .getfield 9, 3), (4, .ifCond .ne 5, 3), (7, .iconst 0, 1), (8, .ireturn, 1), (9, .aload_n 0, 1), (10, .aload_n 1, 1), (11, .iload_n 2, 1), (12, .invokevirtual 51, 3), (15, .iconst 1, 1), (16, .if_icmp .gt 29, 3), (19, .aload_n 0, 1), (20, .getfield 15, 3), (23, .aload_n 1, 1), (24, .getfield 48, 3), (27, .isub, 1), (28, .iconst 1, 1), (29, .if_icmp .gt 16, 3), (32, .aload_n 1, 1), (33, .getfield 48, 3), (36, .aload_n 0, 1), (37, .getfield 18, 3), (40, .isub, 1), (41, .iconst 1, 1), (42, .if_icmp .le 7, 3), (45, .iconst 1, 1), (46, .goto 4, 3), (49, .iconst 0, 1), (50, .ireturn, 1)]
theorem aX0_rejects : tX0_rejects.all (fun q => decide (decode cX0_rejects q.1 = .ok q.2)) = true := by decide +kernel
theorem dX0_rejects_0 : decode cX0_rejects 0 = .ok (.aload_n 0, 1) := dec_row aX0_rejects 0 rfl
theorem dX0_rejects_1 : decode cX0_rejects 1 = .ok (.getfield 9, 3) := dec_row aX0_rejects 1 rfl
theorem dX0_rejects_4 : decode cX0_rejects 4 = .ok (.ifCond .ne 5, 3) := dec_row aX0_rejects 2 rfl
theorem dX0_rejects_7 : decode cX0_rejects 7 = .ok (.iconst 0, 1) := dec_row aX0_rejects 3 rfl
theorem dX0_rejects_8 : decode cX0_rejects 8 = .ok (.ireturn, 1) := dec_row aX0_rejects 4 rfl
theorem dX0_rejects_9 : decode cX0_rejects 9 = .ok (.aload_n 0, 1) := dec_row aX0_rejects 5 rfl
theorem dX0_rejects_10 : decode cX0_rejects 10 = .ok (.aload_n 1, 1) := dec_row aX0_rejects 6 rfl
theorem dX0_rejects_11 : decode cX0_rejects 11 = .ok (.iload_n 2, 1) := dec_row aX0_rejects 7 rfl
theorem dX0_rejects_12 : decode cX0_rejects 12 = .ok (.invokevirtual 51, 3) := dec_row aX0_rejects 8 rfl
theorem dX0_rejects_15 : decode cX0_rejects 15 = .ok (.iconst 1, 1) := dec_row aX0_rejects 9 rfl
theorem dX0_rejects_16 : decode cX0_rejects 16 = .ok (.if_icmp .gt 29, 3) := dec_row aX0_rejects 10 rfl
theorem dX0_rejects_19 : decode cX0_rejects 19 = .ok (.aload_n 0, 1) := dec_row aX0_rejects 11 rfl
theorem dX0_rejects_20 : decode cX0_rejects 20 = .ok (.getfield 15, 3) := dec_row aX0_rejects 12 rfl
theorem dX0_rejects_23 : decode cX0_rejects 23 = .ok (.aload_n 1, 1) := dec_row aX0_rejects 13 rfl
theorem dX0_rejects_24 : decode cX0_rejects 24 = .ok (.getfield 48, 3) := dec_row aX0_rejects 14 rfl
theorem dX0_rejects_27 : decode cX0_rejects 27 = .ok (.isub, 1) := dec_row aX0_rejects 15 rfl
theorem dX0_rejects_28 : decode cX0_rejects 28 = .ok (.iconst 1, 1) := dec_row aX0_rejects 16 rfl
theorem dX0_rejects_29 : decode cX0_rejects 29 = .ok (.if_icmp .gt 16, 3) := dec_row aX0_rejects 17 rfl
theorem dX0_rejects_32 : decode cX0_rejects 32 = .ok (.aload_n 1, 1) := dec_row aX0_rejects 18 rfl
theorem dX0_rejects_33 : decode cX0_rejects 33 = .ok (.getfield 48, 3) := dec_row aX0_rejects 19 rfl
theorem dX0_rejects_36 : decode cX0_rejects 36 = .ok (.aload_n 0, 1) := dec_row aX0_rejects 20 rfl
theorem dX0_rejects_37 : decode cX0_rejects 37 = .ok (.getfield 18, 3) := dec_row aX0_rejects 21 rfl
theorem dX0_rejects_40 : decode cX0_rejects 40 = .ok (.isub, 1) := dec_row aX0_rejects 22 rfl
theorem dX0_rejects_41 : decode cX0_rejects 41 = .ok (.iconst 1, 1) := dec_row aX0_rejects 23 rfl
theorem dX0_rejects_42 : decode cX0_rejects 42 = .ok (.if_icmp .le 7, 3) := dec_row aX0_rejects 24 rfl
theorem dX0_rejects_45 : decode cX0_rejects 45 = .ok (.iconst 1, 1) := dec_row aX0_rejects 25 rfl
theorem dX0_rejects_46 : decode cX0_rejects 46 = .ok (.goto 4, 3) := dec_row aX0_rejects 26 rfl
theorem dX0_rejects_49 : decode cX0_rejects 49 = .ok (.iconst 0, 1) := dec_row aX0_rejects 27 rfl
theorem dX0_rejects_50 : decode cX0_rejects 50 = .ok (.ireturn, 1) := dec_row aX0_rejects 28 rfl
def tX1_init : List (Nat × Instr × Nat) := [(0, .aload_n 0, 1), (1, .invokespecial 3, 3), (4, .aload_n 0, 1), (5, .iconst 0, 1), (6, .putfield 9, 3), (9, .aload_n 0, 1), (10, .bipush 6, 2), (12, .newarray .int, 2), (14, .putfield 15, 3), (17, .aload_n 0, 1), (18, .bipush 6, 2), (20, .newarray .int, 2), (22, .putfield 19, 3), (25, .aload_n 0, 1), (26, .bipush 6, 2), (28, .newarray .int, 2), (30, .putfield 22, 3), (33, .aload_n 0, 1), (34, .iconst 0, 1), (35, .putfield 25, 3), (38, .aload_n 0, 1), (39, .iconst 4, 1), (40, .newarray .int, 2), (42, .putfield 28, 3), (45, .aload_n 0, 1), (46, .iconst 0, 1), (47, .putfield 31, 3), (50, .aload_n 0, 1), (51, .iconst 4, 1), (52, .newarray .int, 2), (54, .putfield 34, 3), (57, .aload_n 0, 1), (58, .iconst 4, 1), (59, .newarray .int, 2), (61, .putfield 37, 3), (64, .aload_n 0, 1), (65, .bipush 6, 2), (67, .newarray .int, 2), (69, .putfield 40, 3), (72, .return_, 1)]
theorem aX1_init : tX1_init.all (fun q => decide (decode cX1_init q.1 = .ok q.2)) = true := by decide +kernel
theorem dX1_init_0 : decode cX1_init 0 = .ok (.aload_n 0, 1) := dec_row aX1_init 0 rfl
theorem dX1_init_1 : decode cX1_init 1 = .ok (.invokespecial 3, 3) := dec_row aX1_init 1 rfl
theorem dX1_init_4 : decode cX1_init 4 = .ok (.aload_n 0, 1) := dec_row aX1_init 2 rfl
theorem dX1_init_5 : decode cX1_init 5 = .ok (.iconst 0, 1) := dec_row aX1_init 3 rfl
theorem dX1_init_6 : decode cX1_init 6 = .ok (.putfield 9, 3) := dec_row aX1_init 4 rfl
theorem dX1_init_9 : decode cX1_init 9 = .ok (.aload_n 0, 1) := dec_row aX1_init 5 rfl
theorem dX1_init_10 : decode cX1_init 10 = .ok (.bipush 6, 2) := dec_row aX1_init 6 rfl
theorem dX1_init_12 : decode cX1_init 12 = .ok (.newarray .int, 2) := dec_row aX1_init 7 rfl
theorem dX1_init_14 : decode cX1_init 14 = .ok (.putfield 15, 3) := dec_row aX1_init 8 rfl
theorem dX1_init_17 : decode cX1_init 17 = .ok (.aload_n 0, 1) := dec_row aX1_init 9 rfl
theorem dX1_init_18 : decode cX1_init 18 = .ok (.bipush 6, 2) := dec_row aX1_init 10 rfl
theorem dX1_init_20 : decode cX1_init 20 = .ok (.newarray .int, 2) := dec_row aX1_init 11 rfl
theorem dX1_init_22 : decode cX1_init 22 = .ok (.putfield 19, 3) := dec_row aX1_init 12 rfl
theorem dX1_init_25 : decode cX1_init 25 = .ok (.aload_n 0, 1) := dec_row aX1_init 13 rfl
theorem dX1_init_26 : decode cX1_init 26 = .ok (.bipush 6, 2) := dec_row aX1_init 14 rfl
theorem dX1_init_28 : decode cX1_init 28 = .ok (.newarray .int, 2) := dec_row aX1_init 15 rfl
theorem dX1_init_30 : decode cX1_init 30 = .ok (.putfield 22, 3) := dec_row aX1_init 16 rfl
theorem dX1_init_33 : decode cX1_init 33 = .ok (.aload_n 0, 1) := dec_row aX1_init 17 rfl
theorem dX1_init_34 : decode cX1_init 34 = .ok (.iconst 0, 1) := dec_row aX1_init 18 rfl
theorem dX1_init_35 : decode cX1_init 35 = .ok (.putfield 25, 3) := dec_row aX1_init 19 rfl
theorem dX1_init_38 : decode cX1_init 38 = .ok (.aload_n 0, 1) := dec_row aX1_init 20 rfl
theorem dX1_init_39 : decode cX1_init 39 = .ok (.iconst 4, 1) := dec_row aX1_init 21 rfl
theorem dX1_init_40 : decode cX1_init 40 = .ok (.newarray .int, 2) := dec_row aX1_init 22 rfl
theorem dX1_init_42 : decode cX1_init 42 = .ok (.putfield 28, 3) := dec_row aX1_init 23 rfl
theorem dX1_init_45 : decode cX1_init 45 = .ok (.aload_n 0, 1) := dec_row aX1_init 24 rfl
theorem dX1_init_46 : decode cX1_init 46 = .ok (.iconst 0, 1) := dec_row aX1_init 25 rfl
theorem dX1_init_47 : decode cX1_init 47 = .ok (.putfield 31, 3) := dec_row aX1_init 26 rfl
theorem dX1_init_50 : decode cX1_init 50 = .ok (.aload_n 0, 1) := dec_row aX1_init 27 rfl
theorem dX1_init_51 : decode cX1_init 51 = .ok (.iconst 4, 1) := dec_row aX1_init 28 rfl
theorem dX1_init_52 : decode cX1_init 52 = .ok (.newarray .int, 2) := dec_row aX1_init 29 rfl
theorem dX1_init_54 : decode cX1_init 54 = .ok (.putfield 34, 3) := dec_row aX1_init 30 rfl
theorem dX1_init_57 : decode cX1_init 57 = .ok (.aload_n 0, 1) := dec_row aX1_init 31 rfl
theorem dX1_init_58 : decode cX1_init 58 = .ok (.iconst 4, 1) := dec_row aX1_init 32 rfl
theorem dX1_init_59 : decode cX1_init 59 = .ok (.newarray .int, 2) := dec_row aX1_init 33 rfl
theorem dX1_init_61 : decode cX1_init 61 = .ok (.putfield 37, 3) := dec_row aX1_init 34 rfl
theorem dX1_init_64 : decode cX1_init 64 = .ok (.aload_n 0, 1) := dec_row aX1_init 35 rfl
theorem dX1_init_65 : decode cX1_init 65 = .ok (.bipush 6, 2) := dec_row aX1_init 36 rfl
theorem dX1_init_67 : decode cX1_init 67 = .ok (.newarray .int, 2) := dec_row aX1_init 37 rfl
theorem dX1_init_69 : decode cX1_init 69 = .ok (.putfield 40, 3) := dec_row aX1_init 38 rfl
theorem dX1_init_72 : decode cX1_init 72 = .ok (.return_, 1) := dec_row aX1_init 39 rfl
def tX1_clear : List (Nat × Instr × Nat) := [(0, .aload_n 0, 1), (1, .iconst 0, 1), (2, .putfield 9, 3), (5, .aload_n 0, 1), (6, .iconst 0, 1), (7, .putfield 25, 3), (10, .aload_n 0, 1), (11, .iconst 0, 1), (12, .putfield 31, 3), (15, .getstatic 43, 3), (18, .iconst 0, 1), (19, .aload_n 0, 1), (20, .getfield 40, 3), (23, .iconst 0, 1), (24, .bipush 6, 2), (26, .invokestatic 46, 3), (29, .return_, 1)]
theorem aX1_clear : tX1_clear.all (fun q => decide (decode cX1_clear q.1 = .ok q.2)) = true := by decide +kernel
theorem dX1_clear_0 : decode cX1_clear 0 = .ok (.aload_n 0, 1) := dec_row aX1_clear 0 rfl
theorem dX1_clear_1 : decode cX1_clear 1 = .ok (.iconst 0, 1) := dec_row aX1_clear 1 rfl
theorem dX1_clear_2 : decode cX1_clear 2 = .ok (.putfield 9, 3) := dec_row aX1_clear 2 rfl
theorem dX1_clear_5 : decode cX1_clear 5 = .ok (.aload_n 0, 1) := dec_row aX1_clear 3 rfl
theorem dX1_clear_6 : decode cX1_clear 6 = .ok (.iconst 0, 1) := dec_row aX1_clear 4 rfl
theorem dX1_clear_7 : decode cX1_clear 7 = .ok (.putfield 25, 3) := dec_row aX1_clear 5 rfl
theorem dX1_clear_10 : decode cX1_clear 10 = .ok (.aload_n 0, 1) := dec_row aX1_clear 6 rfl
theorem dX1_clear_11 : decode cX1_clear 11 = .ok (.iconst 0, 1) := dec_row aX1_clear 7 rfl
theorem dX1_clear_12 : decode cX1_clear 12 = .ok (.putfield 31, 3) := dec_row aX1_clear 8 rfl
theorem dX1_clear_15 : decode cX1_clear 15 = .ok (.getstatic 43, 3) := dec_row aX1_clear 9 rfl
theorem dX1_clear_18 : decode cX1_clear 18 = .ok (.iconst 0, 1) := dec_row aX1_clear 10 rfl
theorem dX1_clear_19 : decode cX1_clear 19 = .ok (.aload_n 0, 1) := dec_row aX1_clear 11 rfl
theorem dX1_clear_20 : decode cX1_clear 20 = .ok (.getfield 40, 3) := dec_row aX1_clear 12 rfl
theorem dX1_clear_23 : decode cX1_clear 23 = .ok (.iconst 0, 1) := dec_row aX1_clear 13 rfl
theorem dX1_clear_24 : decode cX1_clear 24 = .ok (.bipush 6, 2) := dec_row aX1_clear 14 rfl
theorem dX1_clear_26 : decode cX1_clear 26 = .ok (.invokestatic 46, 3) := dec_row aX1_clear 15 rfl
theorem dX1_clear_29 : decode cX1_clear 29 = .ok (.return_, 1) := dec_row aX1_clear 16 rfl
def tX1_addCavity : List (Nat × Instr × Nat) := [(0, .aload_n 0, 1), (1, .getfield 9, 3), (4, .bipush 6, 2), (6, .if_icmp .ge 36, 3), (9, .iload_n 1, 1), (10, .iconst 1, 1), (11, .if_icmp .lt 31, 3), (14, .iload_n 1, 1), (15, .bipush 30, 2), (17, .if_icmp .gt 25, 3), (20, .iload_n 2, 1), (21, .iconst 1, 1), (22, .if_icmp .lt 20, 3), (25, .iload_n 2, 1), (26, .bipush 9, 2), (28, .if_icmp .gt 14, 3), (31, .iload_n 3, 1), (32, .iconst 1, 1), (33, .if_icmp .lt 9, 3), (36, .iload_n 3, 1), (37, .bipush 9, 2), (39, .if_icmp .le 5, 3), (42, .iconst 0, 1), (43, .ireturn, 1), (44, .aload_n 0, 1), (45, .getfield 15, 3), (48, .aload_n 0, 1), (49, .getfield 9, 3), (52, .iload_n 1, 1), (53, .iastore, 1), (54, .aload_n 0, 1), (55, .getfield 19, 3), (58, .aload_n 0, 1), (59, .getfield 9, 3), (62, .iload_n 2, 1), (63, .iastore, 1), (64, .aload_n 0, 1), (65, .getfield 22, 3), (68, .aload_n 0, 1), (69, .getfield 9, 3), (72, .iload_n 3, 1), (73, .iastore, 1), (74, .aload_n 0, 1), (75, .dup, 1), (76, .getfield 9, 3), (79, .iconst 1, 1), (80, .iadd, 1), (81, .putfield 9, 3), (84, .iconst 1, 1), (85, .ireturn, 1)]
theorem aX1_addCavity : tX1_addCavity.all (fun q => decide (decode cX1_addCavity q.1 = .ok q.2)) = true := by decide +kernel
theorem dX1_addCavity_0 : decode cX1_addCavity 0 = .ok (.aload_n 0, 1) := dec_row aX1_addCavity 0 rfl
theorem dX1_addCavity_1 : decode cX1_addCavity 1 = .ok (.getfield 9, 3) := dec_row aX1_addCavity 1 rfl
theorem dX1_addCavity_4 : decode cX1_addCavity 4 = .ok (.bipush 6, 2) := dec_row aX1_addCavity 2 rfl
theorem dX1_addCavity_6 : decode cX1_addCavity 6 = .ok (.if_icmp .ge 36, 3) := dec_row aX1_addCavity 3 rfl
theorem dX1_addCavity_9 : decode cX1_addCavity 9 = .ok (.iload_n 1, 1) := dec_row aX1_addCavity 4 rfl
theorem dX1_addCavity_10 : decode cX1_addCavity 10 = .ok (.iconst 1, 1) := dec_row aX1_addCavity 5 rfl
theorem dX1_addCavity_11 : decode cX1_addCavity 11 = .ok (.if_icmp .lt 31, 3) := dec_row aX1_addCavity 6 rfl
theorem dX1_addCavity_14 : decode cX1_addCavity 14 = .ok (.iload_n 1, 1) := dec_row aX1_addCavity 7 rfl
theorem dX1_addCavity_15 : decode cX1_addCavity 15 = .ok (.bipush 30, 2) := dec_row aX1_addCavity 8 rfl
theorem dX1_addCavity_17 : decode cX1_addCavity 17 = .ok (.if_icmp .gt 25, 3) := dec_row aX1_addCavity 9 rfl
theorem dX1_addCavity_20 : decode cX1_addCavity 20 = .ok (.iload_n 2, 1) := dec_row aX1_addCavity 10 rfl
theorem dX1_addCavity_21 : decode cX1_addCavity 21 = .ok (.iconst 1, 1) := dec_row aX1_addCavity 11 rfl
theorem dX1_addCavity_22 : decode cX1_addCavity 22 = .ok (.if_icmp .lt 20, 3) := dec_row aX1_addCavity 12 rfl
theorem dX1_addCavity_25 : decode cX1_addCavity 25 = .ok (.iload_n 2, 1) := dec_row aX1_addCavity 13 rfl
theorem dX1_addCavity_26 : decode cX1_addCavity 26 = .ok (.bipush 9, 2) := dec_row aX1_addCavity 14 rfl
theorem dX1_addCavity_28 : decode cX1_addCavity 28 = .ok (.if_icmp .gt 14, 3) := dec_row aX1_addCavity 15 rfl
theorem dX1_addCavity_31 : decode cX1_addCavity 31 = .ok (.iload_n 3, 1) := dec_row aX1_addCavity 16 rfl
theorem dX1_addCavity_32 : decode cX1_addCavity 32 = .ok (.iconst 1, 1) := dec_row aX1_addCavity 17 rfl
theorem dX1_addCavity_33 : decode cX1_addCavity 33 = .ok (.if_icmp .lt 9, 3) := dec_row aX1_addCavity 18 rfl
theorem dX1_addCavity_36 : decode cX1_addCavity 36 = .ok (.iload_n 3, 1) := dec_row aX1_addCavity 19 rfl
theorem dX1_addCavity_37 : decode cX1_addCavity 37 = .ok (.bipush 9, 2) := dec_row aX1_addCavity 20 rfl
theorem dX1_addCavity_39 : decode cX1_addCavity 39 = .ok (.if_icmp .le 5, 3) := dec_row aX1_addCavity 21 rfl
theorem dX1_addCavity_42 : decode cX1_addCavity 42 = .ok (.iconst 0, 1) := dec_row aX1_addCavity 22 rfl
theorem dX1_addCavity_43 : decode cX1_addCavity 43 = .ok (.ireturn, 1) := dec_row aX1_addCavity 23 rfl
theorem dX1_addCavity_44 : decode cX1_addCavity 44 = .ok (.aload_n 0, 1) := dec_row aX1_addCavity 24 rfl
theorem dX1_addCavity_45 : decode cX1_addCavity 45 = .ok (.getfield 15, 3) := dec_row aX1_addCavity 25 rfl
theorem dX1_addCavity_48 : decode cX1_addCavity 48 = .ok (.aload_n 0, 1) := dec_row aX1_addCavity 26 rfl
theorem dX1_addCavity_49 : decode cX1_addCavity 49 = .ok (.getfield 9, 3) := dec_row aX1_addCavity 27 rfl
theorem dX1_addCavity_52 : decode cX1_addCavity 52 = .ok (.iload_n 1, 1) := dec_row aX1_addCavity 28 rfl
theorem dX1_addCavity_53 : decode cX1_addCavity 53 = .ok (.iastore, 1) := dec_row aX1_addCavity 29 rfl
theorem dX1_addCavity_54 : decode cX1_addCavity 54 = .ok (.aload_n 0, 1) := dec_row aX1_addCavity 30 rfl
theorem dX1_addCavity_55 : decode cX1_addCavity 55 = .ok (.getfield 19, 3) := dec_row aX1_addCavity 31 rfl
theorem dX1_addCavity_58 : decode cX1_addCavity 58 = .ok (.aload_n 0, 1) := dec_row aX1_addCavity 32 rfl
theorem dX1_addCavity_59 : decode cX1_addCavity 59 = .ok (.getfield 9, 3) := dec_row aX1_addCavity 33 rfl
theorem dX1_addCavity_62 : decode cX1_addCavity 62 = .ok (.iload_n 2, 1) := dec_row aX1_addCavity 34 rfl
theorem dX1_addCavity_63 : decode cX1_addCavity 63 = .ok (.iastore, 1) := dec_row aX1_addCavity 35 rfl
theorem dX1_addCavity_64 : decode cX1_addCavity 64 = .ok (.aload_n 0, 1) := dec_row aX1_addCavity 36 rfl
theorem dX1_addCavity_65 : decode cX1_addCavity 65 = .ok (.getfield 22, 3) := dec_row aX1_addCavity 37 rfl
theorem dX1_addCavity_68 : decode cX1_addCavity 68 = .ok (.aload_n 0, 1) := dec_row aX1_addCavity 38 rfl
theorem dX1_addCavity_69 : decode cX1_addCavity 69 = .ok (.getfield 9, 3) := dec_row aX1_addCavity 39 rfl
theorem dX1_addCavity_72 : decode cX1_addCavity 72 = .ok (.iload_n 3, 1) := dec_row aX1_addCavity 40 rfl
theorem dX1_addCavity_73 : decode cX1_addCavity 73 = .ok (.iastore, 1) := dec_row aX1_addCavity 41 rfl
theorem dX1_addCavity_74 : decode cX1_addCavity 74 = .ok (.aload_n 0, 1) := dec_row aX1_addCavity 42 rfl
theorem dX1_addCavity_75 : decode cX1_addCavity 75 = .ok (.dup, 1) := dec_row aX1_addCavity 43 rfl
theorem dX1_addCavity_76 : decode cX1_addCavity 76 = .ok (.getfield 9, 3) := dec_row aX1_addCavity 44 rfl
theorem dX1_addCavity_79 : decode cX1_addCavity 79 = .ok (.iconst 1, 1) := dec_row aX1_addCavity 45 rfl
theorem dX1_addCavity_80 : decode cX1_addCavity 80 = .ok (.iadd, 1) := dec_row aX1_addCavity 46 rfl
theorem dX1_addCavity_81 : decode cX1_addCavity 81 = .ok (.putfield 9, 3) := dec_row aX1_addCavity 47 rfl
theorem dX1_addCavity_84 : decode cX1_addCavity 84 = .ok (.iconst 1, 1) := dec_row aX1_addCavity 48 rfl
theorem dX1_addCavity_85 : decode cX1_addCavity 85 = .ok (.ireturn, 1) := dec_row aX1_addCavity 49 rfl
def tX1_addCore : List (Nat × Instr × Nat) := [(0, .aload_n 0, 1), (1, .getfield 25, 3), (4, .iconst 4, 1), (5, .if_icmp .ge 14, 3), (8, .iload_n 1, 1), (9, .iconst 4, 1), (10, .if_icmp .lt 11, 3), (13, .iload_n 1, 1), (14, .bipush 9, 2), (16, .if_icmp .eq 5, 3), (19, .iconst 0, 1), (20, .ireturn, 1), (21, .aload_n 0, 1), (22, .getfield 28, 3), (25, .aload_n 0, 1), (26, .getfield 25, 3), (29, .iload_n 1, 1), (30, .iastore, 1), (31, .aload_n 0, 1), (32, .dup, 1), (33, .getfield 25, 3), (36, .iconst 1, 1), (37, .iadd, 1), (38, .putfield 25, 3), (41, .iconst 1, 1), (42, .ireturn, 1)]
theorem aX1_addCore : tX1_addCore.all (fun q => decide (decode cX1_addCore q.1 = .ok q.2)) = true := by decide +kernel
theorem dX1_addCore_0 : decode cX1_addCore 0 = .ok (.aload_n 0, 1) := dec_row aX1_addCore 0 rfl
theorem dX1_addCore_1 : decode cX1_addCore 1 = .ok (.getfield 25, 3) := dec_row aX1_addCore 1 rfl
theorem dX1_addCore_4 : decode cX1_addCore 4 = .ok (.iconst 4, 1) := dec_row aX1_addCore 2 rfl
theorem dX1_addCore_5 : decode cX1_addCore 5 = .ok (.if_icmp .ge 14, 3) := dec_row aX1_addCore 3 rfl
theorem dX1_addCore_8 : decode cX1_addCore 8 = .ok (.iload_n 1, 1) := dec_row aX1_addCore 4 rfl
theorem dX1_addCore_9 : decode cX1_addCore 9 = .ok (.iconst 4, 1) := dec_row aX1_addCore 5 rfl
theorem dX1_addCore_10 : decode cX1_addCore 10 = .ok (.if_icmp .lt 11, 3) := dec_row aX1_addCore 6 rfl
theorem dX1_addCore_13 : decode cX1_addCore 13 = .ok (.iload_n 1, 1) := dec_row aX1_addCore 7 rfl
theorem dX1_addCore_14 : decode cX1_addCore 14 = .ok (.bipush 9, 2) := dec_row aX1_addCore 8 rfl
theorem dX1_addCore_16 : decode cX1_addCore 16 = .ok (.if_icmp .eq 5, 3) := dec_row aX1_addCore 9 rfl
theorem dX1_addCore_19 : decode cX1_addCore 19 = .ok (.iconst 0, 1) := dec_row aX1_addCore 10 rfl
theorem dX1_addCore_20 : decode cX1_addCore 20 = .ok (.ireturn, 1) := dec_row aX1_addCore 11 rfl
theorem dX1_addCore_21 : decode cX1_addCore 21 = .ok (.aload_n 0, 1) := dec_row aX1_addCore 12 rfl
theorem dX1_addCore_22 : decode cX1_addCore 22 = .ok (.getfield 28, 3) := dec_row aX1_addCore 13 rfl
theorem dX1_addCore_25 : decode cX1_addCore 25 = .ok (.aload_n 0, 1) := dec_row aX1_addCore 14 rfl
theorem dX1_addCore_26 : decode cX1_addCore 26 = .ok (.getfield 25, 3) := dec_row aX1_addCore 15 rfl
theorem dX1_addCore_29 : decode cX1_addCore 29 = .ok (.iload_n 1, 1) := dec_row aX1_addCore 16 rfl
theorem dX1_addCore_30 : decode cX1_addCore 30 = .ok (.iastore, 1) := dec_row aX1_addCore 17 rfl
theorem dX1_addCore_31 : decode cX1_addCore 31 = .ok (.aload_n 0, 1) := dec_row aX1_addCore 18 rfl
theorem dX1_addCore_32 : decode cX1_addCore 32 = .ok (.dup, 1) := dec_row aX1_addCore 19 rfl
theorem dX1_addCore_33 : decode cX1_addCore 33 = .ok (.getfield 25, 3) := dec_row aX1_addCore 20 rfl
theorem dX1_addCore_36 : decode cX1_addCore 36 = .ok (.iconst 1, 1) := dec_row aX1_addCore 21 rfl
theorem dX1_addCore_37 : decode cX1_addCore 37 = .ok (.iadd, 1) := dec_row aX1_addCore 22 rfl
theorem dX1_addCore_38 : decode cX1_addCore 38 = .ok (.putfield 25, 3) := dec_row aX1_addCore 23 rfl
theorem dX1_addCore_41 : decode cX1_addCore 41 = .ok (.iconst 1, 1) := dec_row aX1_addCore 24 rfl
theorem dX1_addCore_42 : decode cX1_addCore 42 = .ok (.ireturn, 1) := dec_row aX1_addCore 25 rfl
def tX1_addStage_0 : List (Nat × Instr × Nat) := [(0, .aload_n 0, 1), (1, .getfield 31, 3), (4, .iconst 4, 1), (5, .if_icmp .ge 14, 3), (8, .iload_n 2, 1), (9, .iconst 1, 1), (10, .if_icmp .lt 9, 3), (13, .iload_n 2, 1), (14, .bipush 9, 2), (16, .if_icmp .le 5, 3), (19, .iconst 0, 1), (20, .ireturn, 1), (21, .aload_n 0, 1), (22, .getfield 31, 3), (25, .ifCond .ne 15, 3), (28, .iload_n 1, 1), (29, .ifCond .ne 7, 3), (32, .iconst 1, 1), (33, .goto 33, 3), (36, .iconst 0, 1), (37, .goto 29, 3), (40, .iload_n 1, 1), (41, .aload_n 0, 1), (42, .getfield 34, 3), (45, .aload_n 0, 1), (46, .getfield 31, 3), (49, .iconst 1, 1), (50, .isub, 1), (51, .iaload, 1), (52, .if_icmp .le 13, 3), (55, .iload_n 1, 1), (56, .bipush 98, 2), (58, .if_icmp .gt 7, 3), (61, .iconst 1, 1), (62, .goto 4, 3), (65, .iconst 0, 1), (66, .istore_n 3, 1), (67, .iload_n 3, 1), (68, .ifCond .ne 5, 3), (71, .iconst 0, 1), (72, .ireturn, 1), (73, .aload_n 0, 1), (74, .getfield 34, 3), (77, .aload_n 0, 1), (78, .getfield 31, 3), (81, .iload_n 1, 1), (82, .iastore, 1), (83, .aload_n 0, 1), (84, .getfield 37, 3), (87, .aload_n 0, 1)]
theorem aX1_addStage_0 : tX1_addStage_0.all (fun q => decide (decode cX1_addStage q.1 = .ok q.2)) = true := by decide +kernel
theorem dX1_addStage_0 : decode cX1_addStage 0 = .ok (.aload_n 0, 1) := dec_row aX1_addStage_0 0 rfl
theorem dX1_addStage_1 : decode cX1_addStage 1 = .ok (.getfield 31, 3) := dec_row aX1_addStage_0 1 rfl
theorem dX1_addStage_4 : decode cX1_addStage 4 = .ok (.iconst 4, 1) := dec_row aX1_addStage_0 2 rfl
theorem dX1_addStage_5 : decode cX1_addStage 5 = .ok (.if_icmp .ge 14, 3) := dec_row aX1_addStage_0 3 rfl
theorem dX1_addStage_8 : decode cX1_addStage 8 = .ok (.iload_n 2, 1) := dec_row aX1_addStage_0 4 rfl
theorem dX1_addStage_9 : decode cX1_addStage 9 = .ok (.iconst 1, 1) := dec_row aX1_addStage_0 5 rfl
theorem dX1_addStage_10 : decode cX1_addStage 10 = .ok (.if_icmp .lt 9, 3) := dec_row aX1_addStage_0 6 rfl
theorem dX1_addStage_13 : decode cX1_addStage 13 = .ok (.iload_n 2, 1) := dec_row aX1_addStage_0 7 rfl
theorem dX1_addStage_14 : decode cX1_addStage 14 = .ok (.bipush 9, 2) := dec_row aX1_addStage_0 8 rfl
theorem dX1_addStage_16 : decode cX1_addStage 16 = .ok (.if_icmp .le 5, 3) := dec_row aX1_addStage_0 9 rfl
theorem dX1_addStage_19 : decode cX1_addStage 19 = .ok (.iconst 0, 1) := dec_row aX1_addStage_0 10 rfl
theorem dX1_addStage_20 : decode cX1_addStage 20 = .ok (.ireturn, 1) := dec_row aX1_addStage_0 11 rfl
theorem dX1_addStage_21 : decode cX1_addStage 21 = .ok (.aload_n 0, 1) := dec_row aX1_addStage_0 12 rfl
theorem dX1_addStage_22 : decode cX1_addStage 22 = .ok (.getfield 31, 3) := dec_row aX1_addStage_0 13 rfl
theorem dX1_addStage_25 : decode cX1_addStage 25 = .ok (.ifCond .ne 15, 3) := dec_row aX1_addStage_0 14 rfl
theorem dX1_addStage_28 : decode cX1_addStage 28 = .ok (.iload_n 1, 1) := dec_row aX1_addStage_0 15 rfl
theorem dX1_addStage_29 : decode cX1_addStage 29 = .ok (.ifCond .ne 7, 3) := dec_row aX1_addStage_0 16 rfl
theorem dX1_addStage_32 : decode cX1_addStage 32 = .ok (.iconst 1, 1) := dec_row aX1_addStage_0 17 rfl
theorem dX1_addStage_33 : decode cX1_addStage 33 = .ok (.goto 33, 3) := dec_row aX1_addStage_0 18 rfl
theorem dX1_addStage_36 : decode cX1_addStage 36 = .ok (.iconst 0, 1) := dec_row aX1_addStage_0 19 rfl
theorem dX1_addStage_37 : decode cX1_addStage 37 = .ok (.goto 29, 3) := dec_row aX1_addStage_0 20 rfl
theorem dX1_addStage_40 : decode cX1_addStage 40 = .ok (.iload_n 1, 1) := dec_row aX1_addStage_0 21 rfl
theorem dX1_addStage_41 : decode cX1_addStage 41 = .ok (.aload_n 0, 1) := dec_row aX1_addStage_0 22 rfl
theorem dX1_addStage_42 : decode cX1_addStage 42 = .ok (.getfield 34, 3) := dec_row aX1_addStage_0 23 rfl
theorem dX1_addStage_45 : decode cX1_addStage 45 = .ok (.aload_n 0, 1) := dec_row aX1_addStage_0 24 rfl
theorem dX1_addStage_46 : decode cX1_addStage 46 = .ok (.getfield 31, 3) := dec_row aX1_addStage_0 25 rfl
theorem dX1_addStage_49 : decode cX1_addStage 49 = .ok (.iconst 1, 1) := dec_row aX1_addStage_0 26 rfl
theorem dX1_addStage_50 : decode cX1_addStage 50 = .ok (.isub, 1) := dec_row aX1_addStage_0 27 rfl
theorem dX1_addStage_51 : decode cX1_addStage 51 = .ok (.iaload, 1) := dec_row aX1_addStage_0 28 rfl
theorem dX1_addStage_52 : decode cX1_addStage 52 = .ok (.if_icmp .le 13, 3) := dec_row aX1_addStage_0 29 rfl
theorem dX1_addStage_55 : decode cX1_addStage 55 = .ok (.iload_n 1, 1) := dec_row aX1_addStage_0 30 rfl
theorem dX1_addStage_56 : decode cX1_addStage 56 = .ok (.bipush 98, 2) := dec_row aX1_addStage_0 31 rfl
theorem dX1_addStage_58 : decode cX1_addStage 58 = .ok (.if_icmp .gt 7, 3) := dec_row aX1_addStage_0 32 rfl
theorem dX1_addStage_61 : decode cX1_addStage 61 = .ok (.iconst 1, 1) := dec_row aX1_addStage_0 33 rfl
theorem dX1_addStage_62 : decode cX1_addStage 62 = .ok (.goto 4, 3) := dec_row aX1_addStage_0 34 rfl
theorem dX1_addStage_65 : decode cX1_addStage 65 = .ok (.iconst 0, 1) := dec_row aX1_addStage_0 35 rfl
theorem dX1_addStage_66 : decode cX1_addStage 66 = .ok (.istore_n 3, 1) := dec_row aX1_addStage_0 36 rfl
theorem dX1_addStage_67 : decode cX1_addStage 67 = .ok (.iload_n 3, 1) := dec_row aX1_addStage_0 37 rfl
theorem dX1_addStage_68 : decode cX1_addStage 68 = .ok (.ifCond .ne 5, 3) := dec_row aX1_addStage_0 38 rfl
theorem dX1_addStage_71 : decode cX1_addStage 71 = .ok (.iconst 0, 1) := dec_row aX1_addStage_0 39 rfl
theorem dX1_addStage_72 : decode cX1_addStage 72 = .ok (.ireturn, 1) := dec_row aX1_addStage_0 40 rfl
theorem dX1_addStage_73 : decode cX1_addStage 73 = .ok (.aload_n 0, 1) := dec_row aX1_addStage_0 41 rfl
theorem dX1_addStage_74 : decode cX1_addStage 74 = .ok (.getfield 34, 3) := dec_row aX1_addStage_0 42 rfl
theorem dX1_addStage_77 : decode cX1_addStage 77 = .ok (.aload_n 0, 1) := dec_row aX1_addStage_0 43 rfl
theorem dX1_addStage_78 : decode cX1_addStage 78 = .ok (.getfield 31, 3) := dec_row aX1_addStage_0 44 rfl
theorem dX1_addStage_81 : decode cX1_addStage 81 = .ok (.iload_n 1, 1) := dec_row aX1_addStage_0 45 rfl
theorem dX1_addStage_82 : decode cX1_addStage 82 = .ok (.iastore, 1) := dec_row aX1_addStage_0 46 rfl
theorem dX1_addStage_83 : decode cX1_addStage 83 = .ok (.aload_n 0, 1) := dec_row aX1_addStage_0 47 rfl
theorem dX1_addStage_84 : decode cX1_addStage 84 = .ok (.getfield 37, 3) := dec_row aX1_addStage_0 48 rfl
theorem dX1_addStage_87 : decode cX1_addStage 87 = .ok (.aload_n 0, 1) := dec_row aX1_addStage_0 49 rfl
def tX1_addStage_1 : List (Nat × Instr × Nat) := [(88, .getfield 31, 3), (91, .iload_n 2, 1), (92, .iastore, 1), (93, .aload_n 0, 1), (94, .dup, 1), (95, .getfield 31, 3), (98, .iconst 1, 1), (99, .iadd, 1), (100, .putfield 31, 3), (103, .iconst 1, 1), (104, .ireturn, 1)]
theorem aX1_addStage_1 : tX1_addStage_1.all (fun q => decide (decode cX1_addStage q.1 = .ok q.2)) = true := by decide +kernel
theorem dX1_addStage_88 : decode cX1_addStage 88 = .ok (.getfield 31, 3) := dec_row aX1_addStage_1 0 rfl
theorem dX1_addStage_91 : decode cX1_addStage 91 = .ok (.iload_n 2, 1) := dec_row aX1_addStage_1 1 rfl
theorem dX1_addStage_92 : decode cX1_addStage 92 = .ok (.iastore, 1) := dec_row aX1_addStage_1 2 rfl
theorem dX1_addStage_93 : decode cX1_addStage 93 = .ok (.aload_n 0, 1) := dec_row aX1_addStage_1 3 rfl
theorem dX1_addStage_94 : decode cX1_addStage 94 = .ok (.dup, 1) := dec_row aX1_addStage_1 4 rfl
theorem dX1_addStage_95 : decode cX1_addStage 95 = .ok (.getfield 31, 3) := dec_row aX1_addStage_1 5 rfl
theorem dX1_addStage_98 : decode cX1_addStage 98 = .ok (.iconst 1, 1) := dec_row aX1_addStage_1 6 rfl
theorem dX1_addStage_99 : decode cX1_addStage 99 = .ok (.iadd, 1) := dec_row aX1_addStage_1 7 rfl
theorem dX1_addStage_100 : decode cX1_addStage 100 = .ok (.putfield 31, 3) := dec_row aX1_addStage_1 8 rfl
theorem dX1_addStage_103 : decode cX1_addStage 103 = .ok (.iconst 1, 1) := dec_row aX1_addStage_1 9 rfl
theorem dX1_addStage_104 : decode cX1_addStage 104 = .ok (.ireturn, 1) := dec_row aX1_addStage_1 10 rfl
def tX1_setThree : List (Nat × Instr × Nat) := [(0, .iconst 0, 1), (1, .istore_n 3, 1), (2, .iload_n 3, 1), (3, .iconst 3, 1), (4, .if_icmp .ge 37, 3), (7, .aload_n 2, 1), (8, .iload_n 3, 1), (9, .iaload, 1), (10, .getstatic 52, 3), (13, .iload_n 1, 1), (14, .iload_n 3, 1), (15, .iadd, 1), (16, .iaload, 1), (17, .if_icmp .lt 16, 3), (20, .aload_n 2, 1), (21, .iload_n 3, 1), (22, .iaload, 1), (23, .getstatic 55, 3), (26, .iload_n 1, 1), (27, .iload_n 3, 1), (28, .iadd, 1), (29, .iaload, 1), (30, .if_icmp .le 5, 3), (33, .iconst 0, 1), (34, .ireturn, 1), (35, .iinc 3 1, 3), (38, .goto (-36), 3), (41, .aload_n 2, 1), (42, .iconst 0, 1), (43, .aload_n 0, 1), (44, .getfield 40, 3), (47, .iload_n 1, 1), (48, .iconst 3, 1), (49, .invokestatic 46, 3), (52, .iconst 1, 1), (53, .ireturn, 1)]
theorem aX1_setThree : tX1_setThree.all (fun q => decide (decode cX1_setThree q.1 = .ok q.2)) = true := by decide +kernel
theorem dX1_setThree_0 : decode cX1_setThree 0 = .ok (.iconst 0, 1) := dec_row aX1_setThree 0 rfl
theorem dX1_setThree_1 : decode cX1_setThree 1 = .ok (.istore_n 3, 1) := dec_row aX1_setThree 1 rfl
theorem dX1_setThree_2 : decode cX1_setThree 2 = .ok (.iload_n 3, 1) := dec_row aX1_setThree 2 rfl
theorem dX1_setThree_3 : decode cX1_setThree 3 = .ok (.iconst 3, 1) := dec_row aX1_setThree 3 rfl
theorem dX1_setThree_4 : decode cX1_setThree 4 = .ok (.if_icmp .ge 37, 3) := dec_row aX1_setThree 4 rfl
theorem dX1_setThree_7 : decode cX1_setThree 7 = .ok (.aload_n 2, 1) := dec_row aX1_setThree 5 rfl
theorem dX1_setThree_8 : decode cX1_setThree 8 = .ok (.iload_n 3, 1) := dec_row aX1_setThree 6 rfl
theorem dX1_setThree_9 : decode cX1_setThree 9 = .ok (.iaload, 1) := dec_row aX1_setThree 7 rfl
theorem dX1_setThree_10 : decode cX1_setThree 10 = .ok (.getstatic 52, 3) := dec_row aX1_setThree 8 rfl
theorem dX1_setThree_13 : decode cX1_setThree 13 = .ok (.iload_n 1, 1) := dec_row aX1_setThree 9 rfl
theorem dX1_setThree_14 : decode cX1_setThree 14 = .ok (.iload_n 3, 1) := dec_row aX1_setThree 10 rfl
theorem dX1_setThree_15 : decode cX1_setThree 15 = .ok (.iadd, 1) := dec_row aX1_setThree 11 rfl
theorem dX1_setThree_16 : decode cX1_setThree 16 = .ok (.iaload, 1) := dec_row aX1_setThree 12 rfl
theorem dX1_setThree_17 : decode cX1_setThree 17 = .ok (.if_icmp .lt 16, 3) := dec_row aX1_setThree 13 rfl
theorem dX1_setThree_20 : decode cX1_setThree 20 = .ok (.aload_n 2, 1) := dec_row aX1_setThree 14 rfl
theorem dX1_setThree_21 : decode cX1_setThree 21 = .ok (.iload_n 3, 1) := dec_row aX1_setThree 15 rfl
theorem dX1_setThree_22 : decode cX1_setThree 22 = .ok (.iaload, 1) := dec_row aX1_setThree 16 rfl
theorem dX1_setThree_23 : decode cX1_setThree 23 = .ok (.getstatic 55, 3) := dec_row aX1_setThree 17 rfl
theorem dX1_setThree_26 : decode cX1_setThree 26 = .ok (.iload_n 1, 1) := dec_row aX1_setThree 18 rfl
theorem dX1_setThree_27 : decode cX1_setThree 27 = .ok (.iload_n 3, 1) := dec_row aX1_setThree 19 rfl
theorem dX1_setThree_28 : decode cX1_setThree 28 = .ok (.iadd, 1) := dec_row aX1_setThree 20 rfl
theorem dX1_setThree_29 : decode cX1_setThree 29 = .ok (.iaload, 1) := dec_row aX1_setThree 21 rfl
theorem dX1_setThree_30 : decode cX1_setThree 30 = .ok (.if_icmp .le 5, 3) := dec_row aX1_setThree 22 rfl
theorem dX1_setThree_33 : decode cX1_setThree 33 = .ok (.iconst 0, 1) := dec_row aX1_setThree 23 rfl
theorem dX1_setThree_34 : decode cX1_setThree 34 = .ok (.ireturn, 1) := dec_row aX1_setThree 24 rfl
theorem dX1_setThree_35 : decode cX1_setThree 35 = .ok (.iinc 3 1, 3) := dec_row aX1_setThree 25 rfl
theorem dX1_setThree_38 : decode cX1_setThree 38 = .ok (.goto (-36), 3) := dec_row aX1_setThree 26 rfl
theorem dX1_setThree_41 : decode cX1_setThree 41 = .ok (.aload_n 2, 1) := dec_row aX1_setThree 27 rfl
theorem dX1_setThree_42 : decode cX1_setThree 42 = .ok (.iconst 0, 1) := dec_row aX1_setThree 28 rfl
theorem dX1_setThree_43 : decode cX1_setThree 43 = .ok (.aload_n 0, 1) := dec_row aX1_setThree 29 rfl
theorem dX1_setThree_44 : decode cX1_setThree 44 = .ok (.getfield 40, 3) := dec_row aX1_setThree 30 rfl
theorem dX1_setThree_47 : decode cX1_setThree 47 = .ok (.iload_n 1, 1) := dec_row aX1_setThree 31 rfl
theorem dX1_setThree_48 : decode cX1_setThree 48 = .ok (.iconst 3, 1) := dec_row aX1_setThree 32 rfl
theorem dX1_setThree_49 : decode cX1_setThree 49 = .ok (.invokestatic 46, 3) := dec_row aX1_setThree 33 rfl
theorem dX1_setThree_52 : decode cX1_setThree 52 = .ok (.iconst 1, 1) := dec_row aX1_setThree 34 rfl
theorem dX1_setThree_53 : decode cX1_setThree 53 = .ok (.ireturn, 1) := dec_row aX1_setThree 35 rfl
def tX1_canBeLaid : List (Nat × Instr × Nat) := [(0, .aload_n 0, 1), (1, .getfield 9, 3), (4, .ifCond .eq 10, 3), (7, .aload_n 0, 1), (8, .getfield 31, 3), (11, .ifCond .ne 5, 3), (14, .iconst 0, 1), (15, .ireturn, 1), (16, .iconst 0, 1), (17, .istore_n 1, 1), (18, .iload_n 1, 1), (19, .aload_n 0, 1), (20, .getfield 25, 3), (23, .if_icmp .ge 19, 3), (26, .aload_n 0, 1), (27, .iload_n 1, 1), (28, .invokevirtual 58, 3), (31, .ifCond .ne 5, 3), (34, .iconst 0, 1), (35, .ireturn, 1), (36, .iinc 1 1, 3), (39, .goto (-21), 3), (42, .iconst 1, 1), (43, .ireturn, 1)]
theorem aX1_canBeLaid : tX1_canBeLaid.all (fun q => decide (decode cX1_canBeLaid q.1 = .ok q.2)) = true := by decide +kernel
theorem dX1_canBeLaid_0 : decode cX1_canBeLaid 0 = .ok (.aload_n 0, 1) := dec_row aX1_canBeLaid 0 rfl
theorem dX1_canBeLaid_1 : decode cX1_canBeLaid 1 = .ok (.getfield 9, 3) := dec_row aX1_canBeLaid 1 rfl
theorem dX1_canBeLaid_4 : decode cX1_canBeLaid 4 = .ok (.ifCond .eq 10, 3) := dec_row aX1_canBeLaid 2 rfl
theorem dX1_canBeLaid_7 : decode cX1_canBeLaid 7 = .ok (.aload_n 0, 1) := dec_row aX1_canBeLaid 3 rfl
theorem dX1_canBeLaid_8 : decode cX1_canBeLaid 8 = .ok (.getfield 31, 3) := dec_row aX1_canBeLaid 4 rfl
theorem dX1_canBeLaid_11 : decode cX1_canBeLaid 11 = .ok (.ifCond .ne 5, 3) := dec_row aX1_canBeLaid 5 rfl
theorem dX1_canBeLaid_14 : decode cX1_canBeLaid 14 = .ok (.iconst 0, 1) := dec_row aX1_canBeLaid 6 rfl
theorem dX1_canBeLaid_15 : decode cX1_canBeLaid 15 = .ok (.ireturn, 1) := dec_row aX1_canBeLaid 7 rfl
theorem dX1_canBeLaid_16 : decode cX1_canBeLaid 16 = .ok (.iconst 0, 1) := dec_row aX1_canBeLaid 8 rfl
theorem dX1_canBeLaid_17 : decode cX1_canBeLaid 17 = .ok (.istore_n 1, 1) := dec_row aX1_canBeLaid 9 rfl
theorem dX1_canBeLaid_18 : decode cX1_canBeLaid 18 = .ok (.iload_n 1, 1) := dec_row aX1_canBeLaid 10 rfl
theorem dX1_canBeLaid_19 : decode cX1_canBeLaid 19 = .ok (.aload_n 0, 1) := dec_row aX1_canBeLaid 11 rfl
theorem dX1_canBeLaid_20 : decode cX1_canBeLaid 20 = .ok (.getfield 25, 3) := dec_row aX1_canBeLaid 12 rfl
theorem dX1_canBeLaid_23 : decode cX1_canBeLaid 23 = .ok (.if_icmp .ge 19, 3) := dec_row aX1_canBeLaid 13 rfl
theorem dX1_canBeLaid_26 : decode cX1_canBeLaid 26 = .ok (.aload_n 0, 1) := dec_row aX1_canBeLaid 14 rfl
theorem dX1_canBeLaid_27 : decode cX1_canBeLaid 27 = .ok (.iload_n 1, 1) := dec_row aX1_canBeLaid 15 rfl
theorem dX1_canBeLaid_28 : decode cX1_canBeLaid 28 = .ok (.invokevirtual 58, 3) := dec_row aX1_canBeLaid 16 rfl
theorem dX1_canBeLaid_31 : decode cX1_canBeLaid 31 = .ok (.ifCond .ne 5, 3) := dec_row aX1_canBeLaid 17 rfl
theorem dX1_canBeLaid_34 : decode cX1_canBeLaid 34 = .ok (.iconst 0, 1) := dec_row aX1_canBeLaid 18 rfl
theorem dX1_canBeLaid_35 : decode cX1_canBeLaid 35 = .ok (.ireturn, 1) := dec_row aX1_canBeLaid 19 rfl
theorem dX1_canBeLaid_36 : decode cX1_canBeLaid 36 = .ok (.iinc 1 1, 3) := dec_row aX1_canBeLaid 20 rfl
theorem dX1_canBeLaid_39 : decode cX1_canBeLaid 39 = .ok (.goto (-21), 3) := dec_row aX1_canBeLaid 21 rfl
theorem dX1_canBeLaid_42 : decode cX1_canBeLaid 42 = .ok (.iconst 1, 1) := dec_row aX1_canBeLaid 22 rfl
theorem dX1_canBeLaid_43 : decode cX1_canBeLaid 43 = .ok (.ireturn, 1) := dec_row aX1_canBeLaid 23 rfl
def tX1_chainEnds : List (Nat × Instr × Nat) := [(0, .iload_n 1, 1), (1, .istore_n 2, 1), (2, .iconst 0, 1), (3, .istore_n 3, 1), (4, .iload_n 3, 1), (5, .aload_n 0, 1), (6, .getfield 25, 3), (9, .if_icmp .ge 27, 3), (12, .iload_n 2, 1), (13, .aload_n 0, 1), (14, .getfield 25, 3), (17, .if_icmp .lt 6, 3), (20, .goto 16, 3), (23, .aload_n 0, 1), (24, .getfield 28, 3), (27, .iload_n 2, 1), (28, .iaload, 1), (29, .istore_n 2, 1), (30, .iinc 3 1, 3), (33, .goto (-29), 3), (36, .iload_n 2, 1), (37, .bipush 9, 2), (39, .if_icmp .ne 7, 3), (42, .iconst 1, 1), (43, .goto 4, 3), (46, .iconst 0, 1), (47, .ireturn, 1)]
theorem aX1_chainEnds : tX1_chainEnds.all (fun q => decide (decode cX1_chainEnds q.1 = .ok q.2)) = true := by decide +kernel
theorem dX1_chainEnds_0 : decode cX1_chainEnds 0 = .ok (.iload_n 1, 1) := dec_row aX1_chainEnds 0 rfl
theorem dX1_chainEnds_1 : decode cX1_chainEnds 1 = .ok (.istore_n 2, 1) := dec_row aX1_chainEnds 1 rfl
theorem dX1_chainEnds_2 : decode cX1_chainEnds 2 = .ok (.iconst 0, 1) := dec_row aX1_chainEnds 2 rfl
theorem dX1_chainEnds_3 : decode cX1_chainEnds 3 = .ok (.istore_n 3, 1) := dec_row aX1_chainEnds 3 rfl
theorem dX1_chainEnds_4 : decode cX1_chainEnds 4 = .ok (.iload_n 3, 1) := dec_row aX1_chainEnds 4 rfl
theorem dX1_chainEnds_5 : decode cX1_chainEnds 5 = .ok (.aload_n 0, 1) := dec_row aX1_chainEnds 5 rfl
theorem dX1_chainEnds_6 : decode cX1_chainEnds 6 = .ok (.getfield 25, 3) := dec_row aX1_chainEnds 6 rfl
theorem dX1_chainEnds_9 : decode cX1_chainEnds 9 = .ok (.if_icmp .ge 27, 3) := dec_row aX1_chainEnds 7 rfl
theorem dX1_chainEnds_12 : decode cX1_chainEnds 12 = .ok (.iload_n 2, 1) := dec_row aX1_chainEnds 8 rfl
theorem dX1_chainEnds_13 : decode cX1_chainEnds 13 = .ok (.aload_n 0, 1) := dec_row aX1_chainEnds 9 rfl
theorem dX1_chainEnds_14 : decode cX1_chainEnds 14 = .ok (.getfield 25, 3) := dec_row aX1_chainEnds 10 rfl
theorem dX1_chainEnds_17 : decode cX1_chainEnds 17 = .ok (.if_icmp .lt 6, 3) := dec_row aX1_chainEnds 11 rfl
theorem dX1_chainEnds_20 : decode cX1_chainEnds 20 = .ok (.goto 16, 3) := dec_row aX1_chainEnds 12 rfl
theorem dX1_chainEnds_23 : decode cX1_chainEnds 23 = .ok (.aload_n 0, 1) := dec_row aX1_chainEnds 13 rfl
theorem dX1_chainEnds_24 : decode cX1_chainEnds 24 = .ok (.getfield 28, 3) := dec_row aX1_chainEnds 14 rfl
theorem dX1_chainEnds_27 : decode cX1_chainEnds 27 = .ok (.iload_n 2, 1) := dec_row aX1_chainEnds 15 rfl
theorem dX1_chainEnds_28 : decode cX1_chainEnds 28 = .ok (.iaload, 1) := dec_row aX1_chainEnds 16 rfl
theorem dX1_chainEnds_29 : decode cX1_chainEnds 29 = .ok (.istore_n 2, 1) := dec_row aX1_chainEnds 17 rfl
theorem dX1_chainEnds_30 : decode cX1_chainEnds 30 = .ok (.iinc 3 1, 3) := dec_row aX1_chainEnds 18 rfl
theorem dX1_chainEnds_33 : decode cX1_chainEnds 33 = .ok (.goto (-29), 3) := dec_row aX1_chainEnds 19 rfl
theorem dX1_chainEnds_36 : decode cX1_chainEnds 36 = .ok (.iload_n 2, 1) := dec_row aX1_chainEnds 20 rfl
theorem dX1_chainEnds_37 : decode cX1_chainEnds 37 = .ok (.bipush 9, 2) := dec_row aX1_chainEnds 21 rfl
theorem dX1_chainEnds_39 : decode cX1_chainEnds 39 = .ok (.if_icmp .ne 7, 3) := dec_row aX1_chainEnds 22 rfl
theorem dX1_chainEnds_42 : decode cX1_chainEnds 42 = .ok (.iconst 1, 1) := dec_row aX1_chainEnds 23 rfl
theorem dX1_chainEnds_43 : decode cX1_chainEnds 43 = .ok (.goto 4, 3) := dec_row aX1_chainEnds 24 rfl
theorem dX1_chainEnds_46 : decode cX1_chainEnds 46 = .ok (.iconst 0, 1) := dec_row aX1_chainEnds 25 rfl
theorem dX1_chainEnds_47 : decode cX1_chainEnds 47 = .ok (.ireturn, 1) := dec_row aX1_chainEnds 26 rfl
def tX1_coreInTurn : List (Nat × Instr × Nat) := [(0, .iconst 0, 1), (1, .istore_n 2, 1), (2, .bipush (-4), 2), (4, .istore_n 3, 1), (5, .iconst 0, 1), (6, .istore 4, 2), (8, .iload 4, 2), (10, .iload_n 1, 1), (11, .if_icmp .gt 39, 3), (14, .iload 4, 2), (16, .aload_n 0, 1), (17, .getfield 25, 3), (20, .if_icmp .ge 30, 3), (23, .aload_n 0, 1), (24, .iload_n 2, 1), (25, .invokevirtual 62, 3), (28, .istore_n 3, 1), (29, .iload_n 3, 1), (30, .bipush (-4), 2), (32, .if_icmp .ne 6, 3), (35, .bipush (-4), 2), (37, .ireturn, 1), (38, .iload_n 2, 1), (39, .iconst 1, 1), (40, .iload_n 3, 1), (41, .ishl, 1), (42, .ior, 1), (43, .istore_n 2, 1), (44, .iinc 4 1, 3), (47, .goto (-39), 3), (50, .iload_n 3, 1), (51, .ireturn, 1)]
theorem aX1_coreInTurn : tX1_coreInTurn.all (fun q => decide (decode cX1_coreInTurn q.1 = .ok q.2)) = true := by decide +kernel
theorem dX1_coreInTurn_0 : decode cX1_coreInTurn 0 = .ok (.iconst 0, 1) := dec_row aX1_coreInTurn 0 rfl
theorem dX1_coreInTurn_1 : decode cX1_coreInTurn 1 = .ok (.istore_n 2, 1) := dec_row aX1_coreInTurn 1 rfl
theorem dX1_coreInTurn_2 : decode cX1_coreInTurn 2 = .ok (.bipush (-4), 2) := dec_row aX1_coreInTurn 2 rfl
theorem dX1_coreInTurn_4 : decode cX1_coreInTurn 4 = .ok (.istore_n 3, 1) := dec_row aX1_coreInTurn 3 rfl
theorem dX1_coreInTurn_5 : decode cX1_coreInTurn 5 = .ok (.iconst 0, 1) := dec_row aX1_coreInTurn 4 rfl
theorem dX1_coreInTurn_6 : decode cX1_coreInTurn 6 = .ok (.istore 4, 2) := dec_row aX1_coreInTurn 5 rfl
theorem dX1_coreInTurn_8 : decode cX1_coreInTurn 8 = .ok (.iload 4, 2) := dec_row aX1_coreInTurn 6 rfl
theorem dX1_coreInTurn_10 : decode cX1_coreInTurn 10 = .ok (.iload_n 1, 1) := dec_row aX1_coreInTurn 7 rfl
theorem dX1_coreInTurn_11 : decode cX1_coreInTurn 11 = .ok (.if_icmp .gt 39, 3) := dec_row aX1_coreInTurn 8 rfl
theorem dX1_coreInTurn_14 : decode cX1_coreInTurn 14 = .ok (.iload 4, 2) := dec_row aX1_coreInTurn 9 rfl
theorem dX1_coreInTurn_16 : decode cX1_coreInTurn 16 = .ok (.aload_n 0, 1) := dec_row aX1_coreInTurn 10 rfl
theorem dX1_coreInTurn_17 : decode cX1_coreInTurn 17 = .ok (.getfield 25, 3) := dec_row aX1_coreInTurn 11 rfl
theorem dX1_coreInTurn_20 : decode cX1_coreInTurn 20 = .ok (.if_icmp .ge 30, 3) := dec_row aX1_coreInTurn 12 rfl
theorem dX1_coreInTurn_23 : decode cX1_coreInTurn 23 = .ok (.aload_n 0, 1) := dec_row aX1_coreInTurn 13 rfl
theorem dX1_coreInTurn_24 : decode cX1_coreInTurn 24 = .ok (.iload_n 2, 1) := dec_row aX1_coreInTurn 14 rfl
theorem dX1_coreInTurn_25 : decode cX1_coreInTurn 25 = .ok (.invokevirtual 62, 3) := dec_row aX1_coreInTurn 15 rfl
theorem dX1_coreInTurn_28 : decode cX1_coreInTurn 28 = .ok (.istore_n 3, 1) := dec_row aX1_coreInTurn 16 rfl
theorem dX1_coreInTurn_29 : decode cX1_coreInTurn 29 = .ok (.iload_n 3, 1) := dec_row aX1_coreInTurn 17 rfl
theorem dX1_coreInTurn_30 : decode cX1_coreInTurn 30 = .ok (.bipush (-4), 2) := dec_row aX1_coreInTurn 18 rfl
theorem dX1_coreInTurn_32 : decode cX1_coreInTurn 32 = .ok (.if_icmp .ne 6, 3) := dec_row aX1_coreInTurn 19 rfl
theorem dX1_coreInTurn_35 : decode cX1_coreInTurn 35 = .ok (.bipush (-4), 2) := dec_row aX1_coreInTurn 20 rfl
theorem dX1_coreInTurn_37 : decode cX1_coreInTurn 37 = .ok (.ireturn, 1) := dec_row aX1_coreInTurn 21 rfl
theorem dX1_coreInTurn_38 : decode cX1_coreInTurn 38 = .ok (.iload_n 2, 1) := dec_row aX1_coreInTurn 22 rfl
theorem dX1_coreInTurn_39 : decode cX1_coreInTurn 39 = .ok (.iconst 1, 1) := dec_row aX1_coreInTurn 23 rfl
theorem dX1_coreInTurn_40 : decode cX1_coreInTurn 40 = .ok (.iload_n 3, 1) := dec_row aX1_coreInTurn 24 rfl
theorem dX1_coreInTurn_41 : decode cX1_coreInTurn 41 = .ok (.ishl, 1) := dec_row aX1_coreInTurn 25 rfl
theorem dX1_coreInTurn_42 : decode cX1_coreInTurn 42 = .ok (.ior, 1) := dec_row aX1_coreInTurn 26 rfl
theorem dX1_coreInTurn_43 : decode cX1_coreInTurn 43 = .ok (.istore_n 2, 1) := dec_row aX1_coreInTurn 27 rfl
theorem dX1_coreInTurn_44 : decode cX1_coreInTurn 44 = .ok (.iinc 4 1, 3) := dec_row aX1_coreInTurn 28 rfl
theorem dX1_coreInTurn_47 : decode cX1_coreInTurn 47 = .ok (.goto (-39), 3) := dec_row aX1_coreInTurn 29 rfl
theorem dX1_coreInTurn_50 : decode cX1_coreInTurn 50 = .ok (.iload_n 3, 1) := dec_row aX1_coreInTurn 30 rfl
theorem dX1_coreInTurn_51 : decode cX1_coreInTurn 51 = .ok (.ireturn, 1) := dec_row aX1_coreInTurn 31 rfl
def tX1_nextIn : List (Nat × Instr × Nat) := [(0, .iconst 0, 1), (1, .istore_n 2, 1), (2, .iload_n 2, 1), (3, .aload_n 0, 1), (4, .getfield 25, 3), (7, .if_icmp .ge 54, 3), (10, .iload_n 1, 1), (11, .iload_n 2, 1), (12, .ishr, 1), (13, .iconst 1, 1), (14, .iand, 1), (15, .ifCond .ne 7, 3), (18, .iconst 1, 1), (19, .goto 4, 3), (22, .iconst 0, 1), (23, .istore_n 3, 1), (24, .iload_n 3, 1), (25, .ifCond .eq 30, 3), (28, .aload_n 0, 1), (29, .getfield 28, 3), (32, .iload_n 2, 1), (33, .iaload, 1), (34, .bipush 9, 2), (36, .if_icmp .eq 17, 3), (39, .iload_n 1, 1), (40, .aload_n 0, 1), (41, .getfield 28, 3), (44, .iload_n 2, 1), (45, .iaload, 1), (46, .ishr, 1), (47, .iconst 1, 1), (48, .iand, 1), (49, .iconst 1, 1), (50, .if_icmp .ne 5, 3), (53, .iload_n 2, 1), (54, .ireturn, 1), (55, .iinc 2 1, 3), (58, .goto (-56), 3), (61, .bipush (-4), 2), (63, .ireturn, 1)]
theorem aX1_nextIn : tX1_nextIn.all (fun q => decide (decode cX1_nextIn q.1 = .ok q.2)) = true := by decide +kernel
theorem dX1_nextIn_0 : decode cX1_nextIn 0 = .ok (.iconst 0, 1) := dec_row aX1_nextIn 0 rfl
theorem dX1_nextIn_1 : decode cX1_nextIn 1 = .ok (.istore_n 2, 1) := dec_row aX1_nextIn 1 rfl
theorem dX1_nextIn_2 : decode cX1_nextIn 2 = .ok (.iload_n 2, 1) := dec_row aX1_nextIn 2 rfl
theorem dX1_nextIn_3 : decode cX1_nextIn 3 = .ok (.aload_n 0, 1) := dec_row aX1_nextIn 3 rfl
theorem dX1_nextIn_4 : decode cX1_nextIn 4 = .ok (.getfield 25, 3) := dec_row aX1_nextIn 4 rfl
theorem dX1_nextIn_7 : decode cX1_nextIn 7 = .ok (.if_icmp .ge 54, 3) := dec_row aX1_nextIn 5 rfl
theorem dX1_nextIn_10 : decode cX1_nextIn 10 = .ok (.iload_n 1, 1) := dec_row aX1_nextIn 6 rfl
theorem dX1_nextIn_11 : decode cX1_nextIn 11 = .ok (.iload_n 2, 1) := dec_row aX1_nextIn 7 rfl
theorem dX1_nextIn_12 : decode cX1_nextIn 12 = .ok (.ishr, 1) := dec_row aX1_nextIn 8 rfl
theorem dX1_nextIn_13 : decode cX1_nextIn 13 = .ok (.iconst 1, 1) := dec_row aX1_nextIn 9 rfl
theorem dX1_nextIn_14 : decode cX1_nextIn 14 = .ok (.iand, 1) := dec_row aX1_nextIn 10 rfl
theorem dX1_nextIn_15 : decode cX1_nextIn 15 = .ok (.ifCond .ne 7, 3) := dec_row aX1_nextIn 11 rfl
theorem dX1_nextIn_18 : decode cX1_nextIn 18 = .ok (.iconst 1, 1) := dec_row aX1_nextIn 12 rfl
theorem dX1_nextIn_19 : decode cX1_nextIn 19 = .ok (.goto 4, 3) := dec_row aX1_nextIn 13 rfl
theorem dX1_nextIn_22 : decode cX1_nextIn 22 = .ok (.iconst 0, 1) := dec_row aX1_nextIn 14 rfl
theorem dX1_nextIn_23 : decode cX1_nextIn 23 = .ok (.istore_n 3, 1) := dec_row aX1_nextIn 15 rfl
theorem dX1_nextIn_24 : decode cX1_nextIn 24 = .ok (.iload_n 3, 1) := dec_row aX1_nextIn 16 rfl
theorem dX1_nextIn_25 : decode cX1_nextIn 25 = .ok (.ifCond .eq 30, 3) := dec_row aX1_nextIn 17 rfl
theorem dX1_nextIn_28 : decode cX1_nextIn 28 = .ok (.aload_n 0, 1) := dec_row aX1_nextIn 18 rfl
theorem dX1_nextIn_29 : decode cX1_nextIn 29 = .ok (.getfield 28, 3) := dec_row aX1_nextIn 19 rfl
theorem dX1_nextIn_32 : decode cX1_nextIn 32 = .ok (.iload_n 2, 1) := dec_row aX1_nextIn 20 rfl
theorem dX1_nextIn_33 : decode cX1_nextIn 33 = .ok (.iaload, 1) := dec_row aX1_nextIn 21 rfl
theorem dX1_nextIn_34 : decode cX1_nextIn 34 = .ok (.bipush 9, 2) := dec_row aX1_nextIn 22 rfl
theorem dX1_nextIn_36 : decode cX1_nextIn 36 = .ok (.if_icmp .eq 17, 3) := dec_row aX1_nextIn 23 rfl
theorem dX1_nextIn_39 : decode cX1_nextIn 39 = .ok (.iload_n 1, 1) := dec_row aX1_nextIn 24 rfl
theorem dX1_nextIn_40 : decode cX1_nextIn 40 = .ok (.aload_n 0, 1) := dec_row aX1_nextIn 25 rfl
theorem dX1_nextIn_41 : decode cX1_nextIn 41 = .ok (.getfield 28, 3) := dec_row aX1_nextIn 26 rfl
theorem dX1_nextIn_44 : decode cX1_nextIn 44 = .ok (.iload_n 2, 1) := dec_row aX1_nextIn 27 rfl
theorem dX1_nextIn_45 : decode cX1_nextIn 45 = .ok (.iaload, 1) := dec_row aX1_nextIn 28 rfl
theorem dX1_nextIn_46 : decode cX1_nextIn 46 = .ok (.ishr, 1) := dec_row aX1_nextIn 29 rfl
theorem dX1_nextIn_47 : decode cX1_nextIn 47 = .ok (.iconst 1, 1) := dec_row aX1_nextIn 30 rfl
theorem dX1_nextIn_48 : decode cX1_nextIn 48 = .ok (.iand, 1) := dec_row aX1_nextIn 31 rfl
theorem dX1_nextIn_49 : decode cX1_nextIn 49 = .ok (.iconst 1, 1) := dec_row aX1_nextIn 32 rfl
theorem dX1_nextIn_50 : decode cX1_nextIn 50 = .ok (.if_icmp .ne 5, 3) := dec_row aX1_nextIn 33 rfl
theorem dX1_nextIn_53 : decode cX1_nextIn 53 = .ok (.iload_n 2, 1) := dec_row aX1_nextIn 34 rfl
theorem dX1_nextIn_54 : decode cX1_nextIn 54 = .ok (.ireturn, 1) := dec_row aX1_nextIn 35 rfl
theorem dX1_nextIn_55 : decode cX1_nextIn 55 = .ok (.iinc 2 1, 3) := dec_row aX1_nextIn 36 rfl
theorem dX1_nextIn_58 : decode cX1_nextIn 58 = .ok (.goto (-56), 3) := dec_row aX1_nextIn 37 rfl
theorem dX1_nextIn_61 : decode cX1_nextIn 61 = .ok (.bipush (-4), 2) := dec_row aX1_nextIn 38 rfl
theorem dX1_nextIn_63 : decode cX1_nextIn 63 = .ok (.ireturn, 1) := dec_row aX1_nextIn 39 rfl
def tX2_init : List (Nat × Instr × Nat) := [(0, .aload_n 0, 1), (1, .invokespecial 3, 3), (4, .aload_n 0, 1), (5, .bipush 6, 2), (7, .newarray .int, 2), (9, .putfield 9, 3), (12, .aload_n 0, 1), (13, .bipush 6, 2), (15, .newarray .int, 2), (17, .putfield 15, 3), (20, .aload_n 0, 1), (21, .bipush 6, 2), (23, .newarray .int, 2), (25, .putfield 18, 3), (28, .aload_n 0, 1), (29, .bipush 60, 2), (31, .newarray .int, 2), (33, .putfield 21, 3), (36, .aload_n 0, 1), (37, .iconst 0, 1), (38, .putfield 24, 3), (41, .aload_n 0, 1), (42, .iconst 0, 1), (43, .putfield 28, 3), (46, .aload_n 0, 1), (47, .iconst 0, 1), (48, .putfield 31, 3), (51, .aload_n 0, 1), (52, .iconst 0, 1), (53, .putfield 34, 3), (56, .aload_n 0, 1), (57, .bipush (-4), 2), (59, .putfield 37, 3), (62, .return_, 1)]
theorem aX2_init : tX2_init.all (fun q => decide (decode cX2_init q.1 = .ok q.2)) = true := by decide +kernel
theorem dX2_init_0 : decode cX2_init 0 = .ok (.aload_n 0, 1) := dec_row aX2_init 0 rfl
theorem dX2_init_1 : decode cX2_init 1 = .ok (.invokespecial 3, 3) := dec_row aX2_init 1 rfl
theorem dX2_init_4 : decode cX2_init 4 = .ok (.aload_n 0, 1) := dec_row aX2_init 2 rfl
theorem dX2_init_5 : decode cX2_init 5 = .ok (.bipush 6, 2) := dec_row aX2_init 3 rfl
theorem dX2_init_7 : decode cX2_init 7 = .ok (.newarray .int, 2) := dec_row aX2_init 4 rfl
theorem dX2_init_9 : decode cX2_init 9 = .ok (.putfield 9, 3) := dec_row aX2_init 5 rfl
theorem dX2_init_12 : decode cX2_init 12 = .ok (.aload_n 0, 1) := dec_row aX2_init 6 rfl
theorem dX2_init_13 : decode cX2_init 13 = .ok (.bipush 6, 2) := dec_row aX2_init 7 rfl
theorem dX2_init_15 : decode cX2_init 15 = .ok (.newarray .int, 2) := dec_row aX2_init 8 rfl
theorem dX2_init_17 : decode cX2_init 17 = .ok (.putfield 15, 3) := dec_row aX2_init 9 rfl
theorem dX2_init_20 : decode cX2_init 20 = .ok (.aload_n 0, 1) := dec_row aX2_init 10 rfl
theorem dX2_init_21 : decode cX2_init 21 = .ok (.bipush 6, 2) := dec_row aX2_init 11 rfl
theorem dX2_init_23 : decode cX2_init 23 = .ok (.newarray .int, 2) := dec_row aX2_init 12 rfl
theorem dX2_init_25 : decode cX2_init 25 = .ok (.putfield 18, 3) := dec_row aX2_init 13 rfl
theorem dX2_init_28 : decode cX2_init 28 = .ok (.aload_n 0, 1) := dec_row aX2_init 14 rfl
theorem dX2_init_29 : decode cX2_init 29 = .ok (.bipush 60, 2) := dec_row aX2_init 15 rfl
theorem dX2_init_31 : decode cX2_init 31 = .ok (.newarray .int, 2) := dec_row aX2_init 16 rfl
theorem dX2_init_33 : decode cX2_init 33 = .ok (.putfield 21, 3) := dec_row aX2_init 17 rfl
theorem dX2_init_36 : decode cX2_init 36 = .ok (.aload_n 0, 1) := dec_row aX2_init 18 rfl
theorem dX2_init_37 : decode cX2_init 37 = .ok (.iconst 0, 1) := dec_row aX2_init 19 rfl
theorem dX2_init_38 : decode cX2_init 38 = .ok (.putfield 24, 3) := dec_row aX2_init 20 rfl
theorem dX2_init_41 : decode cX2_init 41 = .ok (.aload_n 0, 1) := dec_row aX2_init 21 rfl
theorem dX2_init_42 : decode cX2_init 42 = .ok (.iconst 0, 1) := dec_row aX2_init 22 rfl
theorem dX2_init_43 : decode cX2_init 43 = .ok (.putfield 28, 3) := dec_row aX2_init 23 rfl
theorem dX2_init_46 : decode cX2_init 46 = .ok (.aload_n 0, 1) := dec_row aX2_init 24 rfl
theorem dX2_init_47 : decode cX2_init 47 = .ok (.iconst 0, 1) := dec_row aX2_init 25 rfl
theorem dX2_init_48 : decode cX2_init 48 = .ok (.putfield 31, 3) := dec_row aX2_init 26 rfl
theorem dX2_init_51 : decode cX2_init 51 = .ok (.aload_n 0, 1) := dec_row aX2_init 27 rfl
theorem dX2_init_52 : decode cX2_init 52 = .ok (.iconst 0, 1) := dec_row aX2_init 28 rfl
theorem dX2_init_53 : decode cX2_init 53 = .ok (.putfield 34, 3) := dec_row aX2_init 29 rfl
theorem dX2_init_56 : decode cX2_init 56 = .ok (.aload_n 0, 1) := dec_row aX2_init 30 rfl
theorem dX2_init_57 : decode cX2_init 57 = .ok (.bipush (-4), 2) := dec_row aX2_init 31 rfl
theorem dX2_init_59 : decode cX2_init 59 = .ok (.putfield 37, 3) := dec_row aX2_init 32 rfl
theorem dX2_init_62 : decode cX2_init 62 = .ok (.return_, 1) := dec_row aX2_init 33 rfl
def tX2_make : List (Nat × Instr × Nat) := [(0, .aload_n 0, 1), (1, .invokevirtual 40, 3), (4, .aload_n 0, 1), (5, .aload_n 1, 1), (6, .aload_n 2, 1), (7, .iload_n 3, 1), (8, .invokevirtual 43, 3), (11, .aload_n 0, 1), (12, .aload_n 1, 1), (13, .aload_n 2, 1), (14, .invokevirtual 47, 3), (17, .aload_n 0, 1), (18, .aload_n 2, 1), (19, .getfield 51, 3), (22, .iconst 5, 1), (23, .iaload, 1), (24, .putfield 34, 3), (27, .return_, 1)]
theorem aX2_make : tX2_make.all (fun q => decide (decode cX2_make q.1 = .ok q.2)) = true := by decide +kernel
theorem dX2_make_0 : decode cX2_make 0 = .ok (.aload_n 0, 1) := dec_row aX2_make 0 rfl
theorem dX2_make_1 : decode cX2_make 1 = .ok (.invokevirtual 40, 3) := dec_row aX2_make 1 rfl
theorem dX2_make_4 : decode cX2_make 4 = .ok (.aload_n 0, 1) := dec_row aX2_make 2 rfl
theorem dX2_make_5 : decode cX2_make 5 = .ok (.aload_n 1, 1) := dec_row aX2_make 3 rfl
theorem dX2_make_6 : decode cX2_make 6 = .ok (.aload_n 2, 1) := dec_row aX2_make 4 rfl
theorem dX2_make_7 : decode cX2_make 7 = .ok (.iload_n 3, 1) := dec_row aX2_make 5 rfl
theorem dX2_make_8 : decode cX2_make 8 = .ok (.invokevirtual 43, 3) := dec_row aX2_make 6 rfl
theorem dX2_make_11 : decode cX2_make 11 = .ok (.aload_n 0, 1) := dec_row aX2_make 7 rfl
theorem dX2_make_12 : decode cX2_make 12 = .ok (.aload_n 1, 1) := dec_row aX2_make 8 rfl
theorem dX2_make_13 : decode cX2_make 13 = .ok (.aload_n 2, 1) := dec_row aX2_make 9 rfl
theorem dX2_make_14 : decode cX2_make 14 = .ok (.invokevirtual 47, 3) := dec_row aX2_make 10 rfl
theorem dX2_make_17 : decode cX2_make 17 = .ok (.aload_n 0, 1) := dec_row aX2_make 11 rfl
theorem dX2_make_18 : decode cX2_make 18 = .ok (.aload_n 2, 1) := dec_row aX2_make 12 rfl
theorem dX2_make_19 : decode cX2_make 19 = .ok (.getfield 51, 3) := dec_row aX2_make 13 rfl
theorem dX2_make_22 : decode cX2_make 22 = .ok (.iconst 5, 1) := dec_row aX2_make 14 rfl
theorem dX2_make_23 : decode cX2_make 23 = .ok (.iaload, 1) := dec_row aX2_make 15 rfl
theorem dX2_make_24 : decode cX2_make 24 = .ok (.putfield 34, 3) := dec_row aX2_make 16 rfl
theorem dX2_make_27 : decode cX2_make 27 = .ok (.return_, 1) := dec_row aX2_make 17 rfl
def tX2_clear : List (Nat × Instr × Nat) := [(0, .iconst 0, 1), (1, .istore_n 1, 1), (2, .iload_n 1, 1), (3, .bipush 6, 2), (5, .if_icmp .ge 30, 3), (8, .aload_n 0, 1), (9, .getfield 9, 3), (12, .iload_n 1, 1), (13, .iconst 0, 1), (14, .iastore, 1), (15, .aload_n 0, 1), (16, .getfield 15, 3), (19, .iload_n 1, 1), (20, .iconst 0, 1), (21, .iastore, 1), (22, .aload_n 0, 1), (23, .getfield 18, 3), (26, .iload_n 1, 1), (27, .iconst 0, 1), (28, .iastore, 1), (29, .iinc 1 1, 3), (32, .goto (-30), 3), (35, .iconst 0, 1), (36, .istore_n 1, 1), (37, .iload_n 1, 1), (38, .bipush 60, 2), (40, .if_icmp .ge 16, 3), (43, .aload_n 0, 1), (44, .getfield 21, 3), (47, .iload_n 1, 1), (48, .iconst 0, 1), (49, .iastore, 1), (50, .iinc 1 1, 3), (53, .goto (-16), 3), (56, .aload_n 0, 1), (57, .iconst 0, 1), (58, .putfield 24, 3), (61, .aload_n 0, 1), (62, .iconst 0, 1), (63, .putfield 31, 3), (66, .aload_n 0, 1), (67, .bipush (-4), 2), (69, .putfield 37, 3), (72, .return_, 1)]
theorem aX2_clear : tX2_clear.all (fun q => decide (decode cX2_clear q.1 = .ok q.2)) = true := by decide +kernel
theorem dX2_clear_0 : decode cX2_clear 0 = .ok (.iconst 0, 1) := dec_row aX2_clear 0 rfl
theorem dX2_clear_1 : decode cX2_clear 1 = .ok (.istore_n 1, 1) := dec_row aX2_clear 1 rfl
theorem dX2_clear_2 : decode cX2_clear 2 = .ok (.iload_n 1, 1) := dec_row aX2_clear 2 rfl
theorem dX2_clear_3 : decode cX2_clear 3 = .ok (.bipush 6, 2) := dec_row aX2_clear 3 rfl
theorem dX2_clear_5 : decode cX2_clear 5 = .ok (.if_icmp .ge 30, 3) := dec_row aX2_clear 4 rfl
theorem dX2_clear_8 : decode cX2_clear 8 = .ok (.aload_n 0, 1) := dec_row aX2_clear 5 rfl
theorem dX2_clear_9 : decode cX2_clear 9 = .ok (.getfield 9, 3) := dec_row aX2_clear 6 rfl
theorem dX2_clear_12 : decode cX2_clear 12 = .ok (.iload_n 1, 1) := dec_row aX2_clear 7 rfl
theorem dX2_clear_13 : decode cX2_clear 13 = .ok (.iconst 0, 1) := dec_row aX2_clear 8 rfl
theorem dX2_clear_14 : decode cX2_clear 14 = .ok (.iastore, 1) := dec_row aX2_clear 9 rfl
theorem dX2_clear_15 : decode cX2_clear 15 = .ok (.aload_n 0, 1) := dec_row aX2_clear 10 rfl
theorem dX2_clear_16 : decode cX2_clear 16 = .ok (.getfield 15, 3) := dec_row aX2_clear 11 rfl
theorem dX2_clear_19 : decode cX2_clear 19 = .ok (.iload_n 1, 1) := dec_row aX2_clear 12 rfl
theorem dX2_clear_20 : decode cX2_clear 20 = .ok (.iconst 0, 1) := dec_row aX2_clear 13 rfl
theorem dX2_clear_21 : decode cX2_clear 21 = .ok (.iastore, 1) := dec_row aX2_clear 14 rfl
theorem dX2_clear_22 : decode cX2_clear 22 = .ok (.aload_n 0, 1) := dec_row aX2_clear 15 rfl
theorem dX2_clear_23 : decode cX2_clear 23 = .ok (.getfield 18, 3) := dec_row aX2_clear 16 rfl
theorem dX2_clear_26 : decode cX2_clear 26 = .ok (.iload_n 1, 1) := dec_row aX2_clear 17 rfl
theorem dX2_clear_27 : decode cX2_clear 27 = .ok (.iconst 0, 1) := dec_row aX2_clear 18 rfl
theorem dX2_clear_28 : decode cX2_clear 28 = .ok (.iastore, 1) := dec_row aX2_clear 19 rfl
theorem dX2_clear_29 : decode cX2_clear 29 = .ok (.iinc 1 1, 3) := dec_row aX2_clear 20 rfl
theorem dX2_clear_32 : decode cX2_clear 32 = .ok (.goto (-30), 3) := dec_row aX2_clear 21 rfl
theorem dX2_clear_35 : decode cX2_clear 35 = .ok (.iconst 0, 1) := dec_row aX2_clear 22 rfl
theorem dX2_clear_36 : decode cX2_clear 36 = .ok (.istore_n 1, 1) := dec_row aX2_clear 23 rfl
theorem dX2_clear_37 : decode cX2_clear 37 = .ok (.iload_n 1, 1) := dec_row aX2_clear 24 rfl
theorem dX2_clear_38 : decode cX2_clear 38 = .ok (.bipush 60, 2) := dec_row aX2_clear 25 rfl
theorem dX2_clear_40 : decode cX2_clear 40 = .ok (.if_icmp .ge 16, 3) := dec_row aX2_clear 26 rfl
theorem dX2_clear_43 : decode cX2_clear 43 = .ok (.aload_n 0, 1) := dec_row aX2_clear 27 rfl
theorem dX2_clear_44 : decode cX2_clear 44 = .ok (.getfield 21, 3) := dec_row aX2_clear 28 rfl
theorem dX2_clear_47 : decode cX2_clear 47 = .ok (.iload_n 1, 1) := dec_row aX2_clear 29 rfl
theorem dX2_clear_48 : decode cX2_clear 48 = .ok (.iconst 0, 1) := dec_row aX2_clear 30 rfl
theorem dX2_clear_49 : decode cX2_clear 49 = .ok (.iastore, 1) := dec_row aX2_clear 31 rfl
theorem dX2_clear_50 : decode cX2_clear 50 = .ok (.iinc 1 1, 3) := dec_row aX2_clear 32 rfl
theorem dX2_clear_53 : decode cX2_clear 53 = .ok (.goto (-16), 3) := dec_row aX2_clear 33 rfl
theorem dX2_clear_56 : decode cX2_clear 56 = .ok (.aload_n 0, 1) := dec_row aX2_clear 34 rfl
theorem dX2_clear_57 : decode cX2_clear 57 = .ok (.iconst 0, 1) := dec_row aX2_clear 35 rfl
theorem dX2_clear_58 : decode cX2_clear 58 = .ok (.putfield 24, 3) := dec_row aX2_clear 36 rfl
theorem dX2_clear_61 : decode cX2_clear 61 = .ok (.aload_n 0, 1) := dec_row aX2_clear 37 rfl
theorem dX2_clear_62 : decode cX2_clear 62 = .ok (.iconst 0, 1) := dec_row aX2_clear 38 rfl
theorem dX2_clear_63 : decode cX2_clear 63 = .ok (.putfield 31, 3) := dec_row aX2_clear 39 rfl
theorem dX2_clear_66 : decode cX2_clear 66 = .ok (.aload_n 0, 1) := dec_row aX2_clear 40 rfl
theorem dX2_clear_67 : decode cX2_clear 67 = .ok (.bipush (-4), 2) := dec_row aX2_clear 41 rfl
theorem dX2_clear_69 : decode cX2_clear 69 = .ok (.putfield 37, 3) := dec_row aX2_clear 42 rfl
theorem dX2_clear_72 : decode cX2_clear 72 = .ok (.return_, 1) := dec_row aX2_clear 43 rfl
def tX2_fill_0 : List (Nat × Instr × Nat) := [(0, .iconst 1, 1), (1, .istore 4, 2), (3, .iload 4, 2), (5, .bipush 40, 2), (7, .if_icmp .gt 109, 3), (10, .aload_n 0, 1), (11, .getfield 37, 3), (14, .bipush (-4), 2), (16, .if_icmp .ne 100, 3), (19, .aload_n 0, 1), (20, .iload 4, 2), (22, .putfield 31, 3), (25, .bipush 99, 2), (27, .aload_n 0, 1), (28, .getfield 24, 3), (31, .aload_n 0, 1), (32, .aload_n 1, 1), (33, .aload_n 2, 1), (34, .iload_n 3, 1), (35, .invokevirtual 56, 3), (38, .iadd, 1), (39, .invokestatic 60, 3), (42, .istore 5, 2), (44, .iconst 0, 1), (45, .istore 6, 2), (47, .aload_n 0, 1), (48, .getfield 24, 3), (51, .istore 7, 2), (53, .iload 7, 2), (55, .iload 5, 2), (57, .if_icmp .ge 22, 3), (60, .iload 6, 2), (62, .aload_n 0, 1), (63, .aload_n 1, 1), (64, .aload_n 2, 1), (65, .invokevirtual 66, 3), (68, .invokestatic 70, 3), (71, .istore 6, 2), (73, .iinc 7 1, 3), (76, .goto (-23), 3), (79, .aload_n 0, 1), (80, .iload 5, 2), (82, .putfield 24, 3), (85, .aload_n 0, 1), (86, .getfield 21, 3), (89, .iload 4, 2), (91, .iconst 1, 1), (92, .isub, 1), (93, .bipush 99, 2), (95, .iload 6, 2)]
theorem aX2_fill_0 : tX2_fill_0.all (fun q => decide (decode cX2_fill q.1 = .ok q.2)) = true := by decide +kernel
theorem dX2_fill_0 : decode cX2_fill 0 = .ok (.iconst 1, 1) := dec_row aX2_fill_0 0 rfl
theorem dX2_fill_1 : decode cX2_fill 1 = .ok (.istore 4, 2) := dec_row aX2_fill_0 1 rfl
theorem dX2_fill_3 : decode cX2_fill 3 = .ok (.iload 4, 2) := dec_row aX2_fill_0 2 rfl
theorem dX2_fill_5 : decode cX2_fill 5 = .ok (.bipush 40, 2) := dec_row aX2_fill_0 3 rfl
theorem dX2_fill_7 : decode cX2_fill 7 = .ok (.if_icmp .gt 109, 3) := dec_row aX2_fill_0 4 rfl
theorem dX2_fill_10 : decode cX2_fill 10 = .ok (.aload_n 0, 1) := dec_row aX2_fill_0 5 rfl
theorem dX2_fill_11 : decode cX2_fill 11 = .ok (.getfield 37, 3) := dec_row aX2_fill_0 6 rfl
theorem dX2_fill_14 : decode cX2_fill 14 = .ok (.bipush (-4), 2) := dec_row aX2_fill_0 7 rfl
theorem dX2_fill_16 : decode cX2_fill 16 = .ok (.if_icmp .ne 100, 3) := dec_row aX2_fill_0 8 rfl
theorem dX2_fill_19 : decode cX2_fill 19 = .ok (.aload_n 0, 1) := dec_row aX2_fill_0 9 rfl
theorem dX2_fill_20 : decode cX2_fill 20 = .ok (.iload 4, 2) := dec_row aX2_fill_0 10 rfl
theorem dX2_fill_22 : decode cX2_fill 22 = .ok (.putfield 31, 3) := dec_row aX2_fill_0 11 rfl
theorem dX2_fill_25 : decode cX2_fill 25 = .ok (.bipush 99, 2) := dec_row aX2_fill_0 12 rfl
theorem dX2_fill_27 : decode cX2_fill 27 = .ok (.aload_n 0, 1) := dec_row aX2_fill_0 13 rfl
theorem dX2_fill_28 : decode cX2_fill 28 = .ok (.getfield 24, 3) := dec_row aX2_fill_0 14 rfl
theorem dX2_fill_31 : decode cX2_fill 31 = .ok (.aload_n 0, 1) := dec_row aX2_fill_0 15 rfl
theorem dX2_fill_32 : decode cX2_fill 32 = .ok (.aload_n 1, 1) := dec_row aX2_fill_0 16 rfl
theorem dX2_fill_33 : decode cX2_fill 33 = .ok (.aload_n 2, 1) := dec_row aX2_fill_0 17 rfl
theorem dX2_fill_34 : decode cX2_fill 34 = .ok (.iload_n 3, 1) := dec_row aX2_fill_0 18 rfl
theorem dX2_fill_35 : decode cX2_fill 35 = .ok (.invokevirtual 56, 3) := dec_row aX2_fill_0 19 rfl
theorem dX2_fill_38 : decode cX2_fill 38 = .ok (.iadd, 1) := dec_row aX2_fill_0 20 rfl
theorem dX2_fill_39 : decode cX2_fill 39 = .ok (.invokestatic 60, 3) := dec_row aX2_fill_0 21 rfl
theorem dX2_fill_42 : decode cX2_fill 42 = .ok (.istore 5, 2) := dec_row aX2_fill_0 22 rfl
theorem dX2_fill_44 : decode cX2_fill 44 = .ok (.iconst 0, 1) := dec_row aX2_fill_0 23 rfl
theorem dX2_fill_45 : decode cX2_fill 45 = .ok (.istore 6, 2) := dec_row aX2_fill_0 24 rfl
theorem dX2_fill_47 : decode cX2_fill 47 = .ok (.aload_n 0, 1) := dec_row aX2_fill_0 25 rfl
theorem dX2_fill_48 : decode cX2_fill 48 = .ok (.getfield 24, 3) := dec_row aX2_fill_0 26 rfl
theorem dX2_fill_51 : decode cX2_fill 51 = .ok (.istore 7, 2) := dec_row aX2_fill_0 27 rfl
theorem dX2_fill_53 : decode cX2_fill 53 = .ok (.iload 7, 2) := dec_row aX2_fill_0 28 rfl
theorem dX2_fill_55 : decode cX2_fill 55 = .ok (.iload 5, 2) := dec_row aX2_fill_0 29 rfl
theorem dX2_fill_57 : decode cX2_fill 57 = .ok (.if_icmp .ge 22, 3) := dec_row aX2_fill_0 30 rfl
theorem dX2_fill_60 : decode cX2_fill 60 = .ok (.iload 6, 2) := dec_row aX2_fill_0 31 rfl
theorem dX2_fill_62 : decode cX2_fill 62 = .ok (.aload_n 0, 1) := dec_row aX2_fill_0 32 rfl
theorem dX2_fill_63 : decode cX2_fill 63 = .ok (.aload_n 1, 1) := dec_row aX2_fill_0 33 rfl
theorem dX2_fill_64 : decode cX2_fill 64 = .ok (.aload_n 2, 1) := dec_row aX2_fill_0 34 rfl
theorem dX2_fill_65 : decode cX2_fill 65 = .ok (.invokevirtual 66, 3) := dec_row aX2_fill_0 35 rfl
theorem dX2_fill_68 : decode cX2_fill 68 = .ok (.invokestatic 70, 3) := dec_row aX2_fill_0 36 rfl
theorem dX2_fill_71 : decode cX2_fill 71 = .ok (.istore 6, 2) := dec_row aX2_fill_0 37 rfl
theorem dX2_fill_73 : decode cX2_fill 73 = .ok (.iinc 7 1, 3) := dec_row aX2_fill_0 38 rfl
theorem dX2_fill_76 : decode cX2_fill 76 = .ok (.goto (-23), 3) := dec_row aX2_fill_0 39 rfl
theorem dX2_fill_79 : decode cX2_fill 79 = .ok (.aload_n 0, 1) := dec_row aX2_fill_0 40 rfl
theorem dX2_fill_80 : decode cX2_fill 80 = .ok (.iload 5, 2) := dec_row aX2_fill_0 41 rfl
theorem dX2_fill_82 : decode cX2_fill 82 = .ok (.putfield 24, 3) := dec_row aX2_fill_0 42 rfl
theorem dX2_fill_85 : decode cX2_fill 85 = .ok (.aload_n 0, 1) := dec_row aX2_fill_0 43 rfl
theorem dX2_fill_86 : decode cX2_fill 86 = .ok (.getfield 21, 3) := dec_row aX2_fill_0 44 rfl
theorem dX2_fill_89 : decode cX2_fill 89 = .ok (.iload 4, 2) := dec_row aX2_fill_0 45 rfl
theorem dX2_fill_91 : decode cX2_fill 91 = .ok (.iconst 1, 1) := dec_row aX2_fill_0 46 rfl
theorem dX2_fill_92 : decode cX2_fill 92 = .ok (.isub, 1) := dec_row aX2_fill_0 47 rfl
theorem dX2_fill_93 : decode cX2_fill 93 = .ok (.bipush 99, 2) := dec_row aX2_fill_0 48 rfl
theorem dX2_fill_95 : decode cX2_fill 95 = .ok (.iload 6, 2) := dec_row aX2_fill_0 49 rfl
def tX2_fill_1 : List (Nat × Instr × Nat) := [(97, .invokestatic 60, 3), (100, .iastore, 1), (101, .aload_n 0, 1), (102, .aload_n 0, 1), (103, .aload_n 2, 1), (104, .invokevirtual 73, 3), (107, .putfield 37, 3), (110, .iinc 4 1, 3), (113, .goto (-110), 3), (116, .aload_n 0, 1), (117, .aload_n 0, 1), (118, .getfield 31, 3), (121, .putfield 28, 3), (124, .return_, 1)]
theorem aX2_fill_1 : tX2_fill_1.all (fun q => decide (decode cX2_fill q.1 = .ok q.2)) = true := by decide +kernel
theorem dX2_fill_97 : decode cX2_fill 97 = .ok (.invokestatic 60, 3) := dec_row aX2_fill_1 0 rfl
theorem dX2_fill_100 : decode cX2_fill 100 = .ok (.iastore, 1) := dec_row aX2_fill_1 1 rfl
theorem dX2_fill_101 : decode cX2_fill 101 = .ok (.aload_n 0, 1) := dec_row aX2_fill_1 2 rfl
theorem dX2_fill_102 : decode cX2_fill 102 = .ok (.aload_n 0, 1) := dec_row aX2_fill_1 3 rfl
theorem dX2_fill_103 : decode cX2_fill 103 = .ok (.aload_n 2, 1) := dec_row aX2_fill_1 4 rfl
theorem dX2_fill_104 : decode cX2_fill 104 = .ok (.invokevirtual 73, 3) := dec_row aX2_fill_1 5 rfl
theorem dX2_fill_107 : decode cX2_fill 107 = .ok (.putfield 37, 3) := dec_row aX2_fill_1 6 rfl
theorem dX2_fill_110 : decode cX2_fill 110 = .ok (.iinc 4 1, 3) := dec_row aX2_fill_1 7 rfl
theorem dX2_fill_113 : decode cX2_fill 113 = .ok (.goto (-110), 3) := dec_row aX2_fill_1 8 rfl
theorem dX2_fill_116 : decode cX2_fill 116 = .ok (.aload_n 0, 1) := dec_row aX2_fill_1 9 rfl
theorem dX2_fill_117 : decode cX2_fill 117 = .ok (.aload_n 0, 1) := dec_row aX2_fill_1 10 rfl
theorem dX2_fill_118 : decode cX2_fill 118 = .ok (.getfield 31, 3) := dec_row aX2_fill_1 11 rfl
theorem dX2_fill_121 : decode cX2_fill 121 = .ok (.putfield 28, 3) := dec_row aX2_fill_1 12 rfl
theorem dX2_fill_124 : decode cX2_fill 124 = .ok (.return_, 1) := dec_row aX2_fill_1 13 rfl
def tX2_speedHere : List (Nat × Instr × Nat) := [(0, .iconst 0, 1), (1, .istore 4, 2), (3, .iconst 1, 1), (4, .istore 5, 2), (6, .iload 5, 2), (8, .aload_n 1, 1), (9, .getfield 77, 3), (12, .if_icmp .ge 27, 3), (15, .aload_n 1, 1), (16, .getfield 82, 3), (19, .iload 5, 2), (21, .iaload, 1), (22, .aload_n 0, 1), (23, .getfield 24, 3), (26, .if_icmp .gt 7, 3), (29, .iload 5, 2), (31, .istore 4, 2), (33, .iinc 5 1, 3), (36, .goto (-30), 3), (39, .iconst 1, 1), (40, .bipush 9, 2), (42, .aload_n 2, 1), (43, .getfield 85, 3), (46, .iload 4, 2), (48, .iaload, 1), (49, .iload_n 3, 1), (50, .iadd, 1), (51, .invokestatic 60, 3), (54, .invokestatic 70, 3), (57, .ireturn, 1)]
theorem aX2_speedHere : tX2_speedHere.all (fun q => decide (decode cX2_speedHere q.1 = .ok q.2)) = true := by decide +kernel
theorem dX2_speedHere_0 : decode cX2_speedHere 0 = .ok (.iconst 0, 1) := dec_row aX2_speedHere 0 rfl
theorem dX2_speedHere_1 : decode cX2_speedHere 1 = .ok (.istore 4, 2) := dec_row aX2_speedHere 1 rfl
theorem dX2_speedHere_3 : decode cX2_speedHere 3 = .ok (.iconst 1, 1) := dec_row aX2_speedHere 2 rfl
theorem dX2_speedHere_4 : decode cX2_speedHere 4 = .ok (.istore 5, 2) := dec_row aX2_speedHere 3 rfl
theorem dX2_speedHere_6 : decode cX2_speedHere 6 = .ok (.iload 5, 2) := dec_row aX2_speedHere 4 rfl
theorem dX2_speedHere_8 : decode cX2_speedHere 8 = .ok (.aload_n 1, 1) := dec_row aX2_speedHere 5 rfl
theorem dX2_speedHere_9 : decode cX2_speedHere 9 = .ok (.getfield 77, 3) := dec_row aX2_speedHere 6 rfl
theorem dX2_speedHere_12 : decode cX2_speedHere 12 = .ok (.if_icmp .ge 27, 3) := dec_row aX2_speedHere 7 rfl
theorem dX2_speedHere_15 : decode cX2_speedHere 15 = .ok (.aload_n 1, 1) := dec_row aX2_speedHere 8 rfl
theorem dX2_speedHere_16 : decode cX2_speedHere 16 = .ok (.getfield 82, 3) := dec_row aX2_speedHere 9 rfl
theorem dX2_speedHere_19 : decode cX2_speedHere 19 = .ok (.iload 5, 2) := dec_row aX2_speedHere 10 rfl
theorem dX2_speedHere_21 : decode cX2_speedHere 21 = .ok (.iaload, 1) := dec_row aX2_speedHere 11 rfl
theorem dX2_speedHere_22 : decode cX2_speedHere 22 = .ok (.aload_n 0, 1) := dec_row aX2_speedHere 12 rfl
theorem dX2_speedHere_23 : decode cX2_speedHere 23 = .ok (.getfield 24, 3) := dec_row aX2_speedHere 13 rfl
theorem dX2_speedHere_26 : decode cX2_speedHere 26 = .ok (.if_icmp .gt 7, 3) := dec_row aX2_speedHere 14 rfl
theorem dX2_speedHere_29 : decode cX2_speedHere 29 = .ok (.iload 5, 2) := dec_row aX2_speedHere 15 rfl
theorem dX2_speedHere_31 : decode cX2_speedHere 31 = .ok (.istore 4, 2) := dec_row aX2_speedHere 16 rfl
theorem dX2_speedHere_33 : decode cX2_speedHere 33 = .ok (.iinc 5 1, 3) := dec_row aX2_speedHere 17 rfl
theorem dX2_speedHere_36 : decode cX2_speedHere 36 = .ok (.goto (-30), 3) := dec_row aX2_speedHere 18 rfl
theorem dX2_speedHere_39 : decode cX2_speedHere 39 = .ok (.iconst 1, 1) := dec_row aX2_speedHere 19 rfl
theorem dX2_speedHere_40 : decode cX2_speedHere 40 = .ok (.bipush 9, 2) := dec_row aX2_speedHere 20 rfl
theorem dX2_speedHere_42 : decode cX2_speedHere 42 = .ok (.aload_n 2, 1) := dec_row aX2_speedHere 21 rfl
theorem dX2_speedHere_43 : decode cX2_speedHere 43 = .ok (.getfield 85, 3) := dec_row aX2_speedHere 22 rfl
theorem dX2_speedHere_46 : decode cX2_speedHere 46 = .ok (.iload 4, 2) := dec_row aX2_speedHere 23 rfl
theorem dX2_speedHere_48 : decode cX2_speedHere 48 = .ok (.iaload, 1) := dec_row aX2_speedHere 24 rfl
theorem dX2_speedHere_49 : decode cX2_speedHere 49 = .ok (.iload_n 3, 1) := dec_row aX2_speedHere 25 rfl
theorem dX2_speedHere_50 : decode cX2_speedHere 50 = .ok (.iadd, 1) := dec_row aX2_speedHere 26 rfl
theorem dX2_speedHere_51 : decode cX2_speedHere 51 = .ok (.invokestatic 60, 3) := dec_row aX2_speedHere 27 rfl
theorem dX2_speedHere_54 : decode cX2_speedHere 54 = .ok (.invokestatic 70, 3) := dec_row aX2_speedHere 28 rfl
theorem dX2_speedHere_57 : decode cX2_speedHere 57 = .ok (.ireturn, 1) := dec_row aX2_speedHere 29 rfl
def tX2_whySwitch : List (Nat × Instr × Nat) := [(0, .aload_n 0, 1), (1, .getfield 24, 3), (4, .aload_n 1, 1), (5, .getfield 51, 3), (8, .iconst 0, 1), (9, .iaload, 1), (10, .if_icmp .lt 5, 3), (13, .iconst 0, 1), (14, .ireturn, 1), (15, .aload_n 0, 1), (16, .getfield 31, 3), (19, .iconst 1, 1), (20, .if_icmp .lt 25, 3), (23, .aload_n 0, 1), (24, .getfield 21, 3), (27, .aload_n 0, 1), (28, .getfield 31, 3), (31, .iconst 1, 1), (32, .isub, 1), (33, .iaload, 1), (34, .aload_n 1, 1), (35, .getfield 51, 3), (38, .iconst 1, 1), (39, .iaload, 1), (40, .if_icmp .lt 5, 3), (43, .iconst 1, 1), (44, .ireturn, 1), (45, .aload_n 0, 1), (46, .getfield 31, 3), (49, .aload_n 1, 1), (50, .getfield 51, 3), (53, .iconst 2, 1), (54, .iaload, 1), (55, .if_icmp .lt 7, 3), (58, .iconst 2, 1), (59, .goto 5, 3), (62, .bipush (-4), 2), (64, .ireturn, 1)]
theorem aX2_whySwitch : tX2_whySwitch.all (fun q => decide (decode cX2_whySwitch q.1 = .ok q.2)) = true := by decide +kernel
theorem dX2_whySwitch_0 : decode cX2_whySwitch 0 = .ok (.aload_n 0, 1) := dec_row aX2_whySwitch 0 rfl
theorem dX2_whySwitch_1 : decode cX2_whySwitch 1 = .ok (.getfield 24, 3) := dec_row aX2_whySwitch 1 rfl
theorem dX2_whySwitch_4 : decode cX2_whySwitch 4 = .ok (.aload_n 1, 1) := dec_row aX2_whySwitch 2 rfl
theorem dX2_whySwitch_5 : decode cX2_whySwitch 5 = .ok (.getfield 51, 3) := dec_row aX2_whySwitch 3 rfl
theorem dX2_whySwitch_8 : decode cX2_whySwitch 8 = .ok (.iconst 0, 1) := dec_row aX2_whySwitch 4 rfl
theorem dX2_whySwitch_9 : decode cX2_whySwitch 9 = .ok (.iaload, 1) := dec_row aX2_whySwitch 5 rfl
theorem dX2_whySwitch_10 : decode cX2_whySwitch 10 = .ok (.if_icmp .lt 5, 3) := dec_row aX2_whySwitch 6 rfl
theorem dX2_whySwitch_13 : decode cX2_whySwitch 13 = .ok (.iconst 0, 1) := dec_row aX2_whySwitch 7 rfl
theorem dX2_whySwitch_14 : decode cX2_whySwitch 14 = .ok (.ireturn, 1) := dec_row aX2_whySwitch 8 rfl
theorem dX2_whySwitch_15 : decode cX2_whySwitch 15 = .ok (.aload_n 0, 1) := dec_row aX2_whySwitch 9 rfl
theorem dX2_whySwitch_16 : decode cX2_whySwitch 16 = .ok (.getfield 31, 3) := dec_row aX2_whySwitch 10 rfl
theorem dX2_whySwitch_19 : decode cX2_whySwitch 19 = .ok (.iconst 1, 1) := dec_row aX2_whySwitch 11 rfl
theorem dX2_whySwitch_20 : decode cX2_whySwitch 20 = .ok (.if_icmp .lt 25, 3) := dec_row aX2_whySwitch 12 rfl
theorem dX2_whySwitch_23 : decode cX2_whySwitch 23 = .ok (.aload_n 0, 1) := dec_row aX2_whySwitch 13 rfl
theorem dX2_whySwitch_24 : decode cX2_whySwitch 24 = .ok (.getfield 21, 3) := dec_row aX2_whySwitch 14 rfl
theorem dX2_whySwitch_27 : decode cX2_whySwitch 27 = .ok (.aload_n 0, 1) := dec_row aX2_whySwitch 15 rfl
theorem dX2_whySwitch_28 : decode cX2_whySwitch 28 = .ok (.getfield 31, 3) := dec_row aX2_whySwitch 16 rfl
theorem dX2_whySwitch_31 : decode cX2_whySwitch 31 = .ok (.iconst 1, 1) := dec_row aX2_whySwitch 17 rfl
theorem dX2_whySwitch_32 : decode cX2_whySwitch 32 = .ok (.isub, 1) := dec_row aX2_whySwitch 18 rfl
theorem dX2_whySwitch_33 : decode cX2_whySwitch 33 = .ok (.iaload, 1) := dec_row aX2_whySwitch 19 rfl
theorem dX2_whySwitch_34 : decode cX2_whySwitch 34 = .ok (.aload_n 1, 1) := dec_row aX2_whySwitch 20 rfl
theorem dX2_whySwitch_35 : decode cX2_whySwitch 35 = .ok (.getfield 51, 3) := dec_row aX2_whySwitch 21 rfl
theorem dX2_whySwitch_38 : decode cX2_whySwitch 38 = .ok (.iconst 1, 1) := dec_row aX2_whySwitch 22 rfl
theorem dX2_whySwitch_39 : decode cX2_whySwitch 39 = .ok (.iaload, 1) := dec_row aX2_whySwitch 23 rfl
theorem dX2_whySwitch_40 : decode cX2_whySwitch 40 = .ok (.if_icmp .lt 5, 3) := dec_row aX2_whySwitch 24 rfl
theorem dX2_whySwitch_43 : decode cX2_whySwitch 43 = .ok (.iconst 1, 1) := dec_row aX2_whySwitch 25 rfl
theorem dX2_whySwitch_44 : decode cX2_whySwitch 44 = .ok (.ireturn, 1) := dec_row aX2_whySwitch 26 rfl
theorem dX2_whySwitch_45 : decode cX2_whySwitch 45 = .ok (.aload_n 0, 1) := dec_row aX2_whySwitch 27 rfl
theorem dX2_whySwitch_46 : decode cX2_whySwitch 46 = .ok (.getfield 31, 3) := dec_row aX2_whySwitch 28 rfl
theorem dX2_whySwitch_49 : decode cX2_whySwitch 49 = .ok (.aload_n 1, 1) := dec_row aX2_whySwitch 29 rfl
theorem dX2_whySwitch_50 : decode cX2_whySwitch 50 = .ok (.getfield 51, 3) := dec_row aX2_whySwitch 30 rfl
theorem dX2_whySwitch_53 : decode cX2_whySwitch 53 = .ok (.iconst 2, 1) := dec_row aX2_whySwitch 31 rfl
theorem dX2_whySwitch_54 : decode cX2_whySwitch 54 = .ok (.iaload, 1) := dec_row aX2_whySwitch 32 rfl
theorem dX2_whySwitch_55 : decode cX2_whySwitch 55 = .ok (.if_icmp .lt 7, 3) := dec_row aX2_whySwitch 33 rfl
theorem dX2_whySwitch_58 : decode cX2_whySwitch 58 = .ok (.iconst 2, 1) := dec_row aX2_whySwitch 34 rfl
theorem dX2_whySwitch_59 : decode cX2_whySwitch 59 = .ok (.goto 5, 3) := dec_row aX2_whySwitch 35 rfl
theorem dX2_whySwitch_62 : decode cX2_whySwitch 62 = .ok (.bipush (-4), 2) := dec_row aX2_whySwitch 36 rfl
theorem dX2_whySwitch_64 : decode cX2_whySwitch 64 = .ok (.ireturn, 1) := dec_row aX2_whySwitch 37 rfl
def tX2_push_0 : List (Nat × Instr × Nat) := [(0, .aload_n 0, 1), (1, .aload_n 1, 1), (2, .aload_n 2, 1), (3, .iconst 0, 1), (4, .invokevirtual 88, 3), (7, .istore_n 3, 1), (8, .iconst 0, 1), (9, .istore 4, 2), (11, .iload_n 3, 1), (12, .bipush (-4), 2), (14, .if_icmp .eq 23, 3), (17, .aload_n 2, 1), (18, .getfield 92, 3), (21, .iload_n 3, 1), (22, .iaload, 1), (23, .aload_n 0, 1), (24, .getfield 9, 3), (27, .iload_n 3, 1), (28, .iaload, 1), (29, .iconst 1, 1), (30, .iadd, 1), (31, .imul, 1), (32, .istore 4, 2), (34, .goto 36, 3), (37, .aload_n 0, 1), (38, .aload_n 1, 1), (39, .aload_n 2, 1), (40, .iconst 1, 1), (41, .invokevirtual 88, 3), (44, .istore_n 3, 1), (45, .iload_n 3, 1), (46, .bipush (-4), 2), (48, .if_icmp .ne 5, 3), (51, .iconst 0, 1), (52, .ireturn, 1), (53, .iconst 3, 1), (54, .aload_n 2, 1), (55, .getfield 92, 3), (58, .iload_n 3, 1), (59, .iaload, 1), (60, .imul, 1), (61, .aload_n 0, 1), (62, .getfield 9, 3), (65, .iload_n 3, 1), (66, .iaload, 1), (67, .imul, 1), (68, .istore 4, 2), (70, .aload_n 0, 1), (71, .iload_n 3, 1), (72, .aload_n 1, 1)]
theorem aX2_push_0 : tX2_push_0.all (fun q => decide (decode cX2_push q.1 = .ok q.2)) = true := by decide +kernel
theorem dX2_push_0 : decode cX2_push 0 = .ok (.aload_n 0, 1) := dec_row aX2_push_0 0 rfl
theorem dX2_push_1 : decode cX2_push 1 = .ok (.aload_n 1, 1) := dec_row aX2_push_0 1 rfl
theorem dX2_push_2 : decode cX2_push 2 = .ok (.aload_n 2, 1) := dec_row aX2_push_0 2 rfl
theorem dX2_push_3 : decode cX2_push 3 = .ok (.iconst 0, 1) := dec_row aX2_push_0 3 rfl
theorem dX2_push_4 : decode cX2_push 4 = .ok (.invokevirtual 88, 3) := dec_row aX2_push_0 4 rfl
theorem dX2_push_7 : decode cX2_push 7 = .ok (.istore_n 3, 1) := dec_row aX2_push_0 5 rfl
theorem dX2_push_8 : decode cX2_push 8 = .ok (.iconst 0, 1) := dec_row aX2_push_0 6 rfl
theorem dX2_push_9 : decode cX2_push 9 = .ok (.istore 4, 2) := dec_row aX2_push_0 7 rfl
theorem dX2_push_11 : decode cX2_push 11 = .ok (.iload_n 3, 1) := dec_row aX2_push_0 8 rfl
theorem dX2_push_12 : decode cX2_push 12 = .ok (.bipush (-4), 2) := dec_row aX2_push_0 9 rfl
theorem dX2_push_14 : decode cX2_push 14 = .ok (.if_icmp .eq 23, 3) := dec_row aX2_push_0 10 rfl
theorem dX2_push_17 : decode cX2_push 17 = .ok (.aload_n 2, 1) := dec_row aX2_push_0 11 rfl
theorem dX2_push_18 : decode cX2_push 18 = .ok (.getfield 92, 3) := dec_row aX2_push_0 12 rfl
theorem dX2_push_21 : decode cX2_push 21 = .ok (.iload_n 3, 1) := dec_row aX2_push_0 13 rfl
theorem dX2_push_22 : decode cX2_push 22 = .ok (.iaload, 1) := dec_row aX2_push_0 14 rfl
theorem dX2_push_23 : decode cX2_push 23 = .ok (.aload_n 0, 1) := dec_row aX2_push_0 15 rfl
theorem dX2_push_24 : decode cX2_push 24 = .ok (.getfield 9, 3) := dec_row aX2_push_0 16 rfl
theorem dX2_push_27 : decode cX2_push 27 = .ok (.iload_n 3, 1) := dec_row aX2_push_0 17 rfl
theorem dX2_push_28 : decode cX2_push 28 = .ok (.iaload, 1) := dec_row aX2_push_0 18 rfl
theorem dX2_push_29 : decode cX2_push 29 = .ok (.iconst 1, 1) := dec_row aX2_push_0 19 rfl
theorem dX2_push_30 : decode cX2_push 30 = .ok (.iadd, 1) := dec_row aX2_push_0 20 rfl
theorem dX2_push_31 : decode cX2_push 31 = .ok (.imul, 1) := dec_row aX2_push_0 21 rfl
theorem dX2_push_32 : decode cX2_push 32 = .ok (.istore 4, 2) := dec_row aX2_push_0 22 rfl
theorem dX2_push_34 : decode cX2_push 34 = .ok (.goto 36, 3) := dec_row aX2_push_0 23 rfl
theorem dX2_push_37 : decode cX2_push 37 = .ok (.aload_n 0, 1) := dec_row aX2_push_0 24 rfl
theorem dX2_push_38 : decode cX2_push 38 = .ok (.aload_n 1, 1) := dec_row aX2_push_0 25 rfl
theorem dX2_push_39 : decode cX2_push 39 = .ok (.aload_n 2, 1) := dec_row aX2_push_0 26 rfl
theorem dX2_push_40 : decode cX2_push 40 = .ok (.iconst 1, 1) := dec_row aX2_push_0 27 rfl
theorem dX2_push_41 : decode cX2_push 41 = .ok (.invokevirtual 88, 3) := dec_row aX2_push_0 28 rfl
theorem dX2_push_44 : decode cX2_push 44 = .ok (.istore_n 3, 1) := dec_row aX2_push_0 29 rfl
theorem dX2_push_45 : decode cX2_push 45 = .ok (.iload_n 3, 1) := dec_row aX2_push_0 30 rfl
theorem dX2_push_46 : decode cX2_push 46 = .ok (.bipush (-4), 2) := dec_row aX2_push_0 31 rfl
theorem dX2_push_48 : decode cX2_push 48 = .ok (.if_icmp .ne 5, 3) := dec_row aX2_push_0 32 rfl
theorem dX2_push_51 : decode cX2_push 51 = .ok (.iconst 0, 1) := dec_row aX2_push_0 33 rfl
theorem dX2_push_52 : decode cX2_push 52 = .ok (.ireturn, 1) := dec_row aX2_push_0 34 rfl
theorem dX2_push_53 : decode cX2_push 53 = .ok (.iconst 3, 1) := dec_row aX2_push_0 35 rfl
theorem dX2_push_54 : decode cX2_push 54 = .ok (.aload_n 2, 1) := dec_row aX2_push_0 36 rfl
theorem dX2_push_55 : decode cX2_push 55 = .ok (.getfield 92, 3) := dec_row aX2_push_0 37 rfl
theorem dX2_push_58 : decode cX2_push 58 = .ok (.iload_n 3, 1) := dec_row aX2_push_0 38 rfl
theorem dX2_push_59 : decode cX2_push 59 = .ok (.iaload, 1) := dec_row aX2_push_0 39 rfl
theorem dX2_push_60 : decode cX2_push 60 = .ok (.imul, 1) := dec_row aX2_push_0 40 rfl
theorem dX2_push_61 : decode cX2_push 61 = .ok (.aload_n 0, 1) := dec_row aX2_push_0 41 rfl
theorem dX2_push_62 : decode cX2_push 62 = .ok (.getfield 9, 3) := dec_row aX2_push_0 42 rfl
theorem dX2_push_65 : decode cX2_push 65 = .ok (.iload_n 3, 1) := dec_row aX2_push_0 43 rfl
theorem dX2_push_66 : decode cX2_push 66 = .ok (.iaload, 1) := dec_row aX2_push_0 44 rfl
theorem dX2_push_67 : decode cX2_push 67 = .ok (.imul, 1) := dec_row aX2_push_0 45 rfl
theorem dX2_push_68 : decode cX2_push 68 = .ok (.istore 4, 2) := dec_row aX2_push_0 46 rfl
theorem dX2_push_70 : decode cX2_push 70 = .ok (.aload_n 0, 1) := dec_row aX2_push_0 47 rfl
theorem dX2_push_71 : decode cX2_push 71 = .ok (.iload_n 3, 1) := dec_row aX2_push_0 48 rfl
theorem dX2_push_72 : decode cX2_push 72 = .ok (.aload_n 1, 1) := dec_row aX2_push_0 49 rfl
def tX2_push_1 : List (Nat × Instr × Nat) := [(73, .invokevirtual 95, 3), (76, .iload 4, 2), (78, .ireturn, 1)]
theorem aX2_push_1 : tX2_push_1.all (fun q => decide (decode cX2_push q.1 = .ok q.2)) = true := by decide +kernel
theorem dX2_push_73 : decode cX2_push 73 = .ok (.invokevirtual 95, 3) := dec_row aX2_push_1 0 rfl
theorem dX2_push_76 : decode cX2_push 76 = .ok (.iload 4, 2) := dec_row aX2_push_1 1 rfl
theorem dX2_push_78 : decode cX2_push 78 = .ok (.ireturn, 1) := dec_row aX2_push_1 2 rfl
def tX2_easiest_0 : List (Nat × Instr × Nat) := [(0, .bipush (-4), 2), (2, .istore 4, 2), (4, .iconst 0, 1), (5, .istore 5, 2), (7, .iconst 0, 1), (8, .istore 6, 2), (10, .iload 6, 2), (12, .aload_n 1, 1), (13, .getfield 99, 3), (16, .if_icmp .ge 90, 3), (19, .aload_n 0, 1), (20, .getfield 9, 3), (23, .iload 6, 2), (25, .iaload, 1), (26, .aload_n 1, 1), (27, .getfield 102, 3), (30, .iload 6, 2), (32, .iaload, 1), (33, .if_icmp .lt 7, 3), (36, .iconst 1, 1), (37, .goto 4, 3), (40, .iconst 0, 1), (41, .iload_n 3, 1), (42, .if_icmp .ne 58, 3), (45, .aload_n 2, 1), (46, .getfield 92, 3), (49, .iload 6, 2), (51, .iaload, 1), (52, .iload_n 3, 1), (53, .ifCond .eq 13, 3), (56, .aload_n 0, 1), (57, .getfield 9, 3), (60, .iload 6, 2), (62, .iaload, 1), (63, .goto 12, 3), (66, .aload_n 0, 1), (67, .getfield 9, 3), (70, .iload 6, 2), (72, .iaload, 1), (73, .iconst 1, 1), (74, .iadd, 1), (75, .imul, 1), (76, .istore 7, 2), (78, .iload 4, 2), (80, .bipush (-4), 2), (82, .if_icmp .eq 10, 3), (85, .iload 7, 2), (87, .iload 5, 2), (89, .if_icmp .ge 11, 3), (92, .iload 6, 2)]
theorem aX2_easiest_0 : tX2_easiest_0.all (fun q => decide (decode cX2_easiest q.1 = .ok q.2)) = true := by decide +kernel
theorem dX2_easiest_0 : decode cX2_easiest 0 = .ok (.bipush (-4), 2) := dec_row aX2_easiest_0 0 rfl
theorem dX2_easiest_2 : decode cX2_easiest 2 = .ok (.istore 4, 2) := dec_row aX2_easiest_0 1 rfl
theorem dX2_easiest_4 : decode cX2_easiest 4 = .ok (.iconst 0, 1) := dec_row aX2_easiest_0 2 rfl
theorem dX2_easiest_5 : decode cX2_easiest 5 = .ok (.istore 5, 2) := dec_row aX2_easiest_0 3 rfl
theorem dX2_easiest_7 : decode cX2_easiest 7 = .ok (.iconst 0, 1) := dec_row aX2_easiest_0 4 rfl
theorem dX2_easiest_8 : decode cX2_easiest 8 = .ok (.istore 6, 2) := dec_row aX2_easiest_0 5 rfl
theorem dX2_easiest_10 : decode cX2_easiest 10 = .ok (.iload 6, 2) := dec_row aX2_easiest_0 6 rfl
theorem dX2_easiest_12 : decode cX2_easiest 12 = .ok (.aload_n 1, 1) := dec_row aX2_easiest_0 7 rfl
theorem dX2_easiest_13 : decode cX2_easiest 13 = .ok (.getfield 99, 3) := dec_row aX2_easiest_0 8 rfl
theorem dX2_easiest_16 : decode cX2_easiest 16 = .ok (.if_icmp .ge 90, 3) := dec_row aX2_easiest_0 9 rfl
theorem dX2_easiest_19 : decode cX2_easiest 19 = .ok (.aload_n 0, 1) := dec_row aX2_easiest_0 10 rfl
theorem dX2_easiest_20 : decode cX2_easiest 20 = .ok (.getfield 9, 3) := dec_row aX2_easiest_0 11 rfl
theorem dX2_easiest_23 : decode cX2_easiest 23 = .ok (.iload 6, 2) := dec_row aX2_easiest_0 12 rfl
theorem dX2_easiest_25 : decode cX2_easiest 25 = .ok (.iaload, 1) := dec_row aX2_easiest_0 13 rfl
theorem dX2_easiest_26 : decode cX2_easiest 26 = .ok (.aload_n 1, 1) := dec_row aX2_easiest_0 14 rfl
theorem dX2_easiest_27 : decode cX2_easiest 27 = .ok (.getfield 102, 3) := dec_row aX2_easiest_0 15 rfl
theorem dX2_easiest_30 : decode cX2_easiest 30 = .ok (.iload 6, 2) := dec_row aX2_easiest_0 16 rfl
theorem dX2_easiest_32 : decode cX2_easiest 32 = .ok (.iaload, 1) := dec_row aX2_easiest_0 17 rfl
theorem dX2_easiest_33 : decode cX2_easiest 33 = .ok (.if_icmp .lt 7, 3) := dec_row aX2_easiest_0 18 rfl
theorem dX2_easiest_36 : decode cX2_easiest 36 = .ok (.iconst 1, 1) := dec_row aX2_easiest_0 19 rfl
theorem dX2_easiest_37 : decode cX2_easiest 37 = .ok (.goto 4, 3) := dec_row aX2_easiest_0 20 rfl
theorem dX2_easiest_40 : decode cX2_easiest 40 = .ok (.iconst 0, 1) := dec_row aX2_easiest_0 21 rfl
theorem dX2_easiest_41 : decode cX2_easiest 41 = .ok (.iload_n 3, 1) := dec_row aX2_easiest_0 22 rfl
theorem dX2_easiest_42 : decode cX2_easiest 42 = .ok (.if_icmp .ne 58, 3) := dec_row aX2_easiest_0 23 rfl
theorem dX2_easiest_45 : decode cX2_easiest 45 = .ok (.aload_n 2, 1) := dec_row aX2_easiest_0 24 rfl
theorem dX2_easiest_46 : decode cX2_easiest 46 = .ok (.getfield 92, 3) := dec_row aX2_easiest_0 25 rfl
theorem dX2_easiest_49 : decode cX2_easiest 49 = .ok (.iload 6, 2) := dec_row aX2_easiest_0 26 rfl
theorem dX2_easiest_51 : decode cX2_easiest 51 = .ok (.iaload, 1) := dec_row aX2_easiest_0 27 rfl
theorem dX2_easiest_52 : decode cX2_easiest 52 = .ok (.iload_n 3, 1) := dec_row aX2_easiest_0 28 rfl
theorem dX2_easiest_53 : decode cX2_easiest 53 = .ok (.ifCond .eq 13, 3) := dec_row aX2_easiest_0 29 rfl
theorem dX2_easiest_56 : decode cX2_easiest 56 = .ok (.aload_n 0, 1) := dec_row aX2_easiest_0 30 rfl
theorem dX2_easiest_57 : decode cX2_easiest 57 = .ok (.getfield 9, 3) := dec_row aX2_easiest_0 31 rfl
theorem dX2_easiest_60 : decode cX2_easiest 60 = .ok (.iload 6, 2) := dec_row aX2_easiest_0 32 rfl
theorem dX2_easiest_62 : decode cX2_easiest 62 = .ok (.iaload, 1) := dec_row aX2_easiest_0 33 rfl
theorem dX2_easiest_63 : decode cX2_easiest 63 = .ok (.goto 12, 3) := dec_row aX2_easiest_0 34 rfl
theorem dX2_easiest_66 : decode cX2_easiest 66 = .ok (.aload_n 0, 1) := dec_row aX2_easiest_0 35 rfl
theorem dX2_easiest_67 : decode cX2_easiest 67 = .ok (.getfield 9, 3) := dec_row aX2_easiest_0 36 rfl
theorem dX2_easiest_70 : decode cX2_easiest 70 = .ok (.iload 6, 2) := dec_row aX2_easiest_0 37 rfl
theorem dX2_easiest_72 : decode cX2_easiest 72 = .ok (.iaload, 1) := dec_row aX2_easiest_0 38 rfl
theorem dX2_easiest_73 : decode cX2_easiest 73 = .ok (.iconst 1, 1) := dec_row aX2_easiest_0 39 rfl
theorem dX2_easiest_74 : decode cX2_easiest 74 = .ok (.iadd, 1) := dec_row aX2_easiest_0 40 rfl
theorem dX2_easiest_75 : decode cX2_easiest 75 = .ok (.imul, 1) := dec_row aX2_easiest_0 41 rfl
theorem dX2_easiest_76 : decode cX2_easiest 76 = .ok (.istore 7, 2) := dec_row aX2_easiest_0 42 rfl
theorem dX2_easiest_78 : decode cX2_easiest 78 = .ok (.iload 4, 2) := dec_row aX2_easiest_0 43 rfl
theorem dX2_easiest_80 : decode cX2_easiest 80 = .ok (.bipush (-4), 2) := dec_row aX2_easiest_0 44 rfl
theorem dX2_easiest_82 : decode cX2_easiest 82 = .ok (.if_icmp .eq 10, 3) := dec_row aX2_easiest_0 45 rfl
theorem dX2_easiest_85 : decode cX2_easiest 85 = .ok (.iload 7, 2) := dec_row aX2_easiest_0 46 rfl
theorem dX2_easiest_87 : decode cX2_easiest 87 = .ok (.iload 5, 2) := dec_row aX2_easiest_0 47 rfl
theorem dX2_easiest_89 : decode cX2_easiest 89 = .ok (.if_icmp .ge 11, 3) := dec_row aX2_easiest_0 48 rfl
theorem dX2_easiest_92 : decode cX2_easiest 92 = .ok (.iload 6, 2) := dec_row aX2_easiest_0 49 rfl
def tX2_easiest_1 : List (Nat × Instr × Nat) := [(94, .istore 4, 2), (96, .iload 7, 2), (98, .istore 5, 2), (100, .iinc 6 1, 3), (103, .goto (-93), 3), (106, .iload 4, 2), (108, .ireturn, 1)]
theorem aX2_easiest_1 : tX2_easiest_1.all (fun q => decide (decode cX2_easiest q.1 = .ok q.2)) = true := by decide +kernel
theorem dX2_easiest_94 : decode cX2_easiest 94 = .ok (.istore 4, 2) := dec_row aX2_easiest_1 0 rfl
theorem dX2_easiest_96 : decode cX2_easiest 96 = .ok (.iload 7, 2) := dec_row aX2_easiest_1 1 rfl
theorem dX2_easiest_98 : decode cX2_easiest 98 = .ok (.istore 5, 2) := dec_row aX2_easiest_1 2 rfl
theorem dX2_easiest_100 : decode cX2_easiest 100 = .ok (.iinc 6 1, 3) := dec_row aX2_easiest_1 3 rfl
theorem dX2_easiest_103 : decode cX2_easiest 103 = .ok (.goto (-93), 3) := dec_row aX2_easiest_1 4 rfl
theorem dX2_easiest_106 : decode cX2_easiest 106 = .ok (.iload 4, 2) := dec_row aX2_easiest_1 5 rfl
theorem dX2_easiest_108 : decode cX2_easiest 108 = .ok (.ireturn, 1) := dec_row aX2_easiest_1 6 rfl
def tX2_addMelt : List (Nat × Instr × Nat) := [(0, .aload_n 0, 1), (1, .getfield 9, 3), (4, .iload_n 1, 1), (5, .iaload, 1), (6, .ifCond .ne 13, 3), (9, .aload_n 0, 1), (10, .getfield 15, 3), (13, .iload_n 1, 1), (14, .aload_n 0, 1), (15, .getfield 31, 3), (18, .iastore, 1), (19, .aload_n 0, 1), (20, .getfield 9, 3), (23, .iload_n 1, 1), (24, .dup2, 1), (25, .iaload, 1), (26, .iconst 1, 1), (27, .iadd, 1), (28, .iastore, 1), (29, .aload_n 0, 1), (30, .getfield 9, 3), (33, .iload_n 1, 1), (34, .iaload, 1), (35, .aload_n 2, 1), (36, .getfield 102, 3), (39, .iload_n 1, 1), (40, .iaload, 1), (41, .if_icmp .ne 13, 3), (44, .aload_n 0, 1), (45, .getfield 18, 3), (48, .iload_n 1, 1), (49, .aload_n 0, 1), (50, .getfield 31, 3), (53, .iastore, 1), (54, .return_, 1)]
theorem aX2_addMelt : tX2_addMelt.all (fun q => decide (decode cX2_addMelt q.1 = .ok q.2)) = true := by decide +kernel
theorem dX2_addMelt_0 : decode cX2_addMelt 0 = .ok (.aload_n 0, 1) := dec_row aX2_addMelt 0 rfl
theorem dX2_addMelt_1 : decode cX2_addMelt 1 = .ok (.getfield 9, 3) := dec_row aX2_addMelt 1 rfl
theorem dX2_addMelt_4 : decode cX2_addMelt 4 = .ok (.iload_n 1, 1) := dec_row aX2_addMelt 2 rfl
theorem dX2_addMelt_5 : decode cX2_addMelt 5 = .ok (.iaload, 1) := dec_row aX2_addMelt 3 rfl
theorem dX2_addMelt_6 : decode cX2_addMelt 6 = .ok (.ifCond .ne 13, 3) := dec_row aX2_addMelt 4 rfl
theorem dX2_addMelt_9 : decode cX2_addMelt 9 = .ok (.aload_n 0, 1) := dec_row aX2_addMelt 5 rfl
theorem dX2_addMelt_10 : decode cX2_addMelt 10 = .ok (.getfield 15, 3) := dec_row aX2_addMelt 6 rfl
theorem dX2_addMelt_13 : decode cX2_addMelt 13 = .ok (.iload_n 1, 1) := dec_row aX2_addMelt 7 rfl
theorem dX2_addMelt_14 : decode cX2_addMelt 14 = .ok (.aload_n 0, 1) := dec_row aX2_addMelt 8 rfl
theorem dX2_addMelt_15 : decode cX2_addMelt 15 = .ok (.getfield 31, 3) := dec_row aX2_addMelt 9 rfl
theorem dX2_addMelt_18 : decode cX2_addMelt 18 = .ok (.iastore, 1) := dec_row aX2_addMelt 10 rfl
theorem dX2_addMelt_19 : decode cX2_addMelt 19 = .ok (.aload_n 0, 1) := dec_row aX2_addMelt 11 rfl
theorem dX2_addMelt_20 : decode cX2_addMelt 20 = .ok (.getfield 9, 3) := dec_row aX2_addMelt 12 rfl
theorem dX2_addMelt_23 : decode cX2_addMelt 23 = .ok (.iload_n 1, 1) := dec_row aX2_addMelt 13 rfl
theorem dX2_addMelt_24 : decode cX2_addMelt 24 = .ok (.dup2, 1) := dec_row aX2_addMelt 14 rfl
theorem dX2_addMelt_25 : decode cX2_addMelt 25 = .ok (.iaload, 1) := dec_row aX2_addMelt 15 rfl
theorem dX2_addMelt_26 : decode cX2_addMelt 26 = .ok (.iconst 1, 1) := dec_row aX2_addMelt 16 rfl
theorem dX2_addMelt_27 : decode cX2_addMelt 27 = .ok (.iadd, 1) := dec_row aX2_addMelt 17 rfl
theorem dX2_addMelt_28 : decode cX2_addMelt 28 = .ok (.iastore, 1) := dec_row aX2_addMelt 18 rfl
theorem dX2_addMelt_29 : decode cX2_addMelt 29 = .ok (.aload_n 0, 1) := dec_row aX2_addMelt 19 rfl
theorem dX2_addMelt_30 : decode cX2_addMelt 30 = .ok (.getfield 9, 3) := dec_row aX2_addMelt 20 rfl
theorem dX2_addMelt_33 : decode cX2_addMelt 33 = .ok (.iload_n 1, 1) := dec_row aX2_addMelt 21 rfl
theorem dX2_addMelt_34 : decode cX2_addMelt 34 = .ok (.iaload, 1) := dec_row aX2_addMelt 22 rfl
theorem dX2_addMelt_35 : decode cX2_addMelt 35 = .ok (.aload_n 2, 1) := dec_row aX2_addMelt 23 rfl
theorem dX2_addMelt_36 : decode cX2_addMelt 36 = .ok (.getfield 102, 3) := dec_row aX2_addMelt 24 rfl
theorem dX2_addMelt_39 : decode cX2_addMelt 39 = .ok (.iload_n 1, 1) := dec_row aX2_addMelt 25 rfl
theorem dX2_addMelt_40 : decode cX2_addMelt 40 = .ok (.iaload, 1) := dec_row aX2_addMelt 26 rfl
theorem dX2_addMelt_41 : decode cX2_addMelt 41 = .ok (.if_icmp .ne 13, 3) := dec_row aX2_addMelt 27 rfl
theorem dX2_addMelt_44 : decode cX2_addMelt 44 = .ok (.aload_n 0, 1) := dec_row aX2_addMelt 28 rfl
theorem dX2_addMelt_45 : decode cX2_addMelt 45 = .ok (.getfield 18, 3) := dec_row aX2_addMelt 29 rfl
theorem dX2_addMelt_48 : decode cX2_addMelt 48 = .ok (.iload_n 1, 1) := dec_row aX2_addMelt 30 rfl
theorem dX2_addMelt_49 : decode cX2_addMelt 49 = .ok (.aload_n 0, 1) := dec_row aX2_addMelt 31 rfl
theorem dX2_addMelt_50 : decode cX2_addMelt 50 = .ok (.getfield 31, 3) := dec_row aX2_addMelt 32 rfl
theorem dX2_addMelt_53 : decode cX2_addMelt 53 = .ok (.iastore, 1) := dec_row aX2_addMelt 33 rfl
theorem dX2_addMelt_54 : decode cX2_addMelt 54 = .ok (.return_, 1) := dec_row aX2_addMelt 34 rfl
def tX2_hold_0 : List (Nat × Instr × Nat) := [(0, .aload_n 2, 1), (1, .getfield 51, 3), (4, .iconst 3, 1), (5, .iaload, 1), (6, .istore_n 3, 1), (7, .bipush 60, 2), (9, .aload_n 0, 1), (10, .getfield 28, 3), (13, .aload_n 2, 1), (14, .getfield 51, 3), (17, .iconst 4, 1), (18, .iaload, 1), (19, .iadd, 1), (20, .invokestatic 60, 3), (23, .istore 4, 2), (25, .aload_n 0, 1), (26, .getfield 28, 3), (29, .iconst 1, 1), (30, .iadd, 1), (31, .istore 5, 2), (33, .iload 5, 2), (35, .iload 4, 2), (37, .if_icmp .gt 110, 3), (40, .aload_n 0, 1), (41, .iload 5, 2), (43, .putfield 31, 3), (46, .iconst 0, 1), (47, .istore 6, 2), (49, .iload 6, 2), (51, .aload_n 1, 1), (52, .getfield 99, 3), (55, .if_icmp .ge 76, 3), (58, .aload_n 0, 1), (59, .iload 6, 2), (61, .aload_n 1, 1), (62, .invokevirtual 105, 3), (65, .ifCond .ne 26, 3), (68, .aload_n 2, 1), (69, .getfield 92, 3), (72, .iload 6, 2), (74, .iaload, 1), (75, .aload_n 0, 1), (76, .getfield 9, 3), (79, .iload 6, 2), (81, .iaload, 1), (82, .imul, 1), (83, .iload_n 3, 1), (84, .if_icmp .ge 7, 3), (87, .iconst 1, 1), (88, .goto 4, 3)]
theorem aX2_hold_0 : tX2_hold_0.all (fun q => decide (decode cX2_hold q.1 = .ok q.2)) = true := by decide +kernel
theorem dX2_hold_0 : decode cX2_hold 0 = .ok (.aload_n 2, 1) := dec_row aX2_hold_0 0 rfl
theorem dX2_hold_1 : decode cX2_hold 1 = .ok (.getfield 51, 3) := dec_row aX2_hold_0 1 rfl
theorem dX2_hold_4 : decode cX2_hold 4 = .ok (.iconst 3, 1) := dec_row aX2_hold_0 2 rfl
theorem dX2_hold_5 : decode cX2_hold 5 = .ok (.iaload, 1) := dec_row aX2_hold_0 3 rfl
theorem dX2_hold_6 : decode cX2_hold 6 = .ok (.istore_n 3, 1) := dec_row aX2_hold_0 4 rfl
theorem dX2_hold_7 : decode cX2_hold 7 = .ok (.bipush 60, 2) := dec_row aX2_hold_0 5 rfl
theorem dX2_hold_9 : decode cX2_hold 9 = .ok (.aload_n 0, 1) := dec_row aX2_hold_0 6 rfl
theorem dX2_hold_10 : decode cX2_hold 10 = .ok (.getfield 28, 3) := dec_row aX2_hold_0 7 rfl
theorem dX2_hold_13 : decode cX2_hold 13 = .ok (.aload_n 2, 1) := dec_row aX2_hold_0 8 rfl
theorem dX2_hold_14 : decode cX2_hold 14 = .ok (.getfield 51, 3) := dec_row aX2_hold_0 9 rfl
theorem dX2_hold_17 : decode cX2_hold 17 = .ok (.iconst 4, 1) := dec_row aX2_hold_0 10 rfl
theorem dX2_hold_18 : decode cX2_hold 18 = .ok (.iaload, 1) := dec_row aX2_hold_0 11 rfl
theorem dX2_hold_19 : decode cX2_hold 19 = .ok (.iadd, 1) := dec_row aX2_hold_0 12 rfl
theorem dX2_hold_20 : decode cX2_hold 20 = .ok (.invokestatic 60, 3) := dec_row aX2_hold_0 13 rfl
theorem dX2_hold_23 : decode cX2_hold 23 = .ok (.istore 4, 2) := dec_row aX2_hold_0 14 rfl
theorem dX2_hold_25 : decode cX2_hold 25 = .ok (.aload_n 0, 1) := dec_row aX2_hold_0 15 rfl
theorem dX2_hold_26 : decode cX2_hold 26 = .ok (.getfield 28, 3) := dec_row aX2_hold_0 16 rfl
theorem dX2_hold_29 : decode cX2_hold 29 = .ok (.iconst 1, 1) := dec_row aX2_hold_0 17 rfl
theorem dX2_hold_30 : decode cX2_hold 30 = .ok (.iadd, 1) := dec_row aX2_hold_0 18 rfl
theorem dX2_hold_31 : decode cX2_hold 31 = .ok (.istore 5, 2) := dec_row aX2_hold_0 19 rfl
theorem dX2_hold_33 : decode cX2_hold 33 = .ok (.iload 5, 2) := dec_row aX2_hold_0 20 rfl
theorem dX2_hold_35 : decode cX2_hold 35 = .ok (.iload 4, 2) := dec_row aX2_hold_0 21 rfl
theorem dX2_hold_37 : decode cX2_hold 37 = .ok (.if_icmp .gt 110, 3) := dec_row aX2_hold_0 22 rfl
theorem dX2_hold_40 : decode cX2_hold 40 = .ok (.aload_n 0, 1) := dec_row aX2_hold_0 23 rfl
theorem dX2_hold_41 : decode cX2_hold 41 = .ok (.iload 5, 2) := dec_row aX2_hold_0 24 rfl
theorem dX2_hold_43 : decode cX2_hold 43 = .ok (.putfield 31, 3) := dec_row aX2_hold_0 25 rfl
theorem dX2_hold_46 : decode cX2_hold 46 = .ok (.iconst 0, 1) := dec_row aX2_hold_0 26 rfl
theorem dX2_hold_47 : decode cX2_hold 47 = .ok (.istore 6, 2) := dec_row aX2_hold_0 27 rfl
theorem dX2_hold_49 : decode cX2_hold 49 = .ok (.iload 6, 2) := dec_row aX2_hold_0 28 rfl
theorem dX2_hold_51 : decode cX2_hold 51 = .ok (.aload_n 1, 1) := dec_row aX2_hold_0 29 rfl
theorem dX2_hold_52 : decode cX2_hold 52 = .ok (.getfield 99, 3) := dec_row aX2_hold_0 30 rfl
theorem dX2_hold_55 : decode cX2_hold 55 = .ok (.if_icmp .ge 76, 3) := dec_row aX2_hold_0 31 rfl
theorem dX2_hold_58 : decode cX2_hold 58 = .ok (.aload_n 0, 1) := dec_row aX2_hold_0 32 rfl
theorem dX2_hold_59 : decode cX2_hold 59 = .ok (.iload 6, 2) := dec_row aX2_hold_0 33 rfl
theorem dX2_hold_61 : decode cX2_hold 61 = .ok (.aload_n 1, 1) := dec_row aX2_hold_0 34 rfl
theorem dX2_hold_62 : decode cX2_hold 62 = .ok (.invokevirtual 105, 3) := dec_row aX2_hold_0 35 rfl
theorem dX2_hold_65 : decode cX2_hold 65 = .ok (.ifCond .ne 26, 3) := dec_row aX2_hold_0 36 rfl
theorem dX2_hold_68 : decode cX2_hold 68 = .ok (.aload_n 2, 1) := dec_row aX2_hold_0 37 rfl
theorem dX2_hold_69 : decode cX2_hold 69 = .ok (.getfield 92, 3) := dec_row aX2_hold_0 38 rfl
theorem dX2_hold_72 : decode cX2_hold 72 = .ok (.iload 6, 2) := dec_row aX2_hold_0 39 rfl
theorem dX2_hold_74 : decode cX2_hold 74 = .ok (.iaload, 1) := dec_row aX2_hold_0 40 rfl
theorem dX2_hold_75 : decode cX2_hold 75 = .ok (.aload_n 0, 1) := dec_row aX2_hold_0 41 rfl
theorem dX2_hold_76 : decode cX2_hold 76 = .ok (.getfield 9, 3) := dec_row aX2_hold_0 42 rfl
theorem dX2_hold_79 : decode cX2_hold 79 = .ok (.iload 6, 2) := dec_row aX2_hold_0 43 rfl
theorem dX2_hold_81 : decode cX2_hold 81 = .ok (.iaload, 1) := dec_row aX2_hold_0 44 rfl
theorem dX2_hold_82 : decode cX2_hold 82 = .ok (.imul, 1) := dec_row aX2_hold_0 45 rfl
theorem dX2_hold_83 : decode cX2_hold 83 = .ok (.iload_n 3, 1) := dec_row aX2_hold_0 46 rfl
theorem dX2_hold_84 : decode cX2_hold 84 = .ok (.if_icmp .ge 7, 3) := dec_row aX2_hold_0 47 rfl
theorem dX2_hold_87 : decode cX2_hold 87 = .ok (.iconst 1, 1) := dec_row aX2_hold_0 48 rfl
theorem dX2_hold_88 : decode cX2_hold 88 = .ok (.goto 4, 3) := dec_row aX2_hold_0 49 rfl
def tX2_hold_1 : List (Nat × Instr × Nat) := [(91, .iconst 0, 1), (92, .istore 7, 2), (94, .iload 7, 2), (96, .ifCond .eq 29, 3), (99, .aload_n 0, 1), (100, .getfield 24, 3), (103, .bipush 99, 2), (105, .if_icmp .ge 20, 3), (108, .aload_n 0, 1), (109, .iload 6, 2), (111, .aload_n 1, 1), (112, .invokevirtual 95, 3), (115, .aload_n 0, 1), (116, .dup, 1), (117, .getfield 24, 3), (120, .iconst 1, 1), (121, .iadd, 1), (122, .putfield 24, 3), (125, .iinc 6 1, 3), (128, .goto (-79), 3), (131, .aload_n 0, 1), (132, .getfield 21, 3), (135, .iload 5, 2), (137, .iconst 1, 1), (138, .isub, 1), (139, .iload_n 3, 1), (140, .iastore, 1), (141, .iinc 5 1, 3), (144, .goto (-111), 3), (147, .return_, 1)]
theorem aX2_hold_1 : tX2_hold_1.all (fun q => decide (decode cX2_hold q.1 = .ok q.2)) = true := by decide +kernel
theorem dX2_hold_91 : decode cX2_hold 91 = .ok (.iconst 0, 1) := dec_row aX2_hold_1 0 rfl
theorem dX2_hold_92 : decode cX2_hold 92 = .ok (.istore 7, 2) := dec_row aX2_hold_1 1 rfl
theorem dX2_hold_94 : decode cX2_hold 94 = .ok (.iload 7, 2) := dec_row aX2_hold_1 2 rfl
theorem dX2_hold_96 : decode cX2_hold 96 = .ok (.ifCond .eq 29, 3) := dec_row aX2_hold_1 3 rfl
theorem dX2_hold_99 : decode cX2_hold 99 = .ok (.aload_n 0, 1) := dec_row aX2_hold_1 4 rfl
theorem dX2_hold_100 : decode cX2_hold 100 = .ok (.getfield 24, 3) := dec_row aX2_hold_1 5 rfl
theorem dX2_hold_103 : decode cX2_hold 103 = .ok (.bipush 99, 2) := dec_row aX2_hold_1 6 rfl
theorem dX2_hold_105 : decode cX2_hold 105 = .ok (.if_icmp .ge 20, 3) := dec_row aX2_hold_1 7 rfl
theorem dX2_hold_108 : decode cX2_hold 108 = .ok (.aload_n 0, 1) := dec_row aX2_hold_1 8 rfl
theorem dX2_hold_109 : decode cX2_hold 109 = .ok (.iload 6, 2) := dec_row aX2_hold_1 9 rfl
theorem dX2_hold_111 : decode cX2_hold 111 = .ok (.aload_n 1, 1) := dec_row aX2_hold_1 10 rfl
theorem dX2_hold_112 : decode cX2_hold 112 = .ok (.invokevirtual 95, 3) := dec_row aX2_hold_1 11 rfl
theorem dX2_hold_115 : decode cX2_hold 115 = .ok (.aload_n 0, 1) := dec_row aX2_hold_1 12 rfl
theorem dX2_hold_116 : decode cX2_hold 116 = .ok (.dup, 1) := dec_row aX2_hold_1 13 rfl
theorem dX2_hold_117 : decode cX2_hold 117 = .ok (.getfield 24, 3) := dec_row aX2_hold_1 14 rfl
theorem dX2_hold_120 : decode cX2_hold 120 = .ok (.iconst 1, 1) := dec_row aX2_hold_1 15 rfl
theorem dX2_hold_121 : decode cX2_hold 121 = .ok (.iadd, 1) := dec_row aX2_hold_1 16 rfl
theorem dX2_hold_122 : decode cX2_hold 122 = .ok (.putfield 24, 3) := dec_row aX2_hold_1 17 rfl
theorem dX2_hold_125 : decode cX2_hold 125 = .ok (.iinc 6 1, 3) := dec_row aX2_hold_1 18 rfl
theorem dX2_hold_128 : decode cX2_hold 128 = .ok (.goto (-79), 3) := dec_row aX2_hold_1 19 rfl
theorem dX2_hold_131 : decode cX2_hold 131 = .ok (.aload_n 0, 1) := dec_row aX2_hold_1 20 rfl
theorem dX2_hold_132 : decode cX2_hold 132 = .ok (.getfield 21, 3) := dec_row aX2_hold_1 21 rfl
theorem dX2_hold_135 : decode cX2_hold 135 = .ok (.iload 5, 2) := dec_row aX2_hold_1 22 rfl
theorem dX2_hold_137 : decode cX2_hold 137 = .ok (.iconst 1, 1) := dec_row aX2_hold_1 23 rfl
theorem dX2_hold_138 : decode cX2_hold 138 = .ok (.isub, 1) := dec_row aX2_hold_1 24 rfl
theorem dX2_hold_139 : decode cX2_hold 139 = .ok (.iload_n 3, 1) := dec_row aX2_hold_1 25 rfl
theorem dX2_hold_140 : decode cX2_hold 140 = .ok (.iastore, 1) := dec_row aX2_hold_1 26 rfl
theorem dX2_hold_141 : decode cX2_hold 141 = .ok (.iinc 5 1, 3) := dec_row aX2_hold_1 27 rfl
theorem dX2_hold_144 : decode cX2_hold 144 = .ok (.goto (-111), 3) := dec_row aX2_hold_1 28 rfl
theorem dX2_hold_147 : decode cX2_hold 147 = .ok (.return_, 1) := dec_row aX2_hold_1 29 rfl
def tX2_isFrozen : List (Nat × Instr × Nat) := [(0, .aload_n 0, 1), (1, .getfield 15, 3), (4, .iload_n 1, 1), (5, .iaload, 1), (6, .ifCond .eq 27, 3), (9, .aload_n 0, 1), (10, .getfield 31, 3), (13, .aload_n 0, 1), (14, .getfield 15, 3), (17, .iload_n 1, 1), (18, .iaload, 1), (19, .isub, 1), (20, .aload_n 2, 1), (21, .getfield 109, 3), (24, .iload_n 1, 1), (25, .iaload, 1), (26, .if_icmp .lt 7, 3), (29, .iconst 1, 1), (30, .goto 4, 3), (33, .iconst 0, 1), (34, .ireturn, 1)]
theorem aX2_isFrozen : tX2_isFrozen.all (fun q => decide (decode cX2_isFrozen q.1 = .ok q.2)) = true := by decide +kernel
theorem dX2_isFrozen_0 : decode cX2_isFrozen 0 = .ok (.aload_n 0, 1) := dec_row aX2_isFrozen 0 rfl
theorem dX2_isFrozen_1 : decode cX2_isFrozen 1 = .ok (.getfield 15, 3) := dec_row aX2_isFrozen 1 rfl
theorem dX2_isFrozen_4 : decode cX2_isFrozen 4 = .ok (.iload_n 1, 1) := dec_row aX2_isFrozen 2 rfl
theorem dX2_isFrozen_5 : decode cX2_isFrozen 5 = .ok (.iaload, 1) := dec_row aX2_isFrozen 3 rfl
theorem dX2_isFrozen_6 : decode cX2_isFrozen 6 = .ok (.ifCond .eq 27, 3) := dec_row aX2_isFrozen 4 rfl
theorem dX2_isFrozen_9 : decode cX2_isFrozen 9 = .ok (.aload_n 0, 1) := dec_row aX2_isFrozen 5 rfl
theorem dX2_isFrozen_10 : decode cX2_isFrozen 10 = .ok (.getfield 31, 3) := dec_row aX2_isFrozen 6 rfl
theorem dX2_isFrozen_13 : decode cX2_isFrozen 13 = .ok (.aload_n 0, 1) := dec_row aX2_isFrozen 7 rfl
theorem dX2_isFrozen_14 : decode cX2_isFrozen 14 = .ok (.getfield 15, 3) := dec_row aX2_isFrozen 8 rfl
theorem dX2_isFrozen_17 : decode cX2_isFrozen 17 = .ok (.iload_n 1, 1) := dec_row aX2_isFrozen 9 rfl
theorem dX2_isFrozen_18 : decode cX2_isFrozen 18 = .ok (.iaload, 1) := dec_row aX2_isFrozen 10 rfl
theorem dX2_isFrozen_19 : decode cX2_isFrozen 19 = .ok (.isub, 1) := dec_row aX2_isFrozen 11 rfl
theorem dX2_isFrozen_20 : decode cX2_isFrozen 20 = .ok (.aload_n 2, 1) := dec_row aX2_isFrozen 12 rfl
theorem dX2_isFrozen_21 : decode cX2_isFrozen 21 = .ok (.getfield 109, 3) := dec_row aX2_isFrozen 13 rfl
theorem dX2_isFrozen_24 : decode cX2_isFrozen 24 = .ok (.iload_n 1, 1) := dec_row aX2_isFrozen 14 rfl
theorem dX2_isFrozen_25 : decode cX2_isFrozen 25 = .ok (.iaload, 1) := dec_row aX2_isFrozen 15 rfl
theorem dX2_isFrozen_26 : decode cX2_isFrozen 26 = .ok (.if_icmp .lt 7, 3) := dec_row aX2_isFrozen 16 rfl
theorem dX2_isFrozen_29 : decode cX2_isFrozen 29 = .ok (.iconst 1, 1) := dec_row aX2_isFrozen 17 rfl
theorem dX2_isFrozen_30 : decode cX2_isFrozen 30 = .ok (.goto 4, 3) := dec_row aX2_isFrozen 18 rfl
theorem dX2_isFrozen_33 : decode cX2_isFrozen 33 = .ok (.iconst 0, 1) := dec_row aX2_isFrozen 19 rfl
theorem dX2_isFrozen_34 : decode cX2_isFrozen 34 = .ok (.ireturn, 1) := dec_row aX2_isFrozen 20 rfl
def tX2_told : List (Nat × Instr × Nat) := [(0, .iload_n 1, 1), (1, .tableswitch 81 0 6 #[43, 48, 53, 58, 66, 71, 76], 43), (44, .aload_n 0, 1), (45, .getfield 28, 3), (48, .ireturn, 1), (49, .aload_n 0, 1), (50, .getfield 31, 3), (53, .ireturn, 1), (54, .aload_n 0, 1), (55, .getfield 37, 3), (58, .ireturn, 1), (59, .bipush 99, 2), (61, .aload_n 0, 1), (62, .getfield 24, 3), (65, .isub, 1), (66, .ireturn, 1), (67, .aload_n 0, 1), (68, .invokevirtual 112, 3), (71, .ireturn, 1), (72, .aload_n 0, 1), (73, .invokevirtual 116, 3), (76, .ireturn, 1), (77, .aload_n 0, 1), (78, .invokevirtual 119, 3), (81, .ireturn, 1), (82, .iconst (-1), 1), (83, .ireturn, 1)]
theorem aX2_told : tX2_told.all (fun q => decide (decode cX2_told q.1 = .ok q.2)) = true := by decide +kernel
theorem dX2_told_0 : decode cX2_told 0 = .ok (.iload_n 1, 1) := dec_row aX2_told 0 rfl
theorem dX2_told_1 : decode cX2_told 1 = .ok (.tableswitch 81 0 6 #[43, 48, 53, 58, 66, 71, 76], 43) := dec_row aX2_told 1 rfl
theorem dX2_told_44 : decode cX2_told 44 = .ok (.aload_n 0, 1) := dec_row aX2_told 2 rfl
theorem dX2_told_45 : decode cX2_told 45 = .ok (.getfield 28, 3) := dec_row aX2_told 3 rfl
theorem dX2_told_48 : decode cX2_told 48 = .ok (.ireturn, 1) := dec_row aX2_told 4 rfl
theorem dX2_told_49 : decode cX2_told 49 = .ok (.aload_n 0, 1) := dec_row aX2_told 5 rfl
theorem dX2_told_50 : decode cX2_told 50 = .ok (.getfield 31, 3) := dec_row aX2_told 6 rfl
theorem dX2_told_53 : decode cX2_told 53 = .ok (.ireturn, 1) := dec_row aX2_told 7 rfl
theorem dX2_told_54 : decode cX2_told 54 = .ok (.aload_n 0, 1) := dec_row aX2_told 8 rfl
theorem dX2_told_55 : decode cX2_told 55 = .ok (.getfield 37, 3) := dec_row aX2_told 9 rfl
theorem dX2_told_58 : decode cX2_told 58 = .ok (.ireturn, 1) := dec_row aX2_told 10 rfl
theorem dX2_told_59 : decode cX2_told 59 = .ok (.bipush 99, 2) := dec_row aX2_told 11 rfl
theorem dX2_told_61 : decode cX2_told 61 = .ok (.aload_n 0, 1) := dec_row aX2_told 12 rfl
theorem dX2_told_62 : decode cX2_told 62 = .ok (.getfield 24, 3) := dec_row aX2_told 13 rfl
theorem dX2_told_65 : decode cX2_told 65 = .ok (.isub, 1) := dec_row aX2_told 14 rfl
theorem dX2_told_66 : decode cX2_told 66 = .ok (.ireturn, 1) := dec_row aX2_told 15 rfl
theorem dX2_told_67 : decode cX2_told 67 = .ok (.aload_n 0, 1) := dec_row aX2_told 16 rfl
theorem dX2_told_68 : decode cX2_told 68 = .ok (.invokevirtual 112, 3) := dec_row aX2_told 17 rfl
theorem dX2_told_71 : decode cX2_told 71 = .ok (.ireturn, 1) := dec_row aX2_told 18 rfl
theorem dX2_told_72 : decode cX2_told 72 = .ok (.aload_n 0, 1) := dec_row aX2_told 19 rfl
theorem dX2_told_73 : decode cX2_told 73 = .ok (.invokevirtual 116, 3) := dec_row aX2_told 20 rfl
theorem dX2_told_76 : decode cX2_told 76 = .ok (.ireturn, 1) := dec_row aX2_told 21 rfl
theorem dX2_told_77 : decode cX2_told 77 = .ok (.aload_n 0, 1) := dec_row aX2_told 22 rfl
theorem dX2_told_78 : decode cX2_told 78 = .ok (.invokevirtual 119, 3) := dec_row aX2_told 23 rfl
theorem dX2_told_81 : decode cX2_told 81 = .ok (.ireturn, 1) := dec_row aX2_told 24 rfl
theorem dX2_told_82 : decode cX2_told 82 = .ok (.iconst (-1), 1) := dec_row aX2_told 25 rfl
theorem dX2_told_83 : decode cX2_told 83 = .ok (.ireturn, 1) := dec_row aX2_told 26 rfl
def tX2_whole : List (Nat × Instr × Nat) := [(0, .aload_n 0, 1), (1, .getfield 31, 3), (4, .aload_n 0, 1), (5, .getfield 34, 3), (8, .iadd, 1), (9, .ireturn, 1)]
theorem aX2_whole : tX2_whole.all (fun q => decide (decode cX2_whole q.1 = .ok q.2)) = true := by decide +kernel
theorem dX2_whole_0 : decode cX2_whole 0 = .ok (.aload_n 0, 1) := dec_row aX2_whole 0 rfl
theorem dX2_whole_1 : decode cX2_whole 1 = .ok (.getfield 31, 3) := dec_row aX2_whole 1 rfl
theorem dX2_whole_4 : decode cX2_whole 4 = .ok (.aload_n 0, 1) := dec_row aX2_whole 2 rfl
theorem dX2_whole_5 : decode cX2_whole 5 = .ok (.getfield 34, 3) := dec_row aX2_whole 3 rfl
theorem dX2_whole_8 : decode cX2_whole 8 = .ok (.iadd, 1) := dec_row aX2_whole 4 rfl
theorem dX2_whole_9 : decode cX2_whole 9 = .ok (.ireturn, 1) := dec_row aX2_whole 5 rfl
def tX2_balance : List (Nat × Instr × Nat) := [(0, .bipush 60, 2), (2, .istore_n 1, 1), (3, .iconst 0, 1), (4, .istore_n 2, 1), (5, .iconst 0, 1), (6, .istore_n 3, 1), (7, .iload_n 3, 1), (8, .bipush 6, 2), (10, .if_icmp .ge 40, 3), (13, .aload_n 0, 1), (14, .getfield 18, 3), (17, .iload_n 3, 1), (18, .iaload, 1), (19, .ifCond .eq 25, 3), (22, .iload_n 1, 1), (23, .aload_n 0, 1), (24, .getfield 18, 3), (27, .iload_n 3, 1), (28, .iaload, 1), (29, .invokestatic 60, 3), (32, .istore_n 1, 1), (33, .iload_n 2, 1), (34, .aload_n 0, 1), (35, .getfield 18, 3), (38, .iload_n 3, 1), (39, .iaload, 1), (40, .invokestatic 70, 3), (43, .istore_n 2, 1), (44, .iinc 3 1, 3), (47, .goto (-40), 3), (50, .iconst 0, 1), (51, .iload_n 2, 1), (52, .iload_n 1, 1), (53, .isub, 1), (54, .invokestatic 70, 3), (57, .ireturn, 1)]
theorem aX2_balance : tX2_balance.all (fun q => decide (decode cX2_balance q.1 = .ok q.2)) = true := by decide +kernel
theorem dX2_balance_0 : decode cX2_balance 0 = .ok (.bipush 60, 2) := dec_row aX2_balance 0 rfl
theorem dX2_balance_2 : decode cX2_balance 2 = .ok (.istore_n 1, 1) := dec_row aX2_balance 1 rfl
theorem dX2_balance_3 : decode cX2_balance 3 = .ok (.iconst 0, 1) := dec_row aX2_balance 2 rfl
theorem dX2_balance_4 : decode cX2_balance 4 = .ok (.istore_n 2, 1) := dec_row aX2_balance 3 rfl
theorem dX2_balance_5 : decode cX2_balance 5 = .ok (.iconst 0, 1) := dec_row aX2_balance 4 rfl
theorem dX2_balance_6 : decode cX2_balance 6 = .ok (.istore_n 3, 1) := dec_row aX2_balance 5 rfl
theorem dX2_balance_7 : decode cX2_balance 7 = .ok (.iload_n 3, 1) := dec_row aX2_balance 6 rfl
theorem dX2_balance_8 : decode cX2_balance 8 = .ok (.bipush 6, 2) := dec_row aX2_balance 7 rfl
theorem dX2_balance_10 : decode cX2_balance 10 = .ok (.if_icmp .ge 40, 3) := dec_row aX2_balance 8 rfl
theorem dX2_balance_13 : decode cX2_balance 13 = .ok (.aload_n 0, 1) := dec_row aX2_balance 9 rfl
theorem dX2_balance_14 : decode cX2_balance 14 = .ok (.getfield 18, 3) := dec_row aX2_balance 10 rfl
theorem dX2_balance_17 : decode cX2_balance 17 = .ok (.iload_n 3, 1) := dec_row aX2_balance 11 rfl
theorem dX2_balance_18 : decode cX2_balance 18 = .ok (.iaload, 1) := dec_row aX2_balance 12 rfl
theorem dX2_balance_19 : decode cX2_balance 19 = .ok (.ifCond .eq 25, 3) := dec_row aX2_balance 13 rfl
theorem dX2_balance_22 : decode cX2_balance 22 = .ok (.iload_n 1, 1) := dec_row aX2_balance 14 rfl
theorem dX2_balance_23 : decode cX2_balance 23 = .ok (.aload_n 0, 1) := dec_row aX2_balance 15 rfl
theorem dX2_balance_24 : decode cX2_balance 24 = .ok (.getfield 18, 3) := dec_row aX2_balance 16 rfl
theorem dX2_balance_27 : decode cX2_balance 27 = .ok (.iload_n 3, 1) := dec_row aX2_balance 17 rfl
theorem dX2_balance_28 : decode cX2_balance 28 = .ok (.iaload, 1) := dec_row aX2_balance 18 rfl
theorem dX2_balance_29 : decode cX2_balance 29 = .ok (.invokestatic 60, 3) := dec_row aX2_balance 19 rfl
theorem dX2_balance_32 : decode cX2_balance 32 = .ok (.istore_n 1, 1) := dec_row aX2_balance 20 rfl
theorem dX2_balance_33 : decode cX2_balance 33 = .ok (.iload_n 2, 1) := dec_row aX2_balance 21 rfl
theorem dX2_balance_34 : decode cX2_balance 34 = .ok (.aload_n 0, 1) := dec_row aX2_balance 22 rfl
theorem dX2_balance_35 : decode cX2_balance 35 = .ok (.getfield 18, 3) := dec_row aX2_balance 23 rfl
theorem dX2_balance_38 : decode cX2_balance 38 = .ok (.iload_n 3, 1) := dec_row aX2_balance 24 rfl
theorem dX2_balance_39 : decode cX2_balance 39 = .ok (.iaload, 1) := dec_row aX2_balance 25 rfl
theorem dX2_balance_40 : decode cX2_balance 40 = .ok (.invokestatic 70, 3) := dec_row aX2_balance 26 rfl
theorem dX2_balance_43 : decode cX2_balance 43 = .ok (.istore_n 2, 1) := dec_row aX2_balance 27 rfl
theorem dX2_balance_44 : decode cX2_balance 44 = .ok (.iinc 3 1, 3) := dec_row aX2_balance 28 rfl
theorem dX2_balance_47 : decode cX2_balance 47 = .ok (.goto (-40), 3) := dec_row aX2_balance 29 rfl
theorem dX2_balance_50 : decode cX2_balance 50 = .ok (.iconst 0, 1) := dec_row aX2_balance 30 rfl
theorem dX2_balance_51 : decode cX2_balance 51 = .ok (.iload_n 2, 1) := dec_row aX2_balance 31 rfl
theorem dX2_balance_52 : decode cX2_balance 52 = .ok (.iload_n 1, 1) := dec_row aX2_balance 32 rfl
theorem dX2_balance_53 : decode cX2_balance 53 = .ok (.isub, 1) := dec_row aX2_balance 33 rfl
theorem dX2_balance_54 : decode cX2_balance 54 = .ok (.invokestatic 70, 3) := dec_row aX2_balance 34 rfl
theorem dX2_balance_57 : decode cX2_balance 57 = .ok (.ireturn, 1) := dec_row aX2_balance 35 rfl
def tX2_greatestPressure : List (Nat × Instr × Nat) := [(0, .iconst 0, 1), (1, .istore_n 1, 1), (2, .iconst 0, 1), (3, .istore_n 2, 1), (4, .iload_n 2, 1), (5, .bipush 60, 2), (7, .if_icmp .ge 20, 3), (10, .iload_n 1, 1), (11, .aload_n 0, 1), (12, .getfield 21, 3), (15, .iload_n 2, 1), (16, .iaload, 1), (17, .invokestatic 70, 3), (20, .istore_n 1, 1), (21, .iinc 2 1, 3), (24, .goto (-20), 3), (27, .iload_n 1, 1), (28, .ireturn, 1)]
theorem aX2_greatestPressure : tX2_greatestPressure.all (fun q => decide (decode cX2_greatestPressure q.1 = .ok q.2)) = true := by decide +kernel
theorem dX2_greatestPressure_0 : decode cX2_greatestPressure 0 = .ok (.iconst 0, 1) := dec_row aX2_greatestPressure 0 rfl
theorem dX2_greatestPressure_1 : decode cX2_greatestPressure 1 = .ok (.istore_n 1, 1) := dec_row aX2_greatestPressure 1 rfl
theorem dX2_greatestPressure_2 : decode cX2_greatestPressure 2 = .ok (.iconst 0, 1) := dec_row aX2_greatestPressure 2 rfl
theorem dX2_greatestPressure_3 : decode cX2_greatestPressure 3 = .ok (.istore_n 2, 1) := dec_row aX2_greatestPressure 3 rfl
theorem dX2_greatestPressure_4 : decode cX2_greatestPressure 4 = .ok (.iload_n 2, 1) := dec_row aX2_greatestPressure 4 rfl
theorem dX2_greatestPressure_5 : decode cX2_greatestPressure 5 = .ok (.bipush 60, 2) := dec_row aX2_greatestPressure 5 rfl
theorem dX2_greatestPressure_7 : decode cX2_greatestPressure 7 = .ok (.if_icmp .ge 20, 3) := dec_row aX2_greatestPressure 6 rfl
theorem dX2_greatestPressure_10 : decode cX2_greatestPressure 10 = .ok (.iload_n 1, 1) := dec_row aX2_greatestPressure 7 rfl
theorem dX2_greatestPressure_11 : decode cX2_greatestPressure 11 = .ok (.aload_n 0, 1) := dec_row aX2_greatestPressure 8 rfl
theorem dX2_greatestPressure_12 : decode cX2_greatestPressure 12 = .ok (.getfield 21, 3) := dec_row aX2_greatestPressure 9 rfl
theorem dX2_greatestPressure_15 : decode cX2_greatestPressure 15 = .ok (.iload_n 2, 1) := dec_row aX2_greatestPressure 10 rfl
theorem dX2_greatestPressure_16 : decode cX2_greatestPressure 16 = .ok (.iaload, 1) := dec_row aX2_greatestPressure 11 rfl
theorem dX2_greatestPressure_17 : decode cX2_greatestPressure 17 = .ok (.invokestatic 70, 3) := dec_row aX2_greatestPressure 12 rfl
theorem dX2_greatestPressure_20 : decode cX2_greatestPressure 20 = .ok (.istore_n 1, 1) := dec_row aX2_greatestPressure 13 rfl
theorem dX2_greatestPressure_21 : decode cX2_greatestPressure 21 = .ok (.iinc 2 1, 3) := dec_row aX2_greatestPressure 14 rfl
theorem dX2_greatestPressure_24 : decode cX2_greatestPressure 24 = .ok (.goto (-20), 3) := dec_row aX2_greatestPressure 15 rfl
theorem dX2_greatestPressure_27 : decode cX2_greatestPressure 27 = .ok (.iload_n 1, 1) := dec_row aX2_greatestPressure 16 rfl
theorem dX2_greatestPressure_28 : decode cX2_greatestPressure 28 = .ok (.ireturn, 1) := dec_row aX2_greatestPressure 17 rfl
def tX2_isShort : List (Nat × Instr × Nat) := [(0, .iconst 0, 1), (1, .istore_n 2, 1), (2, .iload_n 2, 1), (3, .aload_n 1, 1), (4, .getfield 99, 3), (7, .if_icmp .ge 26, 3), (10, .aload_n 0, 1), (11, .getfield 9, 3), (14, .iload_n 2, 1), (15, .iaload, 1), (16, .aload_n 1, 1), (17, .getfield 102, 3), (20, .iload_n 2, 1), (21, .iaload, 1), (22, .if_icmp .ge 5, 3), (25, .iconst 1, 1), (26, .ireturn, 1), (27, .iinc 2 1, 3), (30, .goto (-28), 3), (33, .iconst 0, 1), (34, .ireturn, 1)]
theorem aX2_isShort : tX2_isShort.all (fun q => decide (decode cX2_isShort q.1 = .ok q.2)) = true := by decide +kernel
theorem dX2_isShort_0 : decode cX2_isShort 0 = .ok (.iconst 0, 1) := dec_row aX2_isShort 0 rfl
theorem dX2_isShort_1 : decode cX2_isShort 1 = .ok (.istore_n 2, 1) := dec_row aX2_isShort 1 rfl
theorem dX2_isShort_2 : decode cX2_isShort 2 = .ok (.iload_n 2, 1) := dec_row aX2_isShort 2 rfl
theorem dX2_isShort_3 : decode cX2_isShort 3 = .ok (.aload_n 1, 1) := dec_row aX2_isShort 3 rfl
theorem dX2_isShort_4 : decode cX2_isShort 4 = .ok (.getfield 99, 3) := dec_row aX2_isShort 4 rfl
theorem dX2_isShort_7 : decode cX2_isShort 7 = .ok (.if_icmp .ge 26, 3) := dec_row aX2_isShort 5 rfl
theorem dX2_isShort_10 : decode cX2_isShort 10 = .ok (.aload_n 0, 1) := dec_row aX2_isShort 6 rfl
theorem dX2_isShort_11 : decode cX2_isShort 11 = .ok (.getfield 9, 3) := dec_row aX2_isShort 7 rfl
theorem dX2_isShort_14 : decode cX2_isShort 14 = .ok (.iload_n 2, 1) := dec_row aX2_isShort 8 rfl
theorem dX2_isShort_15 : decode cX2_isShort 15 = .ok (.iaload, 1) := dec_row aX2_isShort 9 rfl
theorem dX2_isShort_16 : decode cX2_isShort 16 = .ok (.aload_n 1, 1) := dec_row aX2_isShort 10 rfl
theorem dX2_isShort_17 : decode cX2_isShort 17 = .ok (.getfield 102, 3) := dec_row aX2_isShort 11 rfl
theorem dX2_isShort_20 : decode cX2_isShort 20 = .ok (.iload_n 2, 1) := dec_row aX2_isShort 12 rfl
theorem dX2_isShort_21 : decode cX2_isShort 21 = .ok (.iaload, 1) := dec_row aX2_isShort 13 rfl
theorem dX2_isShort_22 : decode cX2_isShort 22 = .ok (.if_icmp .ge 5, 3) := dec_row aX2_isShort 14 rfl
theorem dX2_isShort_25 : decode cX2_isShort 25 = .ok (.iconst 1, 1) := dec_row aX2_isShort 15 rfl
theorem dX2_isShort_26 : decode cX2_isShort 26 = .ok (.ireturn, 1) := dec_row aX2_isShort 16 rfl
theorem dX2_isShort_27 : decode cX2_isShort 27 = .ok (.iinc 2 1, 3) := dec_row aX2_isShort 17 rfl
theorem dX2_isShort_30 : decode cX2_isShort 30 = .ok (.goto (-28), 3) := dec_row aX2_isShort 18 rfl
theorem dX2_isShort_33 : decode cX2_isShort 33 = .ok (.iconst 0, 1) := dec_row aX2_isShort 19 rfl
theorem dX2_isShort_34 : decode cX2_isShort 34 = .ok (.ireturn, 1) := dec_row aX2_isShort 20 rfl
def tX2_isFarOff : List (Nat × Instr × Nat) := [(0, .iconst 0, 1), (1, .istore_n 2, 1), (2, .iload_n 2, 1), (3, .aload_n 1, 1), (4, .getfield 99, 3), (7, .if_icmp .ge 31, 3), (10, .aload_n 0, 1), (11, .getfield 9, 3), (14, .iload_n 2, 1), (15, .iaload, 1), (16, .aload_n 1, 1), (17, .getfield 102, 3), (20, .iload_n 2, 1), (21, .iaload, 1), (22, .isub, 1), (23, .invokestatic 122, 3), (26, .iconst 2, 1), (27, .if_icmp .lt 5, 3), (30, .iconst 1, 1), (31, .ireturn, 1), (32, .iinc 2 1, 3), (35, .goto (-33), 3), (38, .iconst 0, 1), (39, .ireturn, 1)]
theorem aX2_isFarOff : tX2_isFarOff.all (fun q => decide (decode cX2_isFarOff q.1 = .ok q.2)) = true := by decide +kernel
theorem dX2_isFarOff_0 : decode cX2_isFarOff 0 = .ok (.iconst 0, 1) := dec_row aX2_isFarOff 0 rfl
theorem dX2_isFarOff_1 : decode cX2_isFarOff 1 = .ok (.istore_n 2, 1) := dec_row aX2_isFarOff 1 rfl
theorem dX2_isFarOff_2 : decode cX2_isFarOff 2 = .ok (.iload_n 2, 1) := dec_row aX2_isFarOff 2 rfl
theorem dX2_isFarOff_3 : decode cX2_isFarOff 3 = .ok (.aload_n 1, 1) := dec_row aX2_isFarOff 3 rfl
theorem dX2_isFarOff_4 : decode cX2_isFarOff 4 = .ok (.getfield 99, 3) := dec_row aX2_isFarOff 4 rfl
theorem dX2_isFarOff_7 : decode cX2_isFarOff 7 = .ok (.if_icmp .ge 31, 3) := dec_row aX2_isFarOff 5 rfl
theorem dX2_isFarOff_10 : decode cX2_isFarOff 10 = .ok (.aload_n 0, 1) := dec_row aX2_isFarOff 6 rfl
theorem dX2_isFarOff_11 : decode cX2_isFarOff 11 = .ok (.getfield 9, 3) := dec_row aX2_isFarOff 7 rfl
theorem dX2_isFarOff_14 : decode cX2_isFarOff 14 = .ok (.iload_n 2, 1) := dec_row aX2_isFarOff 8 rfl
theorem dX2_isFarOff_15 : decode cX2_isFarOff 15 = .ok (.iaload, 1) := dec_row aX2_isFarOff 9 rfl
theorem dX2_isFarOff_16 : decode cX2_isFarOff 16 = .ok (.aload_n 1, 1) := dec_row aX2_isFarOff 10 rfl
theorem dX2_isFarOff_17 : decode cX2_isFarOff 17 = .ok (.getfield 102, 3) := dec_row aX2_isFarOff 11 rfl
theorem dX2_isFarOff_20 : decode cX2_isFarOff 20 = .ok (.iload_n 2, 1) := dec_row aX2_isFarOff 12 rfl
theorem dX2_isFarOff_21 : decode cX2_isFarOff 21 = .ok (.iaload, 1) := dec_row aX2_isFarOff 13 rfl
theorem dX2_isFarOff_22 : decode cX2_isFarOff 22 = .ok (.isub, 1) := dec_row aX2_isFarOff 14 rfl
theorem dX2_isFarOff_23 : decode cX2_isFarOff 23 = .ok (.invokestatic 122, 3) := dec_row aX2_isFarOff 15 rfl
theorem dX2_isFarOff_26 : decode cX2_isFarOff 26 = .ok (.iconst 2, 1) := dec_row aX2_isFarOff 16 rfl
theorem dX2_isFarOff_27 : decode cX2_isFarOff 27 = .ok (.if_icmp .lt 5, 3) := dec_row aX2_isFarOff 17 rfl
theorem dX2_isFarOff_30 : decode cX2_isFarOff 30 = .ok (.iconst 1, 1) := dec_row aX2_isFarOff 18 rfl
theorem dX2_isFarOff_31 : decode cX2_isFarOff 31 = .ok (.ireturn, 1) := dec_row aX2_isFarOff 19 rfl
theorem dX2_isFarOff_32 : decode cX2_isFarOff 32 = .ok (.iinc 2 1, 3) := dec_row aX2_isFarOff 20 rfl
theorem dX2_isFarOff_35 : decode cX2_isFarOff 35 = .ok (.goto (-33), 3) := dec_row aX2_isFarOff 21 rfl
theorem dX2_isFarOff_38 : decode cX2_isFarOff 38 = .ok (.iconst 0, 1) := dec_row aX2_isFarOff 22 rfl
theorem dX2_isFarOff_39 : decode cX2_isFarOff 39 = .ok (.ireturn, 1) := dec_row aX2_isFarOff 23 rfl
def tX3_init : List (Nat × Instr × Nat) := [(0, .aload_n 0, 1), (1, .invokespecial 3, 3), (4, .aload_n 0, 1), (5, .bipush 6, 2), (7, .newarray .int, 2), (9, .putfield 9, 3), (12, .aload_n 0, 1), (13, .iconst 4, 1), (14, .newarray .int, 2), (16, .putfield 15, 3), (19, .aload_n 0, 1), (20, .bipush 6, 2), (22, .newarray .int, 2), (24, .putfield 18, 3), (27, .aload_n 0, 1), (28, .iconst 0, 1), (29, .putfield 21, 3), (32, .aload_n 0, 1), (33, .iconst 0, 1), (34, .putfield 25, 3), (37, .aload_n 0, 1), (38, .iconst 0, 1), (39, .putfield 29, 3), (42, .aload_n 0, 1), (43, .iconst 0, 1), (44, .putfield 32, 3), (47, .aload_n 0, 1), (48, .iconst 0, 1), (49, .putfield 35, 3), (52, .aload_n 0, 1), (53, .iconst 2, 1), (54, .putfield 38, 3), (57, .aload_n 0, 1), (58, .new 41, 3), (61, .dup, 1), (62, .invokespecial 43, 3), (65, .putfield 44, 3), (68, .return_, 1)]
theorem aX3_init : tX3_init.all (fun q => decide (decode cX3_init q.1 = .ok q.2)) = true := by decide +kernel
theorem dX3_init_0 : decode cX3_init 0 = .ok (.aload_n 0, 1) := dec_row aX3_init 0 rfl
theorem dX3_init_1 : decode cX3_init 1 = .ok (.invokespecial 3, 3) := dec_row aX3_init 1 rfl
theorem dX3_init_4 : decode cX3_init 4 = .ok (.aload_n 0, 1) := dec_row aX3_init 2 rfl
theorem dX3_init_5 : decode cX3_init 5 = .ok (.bipush 6, 2) := dec_row aX3_init 3 rfl
theorem dX3_init_7 : decode cX3_init 7 = .ok (.newarray .int, 2) := dec_row aX3_init 4 rfl
theorem dX3_init_9 : decode cX3_init 9 = .ok (.putfield 9, 3) := dec_row aX3_init 5 rfl
theorem dX3_init_12 : decode cX3_init 12 = .ok (.aload_n 0, 1) := dec_row aX3_init 6 rfl
theorem dX3_init_13 : decode cX3_init 13 = .ok (.iconst 4, 1) := dec_row aX3_init 7 rfl
theorem dX3_init_14 : decode cX3_init 14 = .ok (.newarray .int, 2) := dec_row aX3_init 8 rfl
theorem dX3_init_16 : decode cX3_init 16 = .ok (.putfield 15, 3) := dec_row aX3_init 9 rfl
theorem dX3_init_19 : decode cX3_init 19 = .ok (.aload_n 0, 1) := dec_row aX3_init 10 rfl
theorem dX3_init_20 : decode cX3_init 20 = .ok (.bipush 6, 2) := dec_row aX3_init 11 rfl
theorem dX3_init_22 : decode cX3_init 22 = .ok (.newarray .int, 2) := dec_row aX3_init 12 rfl
theorem dX3_init_24 : decode cX3_init 24 = .ok (.putfield 18, 3) := dec_row aX3_init 13 rfl
theorem dX3_init_27 : decode cX3_init 27 = .ok (.aload_n 0, 1) := dec_row aX3_init 14 rfl
theorem dX3_init_28 : decode cX3_init 28 = .ok (.iconst 0, 1) := dec_row aX3_init 15 rfl
theorem dX3_init_29 : decode cX3_init 29 = .ok (.putfield 21, 3) := dec_row aX3_init 16 rfl
theorem dX3_init_32 : decode cX3_init 32 = .ok (.aload_n 0, 1) := dec_row aX3_init 17 rfl
theorem dX3_init_33 : decode cX3_init 33 = .ok (.iconst 0, 1) := dec_row aX3_init 18 rfl
theorem dX3_init_34 : decode cX3_init 34 = .ok (.putfield 25, 3) := dec_row aX3_init 19 rfl
theorem dX3_init_37 : decode cX3_init 37 = .ok (.aload_n 0, 1) := dec_row aX3_init 20 rfl
theorem dX3_init_38 : decode cX3_init 38 = .ok (.iconst 0, 1) := dec_row aX3_init 21 rfl
theorem dX3_init_39 : decode cX3_init 39 = .ok (.putfield 29, 3) := dec_row aX3_init 22 rfl
theorem dX3_init_42 : decode cX3_init 42 = .ok (.aload_n 0, 1) := dec_row aX3_init 23 rfl
theorem dX3_init_43 : decode cX3_init 43 = .ok (.iconst 0, 1) := dec_row aX3_init 24 rfl
theorem dX3_init_44 : decode cX3_init 44 = .ok (.putfield 32, 3) := dec_row aX3_init 25 rfl
theorem dX3_init_47 : decode cX3_init 47 = .ok (.aload_n 0, 1) := dec_row aX3_init 26 rfl
theorem dX3_init_48 : decode cX3_init 48 = .ok (.iconst 0, 1) := dec_row aX3_init 27 rfl
theorem dX3_init_49 : decode cX3_init 49 = .ok (.putfield 35, 3) := dec_row aX3_init 28 rfl
theorem dX3_init_52 : decode cX3_init 52 = .ok (.aload_n 0, 1) := dec_row aX3_init 29 rfl
theorem dX3_init_53 : decode cX3_init 53 = .ok (.iconst 2, 1) := dec_row aX3_init 30 rfl
theorem dX3_init_54 : decode cX3_init 54 = .ok (.putfield 38, 3) := dec_row aX3_init 31 rfl
theorem dX3_init_57 : decode cX3_init 57 = .ok (.aload_n 0, 1) := dec_row aX3_init 32 rfl
theorem dX3_init_58 : decode cX3_init 58 = .ok (.new 41, 3) := dec_row aX3_init 33 rfl
theorem dX3_init_61 : decode cX3_init 61 = .ok (.dup, 1) := dec_row aX3_init 34 rfl
theorem dX3_init_62 : decode cX3_init 62 = .ok (.invokespecial 43, 3) := dec_row aX3_init 35 rfl
theorem dX3_init_65 : decode cX3_init 65 = .ok (.putfield 44, 3) := dec_row aX3_init 36 rfl
theorem dX3_init_68 : decode cX3_init 68 = .ok (.return_, 1) := dec_row aX3_init 37 rfl
def tX3_startWith : List (Nat × Instr × Nat) := [(0, .aload_n 1, 1), (1, .getfield 48, 3), (4, .iconst 0, 1), (5, .aload_n 0, 1), (6, .getfield 9, 3), (9, .iconst 0, 1), (10, .bipush 6, 2), (12, .invokestatic 51, 3), (15, .aload_n 1, 1), (16, .getfield 57, 3), (19, .iconst 0, 1), (20, .aload_n 0, 1), (21, .getfield 15, 3), (24, .iconst 0, 1), (25, .iconst 4, 1), (26, .invokestatic 51, 3), (29, .aload_n 1, 1), (30, .getfield 58, 3), (33, .iconst 0, 1), (34, .aload_n 0, 1), (35, .getfield 18, 3), (38, .iconst 0, 1), (39, .bipush 6, 2), (41, .invokestatic 51, 3), (44, .aload_n 0, 1), (45, .iconst 0, 1), (46, .putfield 21, 3), (49, .aload_n 0, 1), (50, .iconst 0, 1), (51, .putfield 25, 3), (54, .aload_n 0, 1), (55, .iconst 0, 1), (56, .putfield 29, 3), (59, .aload_n 0, 1), (60, .iconst 0, 1), (61, .putfield 32, 3), (64, .aload_n 0, 1), (65, .iconst 0, 1), (66, .putfield 35, 3), (69, .aload_n 0, 1), (70, .iconst 2, 1), (71, .putfield 38, 3), (74, .aload_n 0, 1), (75, .getfield 44, 3), (78, .invokevirtual 59, 3), (81, .return_, 1)]
theorem aX3_startWith : tX3_startWith.all (fun q => decide (decode cX3_startWith q.1 = .ok q.2)) = true := by decide +kernel
theorem dX3_startWith_0 : decode cX3_startWith 0 = .ok (.aload_n 1, 1) := dec_row aX3_startWith 0 rfl
theorem dX3_startWith_1 : decode cX3_startWith 1 = .ok (.getfield 48, 3) := dec_row aX3_startWith 1 rfl
theorem dX3_startWith_4 : decode cX3_startWith 4 = .ok (.iconst 0, 1) := dec_row aX3_startWith 2 rfl
theorem dX3_startWith_5 : decode cX3_startWith 5 = .ok (.aload_n 0, 1) := dec_row aX3_startWith 3 rfl
theorem dX3_startWith_6 : decode cX3_startWith 6 = .ok (.getfield 9, 3) := dec_row aX3_startWith 4 rfl
theorem dX3_startWith_9 : decode cX3_startWith 9 = .ok (.iconst 0, 1) := dec_row aX3_startWith 5 rfl
theorem dX3_startWith_10 : decode cX3_startWith 10 = .ok (.bipush 6, 2) := dec_row aX3_startWith 6 rfl
theorem dX3_startWith_12 : decode cX3_startWith 12 = .ok (.invokestatic 51, 3) := dec_row aX3_startWith 7 rfl
theorem dX3_startWith_15 : decode cX3_startWith 15 = .ok (.aload_n 1, 1) := dec_row aX3_startWith 8 rfl
theorem dX3_startWith_16 : decode cX3_startWith 16 = .ok (.getfield 57, 3) := dec_row aX3_startWith 9 rfl
theorem dX3_startWith_19 : decode cX3_startWith 19 = .ok (.iconst 0, 1) := dec_row aX3_startWith 10 rfl
theorem dX3_startWith_20 : decode cX3_startWith 20 = .ok (.aload_n 0, 1) := dec_row aX3_startWith 11 rfl
theorem dX3_startWith_21 : decode cX3_startWith 21 = .ok (.getfield 15, 3) := dec_row aX3_startWith 12 rfl
theorem dX3_startWith_24 : decode cX3_startWith 24 = .ok (.iconst 0, 1) := dec_row aX3_startWith 13 rfl
theorem dX3_startWith_25 : decode cX3_startWith 25 = .ok (.iconst 4, 1) := dec_row aX3_startWith 14 rfl
theorem dX3_startWith_26 : decode cX3_startWith 26 = .ok (.invokestatic 51, 3) := dec_row aX3_startWith 15 rfl
theorem dX3_startWith_29 : decode cX3_startWith 29 = .ok (.aload_n 1, 1) := dec_row aX3_startWith 16 rfl
theorem dX3_startWith_30 : decode cX3_startWith 30 = .ok (.getfield 58, 3) := dec_row aX3_startWith 17 rfl
theorem dX3_startWith_33 : decode cX3_startWith 33 = .ok (.iconst 0, 1) := dec_row aX3_startWith 18 rfl
theorem dX3_startWith_34 : decode cX3_startWith 34 = .ok (.aload_n 0, 1) := dec_row aX3_startWith 19 rfl
theorem dX3_startWith_35 : decode cX3_startWith 35 = .ok (.getfield 18, 3) := dec_row aX3_startWith 20 rfl
theorem dX3_startWith_38 : decode cX3_startWith 38 = .ok (.iconst 0, 1) := dec_row aX3_startWith 21 rfl
theorem dX3_startWith_39 : decode cX3_startWith 39 = .ok (.bipush 6, 2) := dec_row aX3_startWith 22 rfl
theorem dX3_startWith_41 : decode cX3_startWith 41 = .ok (.invokestatic 51, 3) := dec_row aX3_startWith 23 rfl
theorem dX3_startWith_44 : decode cX3_startWith 44 = .ok (.aload_n 0, 1) := dec_row aX3_startWith 24 rfl
theorem dX3_startWith_45 : decode cX3_startWith 45 = .ok (.iconst 0, 1) := dec_row aX3_startWith 25 rfl
theorem dX3_startWith_46 : decode cX3_startWith 46 = .ok (.putfield 21, 3) := dec_row aX3_startWith 26 rfl
theorem dX3_startWith_49 : decode cX3_startWith 49 = .ok (.aload_n 0, 1) := dec_row aX3_startWith 27 rfl
theorem dX3_startWith_50 : decode cX3_startWith 50 = .ok (.iconst 0, 1) := dec_row aX3_startWith 28 rfl
theorem dX3_startWith_51 : decode cX3_startWith 51 = .ok (.putfield 25, 3) := dec_row aX3_startWith 29 rfl
theorem dX3_startWith_54 : decode cX3_startWith 54 = .ok (.aload_n 0, 1) := dec_row aX3_startWith 30 rfl
theorem dX3_startWith_55 : decode cX3_startWith 55 = .ok (.iconst 0, 1) := dec_row aX3_startWith 31 rfl
theorem dX3_startWith_56 : decode cX3_startWith 56 = .ok (.putfield 29, 3) := dec_row aX3_startWith 32 rfl
theorem dX3_startWith_59 : decode cX3_startWith 59 = .ok (.aload_n 0, 1) := dec_row aX3_startWith 33 rfl
theorem dX3_startWith_60 : decode cX3_startWith 60 = .ok (.iconst 0, 1) := dec_row aX3_startWith 34 rfl
theorem dX3_startWith_61 : decode cX3_startWith 61 = .ok (.putfield 32, 3) := dec_row aX3_startWith 35 rfl
theorem dX3_startWith_64 : decode cX3_startWith 64 = .ok (.aload_n 0, 1) := dec_row aX3_startWith 36 rfl
theorem dX3_startWith_65 : decode cX3_startWith 65 = .ok (.iconst 0, 1) := dec_row aX3_startWith 37 rfl
theorem dX3_startWith_66 : decode cX3_startWith 66 = .ok (.putfield 35, 3) := dec_row aX3_startWith 38 rfl
theorem dX3_startWith_69 : decode cX3_startWith 69 = .ok (.aload_n 0, 1) := dec_row aX3_startWith 39 rfl
theorem dX3_startWith_70 : decode cX3_startWith 70 = .ok (.iconst 2, 1) := dec_row aX3_startWith 40 rfl
theorem dX3_startWith_71 : decode cX3_startWith 71 = .ok (.putfield 38, 3) := dec_row aX3_startWith 41 rfl
theorem dX3_startWith_74 : decode cX3_startWith 74 = .ok (.aload_n 0, 1) := dec_row aX3_startWith 42 rfl
theorem dX3_startWith_75 : decode cX3_startWith 75 = .ok (.getfield 44, 3) := dec_row aX3_startWith 43 rfl
theorem dX3_startWith_78 : decode cX3_startWith 78 = .ok (.invokevirtual 59, 3) := dec_row aX3_startWith 44 rfl
theorem dX3_startWith_81 : decode cX3_startWith 81 = .ok (.return_, 1) := dec_row aX3_startWith 45 rfl
def tX3_copyFrom_0 : List (Nat × Instr × Nat) := [(0, .aload_n 1, 1), (1, .getfield 9, 3), (4, .iconst 0, 1), (5, .aload_n 0, 1), (6, .getfield 9, 3), (9, .iconst 0, 1), (10, .bipush 6, 2), (12, .invokestatic 51, 3), (15, .aload_n 1, 1), (16, .getfield 15, 3), (19, .iconst 0, 1), (20, .aload_n 0, 1), (21, .getfield 15, 3), (24, .iconst 0, 1), (25, .iconst 4, 1), (26, .invokestatic 51, 3), (29, .aload_n 1, 1), (30, .getfield 18, 3), (33, .iconst 0, 1), (34, .aload_n 0, 1), (35, .getfield 18, 3), (38, .iconst 0, 1), (39, .bipush 6, 2), (41, .invokestatic 51, 3), (44, .aload_n 0, 1), (45, .aload_n 1, 1), (46, .getfield 21, 3), (49, .putfield 21, 3), (52, .aload_n 0, 1), (53, .aload_n 1, 1), (54, .getfield 25, 3), (57, .putfield 25, 3), (60, .aload_n 0, 1), (61, .aload_n 1, 1), (62, .getfield 29, 3), (65, .putfield 29, 3), (68, .aload_n 0, 1), (69, .aload_n 1, 1), (70, .getfield 32, 3), (73, .putfield 32, 3), (76, .aload_n 0, 1), (77, .aload_n 1, 1), (78, .getfield 35, 3), (81, .putfield 35, 3), (84, .aload_n 0, 1), (85, .aload_n 1, 1), (86, .getfield 38, 3), (89, .putfield 38, 3), (92, .aload_n 0, 1), (93, .getfield 44, 3)]
theorem aX3_copyFrom_0 : tX3_copyFrom_0.all (fun q => decide (decode cX3_copyFrom q.1 = .ok q.2)) = true := by decide +kernel
theorem dX3_copyFrom_0 : decode cX3_copyFrom 0 = .ok (.aload_n 1, 1) := dec_row aX3_copyFrom_0 0 rfl
theorem dX3_copyFrom_1 : decode cX3_copyFrom 1 = .ok (.getfield 9, 3) := dec_row aX3_copyFrom_0 1 rfl
theorem dX3_copyFrom_4 : decode cX3_copyFrom 4 = .ok (.iconst 0, 1) := dec_row aX3_copyFrom_0 2 rfl
theorem dX3_copyFrom_5 : decode cX3_copyFrom 5 = .ok (.aload_n 0, 1) := dec_row aX3_copyFrom_0 3 rfl
theorem dX3_copyFrom_6 : decode cX3_copyFrom 6 = .ok (.getfield 9, 3) := dec_row aX3_copyFrom_0 4 rfl
theorem dX3_copyFrom_9 : decode cX3_copyFrom 9 = .ok (.iconst 0, 1) := dec_row aX3_copyFrom_0 5 rfl
theorem dX3_copyFrom_10 : decode cX3_copyFrom 10 = .ok (.bipush 6, 2) := dec_row aX3_copyFrom_0 6 rfl
theorem dX3_copyFrom_12 : decode cX3_copyFrom 12 = .ok (.invokestatic 51, 3) := dec_row aX3_copyFrom_0 7 rfl
theorem dX3_copyFrom_15 : decode cX3_copyFrom 15 = .ok (.aload_n 1, 1) := dec_row aX3_copyFrom_0 8 rfl
theorem dX3_copyFrom_16 : decode cX3_copyFrom 16 = .ok (.getfield 15, 3) := dec_row aX3_copyFrom_0 9 rfl
theorem dX3_copyFrom_19 : decode cX3_copyFrom 19 = .ok (.iconst 0, 1) := dec_row aX3_copyFrom_0 10 rfl
theorem dX3_copyFrom_20 : decode cX3_copyFrom 20 = .ok (.aload_n 0, 1) := dec_row aX3_copyFrom_0 11 rfl
theorem dX3_copyFrom_21 : decode cX3_copyFrom 21 = .ok (.getfield 15, 3) := dec_row aX3_copyFrom_0 12 rfl
theorem dX3_copyFrom_24 : decode cX3_copyFrom 24 = .ok (.iconst 0, 1) := dec_row aX3_copyFrom_0 13 rfl
theorem dX3_copyFrom_25 : decode cX3_copyFrom 25 = .ok (.iconst 4, 1) := dec_row aX3_copyFrom_0 14 rfl
theorem dX3_copyFrom_26 : decode cX3_copyFrom 26 = .ok (.invokestatic 51, 3) := dec_row aX3_copyFrom_0 15 rfl
theorem dX3_copyFrom_29 : decode cX3_copyFrom 29 = .ok (.aload_n 1, 1) := dec_row aX3_copyFrom_0 16 rfl
theorem dX3_copyFrom_30 : decode cX3_copyFrom 30 = .ok (.getfield 18, 3) := dec_row aX3_copyFrom_0 17 rfl
theorem dX3_copyFrom_33 : decode cX3_copyFrom 33 = .ok (.iconst 0, 1) := dec_row aX3_copyFrom_0 18 rfl
theorem dX3_copyFrom_34 : decode cX3_copyFrom 34 = .ok (.aload_n 0, 1) := dec_row aX3_copyFrom_0 19 rfl
theorem dX3_copyFrom_35 : decode cX3_copyFrom 35 = .ok (.getfield 18, 3) := dec_row aX3_copyFrom_0 20 rfl
theorem dX3_copyFrom_38 : decode cX3_copyFrom 38 = .ok (.iconst 0, 1) := dec_row aX3_copyFrom_0 21 rfl
theorem dX3_copyFrom_39 : decode cX3_copyFrom 39 = .ok (.bipush 6, 2) := dec_row aX3_copyFrom_0 22 rfl
theorem dX3_copyFrom_41 : decode cX3_copyFrom 41 = .ok (.invokestatic 51, 3) := dec_row aX3_copyFrom_0 23 rfl
theorem dX3_copyFrom_44 : decode cX3_copyFrom 44 = .ok (.aload_n 0, 1) := dec_row aX3_copyFrom_0 24 rfl
theorem dX3_copyFrom_45 : decode cX3_copyFrom 45 = .ok (.aload_n 1, 1) := dec_row aX3_copyFrom_0 25 rfl
theorem dX3_copyFrom_46 : decode cX3_copyFrom 46 = .ok (.getfield 21, 3) := dec_row aX3_copyFrom_0 26 rfl
theorem dX3_copyFrom_49 : decode cX3_copyFrom 49 = .ok (.putfield 21, 3) := dec_row aX3_copyFrom_0 27 rfl
theorem dX3_copyFrom_52 : decode cX3_copyFrom 52 = .ok (.aload_n 0, 1) := dec_row aX3_copyFrom_0 28 rfl
theorem dX3_copyFrom_53 : decode cX3_copyFrom 53 = .ok (.aload_n 1, 1) := dec_row aX3_copyFrom_0 29 rfl
theorem dX3_copyFrom_54 : decode cX3_copyFrom 54 = .ok (.getfield 25, 3) := dec_row aX3_copyFrom_0 30 rfl
theorem dX3_copyFrom_57 : decode cX3_copyFrom 57 = .ok (.putfield 25, 3) := dec_row aX3_copyFrom_0 31 rfl
theorem dX3_copyFrom_60 : decode cX3_copyFrom 60 = .ok (.aload_n 0, 1) := dec_row aX3_copyFrom_0 32 rfl
theorem dX3_copyFrom_61 : decode cX3_copyFrom 61 = .ok (.aload_n 1, 1) := dec_row aX3_copyFrom_0 33 rfl
theorem dX3_copyFrom_62 : decode cX3_copyFrom 62 = .ok (.getfield 29, 3) := dec_row aX3_copyFrom_0 34 rfl
theorem dX3_copyFrom_65 : decode cX3_copyFrom 65 = .ok (.putfield 29, 3) := dec_row aX3_copyFrom_0 35 rfl
theorem dX3_copyFrom_68 : decode cX3_copyFrom 68 = .ok (.aload_n 0, 1) := dec_row aX3_copyFrom_0 36 rfl
theorem dX3_copyFrom_69 : decode cX3_copyFrom 69 = .ok (.aload_n 1, 1) := dec_row aX3_copyFrom_0 37 rfl
theorem dX3_copyFrom_70 : decode cX3_copyFrom 70 = .ok (.getfield 32, 3) := dec_row aX3_copyFrom_0 38 rfl
theorem dX3_copyFrom_73 : decode cX3_copyFrom 73 = .ok (.putfield 32, 3) := dec_row aX3_copyFrom_0 39 rfl
theorem dX3_copyFrom_76 : decode cX3_copyFrom 76 = .ok (.aload_n 0, 1) := dec_row aX3_copyFrom_0 40 rfl
theorem dX3_copyFrom_77 : decode cX3_copyFrom 77 = .ok (.aload_n 1, 1) := dec_row aX3_copyFrom_0 41 rfl
theorem dX3_copyFrom_78 : decode cX3_copyFrom 78 = .ok (.getfield 35, 3) := dec_row aX3_copyFrom_0 42 rfl
theorem dX3_copyFrom_81 : decode cX3_copyFrom 81 = .ok (.putfield 35, 3) := dec_row aX3_copyFrom_0 43 rfl
theorem dX3_copyFrom_84 : decode cX3_copyFrom 84 = .ok (.aload_n 0, 1) := dec_row aX3_copyFrom_0 44 rfl
theorem dX3_copyFrom_85 : decode cX3_copyFrom 85 = .ok (.aload_n 1, 1) := dec_row aX3_copyFrom_0 45 rfl
theorem dX3_copyFrom_86 : decode cX3_copyFrom 86 = .ok (.getfield 38, 3) := dec_row aX3_copyFrom_0 46 rfl
theorem dX3_copyFrom_89 : decode cX3_copyFrom 89 = .ok (.putfield 38, 3) := dec_row aX3_copyFrom_0 47 rfl
theorem dX3_copyFrom_92 : decode cX3_copyFrom 92 = .ok (.aload_n 0, 1) := dec_row aX3_copyFrom_0 48 rfl
theorem dX3_copyFrom_93 : decode cX3_copyFrom 93 = .ok (.getfield 44, 3) := dec_row aX3_copyFrom_0 49 rfl
def tX3_copyFrom_1 : List (Nat × Instr × Nat) := [(96, .aload_n 1, 1), (97, .getfield 44, 3), (100, .invokevirtual 62, 3), (103, .return_, 1)]
theorem aX3_copyFrom_1 : tX3_copyFrom_1.all (fun q => decide (decode cX3_copyFrom q.1 = .ok q.2)) = true := by decide +kernel
theorem dX3_copyFrom_96 : decode cX3_copyFrom 96 = .ok (.aload_n 1, 1) := dec_row aX3_copyFrom_1 0 rfl
theorem dX3_copyFrom_97 : decode cX3_copyFrom 97 = .ok (.getfield 44, 3) := dec_row aX3_copyFrom_1 1 rfl
theorem dX3_copyFrom_100 : decode cX3_copyFrom 100 = .ok (.invokevirtual 62, 3) := dec_row aX3_copyFrom_1 2 rfl
theorem dX3_copyFrom_103 : decode cX3_copyFrom 103 = .ok (.return_, 1) := dec_row aX3_copyFrom_1 3 rfl
def tX3_isIn : List (Nat × Instr × Nat) := [(0, .aload_n 0, 1), (1, .getfield 25, 3), (4, .iload_n 1, 1), (5, .ishr, 1), (6, .iconst 1, 1), (7, .iand, 1), (8, .iconst 1, 1), (9, .if_icmp .ne 7, 3), (12, .iconst 1, 1), (13, .goto 4, 3), (16, .iconst 0, 1), (17, .ireturn, 1)]
theorem aX3_isIn : tX3_isIn.all (fun q => decide (decode cX3_isIn q.1 = .ok q.2)) = true := by decide +kernel
theorem dX3_isIn_0 : decode cX3_isIn 0 = .ok (.aload_n 0, 1) := dec_row aX3_isIn 0 rfl
theorem dX3_isIn_1 : decode cX3_isIn 1 = .ok (.getfield 25, 3) := dec_row aX3_isIn 1 rfl
theorem dX3_isIn_4 : decode cX3_isIn 4 = .ok (.iload_n 1, 1) := dec_row aX3_isIn 2 rfl
theorem dX3_isIn_5 : decode cX3_isIn 5 = .ok (.ishr, 1) := dec_row aX3_isIn 3 rfl
theorem dX3_isIn_6 : decode cX3_isIn 6 = .ok (.iconst 1, 1) := dec_row aX3_isIn 4 rfl
theorem dX3_isIn_7 : decode cX3_isIn 7 = .ok (.iand, 1) := dec_row aX3_isIn 5 rfl
theorem dX3_isIn_8 : decode cX3_isIn 8 = .ok (.iconst 1, 1) := dec_row aX3_isIn 6 rfl
theorem dX3_isIn_9 : decode cX3_isIn 9 = .ok (.if_icmp .ne 7, 3) := dec_row aX3_isIn 7 rfl
theorem dX3_isIn_12 : decode cX3_isIn 12 = .ok (.iconst 1, 1) := dec_row aX3_isIn 8 rfl
theorem dX3_isIn_13 : decode cX3_isIn 13 = .ok (.goto 4, 3) := dec_row aX3_isIn 9 rfl
theorem dX3_isIn_16 : decode cX3_isIn 16 = .ok (.iconst 0, 1) := dec_row aX3_isIn 10 rfl
theorem dX3_isIn_17 : decode cX3_isIn 17 = .ok (.ireturn, 1) := dec_row aX3_isIn 11 rfl
def tX4_init : List (Nat × Instr × Nat) := [(0, .aload_n 0, 1), (1, .invokespecial 3, 3), (4, .aload_n 0, 1), (5, .sipush 200, 3), (8, .newarray .int, 2), (10, .putfield 9, 3), (13, .aload_n 0, 1), (14, .iconst 3, 1), (15, .newarray .int, 2), (17, .putfield 15, 3), (20, .aload_n 0, 1), (21, .iconst 0, 1), (22, .putfield 18, 3), (25, .return_, 1)]
theorem aX4_init : tX4_init.all (fun q => decide (decode cX4_init q.1 = .ok q.2)) = true := by decide +kernel
theorem dX4_init_0 : decode cX4_init 0 = .ok (.aload_n 0, 1) := dec_row aX4_init 0 rfl
theorem dX4_init_1 : decode cX4_init 1 = .ok (.invokespecial 3, 3) := dec_row aX4_init 1 rfl
theorem dX4_init_4 : decode cX4_init 4 = .ok (.aload_n 0, 1) := dec_row aX4_init 2 rfl
theorem dX4_init_5 : decode cX4_init 5 = .ok (.sipush 200, 3) := dec_row aX4_init 3 rfl
theorem dX4_init_8 : decode cX4_init 8 = .ok (.newarray .int, 2) := dec_row aX4_init 4 rfl
theorem dX4_init_10 : decode cX4_init 10 = .ok (.putfield 9, 3) := dec_row aX4_init 5 rfl
theorem dX4_init_13 : decode cX4_init 13 = .ok (.aload_n 0, 1) := dec_row aX4_init 6 rfl
theorem dX4_init_14 : decode cX4_init 14 = .ok (.iconst 3, 1) := dec_row aX4_init 7 rfl
theorem dX4_init_15 : decode cX4_init 15 = .ok (.newarray .int, 2) := dec_row aX4_init 8 rfl
theorem dX4_init_17 : decode cX4_init 17 = .ok (.putfield 15, 3) := dec_row aX4_init 9 rfl
theorem dX4_init_20 : decode cX4_init 20 = .ok (.aload_n 0, 1) := dec_row aX4_init 10 rfl
theorem dX4_init_21 : decode cX4_init 21 = .ok (.iconst 0, 1) := dec_row aX4_init 11 rfl
theorem dX4_init_22 : decode cX4_init 22 = .ok (.putfield 18, 3) := dec_row aX4_init 12 rfl
theorem dX4_init_25 : decode cX4_init 25 = .ok (.return_, 1) := dec_row aX4_init 13 rfl
def tX4_clear : List (Nat × Instr × Nat) := [(0, .aload_n 0, 1), (1, .iconst 0, 1), (2, .putfield 18, 3), (5, .return_, 1)]
theorem aX4_clear : tX4_clear.all (fun q => decide (decode cX4_clear q.1 = .ok q.2)) = true := by decide +kernel
theorem dX4_clear_0 : decode cX4_clear 0 = .ok (.aload_n 0, 1) := dec_row aX4_clear 0 rfl
theorem dX4_clear_1 : decode cX4_clear 1 = .ok (.iconst 0, 1) := dec_row aX4_clear 1 rfl
theorem dX4_clear_2 : decode cX4_clear 2 = .ok (.putfield 18, 3) := dec_row aX4_clear 2 rfl
theorem dX4_clear_5 : decode cX4_clear 5 = .ok (.return_, 1) := dec_row aX4_clear 3 rfl
def tX4_append : List (Nat × Instr × Nat) := [(0, .aload_n 0, 1), (1, .getfield 18, 3), (4, .sipush 200, 3), (7, .if_icmp .lt 5, 3), (10, .iconst 0, 1), (11, .ireturn, 1), (12, .aload_n 0, 1), (13, .getfield 9, 3), (16, .aload_n 0, 1), (17, .getfield 18, 3), (20, .iload_n 1, 1), (21, .iastore, 1), (22, .aload_n 0, 1), (23, .dup, 1), (24, .getfield 18, 3), (27, .iconst 1, 1), (28, .iadd, 1), (29, .putfield 18, 3), (32, .iconst 1, 1), (33, .ireturn, 1)]
theorem aX4_append : tX4_append.all (fun q => decide (decode cX4_append q.1 = .ok q.2)) = true := by decide +kernel
theorem dX4_append_0 : decode cX4_append 0 = .ok (.aload_n 0, 1) := dec_row aX4_append 0 rfl
theorem dX4_append_1 : decode cX4_append 1 = .ok (.getfield 18, 3) := dec_row aX4_append 1 rfl
theorem dX4_append_4 : decode cX4_append 4 = .ok (.sipush 200, 3) := dec_row aX4_append 2 rfl
theorem dX4_append_7 : decode cX4_append 7 = .ok (.if_icmp .lt 5, 3) := dec_row aX4_append 3 rfl
theorem dX4_append_10 : decode cX4_append 10 = .ok (.iconst 0, 1) := dec_row aX4_append 4 rfl
theorem dX4_append_11 : decode cX4_append 11 = .ok (.ireturn, 1) := dec_row aX4_append 5 rfl
theorem dX4_append_12 : decode cX4_append 12 = .ok (.aload_n 0, 1) := dec_row aX4_append 6 rfl
theorem dX4_append_13 : decode cX4_append 13 = .ok (.getfield 9, 3) := dec_row aX4_append 7 rfl
theorem dX4_append_16 : decode cX4_append 16 = .ok (.aload_n 0, 1) := dec_row aX4_append 8 rfl
theorem dX4_append_17 : decode cX4_append 17 = .ok (.getfield 18, 3) := dec_row aX4_append 9 rfl
theorem dX4_append_20 : decode cX4_append 20 = .ok (.iload_n 1, 1) := dec_row aX4_append 10 rfl
theorem dX4_append_21 : decode cX4_append 21 = .ok (.iastore, 1) := dec_row aX4_append 11 rfl
theorem dX4_append_22 : decode cX4_append 22 = .ok (.aload_n 0, 1) := dec_row aX4_append 12 rfl
theorem dX4_append_23 : decode cX4_append 23 = .ok (.dup, 1) := dec_row aX4_append 13 rfl
theorem dX4_append_24 : decode cX4_append 24 = .ok (.getfield 18, 3) := dec_row aX4_append 14 rfl
theorem dX4_append_27 : decode cX4_append 27 = .ok (.iconst 1, 1) := dec_row aX4_append 15 rfl
theorem dX4_append_28 : decode cX4_append 28 = .ok (.iadd, 1) := dec_row aX4_append 16 rfl
theorem dX4_append_29 : decode cX4_append 29 = .ok (.putfield 18, 3) := dec_row aX4_append 17 rfl
theorem dX4_append_32 : decode cX4_append 32 = .ok (.iconst 1, 1) := dec_row aX4_append 18 rfl
theorem dX4_append_33 : decode cX4_append 33 = .ok (.ireturn, 1) := dec_row aX4_append 19 rfl
def tX4_readInto : List (Nat × Instr × Nat) := [(0, .aload_n 1, 1), (1, .invokevirtual 22, 3), (4, .iconst 0, 1), (5, .istore_n 2, 1), (6, .iconst 0, 1), (7, .istore_n 3, 1), (8, .iload_n 3, 1), (9, .aload_n 0, 1), (10, .getfield 18, 3), (13, .if_icmp .ge 36, 3), (16, .aload_n 0, 1), (17, .getfield 9, 3), (20, .iload_n 3, 1), (21, .iaload, 1), (22, .bipush 59, 2), (24, .if_icmp .ne 19, 3), (27, .aload_n 0, 1), (28, .iload_n 2, 1), (29, .iload_n 3, 1), (30, .aload_n 1, 1), (31, .invokevirtual 27, 3), (34, .ifCond .ne 5, 3), (37, .iload_n 2, 1), (38, .ireturn, 1), (39, .iload_n 3, 1), (40, .iconst 1, 1), (41, .iadd, 1), (42, .istore_n 2, 1), (43, .iinc 3 1, 3), (46, .goto (-38), 3), (49, .iload_n 2, 1), (50, .aload_n 0, 1), (51, .getfield 18, 3), (54, .if_icmp .ge 7, 3), (57, .iload_n 2, 1), (58, .goto 5, 3), (61, .bipush (-4), 2), (63, .ireturn, 1)]
theorem aX4_readInto : tX4_readInto.all (fun q => decide (decode cX4_readInto q.1 = .ok q.2)) = true := by decide +kernel
theorem dX4_readInto_0 : decode cX4_readInto 0 = .ok (.aload_n 1, 1) := dec_row aX4_readInto 0 rfl
theorem dX4_readInto_1 : decode cX4_readInto 1 = .ok (.invokevirtual 22, 3) := dec_row aX4_readInto 1 rfl
theorem dX4_readInto_4 : decode cX4_readInto 4 = .ok (.iconst 0, 1) := dec_row aX4_readInto 2 rfl
theorem dX4_readInto_5 : decode cX4_readInto 5 = .ok (.istore_n 2, 1) := dec_row aX4_readInto 3 rfl
theorem dX4_readInto_6 : decode cX4_readInto 6 = .ok (.iconst 0, 1) := dec_row aX4_readInto 4 rfl
theorem dX4_readInto_7 : decode cX4_readInto 7 = .ok (.istore_n 3, 1) := dec_row aX4_readInto 5 rfl
theorem dX4_readInto_8 : decode cX4_readInto 8 = .ok (.iload_n 3, 1) := dec_row aX4_readInto 6 rfl
theorem dX4_readInto_9 : decode cX4_readInto 9 = .ok (.aload_n 0, 1) := dec_row aX4_readInto 7 rfl
theorem dX4_readInto_10 : decode cX4_readInto 10 = .ok (.getfield 18, 3) := dec_row aX4_readInto 8 rfl
theorem dX4_readInto_13 : decode cX4_readInto 13 = .ok (.if_icmp .ge 36, 3) := dec_row aX4_readInto 9 rfl
theorem dX4_readInto_16 : decode cX4_readInto 16 = .ok (.aload_n 0, 1) := dec_row aX4_readInto 10 rfl
theorem dX4_readInto_17 : decode cX4_readInto 17 = .ok (.getfield 9, 3) := dec_row aX4_readInto 11 rfl
theorem dX4_readInto_20 : decode cX4_readInto 20 = .ok (.iload_n 3, 1) := dec_row aX4_readInto 12 rfl
theorem dX4_readInto_21 : decode cX4_readInto 21 = .ok (.iaload, 1) := dec_row aX4_readInto 13 rfl
theorem dX4_readInto_22 : decode cX4_readInto 22 = .ok (.bipush 59, 2) := dec_row aX4_readInto 14 rfl
theorem dX4_readInto_24 : decode cX4_readInto 24 = .ok (.if_icmp .ne 19, 3) := dec_row aX4_readInto 15 rfl
theorem dX4_readInto_27 : decode cX4_readInto 27 = .ok (.aload_n 0, 1) := dec_row aX4_readInto 16 rfl
theorem dX4_readInto_28 : decode cX4_readInto 28 = .ok (.iload_n 2, 1) := dec_row aX4_readInto 17 rfl
theorem dX4_readInto_29 : decode cX4_readInto 29 = .ok (.iload_n 3, 1) := dec_row aX4_readInto 18 rfl
theorem dX4_readInto_30 : decode cX4_readInto 30 = .ok (.aload_n 1, 1) := dec_row aX4_readInto 19 rfl
theorem dX4_readInto_31 : decode cX4_readInto 31 = .ok (.invokevirtual 27, 3) := dec_row aX4_readInto 20 rfl
theorem dX4_readInto_34 : decode cX4_readInto 34 = .ok (.ifCond .ne 5, 3) := dec_row aX4_readInto 21 rfl
theorem dX4_readInto_37 : decode cX4_readInto 37 = .ok (.iload_n 2, 1) := dec_row aX4_readInto 22 rfl
theorem dX4_readInto_38 : decode cX4_readInto 38 = .ok (.ireturn, 1) := dec_row aX4_readInto 23 rfl
theorem dX4_readInto_39 : decode cX4_readInto 39 = .ok (.iload_n 3, 1) := dec_row aX4_readInto 24 rfl
theorem dX4_readInto_40 : decode cX4_readInto 40 = .ok (.iconst 1, 1) := dec_row aX4_readInto 25 rfl
theorem dX4_readInto_41 : decode cX4_readInto 41 = .ok (.iadd, 1) := dec_row aX4_readInto 26 rfl
theorem dX4_readInto_42 : decode cX4_readInto 42 = .ok (.istore_n 2, 1) := dec_row aX4_readInto 27 rfl
theorem dX4_readInto_43 : decode cX4_readInto 43 = .ok (.iinc 3 1, 3) := dec_row aX4_readInto 28 rfl
theorem dX4_readInto_46 : decode cX4_readInto 46 = .ok (.goto (-38), 3) := dec_row aX4_readInto 29 rfl
theorem dX4_readInto_49 : decode cX4_readInto 49 = .ok (.iload_n 2, 1) := dec_row aX4_readInto 30 rfl
theorem dX4_readInto_50 : decode cX4_readInto 50 = .ok (.aload_n 0, 1) := dec_row aX4_readInto 31 rfl
theorem dX4_readInto_51 : decode cX4_readInto 51 = .ok (.getfield 18, 3) := dec_row aX4_readInto 32 rfl
theorem dX4_readInto_54 : decode cX4_readInto 54 = .ok (.if_icmp .ge 7, 3) := dec_row aX4_readInto 33 rfl
theorem dX4_readInto_57 : decode cX4_readInto 57 = .ok (.iload_n 2, 1) := dec_row aX4_readInto 34 rfl
theorem dX4_readInto_58 : decode cX4_readInto 58 = .ok (.goto 5, 3) := dec_row aX4_readInto 35 rfl
theorem dX4_readInto_61 : decode cX4_readInto 61 = .ok (.bipush (-4), 2) := dec_row aX4_readInto 36 rfl
theorem dX4_readInto_63 : decode cX4_readInto 63 = .ok (.ireturn, 1) := dec_row aX4_readInto 37 rfl
def tX4_readItem_0 : List (Nat × Instr × Nat) := [(0, .aload_n 0, 1), (1, .iload_n 1, 1), (2, .iconst 1, 1), (3, .iadd, 1), (4, .iload_n 2, 1), (5, .invokevirtual 31, 3), (8, .istore 4, 2), (10, .aload_n 0, 1), (11, .getfield 9, 3), (14, .iload_n 1, 1), (15, .iaload, 1), (16, .lookupswitch 193 #[(99, 89), (104, 169), (111, 145), (115, 114), (118, 52)], 52), (68, .iload 4, 2), (70, .iconst 3, 1), (71, .if_icmp .ne 32, 3), (74, .aload_n 3, 1), (75, .aload_n 0, 1), (76, .getfield 15, 3), (79, .iconst 0, 1), (80, .iaload, 1), (81, .aload_n 0, 1), (82, .getfield 15, 3), (85, .iconst 1, 1), (86, .iaload, 1), (87, .aload_n 0, 1), (88, .getfield 15, 3), (91, .iconst 2, 1), (92, .iaload, 1), (93, .invokevirtual 35, 3), (96, .ifCond .eq 7, 3), (99, .iconst 1, 1), (100, .goto 4, 3), (103, .iconst 0, 1), (104, .ireturn, 1), (105, .iload 4, 2), (107, .iconst 1, 1), (108, .if_icmp .ne 20, 3), (111, .aload_n 3, 1), (112, .aload_n 0, 1), (113, .getfield 15, 3), (116, .iconst 0, 1), (117, .iaload, 1), (118, .invokevirtual 39, 3), (121, .ifCond .eq 7, 3), (124, .iconst 1, 1), (125, .goto 4, 3), (128, .iconst 0, 1), (129, .ireturn, 1), (130, .iload 4, 2), (132, .iconst 2, 1)]
theorem aX4_readItem_0 : tX4_readItem_0.all (fun q => decide (decode cX4_readItem q.1 = .ok q.2)) = true := by decide +kernel
theorem dX4_readItem_0 : decode cX4_readItem 0 = .ok (.aload_n 0, 1) := dec_row aX4_readItem_0 0 rfl
theorem dX4_readItem_1 : decode cX4_readItem 1 = .ok (.iload_n 1, 1) := dec_row aX4_readItem_0 1 rfl
theorem dX4_readItem_2 : decode cX4_readItem 2 = .ok (.iconst 1, 1) := dec_row aX4_readItem_0 2 rfl
theorem dX4_readItem_3 : decode cX4_readItem 3 = .ok (.iadd, 1) := dec_row aX4_readItem_0 3 rfl
theorem dX4_readItem_4 : decode cX4_readItem 4 = .ok (.iload_n 2, 1) := dec_row aX4_readItem_0 4 rfl
theorem dX4_readItem_5 : decode cX4_readItem 5 = .ok (.invokevirtual 31, 3) := dec_row aX4_readItem_0 5 rfl
theorem dX4_readItem_8 : decode cX4_readItem 8 = .ok (.istore 4, 2) := dec_row aX4_readItem_0 6 rfl
theorem dX4_readItem_10 : decode cX4_readItem 10 = .ok (.aload_n 0, 1) := dec_row aX4_readItem_0 7 rfl
theorem dX4_readItem_11 : decode cX4_readItem 11 = .ok (.getfield 9, 3) := dec_row aX4_readItem_0 8 rfl
theorem dX4_readItem_14 : decode cX4_readItem 14 = .ok (.iload_n 1, 1) := dec_row aX4_readItem_0 9 rfl
theorem dX4_readItem_15 : decode cX4_readItem 15 = .ok (.iaload, 1) := dec_row aX4_readItem_0 10 rfl
theorem dX4_readItem_16 : decode cX4_readItem 16 = .ok (.lookupswitch 193 #[(99, 89), (104, 169), (111, 145), (115, 114), (118, 52)], 52) := dec_row aX4_readItem_0 11 rfl
theorem dX4_readItem_68 : decode cX4_readItem 68 = .ok (.iload 4, 2) := dec_row aX4_readItem_0 12 rfl
theorem dX4_readItem_70 : decode cX4_readItem 70 = .ok (.iconst 3, 1) := dec_row aX4_readItem_0 13 rfl
theorem dX4_readItem_71 : decode cX4_readItem 71 = .ok (.if_icmp .ne 32, 3) := dec_row aX4_readItem_0 14 rfl
theorem dX4_readItem_74 : decode cX4_readItem 74 = .ok (.aload_n 3, 1) := dec_row aX4_readItem_0 15 rfl
theorem dX4_readItem_75 : decode cX4_readItem 75 = .ok (.aload_n 0, 1) := dec_row aX4_readItem_0 16 rfl
theorem dX4_readItem_76 : decode cX4_readItem 76 = .ok (.getfield 15, 3) := dec_row aX4_readItem_0 17 rfl
theorem dX4_readItem_79 : decode cX4_readItem 79 = .ok (.iconst 0, 1) := dec_row aX4_readItem_0 18 rfl
theorem dX4_readItem_80 : decode cX4_readItem 80 = .ok (.iaload, 1) := dec_row aX4_readItem_0 19 rfl
theorem dX4_readItem_81 : decode cX4_readItem 81 = .ok (.aload_n 0, 1) := dec_row aX4_readItem_0 20 rfl
theorem dX4_readItem_82 : decode cX4_readItem 82 = .ok (.getfield 15, 3) := dec_row aX4_readItem_0 21 rfl
theorem dX4_readItem_85 : decode cX4_readItem 85 = .ok (.iconst 1, 1) := dec_row aX4_readItem_0 22 rfl
theorem dX4_readItem_86 : decode cX4_readItem 86 = .ok (.iaload, 1) := dec_row aX4_readItem_0 23 rfl
theorem dX4_readItem_87 : decode cX4_readItem 87 = .ok (.aload_n 0, 1) := dec_row aX4_readItem_0 24 rfl
theorem dX4_readItem_88 : decode cX4_readItem 88 = .ok (.getfield 15, 3) := dec_row aX4_readItem_0 25 rfl
theorem dX4_readItem_91 : decode cX4_readItem 91 = .ok (.iconst 2, 1) := dec_row aX4_readItem_0 26 rfl
theorem dX4_readItem_92 : decode cX4_readItem 92 = .ok (.iaload, 1) := dec_row aX4_readItem_0 27 rfl
theorem dX4_readItem_93 : decode cX4_readItem 93 = .ok (.invokevirtual 35, 3) := dec_row aX4_readItem_0 28 rfl
theorem dX4_readItem_96 : decode cX4_readItem 96 = .ok (.ifCond .eq 7, 3) := dec_row aX4_readItem_0 29 rfl
theorem dX4_readItem_99 : decode cX4_readItem 99 = .ok (.iconst 1, 1) := dec_row aX4_readItem_0 30 rfl
theorem dX4_readItem_100 : decode cX4_readItem 100 = .ok (.goto 4, 3) := dec_row aX4_readItem_0 31 rfl
theorem dX4_readItem_103 : decode cX4_readItem 103 = .ok (.iconst 0, 1) := dec_row aX4_readItem_0 32 rfl
theorem dX4_readItem_104 : decode cX4_readItem 104 = .ok (.ireturn, 1) := dec_row aX4_readItem_0 33 rfl
theorem dX4_readItem_105 : decode cX4_readItem 105 = .ok (.iload 4, 2) := dec_row aX4_readItem_0 34 rfl
theorem dX4_readItem_107 : decode cX4_readItem 107 = .ok (.iconst 1, 1) := dec_row aX4_readItem_0 35 rfl
theorem dX4_readItem_108 : decode cX4_readItem 108 = .ok (.if_icmp .ne 20, 3) := dec_row aX4_readItem_0 36 rfl
theorem dX4_readItem_111 : decode cX4_readItem 111 = .ok (.aload_n 3, 1) := dec_row aX4_readItem_0 37 rfl
theorem dX4_readItem_112 : decode cX4_readItem 112 = .ok (.aload_n 0, 1) := dec_row aX4_readItem_0 38 rfl
theorem dX4_readItem_113 : decode cX4_readItem 113 = .ok (.getfield 15, 3) := dec_row aX4_readItem_0 39 rfl
theorem dX4_readItem_116 : decode cX4_readItem 116 = .ok (.iconst 0, 1) := dec_row aX4_readItem_0 40 rfl
theorem dX4_readItem_117 : decode cX4_readItem 117 = .ok (.iaload, 1) := dec_row aX4_readItem_0 41 rfl
theorem dX4_readItem_118 : decode cX4_readItem 118 = .ok (.invokevirtual 39, 3) := dec_row aX4_readItem_0 42 rfl
theorem dX4_readItem_121 : decode cX4_readItem 121 = .ok (.ifCond .eq 7, 3) := dec_row aX4_readItem_0 43 rfl
theorem dX4_readItem_124 : decode cX4_readItem 124 = .ok (.iconst 1, 1) := dec_row aX4_readItem_0 44 rfl
theorem dX4_readItem_125 : decode cX4_readItem 125 = .ok (.goto 4, 3) := dec_row aX4_readItem_0 45 rfl
theorem dX4_readItem_128 : decode cX4_readItem 128 = .ok (.iconst 0, 1) := dec_row aX4_readItem_0 46 rfl
theorem dX4_readItem_129 : decode cX4_readItem 129 = .ok (.ireturn, 1) := dec_row aX4_readItem_0 47 rfl
theorem dX4_readItem_130 : decode cX4_readItem 130 = .ok (.iload 4, 2) := dec_row aX4_readItem_0 48 rfl
theorem dX4_readItem_132 : decode cX4_readItem 132 = .ok (.iconst 2, 1) := dec_row aX4_readItem_0 49 rfl
def tX4_readItem_1 : List (Nat × Instr × Nat) := [(133, .if_icmp .ne 26, 3), (136, .aload_n 3, 1), (137, .aload_n 0, 1), (138, .getfield 15, 3), (141, .iconst 0, 1), (142, .iaload, 1), (143, .aload_n 0, 1), (144, .getfield 15, 3), (147, .iconst 1, 1), (148, .iaload, 1), (149, .invokevirtual 43, 3), (152, .ifCond .eq 7, 3), (155, .iconst 1, 1), (156, .goto 4, 3), (159, .iconst 0, 1), (160, .ireturn, 1), (161, .iload 4, 2), (163, .iconst 3, 1), (164, .if_icmp .ne 19, 3), (167, .aload_n 3, 1), (168, .iconst 0, 1), (169, .aload_n 0, 1), (170, .getfield 15, 3), (173, .invokevirtual 47, 3), (176, .ifCond .eq 7, 3), (179, .iconst 1, 1), (180, .goto 4, 3), (183, .iconst 0, 1), (184, .ireturn, 1), (185, .iload 4, 2), (187, .iconst 3, 1), (188, .if_icmp .ne 19, 3), (191, .aload_n 3, 1), (192, .iconst 3, 1), (193, .aload_n 0, 1), (194, .getfield 15, 3), (197, .invokevirtual 47, 3), (200, .ifCond .eq 7, 3), (203, .iconst 1, 1), (204, .goto 4, 3), (207, .iconst 0, 1), (208, .ireturn, 1), (209, .iconst 0, 1), (210, .ireturn, 1)]
theorem aX4_readItem_1 : tX4_readItem_1.all (fun q => decide (decode cX4_readItem q.1 = .ok q.2)) = true := by decide +kernel
theorem dX4_readItem_133 : decode cX4_readItem 133 = .ok (.if_icmp .ne 26, 3) := dec_row aX4_readItem_1 0 rfl
theorem dX4_readItem_136 : decode cX4_readItem 136 = .ok (.aload_n 3, 1) := dec_row aX4_readItem_1 1 rfl
theorem dX4_readItem_137 : decode cX4_readItem 137 = .ok (.aload_n 0, 1) := dec_row aX4_readItem_1 2 rfl
theorem dX4_readItem_138 : decode cX4_readItem 138 = .ok (.getfield 15, 3) := dec_row aX4_readItem_1 3 rfl
theorem dX4_readItem_141 : decode cX4_readItem 141 = .ok (.iconst 0, 1) := dec_row aX4_readItem_1 4 rfl
theorem dX4_readItem_142 : decode cX4_readItem 142 = .ok (.iaload, 1) := dec_row aX4_readItem_1 5 rfl
theorem dX4_readItem_143 : decode cX4_readItem 143 = .ok (.aload_n 0, 1) := dec_row aX4_readItem_1 6 rfl
theorem dX4_readItem_144 : decode cX4_readItem 144 = .ok (.getfield 15, 3) := dec_row aX4_readItem_1 7 rfl
theorem dX4_readItem_147 : decode cX4_readItem 147 = .ok (.iconst 1, 1) := dec_row aX4_readItem_1 8 rfl
theorem dX4_readItem_148 : decode cX4_readItem 148 = .ok (.iaload, 1) := dec_row aX4_readItem_1 9 rfl
theorem dX4_readItem_149 : decode cX4_readItem 149 = .ok (.invokevirtual 43, 3) := dec_row aX4_readItem_1 10 rfl
theorem dX4_readItem_152 : decode cX4_readItem 152 = .ok (.ifCond .eq 7, 3) := dec_row aX4_readItem_1 11 rfl
theorem dX4_readItem_155 : decode cX4_readItem 155 = .ok (.iconst 1, 1) := dec_row aX4_readItem_1 12 rfl
theorem dX4_readItem_156 : decode cX4_readItem 156 = .ok (.goto 4, 3) := dec_row aX4_readItem_1 13 rfl
theorem dX4_readItem_159 : decode cX4_readItem 159 = .ok (.iconst 0, 1) := dec_row aX4_readItem_1 14 rfl
theorem dX4_readItem_160 : decode cX4_readItem 160 = .ok (.ireturn, 1) := dec_row aX4_readItem_1 15 rfl
theorem dX4_readItem_161 : decode cX4_readItem 161 = .ok (.iload 4, 2) := dec_row aX4_readItem_1 16 rfl
theorem dX4_readItem_163 : decode cX4_readItem 163 = .ok (.iconst 3, 1) := dec_row aX4_readItem_1 17 rfl
theorem dX4_readItem_164 : decode cX4_readItem 164 = .ok (.if_icmp .ne 19, 3) := dec_row aX4_readItem_1 18 rfl
theorem dX4_readItem_167 : decode cX4_readItem 167 = .ok (.aload_n 3, 1) := dec_row aX4_readItem_1 19 rfl
theorem dX4_readItem_168 : decode cX4_readItem 168 = .ok (.iconst 0, 1) := dec_row aX4_readItem_1 20 rfl
theorem dX4_readItem_169 : decode cX4_readItem 169 = .ok (.aload_n 0, 1) := dec_row aX4_readItem_1 21 rfl
theorem dX4_readItem_170 : decode cX4_readItem 170 = .ok (.getfield 15, 3) := dec_row aX4_readItem_1 22 rfl
theorem dX4_readItem_173 : decode cX4_readItem 173 = .ok (.invokevirtual 47, 3) := dec_row aX4_readItem_1 23 rfl
theorem dX4_readItem_176 : decode cX4_readItem 176 = .ok (.ifCond .eq 7, 3) := dec_row aX4_readItem_1 24 rfl
theorem dX4_readItem_179 : decode cX4_readItem 179 = .ok (.iconst 1, 1) := dec_row aX4_readItem_1 25 rfl
theorem dX4_readItem_180 : decode cX4_readItem 180 = .ok (.goto 4, 3) := dec_row aX4_readItem_1 26 rfl
theorem dX4_readItem_183 : decode cX4_readItem 183 = .ok (.iconst 0, 1) := dec_row aX4_readItem_1 27 rfl
theorem dX4_readItem_184 : decode cX4_readItem 184 = .ok (.ireturn, 1) := dec_row aX4_readItem_1 28 rfl
theorem dX4_readItem_185 : decode cX4_readItem 185 = .ok (.iload 4, 2) := dec_row aX4_readItem_1 29 rfl
theorem dX4_readItem_187 : decode cX4_readItem 187 = .ok (.iconst 3, 1) := dec_row aX4_readItem_1 30 rfl
theorem dX4_readItem_188 : decode cX4_readItem 188 = .ok (.if_icmp .ne 19, 3) := dec_row aX4_readItem_1 31 rfl
theorem dX4_readItem_191 : decode cX4_readItem 191 = .ok (.aload_n 3, 1) := dec_row aX4_readItem_1 32 rfl
theorem dX4_readItem_192 : decode cX4_readItem 192 = .ok (.iconst 3, 1) := dec_row aX4_readItem_1 33 rfl
theorem dX4_readItem_193 : decode cX4_readItem 193 = .ok (.aload_n 0, 1) := dec_row aX4_readItem_1 34 rfl
theorem dX4_readItem_194 : decode cX4_readItem 194 = .ok (.getfield 15, 3) := dec_row aX4_readItem_1 35 rfl
theorem dX4_readItem_197 : decode cX4_readItem 197 = .ok (.invokevirtual 47, 3) := dec_row aX4_readItem_1 36 rfl
theorem dX4_readItem_200 : decode cX4_readItem 200 = .ok (.ifCond .eq 7, 3) := dec_row aX4_readItem_1 37 rfl
theorem dX4_readItem_203 : decode cX4_readItem 203 = .ok (.iconst 1, 1) := dec_row aX4_readItem_1 38 rfl
theorem dX4_readItem_204 : decode cX4_readItem 204 = .ok (.goto 4, 3) := dec_row aX4_readItem_1 39 rfl
theorem dX4_readItem_207 : decode cX4_readItem 207 = .ok (.iconst 0, 1) := dec_row aX4_readItem_1 40 rfl
theorem dX4_readItem_208 : decode cX4_readItem 208 = .ok (.ireturn, 1) := dec_row aX4_readItem_1 41 rfl
theorem dX4_readItem_209 : decode cX4_readItem 209 = .ok (.iconst 0, 1) := dec_row aX4_readItem_1 42 rfl
theorem dX4_readItem_210 : decode cX4_readItem 210 = .ok (.ireturn, 1) := dec_row aX4_readItem_1 43 rfl
def tX4_readNumbers_0 : List (Nat × Instr × Nat) := [(0, .iconst 0, 1), (1, .istore_n 3, 1), (2, .iconst 0, 1), (3, .istore 4, 2), (5, .iconst 0, 1), (6, .istore 5, 2), (8, .iload_n 1, 1), (9, .istore 6, 2), (11, .iload 6, 2), (13, .iload_n 2, 1), (14, .if_icmp .gt 106, 3), (17, .iload 6, 2), (19, .iload_n 2, 1), (20, .if_icmp .ge 13, 3), (23, .aload_n 0, 1), (24, .getfield 9, 3), (27, .iload 6, 2), (29, .iaload, 1), (30, .goto 5, 3), (33, .bipush 44, 2), (35, .istore 7, 2), (37, .iload 7, 2), (39, .bipush 44, 2), (41, .if_icmp .ne 35, 3), (44, .iload 4, 2), (46, .ifCond .eq 8, 3), (49, .iload_n 3, 1), (50, .iconst 3, 1), (51, .if_icmp .lt 5, 3), (54, .iconst 0, 1), (55, .ireturn, 1), (56, .aload_n 0, 1), (57, .getfield 15, 3), (60, .iload_n 3, 1), (61, .iload 5, 2), (63, .iastore, 1), (64, .iinc 3 1, 3), (67, .iconst 0, 1), (68, .istore 4, 2), (70, .iconst 0, 1), (71, .istore 5, 2), (73, .goto 41, 3), (76, .iload 7, 2), (78, .bipush 48, 2), (80, .if_icmp .lt 16, 3), (83, .iload 7, 2), (85, .bipush 57, 2), (87, .if_icmp .gt 9, 3), (90, .iload 4, 2), (92, .iconst 2, 1)]
theorem aX4_readNumbers_0 : tX4_readNumbers_0.all (fun q => decide (decode cX4_readNumbers q.1 = .ok q.2)) = true := by decide +kernel
theorem dX4_readNumbers_0 : decode cX4_readNumbers 0 = .ok (.iconst 0, 1) := dec_row aX4_readNumbers_0 0 rfl
theorem dX4_readNumbers_1 : decode cX4_readNumbers 1 = .ok (.istore_n 3, 1) := dec_row aX4_readNumbers_0 1 rfl
theorem dX4_readNumbers_2 : decode cX4_readNumbers 2 = .ok (.iconst 0, 1) := dec_row aX4_readNumbers_0 2 rfl
theorem dX4_readNumbers_3 : decode cX4_readNumbers 3 = .ok (.istore 4, 2) := dec_row aX4_readNumbers_0 3 rfl
theorem dX4_readNumbers_5 : decode cX4_readNumbers 5 = .ok (.iconst 0, 1) := dec_row aX4_readNumbers_0 4 rfl
theorem dX4_readNumbers_6 : decode cX4_readNumbers 6 = .ok (.istore 5, 2) := dec_row aX4_readNumbers_0 5 rfl
theorem dX4_readNumbers_8 : decode cX4_readNumbers 8 = .ok (.iload_n 1, 1) := dec_row aX4_readNumbers_0 6 rfl
theorem dX4_readNumbers_9 : decode cX4_readNumbers 9 = .ok (.istore 6, 2) := dec_row aX4_readNumbers_0 7 rfl
theorem dX4_readNumbers_11 : decode cX4_readNumbers 11 = .ok (.iload 6, 2) := dec_row aX4_readNumbers_0 8 rfl
theorem dX4_readNumbers_13 : decode cX4_readNumbers 13 = .ok (.iload_n 2, 1) := dec_row aX4_readNumbers_0 9 rfl
theorem dX4_readNumbers_14 : decode cX4_readNumbers 14 = .ok (.if_icmp .gt 106, 3) := dec_row aX4_readNumbers_0 10 rfl
theorem dX4_readNumbers_17 : decode cX4_readNumbers 17 = .ok (.iload 6, 2) := dec_row aX4_readNumbers_0 11 rfl
theorem dX4_readNumbers_19 : decode cX4_readNumbers 19 = .ok (.iload_n 2, 1) := dec_row aX4_readNumbers_0 12 rfl
theorem dX4_readNumbers_20 : decode cX4_readNumbers 20 = .ok (.if_icmp .ge 13, 3) := dec_row aX4_readNumbers_0 13 rfl
theorem dX4_readNumbers_23 : decode cX4_readNumbers 23 = .ok (.aload_n 0, 1) := dec_row aX4_readNumbers_0 14 rfl
theorem dX4_readNumbers_24 : decode cX4_readNumbers 24 = .ok (.getfield 9, 3) := dec_row aX4_readNumbers_0 15 rfl
theorem dX4_readNumbers_27 : decode cX4_readNumbers 27 = .ok (.iload 6, 2) := dec_row aX4_readNumbers_0 16 rfl
theorem dX4_readNumbers_29 : decode cX4_readNumbers 29 = .ok (.iaload, 1) := dec_row aX4_readNumbers_0 17 rfl
theorem dX4_readNumbers_30 : decode cX4_readNumbers 30 = .ok (.goto 5, 3) := dec_row aX4_readNumbers_0 18 rfl
theorem dX4_readNumbers_33 : decode cX4_readNumbers 33 = .ok (.bipush 44, 2) := dec_row aX4_readNumbers_0 19 rfl
theorem dX4_readNumbers_35 : decode cX4_readNumbers 35 = .ok (.istore 7, 2) := dec_row aX4_readNumbers_0 20 rfl
theorem dX4_readNumbers_37 : decode cX4_readNumbers 37 = .ok (.iload 7, 2) := dec_row aX4_readNumbers_0 21 rfl
theorem dX4_readNumbers_39 : decode cX4_readNumbers 39 = .ok (.bipush 44, 2) := dec_row aX4_readNumbers_0 22 rfl
theorem dX4_readNumbers_41 : decode cX4_readNumbers 41 = .ok (.if_icmp .ne 35, 3) := dec_row aX4_readNumbers_0 23 rfl
theorem dX4_readNumbers_44 : decode cX4_readNumbers 44 = .ok (.iload 4, 2) := dec_row aX4_readNumbers_0 24 rfl
theorem dX4_readNumbers_46 : decode cX4_readNumbers 46 = .ok (.ifCond .eq 8, 3) := dec_row aX4_readNumbers_0 25 rfl
theorem dX4_readNumbers_49 : decode cX4_readNumbers 49 = .ok (.iload_n 3, 1) := dec_row aX4_readNumbers_0 26 rfl
theorem dX4_readNumbers_50 : decode cX4_readNumbers 50 = .ok (.iconst 3, 1) := dec_row aX4_readNumbers_0 27 rfl
theorem dX4_readNumbers_51 : decode cX4_readNumbers 51 = .ok (.if_icmp .lt 5, 3) := dec_row aX4_readNumbers_0 28 rfl
theorem dX4_readNumbers_54 : decode cX4_readNumbers 54 = .ok (.iconst 0, 1) := dec_row aX4_readNumbers_0 29 rfl
theorem dX4_readNumbers_55 : decode cX4_readNumbers 55 = .ok (.ireturn, 1) := dec_row aX4_readNumbers_0 30 rfl
theorem dX4_readNumbers_56 : decode cX4_readNumbers 56 = .ok (.aload_n 0, 1) := dec_row aX4_readNumbers_0 31 rfl
theorem dX4_readNumbers_57 : decode cX4_readNumbers 57 = .ok (.getfield 15, 3) := dec_row aX4_readNumbers_0 32 rfl
theorem dX4_readNumbers_60 : decode cX4_readNumbers 60 = .ok (.iload_n 3, 1) := dec_row aX4_readNumbers_0 33 rfl
theorem dX4_readNumbers_61 : decode cX4_readNumbers 61 = .ok (.iload 5, 2) := dec_row aX4_readNumbers_0 34 rfl
theorem dX4_readNumbers_63 : decode cX4_readNumbers 63 = .ok (.iastore, 1) := dec_row aX4_readNumbers_0 35 rfl
theorem dX4_readNumbers_64 : decode cX4_readNumbers 64 = .ok (.iinc 3 1, 3) := dec_row aX4_readNumbers_0 36 rfl
theorem dX4_readNumbers_67 : decode cX4_readNumbers 67 = .ok (.iconst 0, 1) := dec_row aX4_readNumbers_0 37 rfl
theorem dX4_readNumbers_68 : decode cX4_readNumbers 68 = .ok (.istore 4, 2) := dec_row aX4_readNumbers_0 38 rfl
theorem dX4_readNumbers_70 : decode cX4_readNumbers 70 = .ok (.iconst 0, 1) := dec_row aX4_readNumbers_0 39 rfl
theorem dX4_readNumbers_71 : decode cX4_readNumbers 71 = .ok (.istore 5, 2) := dec_row aX4_readNumbers_0 40 rfl
theorem dX4_readNumbers_73 : decode cX4_readNumbers 73 = .ok (.goto 41, 3) := dec_row aX4_readNumbers_0 41 rfl
theorem dX4_readNumbers_76 : decode cX4_readNumbers 76 = .ok (.iload 7, 2) := dec_row aX4_readNumbers_0 42 rfl
theorem dX4_readNumbers_78 : decode cX4_readNumbers 78 = .ok (.bipush 48, 2) := dec_row aX4_readNumbers_0 43 rfl
theorem dX4_readNumbers_80 : decode cX4_readNumbers 80 = .ok (.if_icmp .lt 16, 3) := dec_row aX4_readNumbers_0 44 rfl
theorem dX4_readNumbers_83 : decode cX4_readNumbers 83 = .ok (.iload 7, 2) := dec_row aX4_readNumbers_0 45 rfl
theorem dX4_readNumbers_85 : decode cX4_readNumbers 85 = .ok (.bipush 57, 2) := dec_row aX4_readNumbers_0 46 rfl
theorem dX4_readNumbers_87 : decode cX4_readNumbers 87 = .ok (.if_icmp .gt 9, 3) := dec_row aX4_readNumbers_0 47 rfl
theorem dX4_readNumbers_90 : decode cX4_readNumbers 90 = .ok (.iload 4, 2) := dec_row aX4_readNumbers_0 48 rfl
theorem dX4_readNumbers_92 : decode cX4_readNumbers 92 = .ok (.iconst 2, 1) := dec_row aX4_readNumbers_0 49 rfl
def tX4_readNumbers_1 : List (Nat × Instr × Nat) := [(93, .if_icmp .lt 5, 3), (96, .iconst 0, 1), (97, .ireturn, 1), (98, .bipush 10, 2), (100, .iload 5, 2), (102, .imul, 1), (103, .iload 7, 2), (105, .iadd, 1), (106, .bipush 48, 2), (108, .isub, 1), (109, .istore 5, 2), (111, .iinc 4 1, 3), (114, .iinc 6 1, 3), (117, .goto (-106), 3), (120, .iload_n 3, 1), (121, .ireturn, 1)]
theorem aX4_readNumbers_1 : tX4_readNumbers_1.all (fun q => decide (decode cX4_readNumbers q.1 = .ok q.2)) = true := by decide +kernel
theorem dX4_readNumbers_93 : decode cX4_readNumbers 93 = .ok (.if_icmp .lt 5, 3) := dec_row aX4_readNumbers_1 0 rfl
theorem dX4_readNumbers_96 : decode cX4_readNumbers 96 = .ok (.iconst 0, 1) := dec_row aX4_readNumbers_1 1 rfl
theorem dX4_readNumbers_97 : decode cX4_readNumbers 97 = .ok (.ireturn, 1) := dec_row aX4_readNumbers_1 2 rfl
theorem dX4_readNumbers_98 : decode cX4_readNumbers 98 = .ok (.bipush 10, 2) := dec_row aX4_readNumbers_1 3 rfl
theorem dX4_readNumbers_100 : decode cX4_readNumbers 100 = .ok (.iload 5, 2) := dec_row aX4_readNumbers_1 4 rfl
theorem dX4_readNumbers_102 : decode cX4_readNumbers 102 = .ok (.imul, 1) := dec_row aX4_readNumbers_1 5 rfl
theorem dX4_readNumbers_103 : decode cX4_readNumbers 103 = .ok (.iload 7, 2) := dec_row aX4_readNumbers_1 6 rfl
theorem dX4_readNumbers_105 : decode cX4_readNumbers 105 = .ok (.iadd, 1) := dec_row aX4_readNumbers_1 7 rfl
theorem dX4_readNumbers_106 : decode cX4_readNumbers 106 = .ok (.bipush 48, 2) := dec_row aX4_readNumbers_1 8 rfl
theorem dX4_readNumbers_108 : decode cX4_readNumbers 108 = .ok (.isub, 1) := dec_row aX4_readNumbers_1 9 rfl
theorem dX4_readNumbers_109 : decode cX4_readNumbers 109 = .ok (.istore 5, 2) := dec_row aX4_readNumbers_1 10 rfl
theorem dX4_readNumbers_111 : decode cX4_readNumbers 111 = .ok (.iinc 4 1, 3) := dec_row aX4_readNumbers_1 11 rfl
theorem dX4_readNumbers_114 : decode cX4_readNumbers 114 = .ok (.iinc 6 1, 3) := dec_row aX4_readNumbers_1 12 rfl
theorem dX4_readNumbers_117 : decode cX4_readNumbers 117 = .ok (.goto (-106), 3) := dec_row aX4_readNumbers_1 13 rfl
theorem dX4_readNumbers_120 : decode cX4_readNumbers 120 = .ok (.iload_n 3, 1) := dec_row aX4_readNumbers_1 14 rfl
theorem dX4_readNumbers_121 : decode cX4_readNumbers 121 = .ok (.ireturn, 1) := dec_row aX4_readNumbers_1 15 rfl
def tX5_init_0 : List (Nat × Instr × Nat) := [(0, .aload_n 0, 1), (1, .invokespecial 3, 3), (4, .aload_n 0, 1), (5, .new 9, 3), (8, .dup, 1), (9, .invokespecial 11, 3), (12, .putfield 12, 3), (15, .aload_n 0, 1), (16, .new 16, 3), (19, .dup, 1), (20, .invokespecial 18, 3), (23, .putfield 19, 3), (26, .aload_n 0, 1), (27, .new 16, 3), (30, .dup, 1), (31, .invokespecial 18, 3), (34, .putfield 23, 3), (37, .aload_n 0, 1), (38, .iconst 5, 1), (39, .anewarray 26, 3), (42, .putfield 28, 3), (45, .aload_n 0, 1), (46, .iconst 0, 1), (47, .putfield 32, 3), (50, .aload_n 0, 1), (51, .iconst 0, 1), (52, .putfield 36, 3), (55, .aload_n 0, 1), (56, .new 26, 3), (59, .dup, 1), (60, .invokespecial 39, 3), (63, .putfield 40, 3), (66, .aload_n 0, 1), (67, .bipush 16, 2), (69, .anewarray 44, 3), (72, .putfield 46, 3), (75, .aload_n 0, 1), (76, .new 44, 3), (79, .dup, 1), (80, .invokespecial 50, 3), (83, .putfield 51, 3), (86, .aload_n 0, 1), (87, .getfield 28, 3), (90, .iconst 0, 1), (91, .aload_n 0, 1), (92, .getfield 40, 3), (95, .aastore, 1), (96, .iconst 1, 1), (97, .istore_n 1, 1), (98, .iload_n 1, 1)]
theorem aX5_init_0 : tX5_init_0.all (fun q => decide (decode cX5_init q.1 = .ok q.2)) = true := by decide +kernel
theorem dX5_init_0 : decode cX5_init 0 = .ok (.aload_n 0, 1) := dec_row aX5_init_0 0 rfl
theorem dX5_init_1 : decode cX5_init 1 = .ok (.invokespecial 3, 3) := dec_row aX5_init_0 1 rfl
theorem dX5_init_4 : decode cX5_init 4 = .ok (.aload_n 0, 1) := dec_row aX5_init_0 2 rfl
theorem dX5_init_5 : decode cX5_init 5 = .ok (.new 9, 3) := dec_row aX5_init_0 3 rfl
theorem dX5_init_8 : decode cX5_init 8 = .ok (.dup, 1) := dec_row aX5_init_0 4 rfl
theorem dX5_init_9 : decode cX5_init 9 = .ok (.invokespecial 11, 3) := dec_row aX5_init_0 5 rfl
theorem dX5_init_12 : decode cX5_init 12 = .ok (.putfield 12, 3) := dec_row aX5_init_0 6 rfl
theorem dX5_init_15 : decode cX5_init 15 = .ok (.aload_n 0, 1) := dec_row aX5_init_0 7 rfl
theorem dX5_init_16 : decode cX5_init 16 = .ok (.new 16, 3) := dec_row aX5_init_0 8 rfl
theorem dX5_init_19 : decode cX5_init 19 = .ok (.dup, 1) := dec_row aX5_init_0 9 rfl
theorem dX5_init_20 : decode cX5_init 20 = .ok (.invokespecial 18, 3) := dec_row aX5_init_0 10 rfl
theorem dX5_init_23 : decode cX5_init 23 = .ok (.putfield 19, 3) := dec_row aX5_init_0 11 rfl
theorem dX5_init_26 : decode cX5_init 26 = .ok (.aload_n 0, 1) := dec_row aX5_init_0 12 rfl
theorem dX5_init_27 : decode cX5_init 27 = .ok (.new 16, 3) := dec_row aX5_init_0 13 rfl
theorem dX5_init_30 : decode cX5_init 30 = .ok (.dup, 1) := dec_row aX5_init_0 14 rfl
theorem dX5_init_31 : decode cX5_init 31 = .ok (.invokespecial 18, 3) := dec_row aX5_init_0 15 rfl
theorem dX5_init_34 : decode cX5_init 34 = .ok (.putfield 23, 3) := dec_row aX5_init_0 16 rfl
theorem dX5_init_37 : decode cX5_init 37 = .ok (.aload_n 0, 1) := dec_row aX5_init_0 17 rfl
theorem dX5_init_38 : decode cX5_init 38 = .ok (.iconst 5, 1) := dec_row aX5_init_0 18 rfl
theorem dX5_init_39 : decode cX5_init 39 = .ok (.anewarray 26, 3) := dec_row aX5_init_0 19 rfl
theorem dX5_init_42 : decode cX5_init 42 = .ok (.putfield 28, 3) := dec_row aX5_init_0 20 rfl
theorem dX5_init_45 : decode cX5_init 45 = .ok (.aload_n 0, 1) := dec_row aX5_init_0 21 rfl
theorem dX5_init_46 : decode cX5_init 46 = .ok (.iconst 0, 1) := dec_row aX5_init_0 22 rfl
theorem dX5_init_47 : decode cX5_init 47 = .ok (.putfield 32, 3) := dec_row aX5_init_0 23 rfl
theorem dX5_init_50 : decode cX5_init 50 = .ok (.aload_n 0, 1) := dec_row aX5_init_0 24 rfl
theorem dX5_init_51 : decode cX5_init 51 = .ok (.iconst 0, 1) := dec_row aX5_init_0 25 rfl
theorem dX5_init_52 : decode cX5_init 52 = .ok (.putfield 36, 3) := dec_row aX5_init_0 26 rfl
theorem dX5_init_55 : decode cX5_init 55 = .ok (.aload_n 0, 1) := dec_row aX5_init_0 27 rfl
theorem dX5_init_56 : decode cX5_init 56 = .ok (.new 26, 3) := dec_row aX5_init_0 28 rfl
theorem dX5_init_59 : decode cX5_init 59 = .ok (.dup, 1) := dec_row aX5_init_0 29 rfl
theorem dX5_init_60 : decode cX5_init 60 = .ok (.invokespecial 39, 3) := dec_row aX5_init_0 30 rfl
theorem dX5_init_63 : decode cX5_init 63 = .ok (.putfield 40, 3) := dec_row aX5_init_0 31 rfl
theorem dX5_init_66 : decode cX5_init 66 = .ok (.aload_n 0, 1) := dec_row aX5_init_0 32 rfl
theorem dX5_init_67 : decode cX5_init 67 = .ok (.bipush 16, 2) := dec_row aX5_init_0 33 rfl
theorem dX5_init_69 : decode cX5_init 69 = .ok (.anewarray 44, 3) := dec_row aX5_init_0 34 rfl
theorem dX5_init_72 : decode cX5_init 72 = .ok (.putfield 46, 3) := dec_row aX5_init_0 35 rfl
theorem dX5_init_75 : decode cX5_init 75 = .ok (.aload_n 0, 1) := dec_row aX5_init_0 36 rfl
theorem dX5_init_76 : decode cX5_init 76 = .ok (.new 44, 3) := dec_row aX5_init_0 37 rfl
theorem dX5_init_79 : decode cX5_init 79 = .ok (.dup, 1) := dec_row aX5_init_0 38 rfl
theorem dX5_init_80 : decode cX5_init 80 = .ok (.invokespecial 50, 3) := dec_row aX5_init_0 39 rfl
theorem dX5_init_83 : decode cX5_init 83 = .ok (.putfield 51, 3) := dec_row aX5_init_0 40 rfl
theorem dX5_init_86 : decode cX5_init 86 = .ok (.aload_n 0, 1) := dec_row aX5_init_0 41 rfl
theorem dX5_init_87 : decode cX5_init 87 = .ok (.getfield 28, 3) := dec_row aX5_init_0 42 rfl
theorem dX5_init_90 : decode cX5_init 90 = .ok (.iconst 0, 1) := dec_row aX5_init_0 43 rfl
theorem dX5_init_91 : decode cX5_init 91 = .ok (.aload_n 0, 1) := dec_row aX5_init_0 44 rfl
theorem dX5_init_92 : decode cX5_init 92 = .ok (.getfield 40, 3) := dec_row aX5_init_0 45 rfl
theorem dX5_init_95 : decode cX5_init 95 = .ok (.aastore, 1) := dec_row aX5_init_0 46 rfl
theorem dX5_init_96 : decode cX5_init 96 = .ok (.iconst 1, 1) := dec_row aX5_init_0 47 rfl
theorem dX5_init_97 : decode cX5_init 97 = .ok (.istore_n 1, 1) := dec_row aX5_init_0 48 rfl
theorem dX5_init_98 : decode cX5_init 98 = .ok (.iload_n 1, 1) := dec_row aX5_init_0 49 rfl
def tX5_init_1 : List (Nat × Instr × Nat) := [(99, .iconst 5, 1), (100, .if_icmp .ge 22, 3), (103, .aload_n 0, 1), (104, .getfield 28, 3), (107, .iload_n 1, 1), (108, .new 26, 3), (111, .dup, 1), (112, .invokespecial 39, 3), (115, .aastore, 1), (116, .iinc 1 1, 3), (119, .goto (-21), 3), (122, .iconst 0, 1), (123, .istore_n 1, 1), (124, .iload_n 1, 1), (125, .bipush 16, 2), (127, .if_icmp .ge 22, 3), (130, .aload_n 0, 1), (131, .getfield 46, 3), (134, .iload_n 1, 1), (135, .new 44, 3), (138, .dup, 1), (139, .invokespecial 50, 3), (142, .aastore, 1), (143, .iinc 1 1, 3), (146, .goto (-22), 3), (149, .iconst 0, 1), (150, .istore_n 1, 1), (151, .iload_n 1, 1), (152, .ldc 55, 2), (154, .invokevirtual 57, 3), (157, .if_icmp .ge 23, 3), (160, .aload_n 0, 1), (161, .getfield 12, 3), (164, .ldc 55, 2), (166, .iload_n 1, 1), (167, .invokevirtual 63, 3), (170, .invokevirtual 67, 3), (173, .pop, 1), (174, .iinc 1 1, 3), (177, .goto (-26), 3), (180, .aload_n 0, 1), (181, .getfield 12, 3), (184, .aload_n 0, 1), (185, .getfield 23, 3), (188, .invokevirtual 71, 3), (191, .pop, 1), (192, .aload_n 0, 1), (193, .invokevirtual 75, 3), (196, .aload_n 0, 1), (197, .getfield 12, 3)]
theorem aX5_init_1 : tX5_init_1.all (fun q => decide (decode cX5_init q.1 = .ok q.2)) = true := by decide +kernel
theorem dX5_init_99 : decode cX5_init 99 = .ok (.iconst 5, 1) := dec_row aX5_init_1 0 rfl
theorem dX5_init_100 : decode cX5_init 100 = .ok (.if_icmp .ge 22, 3) := dec_row aX5_init_1 1 rfl
theorem dX5_init_103 : decode cX5_init 103 = .ok (.aload_n 0, 1) := dec_row aX5_init_1 2 rfl
theorem dX5_init_104 : decode cX5_init 104 = .ok (.getfield 28, 3) := dec_row aX5_init_1 3 rfl
theorem dX5_init_107 : decode cX5_init 107 = .ok (.iload_n 1, 1) := dec_row aX5_init_1 4 rfl
theorem dX5_init_108 : decode cX5_init 108 = .ok (.new 26, 3) := dec_row aX5_init_1 5 rfl
theorem dX5_init_111 : decode cX5_init 111 = .ok (.dup, 1) := dec_row aX5_init_1 6 rfl
theorem dX5_init_112 : decode cX5_init 112 = .ok (.invokespecial 39, 3) := dec_row aX5_init_1 7 rfl
theorem dX5_init_115 : decode cX5_init 115 = .ok (.aastore, 1) := dec_row aX5_init_1 8 rfl
theorem dX5_init_116 : decode cX5_init 116 = .ok (.iinc 1 1, 3) := dec_row aX5_init_1 9 rfl
theorem dX5_init_119 : decode cX5_init 119 = .ok (.goto (-21), 3) := dec_row aX5_init_1 10 rfl
theorem dX5_init_122 : decode cX5_init 122 = .ok (.iconst 0, 1) := dec_row aX5_init_1 11 rfl
theorem dX5_init_123 : decode cX5_init 123 = .ok (.istore_n 1, 1) := dec_row aX5_init_1 12 rfl
theorem dX5_init_124 : decode cX5_init 124 = .ok (.iload_n 1, 1) := dec_row aX5_init_1 13 rfl
theorem dX5_init_125 : decode cX5_init 125 = .ok (.bipush 16, 2) := dec_row aX5_init_1 14 rfl
theorem dX5_init_127 : decode cX5_init 127 = .ok (.if_icmp .ge 22, 3) := dec_row aX5_init_1 15 rfl
theorem dX5_init_130 : decode cX5_init 130 = .ok (.aload_n 0, 1) := dec_row aX5_init_1 16 rfl
theorem dX5_init_131 : decode cX5_init 131 = .ok (.getfield 46, 3) := dec_row aX5_init_1 17 rfl
theorem dX5_init_134 : decode cX5_init 134 = .ok (.iload_n 1, 1) := dec_row aX5_init_1 18 rfl
theorem dX5_init_135 : decode cX5_init 135 = .ok (.new 44, 3) := dec_row aX5_init_1 19 rfl
theorem dX5_init_138 : decode cX5_init 138 = .ok (.dup, 1) := dec_row aX5_init_1 20 rfl
theorem dX5_init_139 : decode cX5_init 139 = .ok (.invokespecial 50, 3) := dec_row aX5_init_1 21 rfl
theorem dX5_init_142 : decode cX5_init 142 = .ok (.aastore, 1) := dec_row aX5_init_1 22 rfl
theorem dX5_init_143 : decode cX5_init 143 = .ok (.iinc 1 1, 3) := dec_row aX5_init_1 23 rfl
theorem dX5_init_146 : decode cX5_init 146 = .ok (.goto (-22), 3) := dec_row aX5_init_1 24 rfl
theorem dX5_init_149 : decode cX5_init 149 = .ok (.iconst 0, 1) := dec_row aX5_init_1 25 rfl
theorem dX5_init_150 : decode cX5_init 150 = .ok (.istore_n 1, 1) := dec_row aX5_init_1 26 rfl
theorem dX5_init_151 : decode cX5_init 151 = .ok (.iload_n 1, 1) := dec_row aX5_init_1 27 rfl
theorem dX5_init_152 : decode cX5_init 152 = .ok (.ldc 55, 2) := dec_row aX5_init_1 28 rfl
theorem dX5_init_154 : decode cX5_init 154 = .ok (.invokevirtual 57, 3) := dec_row aX5_init_1 29 rfl
theorem dX5_init_157 : decode cX5_init 157 = .ok (.if_icmp .ge 23, 3) := dec_row aX5_init_1 30 rfl
theorem dX5_init_160 : decode cX5_init 160 = .ok (.aload_n 0, 1) := dec_row aX5_init_1 31 rfl
theorem dX5_init_161 : decode cX5_init 161 = .ok (.getfield 12, 3) := dec_row aX5_init_1 32 rfl
theorem dX5_init_164 : decode cX5_init 164 = .ok (.ldc 55, 2) := dec_row aX5_init_1 33 rfl
theorem dX5_init_166 : decode cX5_init 166 = .ok (.iload_n 1, 1) := dec_row aX5_init_1 34 rfl
theorem dX5_init_167 : decode cX5_init 167 = .ok (.invokevirtual 63, 3) := dec_row aX5_init_1 35 rfl
theorem dX5_init_170 : decode cX5_init 170 = .ok (.invokevirtual 67, 3) := dec_row aX5_init_1 36 rfl
theorem dX5_init_173 : decode cX5_init 173 = .ok (.pop, 1) := dec_row aX5_init_1 37 rfl
theorem dX5_init_174 : decode cX5_init 174 = .ok (.iinc 1 1, 3) := dec_row aX5_init_1 38 rfl
theorem dX5_init_177 : decode cX5_init 177 = .ok (.goto (-26), 3) := dec_row aX5_init_1 39 rfl
theorem dX5_init_180 : decode cX5_init 180 = .ok (.aload_n 0, 1) := dec_row aX5_init_1 40 rfl
theorem dX5_init_181 : decode cX5_init 181 = .ok (.getfield 12, 3) := dec_row aX5_init_1 41 rfl
theorem dX5_init_184 : decode cX5_init 184 = .ok (.aload_n 0, 1) := dec_row aX5_init_1 42 rfl
theorem dX5_init_185 : decode cX5_init 185 = .ok (.getfield 23, 3) := dec_row aX5_init_1 43 rfl
theorem dX5_init_188 : decode cX5_init 188 = .ok (.invokevirtual 71, 3) := dec_row aX5_init_1 44 rfl
theorem dX5_init_191 : decode cX5_init 191 = .ok (.pop, 1) := dec_row aX5_init_1 45 rfl
theorem dX5_init_192 : decode cX5_init 192 = .ok (.aload_n 0, 1) := dec_row aX5_init_1 46 rfl
theorem dX5_init_193 : decode cX5_init 193 = .ok (.invokevirtual 75, 3) := dec_row aX5_init_1 47 rfl
theorem dX5_init_196 : decode cX5_init 196 = .ok (.aload_n 0, 1) := dec_row aX5_init_1 48 rfl
theorem dX5_init_197 : decode cX5_init 197 = .ok (.getfield 12, 3) := dec_row aX5_init_1 49 rfl
def tX5_init_2 : List (Nat × Instr × Nat) := [(200, .invokevirtual 78, 3), (203, .return_, 1)]
theorem aX5_init_2 : tX5_init_2.all (fun q => decide (decode cX5_init q.1 = .ok q.2)) = true := by decide +kernel
theorem dX5_init_200 : decode cX5_init 200 = .ok (.invokevirtual 78, 3) := dec_row aX5_init_2 0 rfl
theorem dX5_init_203 : decode cX5_init 203 = .ok (.return_, 1) := dec_row aX5_init_2 1 rfl
def tX5_write : List (Nat × Instr × Nat) := [(0, .iload_n 1, 1), (1, .bipush 32, 2), (3, .if_icmp .lt 9, 3), (6, .iload_n 1, 1), (7, .bipush 126, 2), (9, .if_icmp .le 5, 3), (12, .iconst (-1), 1), (13, .ireturn, 1), (14, .aload_n 0, 1), (15, .getfield 12, 3), (18, .iload_n 1, 1), (19, .invokevirtual 67, 3), (22, .ifCond .eq 13, 3), (25, .aload_n 0, 1), (26, .getfield 12, 3), (29, .getfield 81, 3), (32, .goto 5, 3), (35, .bipush (-3), 2), (37, .ireturn, 1)]
theorem aX5_write : tX5_write.all (fun q => decide (decode cX5_write q.1 = .ok q.2)) = true := by decide +kernel
theorem dX5_write_0 : decode cX5_write 0 = .ok (.iload_n 1, 1) := dec_row aX5_write 0 rfl
theorem dX5_write_1 : decode cX5_write 1 = .ok (.bipush 32, 2) := dec_row aX5_write 1 rfl
theorem dX5_write_3 : decode cX5_write 3 = .ok (.if_icmp .lt 9, 3) := dec_row aX5_write 2 rfl
theorem dX5_write_6 : decode cX5_write 6 = .ok (.iload_n 1, 1) := dec_row aX5_write 3 rfl
theorem dX5_write_7 : decode cX5_write 7 = .ok (.bipush 126, 2) := dec_row aX5_write 4 rfl
theorem dX5_write_9 : decode cX5_write 9 = .ok (.if_icmp .le 5, 3) := dec_row aX5_write 5 rfl
theorem dX5_write_12 : decode cX5_write 12 = .ok (.iconst (-1), 1) := dec_row aX5_write 6 rfl
theorem dX5_write_13 : decode cX5_write 13 = .ok (.ireturn, 1) := dec_row aX5_write 7 rfl
theorem dX5_write_14 : decode cX5_write 14 = .ok (.aload_n 0, 1) := dec_row aX5_write 8 rfl
theorem dX5_write_15 : decode cX5_write 15 = .ok (.getfield 12, 3) := dec_row aX5_write 9 rfl
theorem dX5_write_18 : decode cX5_write 18 = .ok (.iload_n 1, 1) := dec_row aX5_write 10 rfl
theorem dX5_write_19 : decode cX5_write 19 = .ok (.invokevirtual 67, 3) := dec_row aX5_write 11 rfl
theorem dX5_write_22 : decode cX5_write 22 = .ok (.ifCond .eq 13, 3) := dec_row aX5_write 12 rfl
theorem dX5_write_25 : decode cX5_write 25 = .ok (.aload_n 0, 1) := dec_row aX5_write 13 rfl
theorem dX5_write_26 : decode cX5_write 26 = .ok (.getfield 12, 3) := dec_row aX5_write 14 rfl
theorem dX5_write_29 : decode cX5_write 29 = .ok (.getfield 81, 3) := dec_row aX5_write 15 rfl
theorem dX5_write_32 : decode cX5_write 32 = .ok (.goto 5, 3) := dec_row aX5_write 16 rfl
theorem dX5_write_35 : decode cX5_write 35 = .ok (.bipush (-3), 2) := dec_row aX5_write 17 rfl
theorem dX5_write_37 : decode cX5_write 37 = .ok (.ireturn, 1) := dec_row aX5_write 18 rfl
def tX5_wipe : List (Nat × Instr × Nat) := [(0, .aload_n 0, 1), (1, .getfield 12, 3), (4, .getfield 81, 3), (7, .istore_n 1, 1), (8, .aload_n 0, 1), (9, .getfield 12, 3), (12, .invokevirtual 78, 3), (15, .iload_n 1, 1), (16, .ireturn, 1)]
theorem aX5_wipe : tX5_wipe.all (fun q => decide (decode cX5_wipe q.1 = .ok q.2)) = true := by decide +kernel
theorem dX5_wipe_0 : decode cX5_wipe 0 = .ok (.aload_n 0, 1) := dec_row aX5_wipe 0 rfl
theorem dX5_wipe_1 : decode cX5_wipe 1 = .ok (.getfield 12, 3) := dec_row aX5_wipe 1 rfl
theorem dX5_wipe_4 : decode cX5_wipe 4 = .ok (.getfield 81, 3) := dec_row aX5_wipe 2 rfl
theorem dX5_wipe_7 : decode cX5_wipe 7 = .ok (.istore_n 1, 1) := dec_row aX5_wipe 3 rfl
theorem dX5_wipe_8 : decode cX5_wipe 8 = .ok (.aload_n 0, 1) := dec_row aX5_wipe 4 rfl
theorem dX5_wipe_9 : decode cX5_wipe 9 = .ok (.getfield 12, 3) := dec_row aX5_wipe 5 rfl
theorem dX5_wipe_12 : decode cX5_wipe 12 = .ok (.invokevirtual 78, 3) := dec_row aX5_wipe 6 rfl
theorem dX5_wipe_15 : decode cX5_wipe 15 = .ok (.iload_n 1, 1) := dec_row aX5_wipe 7 rfl
theorem dX5_wipe_16 : decode cX5_wipe 16 = .ok (.ireturn, 1) := dec_row aX5_wipe 8 rfl
def tX5_fault : List (Nat × Instr × Nat) := [(0, .aload_n 0, 1), (1, .getfield 12, 3), (4, .aload_n 0, 1), (5, .getfield 23, 3), (8, .invokevirtual 71, 3), (11, .ireturn, 1)]
theorem aX5_fault : tX5_fault.all (fun q => decide (decode cX5_fault q.1 = .ok q.2)) = true := by decide +kernel
theorem dX5_fault_0 : decode cX5_fault 0 = .ok (.aload_n 0, 1) := dec_row aX5_fault 0 rfl
theorem dX5_fault_1 : decode cX5_fault 1 = .ok (.getfield 12, 3) := dec_row aX5_fault 1 rfl
theorem dX5_fault_4 : decode cX5_fault 4 = .ok (.aload_n 0, 1) := dec_row aX5_fault 2 rfl
theorem dX5_fault_5 : decode cX5_fault 5 = .ok (.getfield 23, 3) := dec_row aX5_fault 3 rfl
theorem dX5_fault_8 : decode cX5_fault 8 = .ok (.invokevirtual 71, 3) := dec_row aX5_fault 4 rfl
theorem dX5_fault_11 : decode cX5_fault 11 = .ok (.ireturn, 1) := dec_row aX5_fault 5 rfl
def tX5_lay : List (Nat × Instr × Nat) := [(0, .aload_n 0, 1), (1, .getfield 12, 3), (4, .aload_n 0, 1), (5, .getfield 23, 3), (8, .invokevirtual 71, 3), (11, .bipush (-4), 2), (13, .if_icmp .ne 13, 3), (16, .aload_n 0, 1), (17, .getfield 23, 3), (20, .invokevirtual 83, 3), (23, .ifCond .ne 6, 3), (26, .bipush (-2), 2), (28, .ireturn, 1), (29, .aload_n 0, 1), (30, .invokevirtual 75, 3), (33, .aload_n 0, 1), (34, .getfield 19, 3), (37, .getfield 87, 3), (40, .ireturn, 1)]
theorem aX5_lay : tX5_lay.all (fun q => decide (decode cX5_lay q.1 = .ok q.2)) = true := by decide +kernel
theorem dX5_lay_0 : decode cX5_lay 0 = .ok (.aload_n 0, 1) := dec_row aX5_lay 0 rfl
theorem dX5_lay_1 : decode cX5_lay 1 = .ok (.getfield 12, 3) := dec_row aX5_lay 1 rfl
theorem dX5_lay_4 : decode cX5_lay 4 = .ok (.aload_n 0, 1) := dec_row aX5_lay 2 rfl
theorem dX5_lay_5 : decode cX5_lay 5 = .ok (.getfield 23, 3) := dec_row aX5_lay 3 rfl
theorem dX5_lay_8 : decode cX5_lay 8 = .ok (.invokevirtual 71, 3) := dec_row aX5_lay 4 rfl
theorem dX5_lay_11 : decode cX5_lay 11 = .ok (.bipush (-4), 2) := dec_row aX5_lay 5 rfl
theorem dX5_lay_13 : decode cX5_lay 13 = .ok (.if_icmp .ne 13, 3) := dec_row aX5_lay 6 rfl
theorem dX5_lay_16 : decode cX5_lay 16 = .ok (.aload_n 0, 1) := dec_row aX5_lay 7 rfl
theorem dX5_lay_17 : decode cX5_lay 17 = .ok (.getfield 23, 3) := dec_row aX5_lay 8 rfl
theorem dX5_lay_20 : decode cX5_lay 20 = .ok (.invokevirtual 83, 3) := dec_row aX5_lay 9 rfl
theorem dX5_lay_23 : decode cX5_lay 23 = .ok (.ifCond .ne 6, 3) := dec_row aX5_lay 10 rfl
theorem dX5_lay_26 : decode cX5_lay 26 = .ok (.bipush (-2), 2) := dec_row aX5_lay 11 rfl
theorem dX5_lay_28 : decode cX5_lay 28 = .ok (.ireturn, 1) := dec_row aX5_lay 12 rfl
theorem dX5_lay_29 : decode cX5_lay 29 = .ok (.aload_n 0, 1) := dec_row aX5_lay 13 rfl
theorem dX5_lay_30 : decode cX5_lay 30 = .ok (.invokevirtual 75, 3) := dec_row aX5_lay 14 rfl
theorem dX5_lay_33 : decode cX5_lay 33 = .ok (.aload_n 0, 1) := dec_row aX5_lay 15 rfl
theorem dX5_lay_34 : decode cX5_lay 34 = .ok (.getfield 19, 3) := dec_row aX5_lay 16 rfl
theorem dX5_lay_37 : decode cX5_lay 37 = .ok (.getfield 87, 3) := dec_row aX5_lay 17 rfl
theorem dX5_lay_40 : decode cX5_lay 40 = .ok (.ireturn, 1) := dec_row aX5_lay 18 rfl
def tX5_takeDraft : List (Nat × Instr × Nat) := [(0, .aload_n 0, 1), (1, .getfield 23, 3), (4, .astore_n 1, 1), (5, .aload_n 0, 1), (6, .aload_n 0, 1), (7, .getfield 19, 3), (10, .putfield 23, 3), (13, .aload_n 0, 1), (14, .aload_n 1, 1), (15, .putfield 19, 3), (18, .aload_n 0, 1), (19, .getfield 40, 3), (22, .aload_n 0, 1), (23, .getfield 19, 3), (26, .invokevirtual 90, 3), (29, .aload_n 0, 1), (30, .iconst 0, 1), (31, .putfield 36, 3), (34, .return_, 1)]
theorem aX5_takeDraft : tX5_takeDraft.all (fun q => decide (decode cX5_takeDraft q.1 = .ok q.2)) = true := by decide +kernel
theorem dX5_takeDraft_0 : decode cX5_takeDraft 0 = .ok (.aload_n 0, 1) := dec_row aX5_takeDraft 0 rfl
theorem dX5_takeDraft_1 : decode cX5_takeDraft 1 = .ok (.getfield 23, 3) := dec_row aX5_takeDraft 1 rfl
theorem dX5_takeDraft_4 : decode cX5_takeDraft 4 = .ok (.astore_n 1, 1) := dec_row aX5_takeDraft 2 rfl
theorem dX5_takeDraft_5 : decode cX5_takeDraft 5 = .ok (.aload_n 0, 1) := dec_row aX5_takeDraft 3 rfl
theorem dX5_takeDraft_6 : decode cX5_takeDraft 6 = .ok (.aload_n 0, 1) := dec_row aX5_takeDraft 4 rfl
theorem dX5_takeDraft_7 : decode cX5_takeDraft 7 = .ok (.getfield 19, 3) := dec_row aX5_takeDraft 5 rfl
theorem dX5_takeDraft_10 : decode cX5_takeDraft 10 = .ok (.putfield 23, 3) := dec_row aX5_takeDraft 6 rfl
theorem dX5_takeDraft_13 : decode cX5_takeDraft 13 = .ok (.aload_n 0, 1) := dec_row aX5_takeDraft 7 rfl
theorem dX5_takeDraft_14 : decode cX5_takeDraft 14 = .ok (.aload_n 1, 1) := dec_row aX5_takeDraft 8 rfl
theorem dX5_takeDraft_15 : decode cX5_takeDraft 15 = .ok (.putfield 19, 3) := dec_row aX5_takeDraft 9 rfl
theorem dX5_takeDraft_18 : decode cX5_takeDraft 18 = .ok (.aload_n 0, 1) := dec_row aX5_takeDraft 10 rfl
theorem dX5_takeDraft_19 : decode cX5_takeDraft 19 = .ok (.getfield 40, 3) := dec_row aX5_takeDraft 11 rfl
theorem dX5_takeDraft_22 : decode cX5_takeDraft 22 = .ok (.aload_n 0, 1) := dec_row aX5_takeDraft 12 rfl
theorem dX5_takeDraft_23 : decode cX5_takeDraft 23 = .ok (.getfield 19, 3) := dec_row aX5_takeDraft 13 rfl
theorem dX5_takeDraft_26 : decode cX5_takeDraft 26 = .ok (.invokevirtual 90, 3) := dec_row aX5_takeDraft 14 rfl
theorem dX5_takeDraft_29 : decode cX5_takeDraft 29 = .ok (.aload_n 0, 1) := dec_row aX5_takeDraft 15 rfl
theorem dX5_takeDraft_30 : decode cX5_takeDraft 30 = .ok (.iconst 0, 1) := dec_row aX5_takeDraft 16 rfl
theorem dX5_takeDraft_31 : decode cX5_takeDraft 31 = .ok (.putfield 36, 3) := dec_row aX5_takeDraft 17 rfl
theorem dX5_takeDraft_34 : decode cX5_takeDraft 34 = .ok (.return_, 1) := dec_row aX5_takeDraft 18 rfl
def tX5_mould : List (Nat × Instr × Nat) := [(0, .iload_n 1, 1), (1, .invokestatic 94, 3), (4, .ifCond .ne 5, 3), (7, .iconst (-1), 1), (8, .ireturn, 1), (9, .iload_n 1, 1), (10, .iconst 1, 1), (11, .if_icmp .ne 10, 3), (14, .aload_n 0, 1), (15, .invokevirtual 97, 3), (18, .goto 7, 3), (21, .aload_n 0, 1), (22, .invokevirtual 100, 3), (25, .ireturn, 1)]
theorem aX5_mould : tX5_mould.all (fun q => decide (decode cX5_mould q.1 = .ok q.2)) = true := by decide +kernel
theorem dX5_mould_0 : decode cX5_mould 0 = .ok (.iload_n 1, 1) := dec_row aX5_mould 0 rfl
theorem dX5_mould_1 : decode cX5_mould 1 = .ok (.invokestatic 94, 3) := dec_row aX5_mould 1 rfl
theorem dX5_mould_4 : decode cX5_mould 4 = .ok (.ifCond .ne 5, 3) := dec_row aX5_mould 2 rfl
theorem dX5_mould_7 : decode cX5_mould 7 = .ok (.iconst (-1), 1) := dec_row aX5_mould 3 rfl
theorem dX5_mould_8 : decode cX5_mould 8 = .ok (.ireturn, 1) := dec_row aX5_mould 4 rfl
theorem dX5_mould_9 : decode cX5_mould 9 = .ok (.iload_n 1, 1) := dec_row aX5_mould 5 rfl
theorem dX5_mould_10 : decode cX5_mould 10 = .ok (.iconst 1, 1) := dec_row aX5_mould 6 rfl
theorem dX5_mould_11 : decode cX5_mould 11 = .ok (.if_icmp .ne 10, 3) := dec_row aX5_mould 7 rfl
theorem dX5_mould_14 : decode cX5_mould 14 = .ok (.aload_n 0, 1) := dec_row aX5_mould 8 rfl
theorem dX5_mould_15 : decode cX5_mould 15 = .ok (.invokevirtual 97, 3) := dec_row aX5_mould 9 rfl
theorem dX5_mould_18 : decode cX5_mould 18 = .ok (.goto 7, 3) := dec_row aX5_mould 10 rfl
theorem dX5_mould_21 : decode cX5_mould 21 = .ok (.aload_n 0, 1) := dec_row aX5_mould 11 rfl
theorem dX5_mould_22 : decode cX5_mould 22 = .ok (.invokevirtual 100, 3) := dec_row aX5_mould 12 rfl
theorem dX5_mould_25 : decode cX5_mould 25 = .ok (.ireturn, 1) := dec_row aX5_mould 13 rfl
def tX5_shutMould : List (Nat × Instr × Nat) := [(0, .aload_n 0, 1), (1, .getfield 40, 3), (4, .getfield 103, 3), (7, .ifCond .eq 6, 3), (10, .bipush (-2), 2), (12, .ireturn, 1), (13, .aload_n 0, 1), (14, .invokevirtual 107, 3), (17, .aload_n 0, 1), (18, .getfield 40, 3), (21, .iconst 1, 1), (22, .putfield 103, 3), (25, .iconst 0, 1), (26, .ireturn, 1)]
theorem aX5_shutMould : tX5_shutMould.all (fun q => decide (decode cX5_shutMould q.1 = .ok q.2)) = true := by decide +kernel
theorem dX5_shutMould_0 : decode cX5_shutMould 0 = .ok (.aload_n 0, 1) := dec_row aX5_shutMould 0 rfl
theorem dX5_shutMould_1 : decode cX5_shutMould 1 = .ok (.getfield 40, 3) := dec_row aX5_shutMould 1 rfl
theorem dX5_shutMould_4 : decode cX5_shutMould 4 = .ok (.getfield 103, 3) := dec_row aX5_shutMould 2 rfl
theorem dX5_shutMould_7 : decode cX5_shutMould 7 = .ok (.ifCond .eq 6, 3) := dec_row aX5_shutMould 3 rfl
theorem dX5_shutMould_10 : decode cX5_shutMould 10 = .ok (.bipush (-2), 2) := dec_row aX5_shutMould 4 rfl
theorem dX5_shutMould_12 : decode cX5_shutMould 12 = .ok (.ireturn, 1) := dec_row aX5_shutMould 5 rfl
theorem dX5_shutMould_13 : decode cX5_shutMould 13 = .ok (.aload_n 0, 1) := dec_row aX5_shutMould 6 rfl
theorem dX5_shutMould_14 : decode cX5_shutMould 14 = .ok (.invokevirtual 107, 3) := dec_row aX5_shutMould 7 rfl
theorem dX5_shutMould_17 : decode cX5_shutMould 17 = .ok (.aload_n 0, 1) := dec_row aX5_shutMould 8 rfl
theorem dX5_shutMould_18 : decode cX5_shutMould 18 = .ok (.getfield 40, 3) := dec_row aX5_shutMould 9 rfl
theorem dX5_shutMould_21 : decode cX5_shutMould 21 = .ok (.iconst 1, 1) := dec_row aX5_shutMould 10 rfl
theorem dX5_shutMould_22 : decode cX5_shutMould 22 = .ok (.putfield 103, 3) := dec_row aX5_shutMould 11 rfl
theorem dX5_shutMould_25 : decode cX5_shutMould 25 = .ok (.iconst 0, 1) := dec_row aX5_shutMould 12 rfl
theorem dX5_shutMould_26 : decode cX5_shutMould 26 = .ok (.ireturn, 1) := dec_row aX5_shutMould 13 rfl
def tX5_openMould : List (Nat × Instr × Nat) := [(0, .aload_n 0, 1), (1, .getfield 40, 3), (4, .getfield 103, 3), (7, .ifCond .eq 23, 3), (10, .aload_n 0, 1), (11, .getfield 40, 3), (14, .getfield 110, 3), (17, .ifCond .ne 13, 3), (20, .aload_n 0, 1), (21, .getfield 40, 3), (24, .getfield 113, 3), (27, .ifCond .eq 6, 3), (30, .bipush (-2), 2), (32, .ireturn, 1), (33, .aload_n 0, 1), (34, .getfield 40, 3), (37, .getfield 116, 3), (40, .ifCond .eq 7, 3), (43, .iconst 1, 1), (44, .goto 4, 3), (47, .iconst 0, 1), (48, .istore_n 1, 1), (49, .aload_n 0, 1), (50, .invokevirtual 107, 3), (53, .aload_n 0, 1), (54, .getfield 40, 3), (57, .iconst 0, 1), (58, .putfield 103, 3), (61, .aload_n 0, 1), (62, .getfield 40, 3), (65, .iconst 0, 1), (66, .putfield 116, 3), (69, .iload_n 1, 1), (70, .ireturn, 1)]
theorem aX5_openMould : tX5_openMould.all (fun q => decide (decode cX5_openMould q.1 = .ok q.2)) = true := by decide +kernel
theorem dX5_openMould_0 : decode cX5_openMould 0 = .ok (.aload_n 0, 1) := dec_row aX5_openMould 0 rfl
theorem dX5_openMould_1 : decode cX5_openMould 1 = .ok (.getfield 40, 3) := dec_row aX5_openMould 1 rfl
theorem dX5_openMould_4 : decode cX5_openMould 4 = .ok (.getfield 103, 3) := dec_row aX5_openMould 2 rfl
theorem dX5_openMould_7 : decode cX5_openMould 7 = .ok (.ifCond .eq 23, 3) := dec_row aX5_openMould 3 rfl
theorem dX5_openMould_10 : decode cX5_openMould 10 = .ok (.aload_n 0, 1) := dec_row aX5_openMould 4 rfl
theorem dX5_openMould_11 : decode cX5_openMould 11 = .ok (.getfield 40, 3) := dec_row aX5_openMould 5 rfl
theorem dX5_openMould_14 : decode cX5_openMould 14 = .ok (.getfield 110, 3) := dec_row aX5_openMould 6 rfl
theorem dX5_openMould_17 : decode cX5_openMould 17 = .ok (.ifCond .ne 13, 3) := dec_row aX5_openMould 7 rfl
theorem dX5_openMould_20 : decode cX5_openMould 20 = .ok (.aload_n 0, 1) := dec_row aX5_openMould 8 rfl
theorem dX5_openMould_21 : decode cX5_openMould 21 = .ok (.getfield 40, 3) := dec_row aX5_openMould 9 rfl
theorem dX5_openMould_24 : decode cX5_openMould 24 = .ok (.getfield 113, 3) := dec_row aX5_openMould 10 rfl
theorem dX5_openMould_27 : decode cX5_openMould 27 = .ok (.ifCond .eq 6, 3) := dec_row aX5_openMould 11 rfl
theorem dX5_openMould_30 : decode cX5_openMould 30 = .ok (.bipush (-2), 2) := dec_row aX5_openMould 12 rfl
theorem dX5_openMould_32 : decode cX5_openMould 32 = .ok (.ireturn, 1) := dec_row aX5_openMould 13 rfl
theorem dX5_openMould_33 : decode cX5_openMould 33 = .ok (.aload_n 0, 1) := dec_row aX5_openMould 14 rfl
theorem dX5_openMould_34 : decode cX5_openMould 34 = .ok (.getfield 40, 3) := dec_row aX5_openMould 15 rfl
theorem dX5_openMould_37 : decode cX5_openMould 37 = .ok (.getfield 116, 3) := dec_row aX5_openMould 16 rfl
theorem dX5_openMould_40 : decode cX5_openMould 40 = .ok (.ifCond .eq 7, 3) := dec_row aX5_openMould 17 rfl
theorem dX5_openMould_43 : decode cX5_openMould 43 = .ok (.iconst 1, 1) := dec_row aX5_openMould 18 rfl
theorem dX5_openMould_44 : decode cX5_openMould 44 = .ok (.goto 4, 3) := dec_row aX5_openMould 19 rfl
theorem dX5_openMould_47 : decode cX5_openMould 47 = .ok (.iconst 0, 1) := dec_row aX5_openMould 20 rfl
theorem dX5_openMould_48 : decode cX5_openMould 48 = .ok (.istore_n 1, 1) := dec_row aX5_openMould 21 rfl
theorem dX5_openMould_49 : decode cX5_openMould 49 = .ok (.aload_n 0, 1) := dec_row aX5_openMould 22 rfl
theorem dX5_openMould_50 : decode cX5_openMould 50 = .ok (.invokevirtual 107, 3) := dec_row aX5_openMould 23 rfl
theorem dX5_openMould_53 : decode cX5_openMould 53 = .ok (.aload_n 0, 1) := dec_row aX5_openMould 24 rfl
theorem dX5_openMould_54 : decode cX5_openMould 54 = .ok (.getfield 40, 3) := dec_row aX5_openMould 25 rfl
theorem dX5_openMould_57 : decode cX5_openMould 57 = .ok (.iconst 0, 1) := dec_row aX5_openMould 26 rfl
theorem dX5_openMould_58 : decode cX5_openMould 58 = .ok (.putfield 103, 3) := dec_row aX5_openMould 27 rfl
theorem dX5_openMould_61 : decode cX5_openMould 61 = .ok (.aload_n 0, 1) := dec_row aX5_openMould 28 rfl
theorem dX5_openMould_62 : decode cX5_openMould 62 = .ok (.getfield 40, 3) := dec_row aX5_openMould 29 rfl
theorem dX5_openMould_65 : decode cX5_openMould 65 = .ok (.iconst 0, 1) := dec_row aX5_openMould 30 rfl
theorem dX5_openMould_66 : decode cX5_openMould 66 = .ok (.putfield 116, 3) := dec_row aX5_openMould 31 rfl
theorem dX5_openMould_69 : decode cX5_openMould 69 = .ok (.iload_n 1, 1) := dec_row aX5_openMould 32 rfl
theorem dX5_openMould_70 : decode cX5_openMould 70 = .ok (.ireturn, 1) := dec_row aX5_openMould 33 rfl
def tX5_core : List (Nat × Instr × Nat) := [(0, .aload_n 0, 1), (1, .iload_n 1, 1), (2, .invokevirtual 119, 3), (5, .ifCond .eq 10, 3), (8, .iload_n 2, 1), (9, .invokestatic 94, 3), (12, .ifCond .ne 5, 3), (15, .iconst (-1), 1), (16, .ireturn, 1), (17, .aload_n 0, 1), (18, .iload_n 1, 1), (19, .iload_n 2, 1), (20, .invokevirtual 122, 3), (23, .ifCond .eq 6, 3), (26, .bipush (-2), 2), (28, .ireturn, 1), (29, .aload_n 0, 1), (30, .invokevirtual 107, 3), (33, .aload_n 0, 1), (34, .getfield 40, 3), (37, .dup, 1), (38, .getfield 110, 3), (41, .iconst 1, 1), (42, .iload_n 1, 1), (43, .ishl, 1), (44, .ixor, 1), (45, .putfield 110, 3), (48, .aload_n 0, 1), (49, .getfield 40, 3), (52, .getfield 110, 3), (55, .invokestatic 126, 3), (58, .ireturn, 1)]
theorem aX5_core : tX5_core.all (fun q => decide (decode cX5_core q.1 = .ok q.2)) = true := by decide +kernel
theorem dX5_core_0 : decode cX5_core 0 = .ok (.aload_n 0, 1) := dec_row aX5_core 0 rfl
theorem dX5_core_1 : decode cX5_core 1 = .ok (.iload_n 1, 1) := dec_row aX5_core 1 rfl
theorem dX5_core_2 : decode cX5_core 2 = .ok (.invokevirtual 119, 3) := dec_row aX5_core 2 rfl
theorem dX5_core_5 : decode cX5_core 5 = .ok (.ifCond .eq 10, 3) := dec_row aX5_core 3 rfl
theorem dX5_core_8 : decode cX5_core 8 = .ok (.iload_n 2, 1) := dec_row aX5_core 4 rfl
theorem dX5_core_9 : decode cX5_core 9 = .ok (.invokestatic 94, 3) := dec_row aX5_core 5 rfl
theorem dX5_core_12 : decode cX5_core 12 = .ok (.ifCond .ne 5, 3) := dec_row aX5_core 6 rfl
theorem dX5_core_15 : decode cX5_core 15 = .ok (.iconst (-1), 1) := dec_row aX5_core 7 rfl
theorem dX5_core_16 : decode cX5_core 16 = .ok (.ireturn, 1) := dec_row aX5_core 8 rfl
theorem dX5_core_17 : decode cX5_core 17 = .ok (.aload_n 0, 1) := dec_row aX5_core 9 rfl
theorem dX5_core_18 : decode cX5_core 18 = .ok (.iload_n 1, 1) := dec_row aX5_core 10 rfl
theorem dX5_core_19 : decode cX5_core 19 = .ok (.iload_n 2, 1) := dec_row aX5_core 11 rfl
theorem dX5_core_20 : decode cX5_core 20 = .ok (.invokevirtual 122, 3) := dec_row aX5_core 12 rfl
theorem dX5_core_23 : decode cX5_core 23 = .ok (.ifCond .eq 6, 3) := dec_row aX5_core 13 rfl
theorem dX5_core_26 : decode cX5_core 26 = .ok (.bipush (-2), 2) := dec_row aX5_core 14 rfl
theorem dX5_core_28 : decode cX5_core 28 = .ok (.ireturn, 1) := dec_row aX5_core 15 rfl
theorem dX5_core_29 : decode cX5_core 29 = .ok (.aload_n 0, 1) := dec_row aX5_core 16 rfl
theorem dX5_core_30 : decode cX5_core 30 = .ok (.invokevirtual 107, 3) := dec_row aX5_core 17 rfl
theorem dX5_core_33 : decode cX5_core 33 = .ok (.aload_n 0, 1) := dec_row aX5_core 18 rfl
theorem dX5_core_34 : decode cX5_core 34 = .ok (.getfield 40, 3) := dec_row aX5_core 19 rfl
theorem dX5_core_37 : decode cX5_core 37 = .ok (.dup, 1) := dec_row aX5_core 20 rfl
theorem dX5_core_38 : decode cX5_core 38 = .ok (.getfield 110, 3) := dec_row aX5_core 21 rfl
theorem dX5_core_41 : decode cX5_core 41 = .ok (.iconst 1, 1) := dec_row aX5_core 22 rfl
theorem dX5_core_42 : decode cX5_core 42 = .ok (.iload_n 1, 1) := dec_row aX5_core 23 rfl
theorem dX5_core_43 : decode cX5_core 43 = .ok (.ishl, 1) := dec_row aX5_core 24 rfl
theorem dX5_core_44 : decode cX5_core 44 = .ok (.ixor, 1) := dec_row aX5_core 25 rfl
theorem dX5_core_45 : decode cX5_core 45 = .ok (.putfield 110, 3) := dec_row aX5_core 26 rfl
theorem dX5_core_48 : decode cX5_core 48 = .ok (.aload_n 0, 1) := dec_row aX5_core 27 rfl
theorem dX5_core_49 : decode cX5_core 49 = .ok (.getfield 40, 3) := dec_row aX5_core 28 rfl
theorem dX5_core_52 : decode cX5_core 52 = .ok (.getfield 110, 3) := dec_row aX5_core 29 rfl
theorem dX5_core_55 : decode cX5_core 55 = .ok (.invokestatic 126, 3) := dec_row aX5_core 30 rfl
theorem dX5_core_58 : decode cX5_core 58 = .ok (.ireturn, 1) := dec_row aX5_core 31 rfl
def tX5_against : List (Nat × Instr × Nat) := [(0, .aload_n 0, 1), (1, .iload_n 1, 1), (2, .invokevirtual 119, 3), (5, .ifCond .eq 10, 3), (8, .iload_n 2, 1), (9, .invokestatic 94, 3), (12, .ifCond .ne 5, 3), (15, .iconst (-1), 1), (16, .ireturn, 1), (17, .aload_n 0, 1), (18, .iload_n 1, 1), (19, .iload_n 2, 1), (20, .invokevirtual 122, 3), (23, .ireturn, 1)]
theorem aX5_against : tX5_against.all (fun q => decide (decode cX5_against q.1 = .ok q.2)) = true := by decide +kernel
theorem dX5_against_0 : decode cX5_against 0 = .ok (.aload_n 0, 1) := dec_row aX5_against 0 rfl
theorem dX5_against_1 : decode cX5_against 1 = .ok (.iload_n 1, 1) := dec_row aX5_against 1 rfl
theorem dX5_against_2 : decode cX5_against 2 = .ok (.invokevirtual 119, 3) := dec_row aX5_against 2 rfl
theorem dX5_against_5 : decode cX5_against 5 = .ok (.ifCond .eq 10, 3) := dec_row aX5_against 3 rfl
theorem dX5_against_8 : decode cX5_against 8 = .ok (.iload_n 2, 1) := dec_row aX5_against 4 rfl
theorem dX5_against_9 : decode cX5_against 9 = .ok (.invokestatic 94, 3) := dec_row aX5_against 5 rfl
theorem dX5_against_12 : decode cX5_against 12 = .ok (.ifCond .ne 5, 3) := dec_row aX5_against 6 rfl
theorem dX5_against_15 : decode cX5_against 15 = .ok (.iconst (-1), 1) := dec_row aX5_against 7 rfl
theorem dX5_against_16 : decode cX5_against 16 = .ok (.ireturn, 1) := dec_row aX5_against 8 rfl
theorem dX5_against_17 : decode cX5_against 17 = .ok (.aload_n 0, 1) := dec_row aX5_against 9 rfl
theorem dX5_against_18 : decode cX5_against 18 = .ok (.iload_n 1, 1) := dec_row aX5_against 10 rfl
theorem dX5_against_19 : decode cX5_against 19 = .ok (.iload_n 2, 1) := dec_row aX5_against 11 rfl
theorem dX5_against_20 : decode cX5_against 20 = .ok (.invokevirtual 122, 3) := dec_row aX5_against 12 rfl
theorem dX5_against_23 : decode cX5_against 23 = .ok (.ireturn, 1) := dec_row aX5_against 13 rfl
def tX5_barrier_0 : List (Nat × Instr × Nat) := [(0, .iload_n 2, 1), (1, .iconst 1, 1), (2, .if_icmp .ne 7, 3), (5, .iconst 1, 1), (6, .goto 4, 3), (9, .iconst 0, 1), (10, .istore_n 3, 1), (11, .aload_n 0, 1), (12, .getfield 40, 3), (15, .iload_n 1, 1), (16, .invokevirtual 132, 3), (19, .iload_n 3, 1), (20, .if_icmp .ne 5, 3), (23, .iconst 1, 1), (24, .ireturn, 1), (25, .aload_n 0, 1), (26, .getfield 40, 3), (29, .getfield 103, 3), (32, .ifCond .ne 5, 3), (35, .iconst 2, 1), (36, .ireturn, 1), (37, .iload_n 3, 1), (38, .ifCond .eq 16, 3), (41, .aload_n 0, 1), (42, .getfield 40, 3), (45, .getfield 116, 3), (48, .ifCond .eq 18, 3), (51, .goto 13, 3), (54, .aload_n 0, 1), (55, .getfield 40, 3), (58, .getfield 113, 3), (61, .ifCond .eq 5, 3), (64, .iconst 3, 1), (65, .ireturn, 1), (66, .iload_n 3, 1), (67, .ifCond .eq 11, 3), (70, .aload_n 0, 1), (71, .iload_n 1, 1), (72, .invokevirtual 135, 3), (75, .goto 8, 3), (78, .aload_n 0, 1), (79, .iload_n 1, 1), (80, .invokevirtual 138, 3), (83, .istore 4, 2), (85, .iload 4, 2), (87, .bipush 9, 2), (89, .if_icmp .ne 7, 3), (92, .iconst 0, 1), (93, .goto 7, 3), (96, .iconst 4, 1)]
theorem aX5_barrier_0 : tX5_barrier_0.all (fun q => decide (decode cX5_barrier q.1 = .ok q.2)) = true := by decide +kernel
theorem dX5_barrier_0 : decode cX5_barrier 0 = .ok (.iload_n 2, 1) := dec_row aX5_barrier_0 0 rfl
theorem dX5_barrier_1 : decode cX5_barrier 1 = .ok (.iconst 1, 1) := dec_row aX5_barrier_0 1 rfl
theorem dX5_barrier_2 : decode cX5_barrier 2 = .ok (.if_icmp .ne 7, 3) := dec_row aX5_barrier_0 2 rfl
theorem dX5_barrier_5 : decode cX5_barrier 5 = .ok (.iconst 1, 1) := dec_row aX5_barrier_0 3 rfl
theorem dX5_barrier_6 : decode cX5_barrier 6 = .ok (.goto 4, 3) := dec_row aX5_barrier_0 4 rfl
theorem dX5_barrier_9 : decode cX5_barrier 9 = .ok (.iconst 0, 1) := dec_row aX5_barrier_0 5 rfl
theorem dX5_barrier_10 : decode cX5_barrier 10 = .ok (.istore_n 3, 1) := dec_row aX5_barrier_0 6 rfl
theorem dX5_barrier_11 : decode cX5_barrier 11 = .ok (.aload_n 0, 1) := dec_row aX5_barrier_0 7 rfl
theorem dX5_barrier_12 : decode cX5_barrier 12 = .ok (.getfield 40, 3) := dec_row aX5_barrier_0 8 rfl
theorem dX5_barrier_15 : decode cX5_barrier 15 = .ok (.iload_n 1, 1) := dec_row aX5_barrier_0 9 rfl
theorem dX5_barrier_16 : decode cX5_barrier 16 = .ok (.invokevirtual 132, 3) := dec_row aX5_barrier_0 10 rfl
theorem dX5_barrier_19 : decode cX5_barrier 19 = .ok (.iload_n 3, 1) := dec_row aX5_barrier_0 11 rfl
theorem dX5_barrier_20 : decode cX5_barrier 20 = .ok (.if_icmp .ne 5, 3) := dec_row aX5_barrier_0 12 rfl
theorem dX5_barrier_23 : decode cX5_barrier 23 = .ok (.iconst 1, 1) := dec_row aX5_barrier_0 13 rfl
theorem dX5_barrier_24 : decode cX5_barrier 24 = .ok (.ireturn, 1) := dec_row aX5_barrier_0 14 rfl
theorem dX5_barrier_25 : decode cX5_barrier 25 = .ok (.aload_n 0, 1) := dec_row aX5_barrier_0 15 rfl
theorem dX5_barrier_26 : decode cX5_barrier 26 = .ok (.getfield 40, 3) := dec_row aX5_barrier_0 16 rfl
theorem dX5_barrier_29 : decode cX5_barrier 29 = .ok (.getfield 103, 3) := dec_row aX5_barrier_0 17 rfl
theorem dX5_barrier_32 : decode cX5_barrier 32 = .ok (.ifCond .ne 5, 3) := dec_row aX5_barrier_0 18 rfl
theorem dX5_barrier_35 : decode cX5_barrier 35 = .ok (.iconst 2, 1) := dec_row aX5_barrier_0 19 rfl
theorem dX5_barrier_36 : decode cX5_barrier 36 = .ok (.ireturn, 1) := dec_row aX5_barrier_0 20 rfl
theorem dX5_barrier_37 : decode cX5_barrier 37 = .ok (.iload_n 3, 1) := dec_row aX5_barrier_0 21 rfl
theorem dX5_barrier_38 : decode cX5_barrier 38 = .ok (.ifCond .eq 16, 3) := dec_row aX5_barrier_0 22 rfl
theorem dX5_barrier_41 : decode cX5_barrier 41 = .ok (.aload_n 0, 1) := dec_row aX5_barrier_0 23 rfl
theorem dX5_barrier_42 : decode cX5_barrier 42 = .ok (.getfield 40, 3) := dec_row aX5_barrier_0 24 rfl
theorem dX5_barrier_45 : decode cX5_barrier 45 = .ok (.getfield 116, 3) := dec_row aX5_barrier_0 25 rfl
theorem dX5_barrier_48 : decode cX5_barrier 48 = .ok (.ifCond .eq 18, 3) := dec_row aX5_barrier_0 26 rfl
theorem dX5_barrier_51 : decode cX5_barrier 51 = .ok (.goto 13, 3) := dec_row aX5_barrier_0 27 rfl
theorem dX5_barrier_54 : decode cX5_barrier 54 = .ok (.aload_n 0, 1) := dec_row aX5_barrier_0 28 rfl
theorem dX5_barrier_55 : decode cX5_barrier 55 = .ok (.getfield 40, 3) := dec_row aX5_barrier_0 29 rfl
theorem dX5_barrier_58 : decode cX5_barrier 58 = .ok (.getfield 113, 3) := dec_row aX5_barrier_0 30 rfl
theorem dX5_barrier_61 : decode cX5_barrier 61 = .ok (.ifCond .eq 5, 3) := dec_row aX5_barrier_0 31 rfl
theorem dX5_barrier_64 : decode cX5_barrier 64 = .ok (.iconst 3, 1) := dec_row aX5_barrier_0 32 rfl
theorem dX5_barrier_65 : decode cX5_barrier 65 = .ok (.ireturn, 1) := dec_row aX5_barrier_0 33 rfl
theorem dX5_barrier_66 : decode cX5_barrier 66 = .ok (.iload_n 3, 1) := dec_row aX5_barrier_0 34 rfl
theorem dX5_barrier_67 : decode cX5_barrier 67 = .ok (.ifCond .eq 11, 3) := dec_row aX5_barrier_0 35 rfl
theorem dX5_barrier_70 : decode cX5_barrier 70 = .ok (.aload_n 0, 1) := dec_row aX5_barrier_0 36 rfl
theorem dX5_barrier_71 : decode cX5_barrier 71 = .ok (.iload_n 1, 1) := dec_row aX5_barrier_0 37 rfl
theorem dX5_barrier_72 : decode cX5_barrier 72 = .ok (.invokevirtual 135, 3) := dec_row aX5_barrier_0 38 rfl
theorem dX5_barrier_75 : decode cX5_barrier 75 = .ok (.goto 8, 3) := dec_row aX5_barrier_0 39 rfl
theorem dX5_barrier_78 : decode cX5_barrier 78 = .ok (.aload_n 0, 1) := dec_row aX5_barrier_0 40 rfl
theorem dX5_barrier_79 : decode cX5_barrier 79 = .ok (.iload_n 1, 1) := dec_row aX5_barrier_0 41 rfl
theorem dX5_barrier_80 : decode cX5_barrier 80 = .ok (.invokevirtual 138, 3) := dec_row aX5_barrier_0 42 rfl
theorem dX5_barrier_83 : decode cX5_barrier 83 = .ok (.istore 4, 2) := dec_row aX5_barrier_0 43 rfl
theorem dX5_barrier_85 : decode cX5_barrier 85 = .ok (.iload 4, 2) := dec_row aX5_barrier_0 44 rfl
theorem dX5_barrier_87 : decode cX5_barrier 87 = .ok (.bipush 9, 2) := dec_row aX5_barrier_0 45 rfl
theorem dX5_barrier_89 : decode cX5_barrier 89 = .ok (.if_icmp .ne 7, 3) := dec_row aX5_barrier_0 46 rfl
theorem dX5_barrier_92 : decode cX5_barrier 92 = .ok (.iconst 0, 1) := dec_row aX5_barrier_0 47 rfl
theorem dX5_barrier_93 : decode cX5_barrier 93 = .ok (.goto 7, 3) := dec_row aX5_barrier_0 48 rfl
theorem dX5_barrier_96 : decode cX5_barrier 96 = .ok (.iconst 4, 1) := dec_row aX5_barrier_0 49 rfl
def tX5_barrier_1 : List (Nat × Instr × Nat) := [(97, .iload 4, 2), (99, .iadd, 1), (100, .ireturn, 1)]
theorem aX5_barrier_1 : tX5_barrier_1.all (fun q => decide (decode cX5_barrier q.1 = .ok q.2)) = true := by decide +kernel
theorem dX5_barrier_97 : decode cX5_barrier 97 = .ok (.iload 4, 2) := dec_row aX5_barrier_1 0 rfl
theorem dX5_barrier_99 : decode cX5_barrier 99 = .ok (.iadd, 1) := dec_row aX5_barrier_1 1 rfl
theorem dX5_barrier_100 : decode cX5_barrier 100 = .ok (.ireturn, 1) := dec_row aX5_barrier_1 2 rfl
def tX5_outAheadOf : List (Nat × Instr × Nat) := [(0, .aload_n 0, 1), (1, .getfield 19, 3), (4, .getfield 141, 3), (7, .iload_n 1, 1), (8, .iaload, 1), (9, .istore_n 2, 1), (10, .aload_n 0, 1), (11, .iload_n 2, 1), (12, .invokevirtual 119, 3), (15, .ifCond .eq 18, 3), (18, .aload_n 0, 1), (19, .getfield 40, 3), (22, .iload_n 2, 1), (23, .invokevirtual 132, 3), (26, .ifCond .ne 7, 3), (29, .iload_n 2, 1), (30, .goto 5, 3), (33, .bipush 9, 2), (35, .ireturn, 1)]
theorem aX5_outAheadOf : tX5_outAheadOf.all (fun q => decide (decode cX5_outAheadOf q.1 = .ok q.2)) = true := by decide +kernel
theorem dX5_outAheadOf_0 : decode cX5_outAheadOf 0 = .ok (.aload_n 0, 1) := dec_row aX5_outAheadOf 0 rfl
theorem dX5_outAheadOf_1 : decode cX5_outAheadOf 1 = .ok (.getfield 19, 3) := dec_row aX5_outAheadOf 1 rfl
theorem dX5_outAheadOf_4 : decode cX5_outAheadOf 4 = .ok (.getfield 141, 3) := dec_row aX5_outAheadOf 2 rfl
theorem dX5_outAheadOf_7 : decode cX5_outAheadOf 7 = .ok (.iload_n 1, 1) := dec_row aX5_outAheadOf 3 rfl
theorem dX5_outAheadOf_8 : decode cX5_outAheadOf 8 = .ok (.iaload, 1) := dec_row aX5_outAheadOf 4 rfl
theorem dX5_outAheadOf_9 : decode cX5_outAheadOf 9 = .ok (.istore_n 2, 1) := dec_row aX5_outAheadOf 5 rfl
theorem dX5_outAheadOf_10 : decode cX5_outAheadOf 10 = .ok (.aload_n 0, 1) := dec_row aX5_outAheadOf 6 rfl
theorem dX5_outAheadOf_11 : decode cX5_outAheadOf 11 = .ok (.iload_n 2, 1) := dec_row aX5_outAheadOf 7 rfl
theorem dX5_outAheadOf_12 : decode cX5_outAheadOf 12 = .ok (.invokevirtual 119, 3) := dec_row aX5_outAheadOf 8 rfl
theorem dX5_outAheadOf_15 : decode cX5_outAheadOf 15 = .ok (.ifCond .eq 18, 3) := dec_row aX5_outAheadOf 9 rfl
theorem dX5_outAheadOf_18 : decode cX5_outAheadOf 18 = .ok (.aload_n 0, 1) := dec_row aX5_outAheadOf 10 rfl
theorem dX5_outAheadOf_19 : decode cX5_outAheadOf 19 = .ok (.getfield 40, 3) := dec_row aX5_outAheadOf 11 rfl
theorem dX5_outAheadOf_22 : decode cX5_outAheadOf 22 = .ok (.iload_n 2, 1) := dec_row aX5_outAheadOf 12 rfl
theorem dX5_outAheadOf_23 : decode cX5_outAheadOf 23 = .ok (.invokevirtual 132, 3) := dec_row aX5_outAheadOf 13 rfl
theorem dX5_outAheadOf_26 : decode cX5_outAheadOf 26 = .ok (.ifCond .ne 7, 3) := dec_row aX5_outAheadOf 14 rfl
theorem dX5_outAheadOf_29 : decode cX5_outAheadOf 29 = .ok (.iload_n 2, 1) := dec_row aX5_outAheadOf 15 rfl
theorem dX5_outAheadOf_30 : decode cX5_outAheadOf 30 = .ok (.goto 5, 3) := dec_row aX5_outAheadOf 16 rfl
theorem dX5_outAheadOf_33 : decode cX5_outAheadOf 33 = .ok (.bipush 9, 2) := dec_row aX5_outAheadOf 17 rfl
theorem dX5_outAheadOf_35 : decode cX5_outAheadOf 35 = .ok (.ireturn, 1) := dec_row aX5_outAheadOf 18 rfl
def tX5_inBehind : List (Nat × Instr × Nat) := [(0, .iconst 0, 1), (1, .istore_n 2, 1), (2, .iload_n 2, 1), (3, .aload_n 0, 1), (4, .getfield 19, 3), (7, .getfield 145, 3), (10, .if_icmp .ge 35, 3), (13, .aload_n 0, 1), (14, .getfield 19, 3), (17, .getfield 141, 3), (20, .iload_n 2, 1), (21, .iaload, 1), (22, .iload_n 1, 1), (23, .if_icmp .ne 16, 3), (26, .aload_n 0, 1), (27, .getfield 40, 3), (30, .iload_n 2, 1), (31, .invokevirtual 132, 3), (34, .ifCond .eq 5, 3), (37, .iload_n 2, 1), (38, .ireturn, 1), (39, .iinc 2 1, 3), (42, .goto (-40), 3), (45, .bipush 9, 2), (47, .ireturn, 1)]
theorem aX5_inBehind : tX5_inBehind.all (fun q => decide (decode cX5_inBehind q.1 = .ok q.2)) = true := by decide +kernel
theorem dX5_inBehind_0 : decode cX5_inBehind 0 = .ok (.iconst 0, 1) := dec_row aX5_inBehind 0 rfl
theorem dX5_inBehind_1 : decode cX5_inBehind 1 = .ok (.istore_n 2, 1) := dec_row aX5_inBehind 1 rfl
theorem dX5_inBehind_2 : decode cX5_inBehind 2 = .ok (.iload_n 2, 1) := dec_row aX5_inBehind 2 rfl
theorem dX5_inBehind_3 : decode cX5_inBehind 3 = .ok (.aload_n 0, 1) := dec_row aX5_inBehind 3 rfl
theorem dX5_inBehind_4 : decode cX5_inBehind 4 = .ok (.getfield 19, 3) := dec_row aX5_inBehind 4 rfl
theorem dX5_inBehind_7 : decode cX5_inBehind 7 = .ok (.getfield 145, 3) := dec_row aX5_inBehind 5 rfl
theorem dX5_inBehind_10 : decode cX5_inBehind 10 = .ok (.if_icmp .ge 35, 3) := dec_row aX5_inBehind 6 rfl
theorem dX5_inBehind_13 : decode cX5_inBehind 13 = .ok (.aload_n 0, 1) := dec_row aX5_inBehind 7 rfl
theorem dX5_inBehind_14 : decode cX5_inBehind 14 = .ok (.getfield 19, 3) := dec_row aX5_inBehind 8 rfl
theorem dX5_inBehind_17 : decode cX5_inBehind 17 = .ok (.getfield 141, 3) := dec_row aX5_inBehind 9 rfl
theorem dX5_inBehind_20 : decode cX5_inBehind 20 = .ok (.iload_n 2, 1) := dec_row aX5_inBehind 10 rfl
theorem dX5_inBehind_21 : decode cX5_inBehind 21 = .ok (.iaload, 1) := dec_row aX5_inBehind 11 rfl
theorem dX5_inBehind_22 : decode cX5_inBehind 22 = .ok (.iload_n 1, 1) := dec_row aX5_inBehind 12 rfl
theorem dX5_inBehind_23 : decode cX5_inBehind 23 = .ok (.if_icmp .ne 16, 3) := dec_row aX5_inBehind 13 rfl
theorem dX5_inBehind_26 : decode cX5_inBehind 26 = .ok (.aload_n 0, 1) := dec_row aX5_inBehind 14 rfl
theorem dX5_inBehind_27 : decode cX5_inBehind 27 = .ok (.getfield 40, 3) := dec_row aX5_inBehind 15 rfl
theorem dX5_inBehind_30 : decode cX5_inBehind 30 = .ok (.iload_n 2, 1) := dec_row aX5_inBehind 16 rfl
theorem dX5_inBehind_31 : decode cX5_inBehind 31 = .ok (.invokevirtual 132, 3) := dec_row aX5_inBehind 17 rfl
theorem dX5_inBehind_34 : decode cX5_inBehind 34 = .ok (.ifCond .eq 5, 3) := dec_row aX5_inBehind 18 rfl
theorem dX5_inBehind_37 : decode cX5_inBehind 37 = .ok (.iload_n 2, 1) := dec_row aX5_inBehind 19 rfl
theorem dX5_inBehind_38 : decode cX5_inBehind 38 = .ok (.ireturn, 1) := dec_row aX5_inBehind 20 rfl
theorem dX5_inBehind_39 : decode cX5_inBehind 39 = .ok (.iinc 2 1, 3) := dec_row aX5_inBehind 21 rfl
theorem dX5_inBehind_42 : decode cX5_inBehind 42 = .ok (.goto (-40), 3) := dec_row aX5_inBehind 22 rfl
theorem dX5_inBehind_45 : decode cX5_inBehind 45 = .ok (.bipush 9, 2) := dec_row aX5_inBehind 23 rfl
theorem dX5_inBehind_47 : decode cX5_inBehind 47 = .ok (.ireturn, 1) := dec_row aX5_inBehind 24 rfl
def tX5_drag : List (Nat × Instr × Nat) := [(0, .aload_n 0, 1), (1, .iload_n 1, 1), (2, .invokevirtual 148, 3), (5, .ifCond .eq 14, 3), (8, .iload_n 2, 1), (9, .iconst 1, 1), (10, .if_icmp .lt 9, 3), (13, .iload_n 2, 1), (14, .bipush 9, 2), (16, .if_icmp .le 5, 3), (19, .iconst (-1), 1), (20, .ireturn, 1), (21, .aload_n 0, 1), (22, .getfield 40, 3), (25, .getfield 151, 3), (28, .iload_n 1, 1), (29, .iaload, 1), (30, .istore_n 3, 1), (31, .iload_n 3, 1), (32, .iload_n 2, 1), (33, .if_icmp .ne 6, 3), (36, .bipush (-2), 2), (38, .ireturn, 1), (39, .aload_n 0, 1), (40, .invokevirtual 107, 3), (43, .aload_n 0, 1), (44, .getfield 40, 3), (47, .getfield 151, 3), (50, .iload_n 1, 1), (51, .iload_n 2, 1), (52, .iastore, 1), (53, .iload_n 3, 1), (54, .ireturn, 1)]
theorem aX5_drag : tX5_drag.all (fun q => decide (decode cX5_drag q.1 = .ok q.2)) = true := by decide +kernel
theorem dX5_drag_0 : decode cX5_drag 0 = .ok (.aload_n 0, 1) := dec_row aX5_drag 0 rfl
theorem dX5_drag_1 : decode cX5_drag 1 = .ok (.iload_n 1, 1) := dec_row aX5_drag 1 rfl
theorem dX5_drag_2 : decode cX5_drag 2 = .ok (.invokevirtual 148, 3) := dec_row aX5_drag 2 rfl
theorem dX5_drag_5 : decode cX5_drag 5 = .ok (.ifCond .eq 14, 3) := dec_row aX5_drag 3 rfl
theorem dX5_drag_8 : decode cX5_drag 8 = .ok (.iload_n 2, 1) := dec_row aX5_drag 4 rfl
theorem dX5_drag_9 : decode cX5_drag 9 = .ok (.iconst 1, 1) := dec_row aX5_drag 5 rfl
theorem dX5_drag_10 : decode cX5_drag 10 = .ok (.if_icmp .lt 9, 3) := dec_row aX5_drag 6 rfl
theorem dX5_drag_13 : decode cX5_drag 13 = .ok (.iload_n 2, 1) := dec_row aX5_drag 7 rfl
theorem dX5_drag_14 : decode cX5_drag 14 = .ok (.bipush 9, 2) := dec_row aX5_drag 8 rfl
theorem dX5_drag_16 : decode cX5_drag 16 = .ok (.if_icmp .le 5, 3) := dec_row aX5_drag 9 rfl
theorem dX5_drag_19 : decode cX5_drag 19 = .ok (.iconst (-1), 1) := dec_row aX5_drag 10 rfl
theorem dX5_drag_20 : decode cX5_drag 20 = .ok (.ireturn, 1) := dec_row aX5_drag 11 rfl
theorem dX5_drag_21 : decode cX5_drag 21 = .ok (.aload_n 0, 1) := dec_row aX5_drag 12 rfl
theorem dX5_drag_22 : decode cX5_drag 22 = .ok (.getfield 40, 3) := dec_row aX5_drag 13 rfl
theorem dX5_drag_25 : decode cX5_drag 25 = .ok (.getfield 151, 3) := dec_row aX5_drag 14 rfl
theorem dX5_drag_28 : decode cX5_drag 28 = .ok (.iload_n 1, 1) := dec_row aX5_drag 15 rfl
theorem dX5_drag_29 : decode cX5_drag 29 = .ok (.iaload, 1) := dec_row aX5_drag 16 rfl
theorem dX5_drag_30 : decode cX5_drag 30 = .ok (.istore_n 3, 1) := dec_row aX5_drag 17 rfl
theorem dX5_drag_31 : decode cX5_drag 31 = .ok (.iload_n 3, 1) := dec_row aX5_drag 18 rfl
theorem dX5_drag_32 : decode cX5_drag 32 = .ok (.iload_n 2, 1) := dec_row aX5_drag 19 rfl
theorem dX5_drag_33 : decode cX5_drag 33 = .ok (.if_icmp .ne 6, 3) := dec_row aX5_drag 20 rfl
theorem dX5_drag_36 : decode cX5_drag 36 = .ok (.bipush (-2), 2) := dec_row aX5_drag 21 rfl
theorem dX5_drag_38 : decode cX5_drag 38 = .ok (.ireturn, 1) := dec_row aX5_drag 22 rfl
theorem dX5_drag_39 : decode cX5_drag 39 = .ok (.aload_n 0, 1) := dec_row aX5_drag 23 rfl
theorem dX5_drag_40 : decode cX5_drag 40 = .ok (.invokevirtual 107, 3) := dec_row aX5_drag 24 rfl
theorem dX5_drag_43 : decode cX5_drag 43 = .ok (.aload_n 0, 1) := dec_row aX5_drag 25 rfl
theorem dX5_drag_44 : decode cX5_drag 44 = .ok (.getfield 40, 3) := dec_row aX5_drag 26 rfl
theorem dX5_drag_47 : decode cX5_drag 47 = .ok (.getfield 151, 3) := dec_row aX5_drag 27 rfl
theorem dX5_drag_50 : decode cX5_drag 50 = .ok (.iload_n 1, 1) := dec_row aX5_drag 28 rfl
theorem dX5_drag_51 : decode cX5_drag 51 = .ok (.iload_n 2, 1) := dec_row aX5_drag 29 rfl
theorem dX5_drag_52 : decode cX5_drag 52 = .ok (.iastore, 1) := dec_row aX5_drag 30 rfl
theorem dX5_drag_53 : decode cX5_drag 53 = .ok (.iload_n 3, 1) := dec_row aX5_drag 31 rfl
theorem dX5_drag_54 : decode cX5_drag 54 = .ok (.ireturn, 1) := dec_row aX5_drag 32 rfl
def tX5_speed : List (Nat × Instr × Nat) := [(0, .iload_n 1, 1), (1, .ifCond .lt 25, 3), (4, .iload_n 1, 1), (5, .aload_n 0, 1), (6, .getfield 19, 3), (9, .getfield 154, 3), (12, .if_icmp .ge 14, 3), (15, .iload_n 2, 1), (16, .iconst 1, 1), (17, .if_icmp .lt 9, 3), (20, .iload_n 2, 1), (21, .bipush 9, 2), (23, .if_icmp .le 5, 3), (26, .iconst (-1), 1), (27, .ireturn, 1), (28, .aload_n 0, 1), (29, .getfield 40, 3), (32, .getfield 157, 3), (35, .iload_n 1, 1), (36, .iaload, 1), (37, .istore_n 3, 1), (38, .iload_n 3, 1), (39, .iload_n 2, 1), (40, .if_icmp .ne 6, 3), (43, .bipush (-2), 2), (45, .ireturn, 1), (46, .aload_n 0, 1), (47, .invokevirtual 107, 3), (50, .aload_n 0, 1), (51, .getfield 40, 3), (54, .getfield 157, 3), (57, .iload_n 1, 1), (58, .iload_n 2, 1), (59, .iastore, 1), (60, .iload_n 3, 1), (61, .ireturn, 1)]
theorem aX5_speed : tX5_speed.all (fun q => decide (decode cX5_speed q.1 = .ok q.2)) = true := by decide +kernel
theorem dX5_speed_0 : decode cX5_speed 0 = .ok (.iload_n 1, 1) := dec_row aX5_speed 0 rfl
theorem dX5_speed_1 : decode cX5_speed 1 = .ok (.ifCond .lt 25, 3) := dec_row aX5_speed 1 rfl
theorem dX5_speed_4 : decode cX5_speed 4 = .ok (.iload_n 1, 1) := dec_row aX5_speed 2 rfl
theorem dX5_speed_5 : decode cX5_speed 5 = .ok (.aload_n 0, 1) := dec_row aX5_speed 3 rfl
theorem dX5_speed_6 : decode cX5_speed 6 = .ok (.getfield 19, 3) := dec_row aX5_speed 4 rfl
theorem dX5_speed_9 : decode cX5_speed 9 = .ok (.getfield 154, 3) := dec_row aX5_speed 5 rfl
theorem dX5_speed_12 : decode cX5_speed 12 = .ok (.if_icmp .ge 14, 3) := dec_row aX5_speed 6 rfl
theorem dX5_speed_15 : decode cX5_speed 15 = .ok (.iload_n 2, 1) := dec_row aX5_speed 7 rfl
theorem dX5_speed_16 : decode cX5_speed 16 = .ok (.iconst 1, 1) := dec_row aX5_speed 8 rfl
theorem dX5_speed_17 : decode cX5_speed 17 = .ok (.if_icmp .lt 9, 3) := dec_row aX5_speed 9 rfl
theorem dX5_speed_20 : decode cX5_speed 20 = .ok (.iload_n 2, 1) := dec_row aX5_speed 10 rfl
theorem dX5_speed_21 : decode cX5_speed 21 = .ok (.bipush 9, 2) := dec_row aX5_speed 11 rfl
theorem dX5_speed_23 : decode cX5_speed 23 = .ok (.if_icmp .le 5, 3) := dec_row aX5_speed 12 rfl
theorem dX5_speed_26 : decode cX5_speed 26 = .ok (.iconst (-1), 1) := dec_row aX5_speed 13 rfl
theorem dX5_speed_27 : decode cX5_speed 27 = .ok (.ireturn, 1) := dec_row aX5_speed 14 rfl
theorem dX5_speed_28 : decode cX5_speed 28 = .ok (.aload_n 0, 1) := dec_row aX5_speed 15 rfl
theorem dX5_speed_29 : decode cX5_speed 29 = .ok (.getfield 40, 3) := dec_row aX5_speed 16 rfl
theorem dX5_speed_32 : decode cX5_speed 32 = .ok (.getfield 157, 3) := dec_row aX5_speed 17 rfl
theorem dX5_speed_35 : decode cX5_speed 35 = .ok (.iload_n 1, 1) := dec_row aX5_speed 18 rfl
theorem dX5_speed_36 : decode cX5_speed 36 = .ok (.iaload, 1) := dec_row aX5_speed 19 rfl
theorem dX5_speed_37 : decode cX5_speed 37 = .ok (.istore_n 3, 1) := dec_row aX5_speed 20 rfl
theorem dX5_speed_38 : decode cX5_speed 38 = .ok (.iload_n 3, 1) := dec_row aX5_speed 21 rfl
theorem dX5_speed_39 : decode cX5_speed 39 = .ok (.iload_n 2, 1) := dec_row aX5_speed 22 rfl
theorem dX5_speed_40 : decode cX5_speed 40 = .ok (.if_icmp .ne 6, 3) := dec_row aX5_speed 23 rfl
theorem dX5_speed_43 : decode cX5_speed 43 = .ok (.bipush (-2), 2) := dec_row aX5_speed 24 rfl
theorem dX5_speed_45 : decode cX5_speed 45 = .ok (.ireturn, 1) := dec_row aX5_speed 25 rfl
theorem dX5_speed_46 : decode cX5_speed 46 = .ok (.aload_n 0, 1) := dec_row aX5_speed 26 rfl
theorem dX5_speed_47 : decode cX5_speed 47 = .ok (.invokevirtual 107, 3) := dec_row aX5_speed 27 rfl
theorem dX5_speed_50 : decode cX5_speed 50 = .ok (.aload_n 0, 1) := dec_row aX5_speed 28 rfl
theorem dX5_speed_51 : decode cX5_speed 51 = .ok (.getfield 40, 3) := dec_row aX5_speed 29 rfl
theorem dX5_speed_54 : decode cX5_speed 54 = .ok (.getfield 157, 3) := dec_row aX5_speed 30 rfl
theorem dX5_speed_57 : decode cX5_speed 57 = .ok (.iload_n 1, 1) := dec_row aX5_speed 31 rfl
theorem dX5_speed_58 : decode cX5_speed 58 = .ok (.iload_n 2, 1) := dec_row aX5_speed 32 rfl
theorem dX5_speed_59 : decode cX5_speed 59 = .ok (.iastore, 1) := dec_row aX5_speed 33 rfl
theorem dX5_speed_60 : decode cX5_speed 60 = .ok (.iload_n 3, 1) := dec_row aX5_speed 34 rfl
theorem dX5_speed_61 : decode cX5_speed 61 = .ok (.ireturn, 1) := dec_row aX5_speed 35 rfl
def tX5_tell : List (Nat × Instr × Nat) := [(0, .iload_n 1, 1), (1, .ifCond .lt 27, 3), (4, .iload_n 1, 1), (5, .bipush 6, 2), (7, .if_icmp .ge 21, 3), (10, .iload_n 2, 1), (11, .getstatic 160, 3), (14, .iload_n 1, 1), (15, .iaload, 1), (16, .if_icmp .lt 12, 3), (19, .iload_n 2, 1), (20, .getstatic 163, 3), (23, .iload_n 1, 1), (24, .iaload, 1), (25, .if_icmp .le 5, 3), (28, .iconst (-1), 1), (29, .ireturn, 1), (30, .aload_n 0, 1), (31, .getfield 40, 3), (34, .getfield 166, 3), (37, .iload_n 1, 1), (38, .iaload, 1), (39, .istore_n 3, 1), (40, .iload_n 3, 1), (41, .iload_n 2, 1), (42, .if_icmp .ne 6, 3), (45, .bipush (-2), 2), (47, .ireturn, 1), (48, .aload_n 0, 1), (49, .invokevirtual 107, 3), (52, .aload_n 0, 1), (53, .getfield 40, 3), (56, .getfield 166, 3), (59, .iload_n 1, 1), (60, .iload_n 2, 1), (61, .iastore, 1), (62, .iload_n 3, 1), (63, .ireturn, 1)]
theorem aX5_tell : tX5_tell.all (fun q => decide (decode cX5_tell q.1 = .ok q.2)) = true := by decide +kernel
theorem dX5_tell_0 : decode cX5_tell 0 = .ok (.iload_n 1, 1) := dec_row aX5_tell 0 rfl
theorem dX5_tell_1 : decode cX5_tell 1 = .ok (.ifCond .lt 27, 3) := dec_row aX5_tell 1 rfl
theorem dX5_tell_4 : decode cX5_tell 4 = .ok (.iload_n 1, 1) := dec_row aX5_tell 2 rfl
theorem dX5_tell_5 : decode cX5_tell 5 = .ok (.bipush 6, 2) := dec_row aX5_tell 3 rfl
theorem dX5_tell_7 : decode cX5_tell 7 = .ok (.if_icmp .ge 21, 3) := dec_row aX5_tell 4 rfl
theorem dX5_tell_10 : decode cX5_tell 10 = .ok (.iload_n 2, 1) := dec_row aX5_tell 5 rfl
theorem dX5_tell_11 : decode cX5_tell 11 = .ok (.getstatic 160, 3) := dec_row aX5_tell 6 rfl
theorem dX5_tell_14 : decode cX5_tell 14 = .ok (.iload_n 1, 1) := dec_row aX5_tell 7 rfl
theorem dX5_tell_15 : decode cX5_tell 15 = .ok (.iaload, 1) := dec_row aX5_tell 8 rfl
theorem dX5_tell_16 : decode cX5_tell 16 = .ok (.if_icmp .lt 12, 3) := dec_row aX5_tell 9 rfl
theorem dX5_tell_19 : decode cX5_tell 19 = .ok (.iload_n 2, 1) := dec_row aX5_tell 10 rfl
theorem dX5_tell_20 : decode cX5_tell 20 = .ok (.getstatic 163, 3) := dec_row aX5_tell 11 rfl
theorem dX5_tell_23 : decode cX5_tell 23 = .ok (.iload_n 1, 1) := dec_row aX5_tell 12 rfl
theorem dX5_tell_24 : decode cX5_tell 24 = .ok (.iaload, 1) := dec_row aX5_tell 13 rfl
theorem dX5_tell_25 : decode cX5_tell 25 = .ok (.if_icmp .le 5, 3) := dec_row aX5_tell 14 rfl
theorem dX5_tell_28 : decode cX5_tell 28 = .ok (.iconst (-1), 1) := dec_row aX5_tell 15 rfl
theorem dX5_tell_29 : decode cX5_tell 29 = .ok (.ireturn, 1) := dec_row aX5_tell 16 rfl
theorem dX5_tell_30 : decode cX5_tell 30 = .ok (.aload_n 0, 1) := dec_row aX5_tell 17 rfl
theorem dX5_tell_31 : decode cX5_tell 31 = .ok (.getfield 40, 3) := dec_row aX5_tell 18 rfl
theorem dX5_tell_34 : decode cX5_tell 34 = .ok (.getfield 166, 3) := dec_row aX5_tell 19 rfl
theorem dX5_tell_37 : decode cX5_tell 37 = .ok (.iload_n 1, 1) := dec_row aX5_tell 20 rfl
theorem dX5_tell_38 : decode cX5_tell 38 = .ok (.iaload, 1) := dec_row aX5_tell 21 rfl
theorem dX5_tell_39 : decode cX5_tell 39 = .ok (.istore_n 3, 1) := dec_row aX5_tell 22 rfl
theorem dX5_tell_40 : decode cX5_tell 40 = .ok (.iload_n 3, 1) := dec_row aX5_tell 23 rfl
theorem dX5_tell_41 : decode cX5_tell 41 = .ok (.iload_n 2, 1) := dec_row aX5_tell 24 rfl
theorem dX5_tell_42 : decode cX5_tell 42 = .ok (.if_icmp .ne 6, 3) := dec_row aX5_tell 25 rfl
theorem dX5_tell_45 : decode cX5_tell 45 = .ok (.bipush (-2), 2) := dec_row aX5_tell 26 rfl
theorem dX5_tell_47 : decode cX5_tell 47 = .ok (.ireturn, 1) := dec_row aX5_tell 27 rfl
theorem dX5_tell_48 : decode cX5_tell 48 = .ok (.aload_n 0, 1) := dec_row aX5_tell 28 rfl
theorem dX5_tell_49 : decode cX5_tell 49 = .ok (.invokevirtual 107, 3) := dec_row aX5_tell 29 rfl
theorem dX5_tell_52 : decode cX5_tell 52 = .ok (.aload_n 0, 1) := dec_row aX5_tell 30 rfl
theorem dX5_tell_53 : decode cX5_tell 53 = .ok (.getfield 40, 3) := dec_row aX5_tell 31 rfl
theorem dX5_tell_56 : decode cX5_tell 56 = .ok (.getfield 166, 3) := dec_row aX5_tell 32 rfl
theorem dX5_tell_59 : decode cX5_tell 59 = .ok (.iload_n 1, 1) := dec_row aX5_tell 33 rfl
theorem dX5_tell_60 : decode cX5_tell 60 = .ok (.iload_n 2, 1) := dec_row aX5_tell 34 rfl
theorem dX5_tell_61 : decode cX5_tell 61 = .ok (.iastore, 1) := dec_row aX5_tell 35 rfl
theorem dX5_tell_62 : decode cX5_tell 62 = .ok (.iload_n 3, 1) := dec_row aX5_tell 36 rfl
theorem dX5_tell_63 : decode cX5_tell 63 = .ok (.ireturn, 1) := dec_row aX5_tell 37 rfl
def tX5_shoot : List (Nat × Instr × Nat) := [(0, .aload_n 0, 1), (1, .invokevirtual 169, 3), (4, .ifCond .eq 13, 3), (7, .aload_n 0, 1), (8, .getfield 40, 3), (11, .getfield 116, 3), (14, .ifCond .eq 6, 3), (17, .bipush (-2), 2), (19, .ireturn, 1), (20, .aload_n 0, 1), (21, .invokevirtual 107, 3), (24, .aload_n 0, 1), (25, .getfield 46, 3), (28, .aload_n 0, 1), (29, .getfield 40, 3), (32, .getfield 172, 3), (35, .bipush 16, 2), (37, .irem, 1), (38, .aaload, 1), (39, .astore_n 1, 1), (40, .aload_n 1, 1), (41, .aload_n 0, 1), (42, .getfield 19, 3), (45, .aload_n 0, 1), (46, .getfield 40, 3), (49, .iconst 0, 1), (50, .invokevirtual 175, 3), (53, .aload_n 0, 1), (54, .getfield 40, 3), (57, .dup, 1), (58, .getfield 172, 3), (61, .iconst 1, 1), (62, .iadd, 1), (63, .putfield 172, 3), (66, .aload_n 0, 1), (67, .getfield 40, 3), (70, .iconst 1, 1), (71, .putfield 116, 3), (74, .aload_n 0, 1), (75, .getfield 40, 3), (78, .iconst 1, 1), (79, .putfield 113, 3), (82, .aload_n 1, 1), (83, .invokevirtual 179, 3), (86, .ireturn, 1)]
theorem aX5_shoot : tX5_shoot.all (fun q => decide (decode cX5_shoot q.1 = .ok q.2)) = true := by decide +kernel
theorem dX5_shoot_0 : decode cX5_shoot 0 = .ok (.aload_n 0, 1) := dec_row aX5_shoot 0 rfl
theorem dX5_shoot_1 : decode cX5_shoot 1 = .ok (.invokevirtual 169, 3) := dec_row aX5_shoot 1 rfl
theorem dX5_shoot_4 : decode cX5_shoot 4 = .ok (.ifCond .eq 13, 3) := dec_row aX5_shoot 2 rfl
theorem dX5_shoot_7 : decode cX5_shoot 7 = .ok (.aload_n 0, 1) := dec_row aX5_shoot 3 rfl
theorem dX5_shoot_8 : decode cX5_shoot 8 = .ok (.getfield 40, 3) := dec_row aX5_shoot 4 rfl
theorem dX5_shoot_11 : decode cX5_shoot 11 = .ok (.getfield 116, 3) := dec_row aX5_shoot 5 rfl
theorem dX5_shoot_14 : decode cX5_shoot 14 = .ok (.ifCond .eq 6, 3) := dec_row aX5_shoot 6 rfl
theorem dX5_shoot_17 : decode cX5_shoot 17 = .ok (.bipush (-2), 2) := dec_row aX5_shoot 7 rfl
theorem dX5_shoot_19 : decode cX5_shoot 19 = .ok (.ireturn, 1) := dec_row aX5_shoot 8 rfl
theorem dX5_shoot_20 : decode cX5_shoot 20 = .ok (.aload_n 0, 1) := dec_row aX5_shoot 9 rfl
theorem dX5_shoot_21 : decode cX5_shoot 21 = .ok (.invokevirtual 107, 3) := dec_row aX5_shoot 10 rfl
theorem dX5_shoot_24 : decode cX5_shoot 24 = .ok (.aload_n 0, 1) := dec_row aX5_shoot 11 rfl
theorem dX5_shoot_25 : decode cX5_shoot 25 = .ok (.getfield 46, 3) := dec_row aX5_shoot 12 rfl
theorem dX5_shoot_28 : decode cX5_shoot 28 = .ok (.aload_n 0, 1) := dec_row aX5_shoot 13 rfl
theorem dX5_shoot_29 : decode cX5_shoot 29 = .ok (.getfield 40, 3) := dec_row aX5_shoot 14 rfl
theorem dX5_shoot_32 : decode cX5_shoot 32 = .ok (.getfield 172, 3) := dec_row aX5_shoot 15 rfl
theorem dX5_shoot_35 : decode cX5_shoot 35 = .ok (.bipush 16, 2) := dec_row aX5_shoot 16 rfl
theorem dX5_shoot_37 : decode cX5_shoot 37 = .ok (.irem, 1) := dec_row aX5_shoot 17 rfl
theorem dX5_shoot_38 : decode cX5_shoot 38 = .ok (.aaload, 1) := dec_row aX5_shoot 18 rfl
theorem dX5_shoot_39 : decode cX5_shoot 39 = .ok (.astore_n 1, 1) := dec_row aX5_shoot 19 rfl
theorem dX5_shoot_40 : decode cX5_shoot 40 = .ok (.aload_n 1, 1) := dec_row aX5_shoot 20 rfl
theorem dX5_shoot_41 : decode cX5_shoot 41 = .ok (.aload_n 0, 1) := dec_row aX5_shoot 21 rfl
theorem dX5_shoot_42 : decode cX5_shoot 42 = .ok (.getfield 19, 3) := dec_row aX5_shoot 22 rfl
theorem dX5_shoot_45 : decode cX5_shoot 45 = .ok (.aload_n 0, 1) := dec_row aX5_shoot 23 rfl
theorem dX5_shoot_46 : decode cX5_shoot 46 = .ok (.getfield 40, 3) := dec_row aX5_shoot 24 rfl
theorem dX5_shoot_49 : decode cX5_shoot 49 = .ok (.iconst 0, 1) := dec_row aX5_shoot 25 rfl
theorem dX5_shoot_50 : decode cX5_shoot 50 = .ok (.invokevirtual 175, 3) := dec_row aX5_shoot 26 rfl
theorem dX5_shoot_53 : decode cX5_shoot 53 = .ok (.aload_n 0, 1) := dec_row aX5_shoot 27 rfl
theorem dX5_shoot_54 : decode cX5_shoot 54 = .ok (.getfield 40, 3) := dec_row aX5_shoot 28 rfl
theorem dX5_shoot_57 : decode cX5_shoot 57 = .ok (.dup, 1) := dec_row aX5_shoot 29 rfl
theorem dX5_shoot_58 : decode cX5_shoot 58 = .ok (.getfield 172, 3) := dec_row aX5_shoot 30 rfl
theorem dX5_shoot_61 : decode cX5_shoot 61 = .ok (.iconst 1, 1) := dec_row aX5_shoot 31 rfl
theorem dX5_shoot_62 : decode cX5_shoot 62 = .ok (.iadd, 1) := dec_row aX5_shoot 32 rfl
theorem dX5_shoot_63 : decode cX5_shoot 63 = .ok (.putfield 172, 3) := dec_row aX5_shoot 33 rfl
theorem dX5_shoot_66 : decode cX5_shoot 66 = .ok (.aload_n 0, 1) := dec_row aX5_shoot 34 rfl
theorem dX5_shoot_67 : decode cX5_shoot 67 = .ok (.getfield 40, 3) := dec_row aX5_shoot 35 rfl
theorem dX5_shoot_70 : decode cX5_shoot 70 = .ok (.iconst 1, 1) := dec_row aX5_shoot 36 rfl
theorem dX5_shoot_71 : decode cX5_shoot 71 = .ok (.putfield 116, 3) := dec_row aX5_shoot 37 rfl
theorem dX5_shoot_74 : decode cX5_shoot 74 = .ok (.aload_n 0, 1) := dec_row aX5_shoot 38 rfl
theorem dX5_shoot_75 : decode cX5_shoot 75 = .ok (.getfield 40, 3) := dec_row aX5_shoot 39 rfl
theorem dX5_shoot_78 : decode cX5_shoot 78 = .ok (.iconst 1, 1) := dec_row aX5_shoot 40 rfl
theorem dX5_shoot_79 : decode cX5_shoot 79 = .ok (.putfield 113, 3) := dec_row aX5_shoot 41 rfl
theorem dX5_shoot_82 : decode cX5_shoot 82 = .ok (.aload_n 1, 1) := dec_row aX5_shoot 42 rfl
theorem dX5_shoot_83 : decode cX5_shoot 83 = .ok (.invokevirtual 179, 3) := dec_row aX5_shoot 43 rfl
theorem dX5_shoot_86 : decode cX5_shoot 86 = .ok (.ireturn, 1) := dec_row aX5_shoot 44 rfl
def tX5_waitCool : List (Nat × Instr × Nat) := [(0, .aload_n 0, 1), (1, .getfield 40, 3), (4, .getfield 113, 3), (7, .ifCond .ne 6, 3), (10, .bipush (-2), 2), (12, .ireturn, 1), (13, .aload_n 0, 1), (14, .invokevirtual 107, 3), (17, .aload_n 0, 1), (18, .getfield 40, 3), (21, .iconst 0, 1), (22, .putfield 113, 3), (25, .aload_n 0, 1), (26, .aload_n 0, 1), (27, .invokevirtual 182, 3), (30, .iconst 1, 1), (31, .isub, 1), (32, .invokevirtual 185, 3), (35, .getfield 189, 3), (38, .ireturn, 1)]
theorem aX5_waitCool : tX5_waitCool.all (fun q => decide (decode cX5_waitCool q.1 = .ok q.2)) = true := by decide +kernel
theorem dX5_waitCool_0 : decode cX5_waitCool 0 = .ok (.aload_n 0, 1) := dec_row aX5_waitCool 0 rfl
theorem dX5_waitCool_1 : decode cX5_waitCool 1 = .ok (.getfield 40, 3) := dec_row aX5_waitCool 1 rfl
theorem dX5_waitCool_4 : decode cX5_waitCool 4 = .ok (.getfield 113, 3) := dec_row aX5_waitCool 2 rfl
theorem dX5_waitCool_7 : decode cX5_waitCool 7 = .ok (.ifCond .ne 6, 3) := dec_row aX5_waitCool 3 rfl
theorem dX5_waitCool_10 : decode cX5_waitCool 10 = .ok (.bipush (-2), 2) := dec_row aX5_waitCool 4 rfl
theorem dX5_waitCool_12 : decode cX5_waitCool 12 = .ok (.ireturn, 1) := dec_row aX5_waitCool 5 rfl
theorem dX5_waitCool_13 : decode cX5_waitCool 13 = .ok (.aload_n 0, 1) := dec_row aX5_waitCool 6 rfl
theorem dX5_waitCool_14 : decode cX5_waitCool 14 = .ok (.invokevirtual 107, 3) := dec_row aX5_waitCool 7 rfl
theorem dX5_waitCool_17 : decode cX5_waitCool 17 = .ok (.aload_n 0, 1) := dec_row aX5_waitCool 8 rfl
theorem dX5_waitCool_18 : decode cX5_waitCool 18 = .ok (.getfield 40, 3) := dec_row aX5_waitCool 9 rfl
theorem dX5_waitCool_21 : decode cX5_waitCool 21 = .ok (.iconst 0, 1) := dec_row aX5_waitCool 10 rfl
theorem dX5_waitCool_22 : decode cX5_waitCool 22 = .ok (.putfield 113, 3) := dec_row aX5_waitCool 11 rfl
theorem dX5_waitCool_25 : decode cX5_waitCool 25 = .ok (.aload_n 0, 1) := dec_row aX5_waitCool 12 rfl
theorem dX5_waitCool_26 : decode cX5_waitCool 26 = .ok (.aload_n 0, 1) := dec_row aX5_waitCool 13 rfl
theorem dX5_waitCool_27 : decode cX5_waitCool 27 = .ok (.invokevirtual 182, 3) := dec_row aX5_waitCool 14 rfl
theorem dX5_waitCool_30 : decode cX5_waitCool 30 = .ok (.iconst 1, 1) := dec_row aX5_waitCool 15 rfl
theorem dX5_waitCool_31 : decode cX5_waitCool 31 = .ok (.isub, 1) := dec_row aX5_waitCool 16 rfl
theorem dX5_waitCool_32 : decode cX5_waitCool 32 = .ok (.invokevirtual 185, 3) := dec_row aX5_waitCool 17 rfl
theorem dX5_waitCool_35 : decode cX5_waitCool 35 = .ok (.getfield 189, 3) := dec_row aX5_waitCool 18 rfl
theorem dX5_waitCool_38 : decode cX5_waitCool 38 = .ok (.ireturn, 1) := dec_row aX5_waitCool 19 rfl
def tX5_undo : List (Nat × Instr × Nat) := [(0, .aload_n 0, 1), (1, .getfield 36, 3), (4, .ifCond .ne 6, 3), (7, .bipush (-2), 2), (9, .ireturn, 1), (10, .aload_n 0, 1), (11, .dup, 1), (12, .getfield 36, 3), (15, .iconst 1, 1), (16, .isub, 1), (17, .putfield 36, 3), (20, .aload_n 0, 1), (21, .aload_n 0, 1), (22, .getfield 32, 3), (25, .iconst 5, 1), (26, .iadd, 1), (27, .iconst 1, 1), (28, .isub, 1), (29, .iconst 5, 1), (30, .irem, 1), (31, .putfield 32, 3), (34, .aload_n 0, 1), (35, .aload_n 0, 1), (36, .getfield 28, 3), (39, .aload_n 0, 1), (40, .getfield 32, 3), (43, .aaload, 1), (44, .putfield 40, 3), (47, .aload_n 0, 1), (48, .getfield 36, 3), (51, .ireturn, 1)]
theorem aX5_undo : tX5_undo.all (fun q => decide (decode cX5_undo q.1 = .ok q.2)) = true := by decide +kernel
theorem dX5_undo_0 : decode cX5_undo 0 = .ok (.aload_n 0, 1) := dec_row aX5_undo 0 rfl
theorem dX5_undo_1 : decode cX5_undo 1 = .ok (.getfield 36, 3) := dec_row aX5_undo 1 rfl
theorem dX5_undo_4 : decode cX5_undo 4 = .ok (.ifCond .ne 6, 3) := dec_row aX5_undo 2 rfl
theorem dX5_undo_7 : decode cX5_undo 7 = .ok (.bipush (-2), 2) := dec_row aX5_undo 3 rfl
theorem dX5_undo_9 : decode cX5_undo 9 = .ok (.ireturn, 1) := dec_row aX5_undo 4 rfl
theorem dX5_undo_10 : decode cX5_undo 10 = .ok (.aload_n 0, 1) := dec_row aX5_undo 5 rfl
theorem dX5_undo_11 : decode cX5_undo 11 = .ok (.dup, 1) := dec_row aX5_undo 6 rfl
theorem dX5_undo_12 : decode cX5_undo 12 = .ok (.getfield 36, 3) := dec_row aX5_undo 7 rfl
theorem dX5_undo_15 : decode cX5_undo 15 = .ok (.iconst 1, 1) := dec_row aX5_undo 8 rfl
theorem dX5_undo_16 : decode cX5_undo 16 = .ok (.isub, 1) := dec_row aX5_undo 9 rfl
theorem dX5_undo_17 : decode cX5_undo 17 = .ok (.putfield 36, 3) := dec_row aX5_undo 10 rfl
theorem dX5_undo_20 : decode cX5_undo 20 = .ok (.aload_n 0, 1) := dec_row aX5_undo 11 rfl
theorem dX5_undo_21 : decode cX5_undo 21 = .ok (.aload_n 0, 1) := dec_row aX5_undo 12 rfl
theorem dX5_undo_22 : decode cX5_undo 22 = .ok (.getfield 32, 3) := dec_row aX5_undo 13 rfl
theorem dX5_undo_25 : decode cX5_undo 25 = .ok (.iconst 5, 1) := dec_row aX5_undo 14 rfl
theorem dX5_undo_26 : decode cX5_undo 26 = .ok (.iadd, 1) := dec_row aX5_undo 15 rfl
theorem dX5_undo_27 : decode cX5_undo 27 = .ok (.iconst 1, 1) := dec_row aX5_undo 16 rfl
theorem dX5_undo_28 : decode cX5_undo 28 = .ok (.isub, 1) := dec_row aX5_undo 17 rfl
theorem dX5_undo_29 : decode cX5_undo 29 = .ok (.iconst 5, 1) := dec_row aX5_undo 18 rfl
theorem dX5_undo_30 : decode cX5_undo 30 = .ok (.irem, 1) := dec_row aX5_undo 19 rfl
theorem dX5_undo_31 : decode cX5_undo 31 = .ok (.putfield 32, 3) := dec_row aX5_undo 20 rfl
theorem dX5_undo_34 : decode cX5_undo 34 = .ok (.aload_n 0, 1) := dec_row aX5_undo 21 rfl
theorem dX5_undo_35 : decode cX5_undo 35 = .ok (.aload_n 0, 1) := dec_row aX5_undo 22 rfl
theorem dX5_undo_36 : decode cX5_undo 36 = .ok (.getfield 28, 3) := dec_row aX5_undo 23 rfl
theorem dX5_undo_39 : decode cX5_undo 39 = .ok (.aload_n 0, 1) := dec_row aX5_undo 24 rfl
theorem dX5_undo_40 : decode cX5_undo 40 = .ok (.getfield 32, 3) := dec_row aX5_undo 25 rfl
theorem dX5_undo_43 : decode cX5_undo 43 = .ok (.aaload, 1) := dec_row aX5_undo 26 rfl
theorem dX5_undo_44 : decode cX5_undo 44 = .ok (.putfield 40, 3) := dec_row aX5_undo 27 rfl
theorem dX5_undo_47 : decode cX5_undo 47 = .ok (.aload_n 0, 1) := dec_row aX5_undo 28 rfl
theorem dX5_undo_48 : decode cX5_undo 48 = .ok (.getfield 36, 3) := dec_row aX5_undo 29 rfl
theorem dX5_undo_51 : decode cX5_undo 51 = .ok (.ireturn, 1) := dec_row aX5_undo 30 rfl
def tX5_startChange : List (Nat × Instr × Nat) := [(0, .aload_n 0, 1), (1, .aload_n 0, 1), (2, .getfield 32, 3), (5, .iconst 1, 1), (6, .iadd, 1), (7, .iconst 5, 1), (8, .irem, 1), (9, .putfield 32, 3), (12, .aload_n 0, 1), (13, .getfield 28, 3), (16, .aload_n 0, 1), (17, .getfield 32, 3), (20, .aaload, 1), (21, .aload_n 0, 1), (22, .getfield 40, 3), (25, .invokevirtual 192, 3), (28, .aload_n 0, 1), (29, .aload_n 0, 1), (30, .getfield 28, 3), (33, .aload_n 0, 1), (34, .getfield 32, 3), (37, .aaload, 1), (38, .putfield 40, 3), (41, .aload_n 0, 1), (42, .aload_n 0, 1), (43, .getfield 36, 3), (46, .iconst 1, 1), (47, .iadd, 1), (48, .iconst 4, 1), (49, .invokestatic 196, 3), (52, .putfield 36, 3), (55, .return_, 1)]
theorem aX5_startChange : tX5_startChange.all (fun q => decide (decode cX5_startChange q.1 = .ok q.2)) = true := by decide +kernel
theorem dX5_startChange_0 : decode cX5_startChange 0 = .ok (.aload_n 0, 1) := dec_row aX5_startChange 0 rfl
theorem dX5_startChange_1 : decode cX5_startChange 1 = .ok (.aload_n 0, 1) := dec_row aX5_startChange 1 rfl
theorem dX5_startChange_2 : decode cX5_startChange 2 = .ok (.getfield 32, 3) := dec_row aX5_startChange 2 rfl
theorem dX5_startChange_5 : decode cX5_startChange 5 = .ok (.iconst 1, 1) := dec_row aX5_startChange 3 rfl
theorem dX5_startChange_6 : decode cX5_startChange 6 = .ok (.iadd, 1) := dec_row aX5_startChange 4 rfl
theorem dX5_startChange_7 : decode cX5_startChange 7 = .ok (.iconst 5, 1) := dec_row aX5_startChange 5 rfl
theorem dX5_startChange_8 : decode cX5_startChange 8 = .ok (.irem, 1) := dec_row aX5_startChange 6 rfl
theorem dX5_startChange_9 : decode cX5_startChange 9 = .ok (.putfield 32, 3) := dec_row aX5_startChange 7 rfl
theorem dX5_startChange_12 : decode cX5_startChange 12 = .ok (.aload_n 0, 1) := dec_row aX5_startChange 8 rfl
theorem dX5_startChange_13 : decode cX5_startChange 13 = .ok (.getfield 28, 3) := dec_row aX5_startChange 9 rfl
theorem dX5_startChange_16 : decode cX5_startChange 16 = .ok (.aload_n 0, 1) := dec_row aX5_startChange 10 rfl
theorem dX5_startChange_17 : decode cX5_startChange 17 = .ok (.getfield 32, 3) := dec_row aX5_startChange 11 rfl
theorem dX5_startChange_20 : decode cX5_startChange 20 = .ok (.aaload, 1) := dec_row aX5_startChange 12 rfl
theorem dX5_startChange_21 : decode cX5_startChange 21 = .ok (.aload_n 0, 1) := dec_row aX5_startChange 13 rfl
theorem dX5_startChange_22 : decode cX5_startChange 22 = .ok (.getfield 40, 3) := dec_row aX5_startChange 14 rfl
theorem dX5_startChange_25 : decode cX5_startChange 25 = .ok (.invokevirtual 192, 3) := dec_row aX5_startChange 15 rfl
theorem dX5_startChange_28 : decode cX5_startChange 28 = .ok (.aload_n 0, 1) := dec_row aX5_startChange 16 rfl
theorem dX5_startChange_29 : decode cX5_startChange 29 = .ok (.aload_n 0, 1) := dec_row aX5_startChange 17 rfl
theorem dX5_startChange_30 : decode cX5_startChange 30 = .ok (.getfield 28, 3) := dec_row aX5_startChange 18 rfl
theorem dX5_startChange_33 : decode cX5_startChange 33 = .ok (.aload_n 0, 1) := dec_row aX5_startChange 19 rfl
theorem dX5_startChange_34 : decode cX5_startChange 34 = .ok (.getfield 32, 3) := dec_row aX5_startChange 20 rfl
theorem dX5_startChange_37 : decode cX5_startChange 37 = .ok (.aaload, 1) := dec_row aX5_startChange 21 rfl
theorem dX5_startChange_38 : decode cX5_startChange 38 = .ok (.putfield 40, 3) := dec_row aX5_startChange 22 rfl
theorem dX5_startChange_41 : decode cX5_startChange 41 = .ok (.aload_n 0, 1) := dec_row aX5_startChange 23 rfl
theorem dX5_startChange_42 : decode cX5_startChange 42 = .ok (.aload_n 0, 1) := dec_row aX5_startChange 24 rfl
theorem dX5_startChange_43 : decode cX5_startChange 43 = .ok (.getfield 36, 3) := dec_row aX5_startChange 25 rfl
theorem dX5_startChange_46 : decode cX5_startChange 46 = .ok (.iconst 1, 1) := dec_row aX5_startChange 26 rfl
theorem dX5_startChange_47 : decode cX5_startChange 47 = .ok (.iadd, 1) := dec_row aX5_startChange 27 rfl
theorem dX5_startChange_48 : decode cX5_startChange 48 = .ok (.iconst 4, 1) := dec_row aX5_startChange 28 rfl
theorem dX5_startChange_49 : decode cX5_startChange 49 = .ok (.invokestatic 196, 3) := dec_row aX5_startChange 29 rfl
theorem dX5_startChange_52 : decode cX5_startChange 52 = .ok (.putfield 36, 3) := dec_row aX5_startChange 30 rfl
theorem dX5_startChange_55 : decode cX5_startChange 55 = .ok (.return_, 1) := dec_row aX5_startChange 31 rfl
def tX5_teach : List (Nat × Instr × Nat) := [(0, .aload_n 0, 1), (1, .iload_n 1, 1), (2, .invokevirtual 201, 3), (5, .ifCond .ne 5, 3), (8, .iconst (-1), 1), (9, .ireturn, 1), (10, .aload_n 0, 1), (11, .iload_n 1, 1), (12, .invokevirtual 185, 3), (15, .astore_n 2, 1), (16, .aload_n 2, 1), (17, .aload_n 0, 1), (18, .getfield 19, 3), (21, .invokevirtual 204, 3), (24, .ifCond .eq 6, 3), (27, .bipush (-2), 2), (29, .ireturn, 1), (30, .aload_n 0, 1), (31, .invokevirtual 107, 3), (34, .aload_n 0, 1), (35, .getfield 40, 3), (38, .getfield 208, 3), (41, .aload_n 2, 1), (42, .invokevirtual 212, 3), (45, .aload_n 0, 1), (46, .getfield 40, 3), (49, .getfield 208, 3), (52, .getfield 218, 3), (55, .ireturn, 1)]
theorem aX5_teach : tX5_teach.all (fun q => decide (decode cX5_teach q.1 = .ok q.2)) = true := by decide +kernel
theorem dX5_teach_0 : decode cX5_teach 0 = .ok (.aload_n 0, 1) := dec_row aX5_teach 0 rfl
theorem dX5_teach_1 : decode cX5_teach 1 = .ok (.iload_n 1, 1) := dec_row aX5_teach 1 rfl
theorem dX5_teach_2 : decode cX5_teach 2 = .ok (.invokevirtual 201, 3) := dec_row aX5_teach 2 rfl
theorem dX5_teach_5 : decode cX5_teach 5 = .ok (.ifCond .ne 5, 3) := dec_row aX5_teach 3 rfl
theorem dX5_teach_8 : decode cX5_teach 8 = .ok (.iconst (-1), 1) := dec_row aX5_teach 4 rfl
theorem dX5_teach_9 : decode cX5_teach 9 = .ok (.ireturn, 1) := dec_row aX5_teach 5 rfl
theorem dX5_teach_10 : decode cX5_teach 10 = .ok (.aload_n 0, 1) := dec_row aX5_teach 6 rfl
theorem dX5_teach_11 : decode cX5_teach 11 = .ok (.iload_n 1, 1) := dec_row aX5_teach 7 rfl
theorem dX5_teach_12 : decode cX5_teach 12 = .ok (.invokevirtual 185, 3) := dec_row aX5_teach 8 rfl
theorem dX5_teach_15 : decode cX5_teach 15 = .ok (.astore_n 2, 1) := dec_row aX5_teach 9 rfl
theorem dX5_teach_16 : decode cX5_teach 16 = .ok (.aload_n 2, 1) := dec_row aX5_teach 10 rfl
theorem dX5_teach_17 : decode cX5_teach 17 = .ok (.aload_n 0, 1) := dec_row aX5_teach 11 rfl
theorem dX5_teach_18 : decode cX5_teach 18 = .ok (.getfield 19, 3) := dec_row aX5_teach 12 rfl
theorem dX5_teach_21 : decode cX5_teach 21 = .ok (.invokevirtual 204, 3) := dec_row aX5_teach 13 rfl
theorem dX5_teach_24 : decode cX5_teach 24 = .ok (.ifCond .eq 6, 3) := dec_row aX5_teach 14 rfl
theorem dX5_teach_27 : decode cX5_teach 27 = .ok (.bipush (-2), 2) := dec_row aX5_teach 15 rfl
theorem dX5_teach_29 : decode cX5_teach 29 = .ok (.ireturn, 1) := dec_row aX5_teach 16 rfl
theorem dX5_teach_30 : decode cX5_teach 30 = .ok (.aload_n 0, 1) := dec_row aX5_teach 17 rfl
theorem dX5_teach_31 : decode cX5_teach 31 = .ok (.invokevirtual 107, 3) := dec_row aX5_teach 18 rfl
theorem dX5_teach_34 : decode cX5_teach 34 = .ok (.aload_n 0, 1) := dec_row aX5_teach 19 rfl
theorem dX5_teach_35 : decode cX5_teach 35 = .ok (.getfield 40, 3) := dec_row aX5_teach 20 rfl
theorem dX5_teach_38 : decode cX5_teach 38 = .ok (.getfield 208, 3) := dec_row aX5_teach 21 rfl
theorem dX5_teach_41 : decode cX5_teach 41 = .ok (.aload_n 2, 1) := dec_row aX5_teach 22 rfl
theorem dX5_teach_42 : decode cX5_teach 42 = .ok (.invokevirtual 212, 3) := dec_row aX5_teach 23 rfl
theorem dX5_teach_45 : decode cX5_teach 45 = .ok (.aload_n 0, 1) := dec_row aX5_teach 24 rfl
theorem dX5_teach_46 : decode cX5_teach 46 = .ok (.getfield 40, 3) := dec_row aX5_teach 25 rfl
theorem dX5_teach_49 : decode cX5_teach 49 = .ok (.getfield 208, 3) := dec_row aX5_teach 26 rfl
theorem dX5_teach_52 : decode cX5_teach 52 = .ok (.getfield 218, 3) := dec_row aX5_teach 27 rfl
theorem dX5_teach_55 : decode cX5_teach 55 = .ok (.ireturn, 1) := dec_row aX5_teach 28 rfl
def tX5_forget : List (Nat × Instr × Nat) := [(0, .aload_n 0, 1), (1, .getfield 40, 3), (4, .getfield 208, 3), (7, .getfield 218, 3), (10, .istore_n 1, 1), (11, .iload_n 1, 1), (12, .ifCond .ne 6, 3), (15, .bipush (-2), 2), (17, .ireturn, 1), (18, .aload_n 0, 1), (19, .invokevirtual 107, 3), (22, .aload_n 0, 1), (23, .getfield 40, 3), (26, .getfield 208, 3), (29, .invokevirtual 221, 3), (32, .iload_n 1, 1), (33, .ireturn, 1)]
theorem aX5_forget : tX5_forget.all (fun q => decide (decode cX5_forget q.1 = .ok q.2)) = true := by decide +kernel
theorem dX5_forget_0 : decode cX5_forget 0 = .ok (.aload_n 0, 1) := dec_row aX5_forget 0 rfl
theorem dX5_forget_1 : decode cX5_forget 1 = .ok (.getfield 40, 3) := dec_row aX5_forget 1 rfl
theorem dX5_forget_4 : decode cX5_forget 4 = .ok (.getfield 208, 3) := dec_row aX5_forget 2 rfl
theorem dX5_forget_7 : decode cX5_forget 7 = .ok (.getfield 218, 3) := dec_row aX5_forget 3 rfl
theorem dX5_forget_10 : decode cX5_forget 10 = .ok (.istore_n 1, 1) := dec_row aX5_forget 4 rfl
theorem dX5_forget_11 : decode cX5_forget 11 = .ok (.iload_n 1, 1) := dec_row aX5_forget 5 rfl
theorem dX5_forget_12 : decode cX5_forget 12 = .ok (.ifCond .ne 6, 3) := dec_row aX5_forget 6 rfl
theorem dX5_forget_15 : decode cX5_forget 15 = .ok (.bipush (-2), 2) := dec_row aX5_forget 7 rfl
theorem dX5_forget_17 : decode cX5_forget 17 = .ok (.ireturn, 1) := dec_row aX5_forget 8 rfl
theorem dX5_forget_18 : decode cX5_forget 18 = .ok (.aload_n 0, 1) := dec_row aX5_forget 9 rfl
theorem dX5_forget_19 : decode cX5_forget 19 = .ok (.invokevirtual 107, 3) := dec_row aX5_forget 10 rfl
theorem dX5_forget_22 : decode cX5_forget 22 = .ok (.aload_n 0, 1) := dec_row aX5_forget 11 rfl
theorem dX5_forget_23 : decode cX5_forget 23 = .ok (.getfield 40, 3) := dec_row aX5_forget 12 rfl
theorem dX5_forget_26 : decode cX5_forget 26 = .ok (.getfield 208, 3) := dec_row aX5_forget 13 rfl
theorem dX5_forget_29 : decode cX5_forget 29 = .ok (.invokevirtual 221, 3) := dec_row aX5_forget 14 rfl
theorem dX5_forget_32 : decode cX5_forget 32 = .ok (.iload_n 1, 1) := dec_row aX5_forget 15 rfl
theorem dX5_forget_33 : decode cX5_forget 33 = .ok (.ireturn, 1) := dec_row aX5_forget 16 rfl
def tX5_wide : List (Nat × Instr × Nat) := [(0, .iload_n 1, 1), (1, .ifCond .lt 9, 3), (4, .iload_n 1, 1), (5, .bipush 20, 2), (7, .if_icmp .le 5, 3), (10, .iconst (-1), 1), (11, .ireturn, 1), (12, .aload_n 0, 1), (13, .getfield 40, 3), (16, .getfield 222, 3), (19, .istore_n 2, 1), (20, .iload_n 2, 1), (21, .iload_n 1, 1), (22, .if_icmp .ne 6, 3), (25, .bipush (-2), 2), (27, .ireturn, 1), (28, .aload_n 0, 1), (29, .invokevirtual 107, 3), (32, .aload_n 0, 1), (33, .getfield 40, 3), (36, .iload_n 1, 1), (37, .putfield 222, 3), (40, .iload_n 2, 1), (41, .ireturn, 1)]
theorem aX5_wide : tX5_wide.all (fun q => decide (decode cX5_wide q.1 = .ok q.2)) = true := by decide +kernel
theorem dX5_wide_0 : decode cX5_wide 0 = .ok (.iload_n 1, 1) := dec_row aX5_wide 0 rfl
theorem dX5_wide_1 : decode cX5_wide 1 = .ok (.ifCond .lt 9, 3) := dec_row aX5_wide 1 rfl
theorem dX5_wide_4 : decode cX5_wide 4 = .ok (.iload_n 1, 1) := dec_row aX5_wide 2 rfl
theorem dX5_wide_5 : decode cX5_wide 5 = .ok (.bipush 20, 2) := dec_row aX5_wide 3 rfl
theorem dX5_wide_7 : decode cX5_wide 7 = .ok (.if_icmp .le 5, 3) := dec_row aX5_wide 4 rfl
theorem dX5_wide_10 : decode cX5_wide 10 = .ok (.iconst (-1), 1) := dec_row aX5_wide 5 rfl
theorem dX5_wide_11 : decode cX5_wide 11 = .ok (.ireturn, 1) := dec_row aX5_wide 6 rfl
theorem dX5_wide_12 : decode cX5_wide 12 = .ok (.aload_n 0, 1) := dec_row aX5_wide 7 rfl
theorem dX5_wide_13 : decode cX5_wide 13 = .ok (.getfield 40, 3) := dec_row aX5_wide 8 rfl
theorem dX5_wide_16 : decode cX5_wide 16 = .ok (.getfield 222, 3) := dec_row aX5_wide 9 rfl
theorem dX5_wide_19 : decode cX5_wide 19 = .ok (.istore_n 2, 1) := dec_row aX5_wide 10 rfl
theorem dX5_wide_20 : decode cX5_wide 20 = .ok (.iload_n 2, 1) := dec_row aX5_wide 11 rfl
theorem dX5_wide_21 : decode cX5_wide 21 = .ok (.iload_n 1, 1) := dec_row aX5_wide 12 rfl
theorem dX5_wide_22 : decode cX5_wide 22 = .ok (.if_icmp .ne 6, 3) := dec_row aX5_wide 13 rfl
theorem dX5_wide_25 : decode cX5_wide 25 = .ok (.bipush (-2), 2) := dec_row aX5_wide 14 rfl
theorem dX5_wide_27 : decode cX5_wide 27 = .ok (.ireturn, 1) := dec_row aX5_wide 15 rfl
theorem dX5_wide_28 : decode cX5_wide 28 = .ok (.aload_n 0, 1) := dec_row aX5_wide 16 rfl
theorem dX5_wide_29 : decode cX5_wide 29 = .ok (.invokevirtual 107, 3) := dec_row aX5_wide 17 rfl
theorem dX5_wide_32 : decode cX5_wide 32 = .ok (.aload_n 0, 1) := dec_row aX5_wide 18 rfl
theorem dX5_wide_33 : decode cX5_wide 33 = .ok (.getfield 40, 3) := dec_row aX5_wide 19 rfl
theorem dX5_wide_36 : decode cX5_wide 36 = .ok (.iload_n 1, 1) := dec_row aX5_wide 20 rfl
theorem dX5_wide_37 : decode cX5_wide 37 = .ok (.putfield 222, 3) := dec_row aX5_wide 21 rfl
theorem dX5_wide_40 : decode cX5_wide 40 = .ok (.iload_n 2, 1) := dec_row aX5_wide 22 rfl
theorem dX5_wide_41 : decode cX5_wide 41 = .ok (.ireturn, 1) := dec_row aX5_wide 23 rfl
def tX5_band : List (Nat × Instr × Nat) := [(0, .iload_n 1, 1), (1, .invokestatic 225, 3), (4, .ifCond .eq 10, 3), (7, .iload_n 2, 1), (8, .invokestatic 94, 3), (11, .ifCond .ne 5, 3), (14, .iconst (-1), 1), (15, .ireturn, 1), (16, .iload_n 1, 1), (17, .aload_n 0, 1), (18, .getfield 40, 3), (21, .getfield 208, 3), (24, .getfield 228, 3), (27, .if_icmp .le 6, 3), (30, .bipush (-4), 2), (32, .ireturn, 1), (33, .iload_n 2, 1), (34, .ifCond .ne 20, 3), (37, .aload_n 0, 1), (38, .getfield 40, 3), (41, .getfield 208, 3), (44, .getfield 231, 3), (47, .iload_n 1, 1), (48, .iconst 1, 1), (49, .isub, 1), (50, .iaload, 1), (51, .goto 17, 3), (54, .aload_n 0, 1), (55, .getfield 40, 3), (58, .getfield 208, 3), (61, .getfield 234, 3), (64, .iload_n 1, 1), (65, .iconst 1, 1), (66, .isub, 1), (67, .iaload, 1), (68, .ireturn, 1)]
theorem aX5_band : tX5_band.all (fun q => decide (decode cX5_band q.1 = .ok q.2)) = true := by decide +kernel
theorem dX5_band_0 : decode cX5_band 0 = .ok (.iload_n 1, 1) := dec_row aX5_band 0 rfl
theorem dX5_band_1 : decode cX5_band 1 = .ok (.invokestatic 225, 3) := dec_row aX5_band 1 rfl
theorem dX5_band_4 : decode cX5_band 4 = .ok (.ifCond .eq 10, 3) := dec_row aX5_band 2 rfl
theorem dX5_band_7 : decode cX5_band 7 = .ok (.iload_n 2, 1) := dec_row aX5_band 3 rfl
theorem dX5_band_8 : decode cX5_band 8 = .ok (.invokestatic 94, 3) := dec_row aX5_band 4 rfl
theorem dX5_band_11 : decode cX5_band 11 = .ok (.ifCond .ne 5, 3) := dec_row aX5_band 5 rfl
theorem dX5_band_14 : decode cX5_band 14 = .ok (.iconst (-1), 1) := dec_row aX5_band 6 rfl
theorem dX5_band_15 : decode cX5_band 15 = .ok (.ireturn, 1) := dec_row aX5_band 7 rfl
theorem dX5_band_16 : decode cX5_band 16 = .ok (.iload_n 1, 1) := dec_row aX5_band 8 rfl
theorem dX5_band_17 : decode cX5_band 17 = .ok (.aload_n 0, 1) := dec_row aX5_band 9 rfl
theorem dX5_band_18 : decode cX5_band 18 = .ok (.getfield 40, 3) := dec_row aX5_band 10 rfl
theorem dX5_band_21 : decode cX5_band 21 = .ok (.getfield 208, 3) := dec_row aX5_band 11 rfl
theorem dX5_band_24 : decode cX5_band 24 = .ok (.getfield 228, 3) := dec_row aX5_band 12 rfl
theorem dX5_band_27 : decode cX5_band 27 = .ok (.if_icmp .le 6, 3) := dec_row aX5_band 13 rfl
theorem dX5_band_30 : decode cX5_band 30 = .ok (.bipush (-4), 2) := dec_row aX5_band 14 rfl
theorem dX5_band_32 : decode cX5_band 32 = .ok (.ireturn, 1) := dec_row aX5_band 15 rfl
theorem dX5_band_33 : decode cX5_band 33 = .ok (.iload_n 2, 1) := dec_row aX5_band 16 rfl
theorem dX5_band_34 : decode cX5_band 34 = .ok (.ifCond .ne 20, 3) := dec_row aX5_band 17 rfl
theorem dX5_band_37 : decode cX5_band 37 = .ok (.aload_n 0, 1) := dec_row aX5_band 18 rfl
theorem dX5_band_38 : decode cX5_band 38 = .ok (.getfield 40, 3) := dec_row aX5_band 19 rfl
theorem dX5_band_41 : decode cX5_band 41 = .ok (.getfield 208, 3) := dec_row aX5_band 20 rfl
theorem dX5_band_44 : decode cX5_band 44 = .ok (.getfield 231, 3) := dec_row aX5_band 21 rfl
theorem dX5_band_47 : decode cX5_band 47 = .ok (.iload_n 1, 1) := dec_row aX5_band 22 rfl
theorem dX5_band_48 : decode cX5_band 48 = .ok (.iconst 1, 1) := dec_row aX5_band 23 rfl
theorem dX5_band_49 : decode cX5_band 49 = .ok (.isub, 1) := dec_row aX5_band 24 rfl
theorem dX5_band_50 : decode cX5_band 50 = .ok (.iaload, 1) := dec_row aX5_band 25 rfl
theorem dX5_band_51 : decode cX5_band 51 = .ok (.goto 17, 3) := dec_row aX5_band 26 rfl
theorem dX5_band_54 : decode cX5_band 54 = .ok (.aload_n 0, 1) := dec_row aX5_band 27 rfl
theorem dX5_band_55 : decode cX5_band 55 = .ok (.getfield 40, 3) := dec_row aX5_band 28 rfl
theorem dX5_band_58 : decode cX5_band 58 = .ok (.getfield 208, 3) := dec_row aX5_band 29 rfl
theorem dX5_band_61 : decode cX5_band 61 = .ok (.getfield 234, 3) := dec_row aX5_band 30 rfl
theorem dX5_band_64 : decode cX5_band 64 = .ok (.iload_n 1, 1) := dec_row aX5_band 31 rfl
theorem dX5_band_65 : decode cX5_band 65 = .ok (.iconst 1, 1) := dec_row aX5_band 32 rfl
theorem dX5_band_66 : decode cX5_band 66 = .ok (.isub, 1) := dec_row aX5_band 33 rfl
theorem dX5_band_67 : decode cX5_band 67 = .ok (.iaload, 1) := dec_row aX5_band 34 rfl
theorem dX5_band_68 : decode cX5_band 68 = .ok (.ireturn, 1) := dec_row aX5_band 35 rfl
def tX5_shot : List (Nat × Instr × Nat) := [(0, .aload_n 0, 1), (1, .iload_n 1, 1), (2, .invokevirtual 201, 3), (5, .ifCond .eq 13, 3), (8, .iload_n 2, 1), (9, .ifCond .lt 9, 3), (12, .iload_n 2, 1), (13, .bipush 8, 2), (15, .if_icmp .le 5, 3), (18, .iconst (-1), 1), (19, .ireturn, 1), (20, .aload_n 0, 1), (21, .iload_n 1, 1), (22, .invokevirtual 185, 3), (25, .astore_n 3, 1), (26, .iload_n 2, 1), (27, .bipush 7, 2), (29, .if_icmp .ne 40, 3), (32, .aload_n 0, 1), (33, .getfield 40, 3), (36, .getfield 208, 3), (39, .getfield 218, 3), (42, .ifCond .ne 8, 3), (45, .bipush (-4), 2), (47, .goto 21, 3), (50, .aload_n 0, 1), (51, .getfield 40, 3), (54, .getfield 208, 3), (57, .aload_n 3, 1), (58, .aload_n 0, 1), (59, .getfield 40, 3), (62, .getfield 222, 3), (65, .invokevirtual 237, 3), (68, .ireturn, 1), (69, .iload_n 2, 1), (70, .bipush 8, 2), (72, .if_icmp .ne 17, 3), (75, .aload_n 0, 1), (76, .aload_n 3, 1), (77, .invokevirtual 241, 3), (80, .ifCond .eq 7, 3), (83, .iconst 1, 1), (84, .goto 4, 3), (87, .iconst 0, 1), (88, .ireturn, 1), (89, .aload_n 3, 1), (90, .iload_n 2, 1), (91, .invokevirtual 245, 3), (94, .ireturn, 1)]
theorem aX5_shot : tX5_shot.all (fun q => decide (decode cX5_shot q.1 = .ok q.2)) = true := by decide +kernel
theorem dX5_shot_0 : decode cX5_shot 0 = .ok (.aload_n 0, 1) := dec_row aX5_shot 0 rfl
theorem dX5_shot_1 : decode cX5_shot 1 = .ok (.iload_n 1, 1) := dec_row aX5_shot 1 rfl
theorem dX5_shot_2 : decode cX5_shot 2 = .ok (.invokevirtual 201, 3) := dec_row aX5_shot 2 rfl
theorem dX5_shot_5 : decode cX5_shot 5 = .ok (.ifCond .eq 13, 3) := dec_row aX5_shot 3 rfl
theorem dX5_shot_8 : decode cX5_shot 8 = .ok (.iload_n 2, 1) := dec_row aX5_shot 4 rfl
theorem dX5_shot_9 : decode cX5_shot 9 = .ok (.ifCond .lt 9, 3) := dec_row aX5_shot 5 rfl
theorem dX5_shot_12 : decode cX5_shot 12 = .ok (.iload_n 2, 1) := dec_row aX5_shot 6 rfl
theorem dX5_shot_13 : decode cX5_shot 13 = .ok (.bipush 8, 2) := dec_row aX5_shot 7 rfl
theorem dX5_shot_15 : decode cX5_shot 15 = .ok (.if_icmp .le 5, 3) := dec_row aX5_shot 8 rfl
theorem dX5_shot_18 : decode cX5_shot 18 = .ok (.iconst (-1), 1) := dec_row aX5_shot 9 rfl
theorem dX5_shot_19 : decode cX5_shot 19 = .ok (.ireturn, 1) := dec_row aX5_shot 10 rfl
theorem dX5_shot_20 : decode cX5_shot 20 = .ok (.aload_n 0, 1) := dec_row aX5_shot 11 rfl
theorem dX5_shot_21 : decode cX5_shot 21 = .ok (.iload_n 1, 1) := dec_row aX5_shot 12 rfl
theorem dX5_shot_22 : decode cX5_shot 22 = .ok (.invokevirtual 185, 3) := dec_row aX5_shot 13 rfl
theorem dX5_shot_25 : decode cX5_shot 25 = .ok (.astore_n 3, 1) := dec_row aX5_shot 14 rfl
theorem dX5_shot_26 : decode cX5_shot 26 = .ok (.iload_n 2, 1) := dec_row aX5_shot 15 rfl
theorem dX5_shot_27 : decode cX5_shot 27 = .ok (.bipush 7, 2) := dec_row aX5_shot 16 rfl
theorem dX5_shot_29 : decode cX5_shot 29 = .ok (.if_icmp .ne 40, 3) := dec_row aX5_shot 17 rfl
theorem dX5_shot_32 : decode cX5_shot 32 = .ok (.aload_n 0, 1) := dec_row aX5_shot 18 rfl
theorem dX5_shot_33 : decode cX5_shot 33 = .ok (.getfield 40, 3) := dec_row aX5_shot 19 rfl
theorem dX5_shot_36 : decode cX5_shot 36 = .ok (.getfield 208, 3) := dec_row aX5_shot 20 rfl
theorem dX5_shot_39 : decode cX5_shot 39 = .ok (.getfield 218, 3) := dec_row aX5_shot 21 rfl
theorem dX5_shot_42 : decode cX5_shot 42 = .ok (.ifCond .ne 8, 3) := dec_row aX5_shot 22 rfl
theorem dX5_shot_45 : decode cX5_shot 45 = .ok (.bipush (-4), 2) := dec_row aX5_shot 23 rfl
theorem dX5_shot_47 : decode cX5_shot 47 = .ok (.goto 21, 3) := dec_row aX5_shot 24 rfl
theorem dX5_shot_50 : decode cX5_shot 50 = .ok (.aload_n 0, 1) := dec_row aX5_shot 25 rfl
theorem dX5_shot_51 : decode cX5_shot 51 = .ok (.getfield 40, 3) := dec_row aX5_shot 26 rfl
theorem dX5_shot_54 : decode cX5_shot 54 = .ok (.getfield 208, 3) := dec_row aX5_shot 27 rfl
theorem dX5_shot_57 : decode cX5_shot 57 = .ok (.aload_n 3, 1) := dec_row aX5_shot 28 rfl
theorem dX5_shot_58 : decode cX5_shot 58 = .ok (.aload_n 0, 1) := dec_row aX5_shot 29 rfl
theorem dX5_shot_59 : decode cX5_shot 59 = .ok (.getfield 40, 3) := dec_row aX5_shot 30 rfl
theorem dX5_shot_62 : decode cX5_shot 62 = .ok (.getfield 222, 3) := dec_row aX5_shot 31 rfl
theorem dX5_shot_65 : decode cX5_shot 65 = .ok (.invokevirtual 237, 3) := dec_row aX5_shot 32 rfl
theorem dX5_shot_68 : decode cX5_shot 68 = .ok (.ireturn, 1) := dec_row aX5_shot 33 rfl
theorem dX5_shot_69 : decode cX5_shot 69 = .ok (.iload_n 2, 1) := dec_row aX5_shot 34 rfl
theorem dX5_shot_70 : decode cX5_shot 70 = .ok (.bipush 8, 2) := dec_row aX5_shot 35 rfl
theorem dX5_shot_72 : decode cX5_shot 72 = .ok (.if_icmp .ne 17, 3) := dec_row aX5_shot 36 rfl
theorem dX5_shot_75 : decode cX5_shot 75 = .ok (.aload_n 0, 1) := dec_row aX5_shot 37 rfl
theorem dX5_shot_76 : decode cX5_shot 76 = .ok (.aload_n 3, 1) := dec_row aX5_shot 38 rfl
theorem dX5_shot_77 : decode cX5_shot 77 = .ok (.invokevirtual 241, 3) := dec_row aX5_shot 39 rfl
theorem dX5_shot_80 : decode cX5_shot 80 = .ok (.ifCond .eq 7, 3) := dec_row aX5_shot 40 rfl
theorem dX5_shot_83 : decode cX5_shot 83 = .ok (.iconst 1, 1) := dec_row aX5_shot 41 rfl
theorem dX5_shot_84 : decode cX5_shot 84 = .ok (.goto 4, 3) := dec_row aX5_shot 42 rfl
theorem dX5_shot_87 : decode cX5_shot 87 = .ok (.iconst 0, 1) := dec_row aX5_shot 43 rfl
theorem dX5_shot_88 : decode cX5_shot 88 = .ok (.ireturn, 1) := dec_row aX5_shot 44 rfl
theorem dX5_shot_89 : decode cX5_shot 89 = .ok (.aload_n 3, 1) := dec_row aX5_shot 45 rfl
theorem dX5_shot_90 : decode cX5_shot 90 = .ok (.iload_n 2, 1) := dec_row aX5_shot 46 rfl
theorem dX5_shot_91 : decode cX5_shot 91 = .ok (.invokevirtual 245, 3) := dec_row aX5_shot 47 rfl
theorem dX5_shot_94 : decode cX5_shot 94 = .ok (.ireturn, 1) := dec_row aX5_shot 48 rfl
def tX5_isBad : List (Nat × Instr × Nat) := [(0, .aload_n 1, 1), (1, .aload_n 0, 1), (2, .getfield 19, 3), (5, .invokevirtual 248, 3), (8, .ifCond .ne 24, 3), (11, .aload_n 0, 1), (12, .getfield 40, 3), (15, .getfield 208, 3), (18, .aload_n 1, 1), (19, .aload_n 0, 1), (20, .getfield 40, 3), (23, .getfield 222, 3), (26, .invokevirtual 251, 3), (29, .ifCond .eq 7, 3), (32, .iconst 1, 1), (33, .goto 4, 3), (36, .iconst 0, 1), (37, .ireturn, 1)]
theorem aX5_isBad : tX5_isBad.all (fun q => decide (decode cX5_isBad q.1 = .ok q.2)) = true := by decide +kernel
theorem dX5_isBad_0 : decode cX5_isBad 0 = .ok (.aload_n 1, 1) := dec_row aX5_isBad 0 rfl
theorem dX5_isBad_1 : decode cX5_isBad 1 = .ok (.aload_n 0, 1) := dec_row aX5_isBad 1 rfl
theorem dX5_isBad_2 : decode cX5_isBad 2 = .ok (.getfield 19, 3) := dec_row aX5_isBad 2 rfl
theorem dX5_isBad_5 : decode cX5_isBad 5 = .ok (.invokevirtual 248, 3) := dec_row aX5_isBad 3 rfl
theorem dX5_isBad_8 : decode cX5_isBad 8 = .ok (.ifCond .ne 24, 3) := dec_row aX5_isBad 4 rfl
theorem dX5_isBad_11 : decode cX5_isBad 11 = .ok (.aload_n 0, 1) := dec_row aX5_isBad 5 rfl
theorem dX5_isBad_12 : decode cX5_isBad 12 = .ok (.getfield 40, 3) := dec_row aX5_isBad 6 rfl
theorem dX5_isBad_15 : decode cX5_isBad 15 = .ok (.getfield 208, 3) := dec_row aX5_isBad 7 rfl
theorem dX5_isBad_18 : decode cX5_isBad 18 = .ok (.aload_n 1, 1) := dec_row aX5_isBad 8 rfl
theorem dX5_isBad_19 : decode cX5_isBad 19 = .ok (.aload_n 0, 1) := dec_row aX5_isBad 9 rfl
theorem dX5_isBad_20 : decode cX5_isBad 20 = .ok (.getfield 40, 3) := dec_row aX5_isBad 10 rfl
theorem dX5_isBad_23 : decode cX5_isBad 23 = .ok (.getfield 222, 3) := dec_row aX5_isBad 11 rfl
theorem dX5_isBad_26 : decode cX5_isBad 26 = .ok (.invokevirtual 251, 3) := dec_row aX5_isBad 12 rfl
theorem dX5_isBad_29 : decode cX5_isBad 29 = .ok (.ifCond .eq 7, 3) := dec_row aX5_isBad 13 rfl
theorem dX5_isBad_32 : decode cX5_isBad 32 = .ok (.iconst 1, 1) := dec_row aX5_isBad 14 rfl
theorem dX5_isBad_33 : decode cX5_isBad 33 = .ok (.goto 4, 3) := dec_row aX5_isBad 15 rfl
theorem dX5_isBad_36 : decode cX5_isBad 36 = .ok (.iconst 0, 1) := dec_row aX5_isBad 16 rfl
theorem dX5_isBad_37 : decode cX5_isBad 37 = .ok (.ireturn, 1) := dec_row aX5_isBad 17 rfl
def tX5_curve : List (Nat × Instr × Nat) := [(0, .aload_n 0, 1), (1, .iload_n 1, 1), (2, .invokevirtual 201, 3), (5, .ifCond .eq 10, 3), (8, .iload_n 2, 1), (9, .invokestatic 225, 3), (12, .ifCond .ne 5, 3), (15, .iconst (-1), 1), (16, .ireturn, 1), (17, .aload_n 0, 1), (18, .iload_n 1, 1), (19, .invokevirtual 185, 3), (22, .astore_n 3, 1), (23, .iload_n 2, 1), (24, .aload_n 3, 1), (25, .getfield 255, 3), (28, .if_icmp .le 8, 3), (31, .bipush (-4), 2), (33, .goto 11, 3), (36, .aload_n 3, 1), (37, .getfield 258, 3), (40, .iload_n 2, 1), (41, .iconst 1, 1), (42, .isub, 1), (43, .iaload, 1), (44, .ireturn, 1)]
theorem aX5_curve : tX5_curve.all (fun q => decide (decode cX5_curve q.1 = .ok q.2)) = true := by decide +kernel
theorem dX5_curve_0 : decode cX5_curve 0 = .ok (.aload_n 0, 1) := dec_row aX5_curve 0 rfl
theorem dX5_curve_1 : decode cX5_curve 1 = .ok (.iload_n 1, 1) := dec_row aX5_curve 1 rfl
theorem dX5_curve_2 : decode cX5_curve 2 = .ok (.invokevirtual 201, 3) := dec_row aX5_curve 2 rfl
theorem dX5_curve_5 : decode cX5_curve 5 = .ok (.ifCond .eq 10, 3) := dec_row aX5_curve 3 rfl
theorem dX5_curve_8 : decode cX5_curve 8 = .ok (.iload_n 2, 1) := dec_row aX5_curve 4 rfl
theorem dX5_curve_9 : decode cX5_curve 9 = .ok (.invokestatic 225, 3) := dec_row aX5_curve 5 rfl
theorem dX5_curve_12 : decode cX5_curve 12 = .ok (.ifCond .ne 5, 3) := dec_row aX5_curve 6 rfl
theorem dX5_curve_15 : decode cX5_curve 15 = .ok (.iconst (-1), 1) := dec_row aX5_curve 7 rfl
theorem dX5_curve_16 : decode cX5_curve 16 = .ok (.ireturn, 1) := dec_row aX5_curve 8 rfl
theorem dX5_curve_17 : decode cX5_curve 17 = .ok (.aload_n 0, 1) := dec_row aX5_curve 9 rfl
theorem dX5_curve_18 : decode cX5_curve 18 = .ok (.iload_n 1, 1) := dec_row aX5_curve 10 rfl
theorem dX5_curve_19 : decode cX5_curve 19 = .ok (.invokevirtual 185, 3) := dec_row aX5_curve 11 rfl
theorem dX5_curve_22 : decode cX5_curve 22 = .ok (.astore_n 3, 1) := dec_row aX5_curve 12 rfl
theorem dX5_curve_23 : decode cX5_curve 23 = .ok (.iload_n 2, 1) := dec_row aX5_curve 13 rfl
theorem dX5_curve_24 : decode cX5_curve 24 = .ok (.aload_n 3, 1) := dec_row aX5_curve 14 rfl
theorem dX5_curve_25 : decode cX5_curve 25 = .ok (.getfield 255, 3) := dec_row aX5_curve 15 rfl
theorem dX5_curve_28 : decode cX5_curve 28 = .ok (.if_icmp .le 8, 3) := dec_row aX5_curve 16 rfl
theorem dX5_curve_31 : decode cX5_curve 31 = .ok (.bipush (-4), 2) := dec_row aX5_curve 17 rfl
theorem dX5_curve_33 : decode cX5_curve 33 = .ok (.goto 11, 3) := dec_row aX5_curve 18 rfl
theorem dX5_curve_36 : decode cX5_curve 36 = .ok (.aload_n 3, 1) := dec_row aX5_curve 19 rfl
theorem dX5_curve_37 : decode cX5_curve 37 = .ok (.getfield 258, 3) := dec_row aX5_curve 20 rfl
theorem dX5_curve_40 : decode cX5_curve 40 = .ok (.iload_n 2, 1) := dec_row aX5_curve 21 rfl
theorem dX5_curve_41 : decode cX5_curve 41 = .ok (.iconst 1, 1) := dec_row aX5_curve 22 rfl
theorem dX5_curve_42 : decode cX5_curve 42 = .ok (.isub, 1) := dec_row aX5_curve 23 rfl
theorem dX5_curve_43 : decode cX5_curve 43 = .ok (.iaload, 1) := dec_row aX5_curve 24 rfl
theorem dX5_curve_44 : decode cX5_curve 44 = .ok (.ireturn, 1) := dec_row aX5_curve 25 rfl
def tX5_cavity : List (Nat × Instr × Nat) := [(0, .aload_n 0, 1), (1, .iload_n 1, 1), (2, .invokevirtual 148, 3), (5, .ifCond .ne 5, 3), (8, .iconst (-1), 1), (9, .ireturn, 1), (10, .iload_n 2, 1), (11, .tableswitch 55 0 2 #[25, 35, 45], 25), (36, .aload_n 0, 1), (37, .getfield 19, 3), (40, .getfield 261, 3), (43, .iload_n 1, 1), (44, .iaload, 1), (45, .ireturn, 1), (46, .aload_n 0, 1), (47, .getfield 40, 3), (50, .getfield 151, 3), (53, .iload_n 1, 1), (54, .iaload, 1), (55, .ireturn, 1), (56, .aload_n 0, 1), (57, .getfield 19, 3), (60, .getfield 264, 3), (63, .iload_n 1, 1), (64, .iaload, 1), (65, .ireturn, 1), (66, .iconst (-1), 1), (67, .ireturn, 1)]
theorem aX5_cavity : tX5_cavity.all (fun q => decide (decode cX5_cavity q.1 = .ok q.2)) = true := by decide +kernel
theorem dX5_cavity_0 : decode cX5_cavity 0 = .ok (.aload_n 0, 1) := dec_row aX5_cavity 0 rfl
theorem dX5_cavity_1 : decode cX5_cavity 1 = .ok (.iload_n 1, 1) := dec_row aX5_cavity 1 rfl
theorem dX5_cavity_2 : decode cX5_cavity 2 = .ok (.invokevirtual 148, 3) := dec_row aX5_cavity 2 rfl
theorem dX5_cavity_5 : decode cX5_cavity 5 = .ok (.ifCond .ne 5, 3) := dec_row aX5_cavity 3 rfl
theorem dX5_cavity_8 : decode cX5_cavity 8 = .ok (.iconst (-1), 1) := dec_row aX5_cavity 4 rfl
theorem dX5_cavity_9 : decode cX5_cavity 9 = .ok (.ireturn, 1) := dec_row aX5_cavity 5 rfl
theorem dX5_cavity_10 : decode cX5_cavity 10 = .ok (.iload_n 2, 1) := dec_row aX5_cavity 6 rfl
theorem dX5_cavity_11 : decode cX5_cavity 11 = .ok (.tableswitch 55 0 2 #[25, 35, 45], 25) := dec_row aX5_cavity 7 rfl
theorem dX5_cavity_36 : decode cX5_cavity 36 = .ok (.aload_n 0, 1) := dec_row aX5_cavity 8 rfl
theorem dX5_cavity_37 : decode cX5_cavity 37 = .ok (.getfield 19, 3) := dec_row aX5_cavity 9 rfl
theorem dX5_cavity_40 : decode cX5_cavity 40 = .ok (.getfield 261, 3) := dec_row aX5_cavity 10 rfl
theorem dX5_cavity_43 : decode cX5_cavity 43 = .ok (.iload_n 1, 1) := dec_row aX5_cavity 11 rfl
theorem dX5_cavity_44 : decode cX5_cavity 44 = .ok (.iaload, 1) := dec_row aX5_cavity 12 rfl
theorem dX5_cavity_45 : decode cX5_cavity 45 = .ok (.ireturn, 1) := dec_row aX5_cavity 13 rfl
theorem dX5_cavity_46 : decode cX5_cavity 46 = .ok (.aload_n 0, 1) := dec_row aX5_cavity 14 rfl
theorem dX5_cavity_47 : decode cX5_cavity 47 = .ok (.getfield 40, 3) := dec_row aX5_cavity 15 rfl
theorem dX5_cavity_50 : decode cX5_cavity 50 = .ok (.getfield 151, 3) := dec_row aX5_cavity 16 rfl
theorem dX5_cavity_53 : decode cX5_cavity 53 = .ok (.iload_n 1, 1) := dec_row aX5_cavity 17 rfl
theorem dX5_cavity_54 : decode cX5_cavity 54 = .ok (.iaload, 1) := dec_row aX5_cavity 18 rfl
theorem dX5_cavity_55 : decode cX5_cavity 55 = .ok (.ireturn, 1) := dec_row aX5_cavity 19 rfl
theorem dX5_cavity_56 : decode cX5_cavity 56 = .ok (.aload_n 0, 1) := dec_row aX5_cavity 20 rfl
theorem dX5_cavity_57 : decode cX5_cavity 57 = .ok (.getfield 19, 3) := dec_row aX5_cavity 21 rfl
theorem dX5_cavity_60 : decode cX5_cavity 60 = .ok (.getfield 264, 3) := dec_row aX5_cavity 22 rfl
theorem dX5_cavity_63 : decode cX5_cavity 63 = .ok (.iload_n 1, 1) := dec_row aX5_cavity 23 rfl
theorem dX5_cavity_64 : decode cX5_cavity 64 = .ok (.iaload, 1) := dec_row aX5_cavity 24 rfl
theorem dX5_cavity_65 : decode cX5_cavity 65 = .ok (.ireturn, 1) := dec_row aX5_cavity 25 rfl
theorem dX5_cavity_66 : decode cX5_cavity 66 = .ok (.iconst (-1), 1) := dec_row aX5_cavity 26 rfl
theorem dX5_cavity_67 : decode cX5_cavity 67 = .ok (.ireturn, 1) := dec_row aX5_cavity 27 rfl
def tX5_filled_0 : List (Nat × Instr × Nat) := [(0, .aload_n 0, 1), (1, .iload_n 1, 1), (2, .invokevirtual 201, 3), (5, .ifCond .eq 11, 3), (8, .aload_n 0, 1), (9, .iload_n 2, 1), (10, .invokevirtual 148, 3), (13, .ifCond .ne 5, 3), (16, .iconst (-1), 1), (17, .ireturn, 1), (18, .aload_n 0, 1), (19, .iload_n 1, 1), (20, .invokevirtual 185, 3), (23, .astore 4, 2), (25, .aload 4, 2), (27, .getfield 267, 3), (30, .iload_n 2, 1), (31, .iaload, 1), (32, .istore 5, 2), (34, .aload_n 0, 1), (35, .getfield 19, 3), (38, .getfield 261, 3), (41, .iload_n 2, 1), (42, .iaload, 1), (43, .istore 6, 2), (45, .iload_n 3, 1), (46, .tableswitch 103 0 4 #[34, 37, 47, 57, 80], 34), (80, .iload 5, 2), (82, .ireturn, 1), (83, .iconst 0, 1), (84, .iload 6, 2), (86, .iload 5, 2), (88, .isub, 1), (89, .invokestatic 270, 3), (92, .ireturn, 1), (93, .iconst 0, 1), (94, .iload 5, 2), (96, .iload 6, 2), (98, .isub, 1), (99, .invokestatic 270, 3), (102, .ireturn, 1), (103, .aload 4, 2), (105, .getfield 273, 3), (108, .iload_n 2, 1), (109, .iaload, 1), (110, .ifCond .ne 8, 3), (113, .bipush (-4), 2), (115, .goto 10, 3), (118, .aload 4, 2), (120, .getfield 273, 3)]
theorem aX5_filled_0 : tX5_filled_0.all (fun q => decide (decode cX5_filled q.1 = .ok q.2)) = true := by decide +kernel
theorem dX5_filled_0 : decode cX5_filled 0 = .ok (.aload_n 0, 1) := dec_row aX5_filled_0 0 rfl
theorem dX5_filled_1 : decode cX5_filled 1 = .ok (.iload_n 1, 1) := dec_row aX5_filled_0 1 rfl
theorem dX5_filled_2 : decode cX5_filled 2 = .ok (.invokevirtual 201, 3) := dec_row aX5_filled_0 2 rfl
theorem dX5_filled_5 : decode cX5_filled 5 = .ok (.ifCond .eq 11, 3) := dec_row aX5_filled_0 3 rfl
theorem dX5_filled_8 : decode cX5_filled 8 = .ok (.aload_n 0, 1) := dec_row aX5_filled_0 4 rfl
theorem dX5_filled_9 : decode cX5_filled 9 = .ok (.iload_n 2, 1) := dec_row aX5_filled_0 5 rfl
theorem dX5_filled_10 : decode cX5_filled 10 = .ok (.invokevirtual 148, 3) := dec_row aX5_filled_0 6 rfl
theorem dX5_filled_13 : decode cX5_filled 13 = .ok (.ifCond .ne 5, 3) := dec_row aX5_filled_0 7 rfl
theorem dX5_filled_16 : decode cX5_filled 16 = .ok (.iconst (-1), 1) := dec_row aX5_filled_0 8 rfl
theorem dX5_filled_17 : decode cX5_filled 17 = .ok (.ireturn, 1) := dec_row aX5_filled_0 9 rfl
theorem dX5_filled_18 : decode cX5_filled 18 = .ok (.aload_n 0, 1) := dec_row aX5_filled_0 10 rfl
theorem dX5_filled_19 : decode cX5_filled 19 = .ok (.iload_n 1, 1) := dec_row aX5_filled_0 11 rfl
theorem dX5_filled_20 : decode cX5_filled 20 = .ok (.invokevirtual 185, 3) := dec_row aX5_filled_0 12 rfl
theorem dX5_filled_23 : decode cX5_filled 23 = .ok (.astore 4, 2) := dec_row aX5_filled_0 13 rfl
theorem dX5_filled_25 : decode cX5_filled 25 = .ok (.aload 4, 2) := dec_row aX5_filled_0 14 rfl
theorem dX5_filled_27 : decode cX5_filled 27 = .ok (.getfield 267, 3) := dec_row aX5_filled_0 15 rfl
theorem dX5_filled_30 : decode cX5_filled 30 = .ok (.iload_n 2, 1) := dec_row aX5_filled_0 16 rfl
theorem dX5_filled_31 : decode cX5_filled 31 = .ok (.iaload, 1) := dec_row aX5_filled_0 17 rfl
theorem dX5_filled_32 : decode cX5_filled 32 = .ok (.istore 5, 2) := dec_row aX5_filled_0 18 rfl
theorem dX5_filled_34 : decode cX5_filled 34 = .ok (.aload_n 0, 1) := dec_row aX5_filled_0 19 rfl
theorem dX5_filled_35 : decode cX5_filled 35 = .ok (.getfield 19, 3) := dec_row aX5_filled_0 20 rfl
theorem dX5_filled_38 : decode cX5_filled 38 = .ok (.getfield 261, 3) := dec_row aX5_filled_0 21 rfl
theorem dX5_filled_41 : decode cX5_filled 41 = .ok (.iload_n 2, 1) := dec_row aX5_filled_0 22 rfl
theorem dX5_filled_42 : decode cX5_filled 42 = .ok (.iaload, 1) := dec_row aX5_filled_0 23 rfl
theorem dX5_filled_43 : decode cX5_filled 43 = .ok (.istore 6, 2) := dec_row aX5_filled_0 24 rfl
theorem dX5_filled_45 : decode cX5_filled 45 = .ok (.iload_n 3, 1) := dec_row aX5_filled_0 25 rfl
theorem dX5_filled_46 : decode cX5_filled 46 = .ok (.tableswitch 103 0 4 #[34, 37, 47, 57, 80], 34) := dec_row aX5_filled_0 26 rfl
theorem dX5_filled_80 : decode cX5_filled 80 = .ok (.iload 5, 2) := dec_row aX5_filled_0 27 rfl
theorem dX5_filled_82 : decode cX5_filled 82 = .ok (.ireturn, 1) := dec_row aX5_filled_0 28 rfl
theorem dX5_filled_83 : decode cX5_filled 83 = .ok (.iconst 0, 1) := dec_row aX5_filled_0 29 rfl
theorem dX5_filled_84 : decode cX5_filled 84 = .ok (.iload 6, 2) := dec_row aX5_filled_0 30 rfl
theorem dX5_filled_86 : decode cX5_filled 86 = .ok (.iload 5, 2) := dec_row aX5_filled_0 31 rfl
theorem dX5_filled_88 : decode cX5_filled 88 = .ok (.isub, 1) := dec_row aX5_filled_0 32 rfl
theorem dX5_filled_89 : decode cX5_filled 89 = .ok (.invokestatic 270, 3) := dec_row aX5_filled_0 33 rfl
theorem dX5_filled_92 : decode cX5_filled 92 = .ok (.ireturn, 1) := dec_row aX5_filled_0 34 rfl
theorem dX5_filled_93 : decode cX5_filled 93 = .ok (.iconst 0, 1) := dec_row aX5_filled_0 35 rfl
theorem dX5_filled_94 : decode cX5_filled 94 = .ok (.iload 5, 2) := dec_row aX5_filled_0 36 rfl
theorem dX5_filled_96 : decode cX5_filled 96 = .ok (.iload 6, 2) := dec_row aX5_filled_0 37 rfl
theorem dX5_filled_98 : decode cX5_filled 98 = .ok (.isub, 1) := dec_row aX5_filled_0 38 rfl
theorem dX5_filled_99 : decode cX5_filled 99 = .ok (.invokestatic 270, 3) := dec_row aX5_filled_0 39 rfl
theorem dX5_filled_102 : decode cX5_filled 102 = .ok (.ireturn, 1) := dec_row aX5_filled_0 40 rfl
theorem dX5_filled_103 : decode cX5_filled 103 = .ok (.aload 4, 2) := dec_row aX5_filled_0 41 rfl
theorem dX5_filled_105 : decode cX5_filled 105 = .ok (.getfield 273, 3) := dec_row aX5_filled_0 42 rfl
theorem dX5_filled_108 : decode cX5_filled 108 = .ok (.iload_n 2, 1) := dec_row aX5_filled_0 43 rfl
theorem dX5_filled_109 : decode cX5_filled 109 = .ok (.iaload, 1) := dec_row aX5_filled_0 44 rfl
theorem dX5_filled_110 : decode cX5_filled 110 = .ok (.ifCond .ne 8, 3) := dec_row aX5_filled_0 45 rfl
theorem dX5_filled_113 : decode cX5_filled 113 = .ok (.bipush (-4), 2) := dec_row aX5_filled_0 46 rfl
theorem dX5_filled_115 : decode cX5_filled 115 = .ok (.goto 10, 3) := dec_row aX5_filled_0 47 rfl
theorem dX5_filled_118 : decode cX5_filled 118 = .ok (.aload 4, 2) := dec_row aX5_filled_0 48 rfl
theorem dX5_filled_120 : decode cX5_filled 120 = .ok (.getfield 273, 3) := dec_row aX5_filled_0 49 rfl
def tX5_filled_1 : List (Nat × Instr × Nat) := [(123, .iload_n 2, 1), (124, .iaload, 1), (125, .ireturn, 1), (126, .aload 4, 2), (128, .getfield 276, 3), (131, .iload_n 2, 1), (132, .iaload, 1), (133, .ifCond .ne 8, 3), (136, .bipush (-4), 2), (138, .goto 10, 3), (141, .aload 4, 2), (143, .getfield 276, 3), (146, .iload_n 2, 1), (147, .iaload, 1), (148, .ireturn, 1), (149, .iconst (-1), 1), (150, .ireturn, 1)]
theorem aX5_filled_1 : tX5_filled_1.all (fun q => decide (decode cX5_filled q.1 = .ok q.2)) = true := by decide +kernel
theorem dX5_filled_123 : decode cX5_filled 123 = .ok (.iload_n 2, 1) := dec_row aX5_filled_1 0 rfl
theorem dX5_filled_124 : decode cX5_filled 124 = .ok (.iaload, 1) := dec_row aX5_filled_1 1 rfl
theorem dX5_filled_125 : decode cX5_filled 125 = .ok (.ireturn, 1) := dec_row aX5_filled_1 2 rfl
theorem dX5_filled_126 : decode cX5_filled 126 = .ok (.aload 4, 2) := dec_row aX5_filled_1 3 rfl
theorem dX5_filled_128 : decode cX5_filled 128 = .ok (.getfield 276, 3) := dec_row aX5_filled_1 4 rfl
theorem dX5_filled_131 : decode cX5_filled 131 = .ok (.iload_n 2, 1) := dec_row aX5_filled_1 5 rfl
theorem dX5_filled_132 : decode cX5_filled 132 = .ok (.iaload, 1) := dec_row aX5_filled_1 6 rfl
theorem dX5_filled_133 : decode cX5_filled 133 = .ok (.ifCond .ne 8, 3) := dec_row aX5_filled_1 7 rfl
theorem dX5_filled_136 : decode cX5_filled 136 = .ok (.bipush (-4), 2) := dec_row aX5_filled_1 8 rfl
theorem dX5_filled_138 : decode cX5_filled 138 = .ok (.goto 10, 3) := dec_row aX5_filled_1 9 rfl
theorem dX5_filled_141 : decode cX5_filled 141 = .ok (.aload 4, 2) := dec_row aX5_filled_1 10 rfl
theorem dX5_filled_143 : decode cX5_filled 143 = .ok (.getfield 276, 3) := dec_row aX5_filled_1 11 rfl
theorem dX5_filled_146 : decode cX5_filled 146 = .ok (.iload_n 2, 1) := dec_row aX5_filled_1 12 rfl
theorem dX5_filled_147 : decode cX5_filled 147 = .ok (.iaload, 1) := dec_row aX5_filled_1 13 rfl
theorem dX5_filled_148 : decode cX5_filled 148 = .ok (.ireturn, 1) := dec_row aX5_filled_1 14 rfl
theorem dX5_filled_149 : decode cX5_filled 149 = .ok (.iconst (-1), 1) := dec_row aX5_filled_1 15 rfl
theorem dX5_filled_150 : decode cX5_filled 150 = .ok (.ireturn, 1) := dec_row aX5_filled_1 16 rfl
def tX5_tried : List (Nat × Instr × Nat) := [(0, .iload_n 1, 1), (1, .bipush (-8), 2), (3, .if_icmp .lt 19, 3), (6, .iload_n 1, 1), (7, .bipush 8, 2), (9, .if_icmp .gt 13, 3), (12, .iload_n 2, 1), (13, .ifCond .lt 9, 3), (16, .iload_n 2, 1), (17, .bipush 6, 2), (19, .if_icmp .le 5, 3), (22, .iconst (-1), 1), (23, .ireturn, 1), (24, .aload_n 0, 1), (25, .getfield 51, 3), (28, .aload_n 0, 1), (29, .getfield 19, 3), (32, .aload_n 0, 1), (33, .getfield 40, 3), (36, .iload_n 1, 1), (37, .invokevirtual 175, 3), (40, .aload_n 0, 1), (41, .getfield 51, 3), (44, .iload_n 2, 1), (45, .invokevirtual 245, 3), (48, .ireturn, 1)]
theorem aX5_tried : tX5_tried.all (fun q => decide (decode cX5_tried q.1 = .ok q.2)) = true := by decide +kernel
theorem dX5_tried_0 : decode cX5_tried 0 = .ok (.iload_n 1, 1) := dec_row aX5_tried 0 rfl
theorem dX5_tried_1 : decode cX5_tried 1 = .ok (.bipush (-8), 2) := dec_row aX5_tried 1 rfl
theorem dX5_tried_3 : decode cX5_tried 3 = .ok (.if_icmp .lt 19, 3) := dec_row aX5_tried 2 rfl
theorem dX5_tried_6 : decode cX5_tried 6 = .ok (.iload_n 1, 1) := dec_row aX5_tried 3 rfl
theorem dX5_tried_7 : decode cX5_tried 7 = .ok (.bipush 8, 2) := dec_row aX5_tried 4 rfl
theorem dX5_tried_9 : decode cX5_tried 9 = .ok (.if_icmp .gt 13, 3) := dec_row aX5_tried 5 rfl
theorem dX5_tried_12 : decode cX5_tried 12 = .ok (.iload_n 2, 1) := dec_row aX5_tried 6 rfl
theorem dX5_tried_13 : decode cX5_tried 13 = .ok (.ifCond .lt 9, 3) := dec_row aX5_tried 7 rfl
theorem dX5_tried_16 : decode cX5_tried 16 = .ok (.iload_n 2, 1) := dec_row aX5_tried 8 rfl
theorem dX5_tried_17 : decode cX5_tried 17 = .ok (.bipush 6, 2) := dec_row aX5_tried 9 rfl
theorem dX5_tried_19 : decode cX5_tried 19 = .ok (.if_icmp .le 5, 3) := dec_row aX5_tried 10 rfl
theorem dX5_tried_22 : decode cX5_tried 22 = .ok (.iconst (-1), 1) := dec_row aX5_tried 11 rfl
theorem dX5_tried_23 : decode cX5_tried 23 = .ok (.ireturn, 1) := dec_row aX5_tried 12 rfl
theorem dX5_tried_24 : decode cX5_tried 24 = .ok (.aload_n 0, 1) := dec_row aX5_tried 13 rfl
theorem dX5_tried_25 : decode cX5_tried 25 = .ok (.getfield 51, 3) := dec_row aX5_tried 14 rfl
theorem dX5_tried_28 : decode cX5_tried 28 = .ok (.aload_n 0, 1) := dec_row aX5_tried 15 rfl
theorem dX5_tried_29 : decode cX5_tried 29 = .ok (.getfield 19, 3) := dec_row aX5_tried 16 rfl
theorem dX5_tried_32 : decode cX5_tried 32 = .ok (.aload_n 0, 1) := dec_row aX5_tried 17 rfl
theorem dX5_tried_33 : decode cX5_tried 33 = .ok (.getfield 40, 3) := dec_row aX5_tried 18 rfl
theorem dX5_tried_36 : decode cX5_tried 36 = .ok (.iload_n 1, 1) := dec_row aX5_tried 19 rfl
theorem dX5_tried_37 : decode cX5_tried 37 = .ok (.invokevirtual 175, 3) := dec_row aX5_tried 20 rfl
theorem dX5_tried_40 : decode cX5_tried 40 = .ok (.aload_n 0, 1) := dec_row aX5_tried 21 rfl
theorem dX5_tried_41 : decode cX5_tried 41 = .ok (.getfield 51, 3) := dec_row aX5_tried 22 rfl
theorem dX5_tried_44 : decode cX5_tried 44 = .ok (.iload_n 2, 1) := dec_row aX5_tried 23 rfl
theorem dX5_tried_45 : decode cX5_tried 45 = .ok (.invokevirtual 245, 3) := dec_row aX5_tried 24 rfl
theorem dX5_tried_48 : decode cX5_tried 48 = .ok (.ireturn, 1) := dec_row aX5_tried 25 rfl
def tX5_even : List (Nat × Instr × Nat) := [(0, .iload_n 1, 1), (1, .invokestatic 94, 3), (4, .ifCond .ne 5, 3), (7, .iconst (-1), 1), (8, .ireturn, 1), (9, .iconst 0, 1), (10, .istore_n 2, 1), (11, .aload_n 0, 1), (12, .iconst 0, 1), (13, .invokevirtual 279, 3), (16, .istore_n 3, 1), (17, .iconst 1, 1), (18, .istore 4, 2), (20, .iload 4, 2), (22, .bipush 8, 2), (24, .if_icmp .gt 51, 3), (27, .aload_n 0, 1), (28, .iload 4, 2), (30, .ineg, 1), (31, .invokevirtual 279, 3), (34, .istore 5, 2), (36, .iload 5, 2), (38, .iload_n 3, 1), (39, .if_icmp .ge 10, 3), (42, .iload 4, 2), (44, .ineg, 1), (45, .istore_n 2, 1), (46, .iload 5, 2), (48, .istore_n 3, 1), (49, .aload_n 0, 1), (50, .iload 4, 2), (52, .invokevirtual 279, 3), (55, .istore 6, 2), (57, .iload 6, 2), (59, .iload_n 3, 1), (60, .if_icmp .ge 9, 3), (63, .iload 4, 2), (65, .istore_n 2, 1), (66, .iload 6, 2), (68, .istore_n 3, 1), (69, .iinc 4 1, 3), (72, .goto (-52), 3), (75, .iload_n 1, 1), (76, .ifCond .ne 10, 3), (79, .iload_n 2, 1), (80, .bipush 8, 2), (82, .iadd, 1), (83, .goto 4, 3), (86, .iload_n 3, 1), (87, .ireturn, 1)]
theorem aX5_even : tX5_even.all (fun q => decide (decode cX5_even q.1 = .ok q.2)) = true := by decide +kernel
theorem dX5_even_0 : decode cX5_even 0 = .ok (.iload_n 1, 1) := dec_row aX5_even 0 rfl
theorem dX5_even_1 : decode cX5_even 1 = .ok (.invokestatic 94, 3) := dec_row aX5_even 1 rfl
theorem dX5_even_4 : decode cX5_even 4 = .ok (.ifCond .ne 5, 3) := dec_row aX5_even 2 rfl
theorem dX5_even_7 : decode cX5_even 7 = .ok (.iconst (-1), 1) := dec_row aX5_even 3 rfl
theorem dX5_even_8 : decode cX5_even 8 = .ok (.ireturn, 1) := dec_row aX5_even 4 rfl
theorem dX5_even_9 : decode cX5_even 9 = .ok (.iconst 0, 1) := dec_row aX5_even 5 rfl
theorem dX5_even_10 : decode cX5_even 10 = .ok (.istore_n 2, 1) := dec_row aX5_even 6 rfl
theorem dX5_even_11 : decode cX5_even 11 = .ok (.aload_n 0, 1) := dec_row aX5_even 7 rfl
theorem dX5_even_12 : decode cX5_even 12 = .ok (.iconst 0, 1) := dec_row aX5_even 8 rfl
theorem dX5_even_13 : decode cX5_even 13 = .ok (.invokevirtual 279, 3) := dec_row aX5_even 9 rfl
theorem dX5_even_16 : decode cX5_even 16 = .ok (.istore_n 3, 1) := dec_row aX5_even 10 rfl
theorem dX5_even_17 : decode cX5_even 17 = .ok (.iconst 1, 1) := dec_row aX5_even 11 rfl
theorem dX5_even_18 : decode cX5_even 18 = .ok (.istore 4, 2) := dec_row aX5_even 12 rfl
theorem dX5_even_20 : decode cX5_even 20 = .ok (.iload 4, 2) := dec_row aX5_even 13 rfl
theorem dX5_even_22 : decode cX5_even 22 = .ok (.bipush 8, 2) := dec_row aX5_even 14 rfl
theorem dX5_even_24 : decode cX5_even 24 = .ok (.if_icmp .gt 51, 3) := dec_row aX5_even 15 rfl
theorem dX5_even_27 : decode cX5_even 27 = .ok (.aload_n 0, 1) := dec_row aX5_even 16 rfl
theorem dX5_even_28 : decode cX5_even 28 = .ok (.iload 4, 2) := dec_row aX5_even 17 rfl
theorem dX5_even_30 : decode cX5_even 30 = .ok (.ineg, 1) := dec_row aX5_even 18 rfl
theorem dX5_even_31 : decode cX5_even 31 = .ok (.invokevirtual 279, 3) := dec_row aX5_even 19 rfl
theorem dX5_even_34 : decode cX5_even 34 = .ok (.istore 5, 2) := dec_row aX5_even 20 rfl
theorem dX5_even_36 : decode cX5_even 36 = .ok (.iload 5, 2) := dec_row aX5_even 21 rfl
theorem dX5_even_38 : decode cX5_even 38 = .ok (.iload_n 3, 1) := dec_row aX5_even 22 rfl
theorem dX5_even_39 : decode cX5_even 39 = .ok (.if_icmp .ge 10, 3) := dec_row aX5_even 23 rfl
theorem dX5_even_42 : decode cX5_even 42 = .ok (.iload 4, 2) := dec_row aX5_even 24 rfl
theorem dX5_even_44 : decode cX5_even 44 = .ok (.ineg, 1) := dec_row aX5_even 25 rfl
theorem dX5_even_45 : decode cX5_even 45 = .ok (.istore_n 2, 1) := dec_row aX5_even 26 rfl
theorem dX5_even_46 : decode cX5_even 46 = .ok (.iload 5, 2) := dec_row aX5_even 27 rfl
theorem dX5_even_48 : decode cX5_even 48 = .ok (.istore_n 3, 1) := dec_row aX5_even 28 rfl
theorem dX5_even_49 : decode cX5_even 49 = .ok (.aload_n 0, 1) := dec_row aX5_even 29 rfl
theorem dX5_even_50 : decode cX5_even 50 = .ok (.iload 4, 2) := dec_row aX5_even 30 rfl
theorem dX5_even_52 : decode cX5_even 52 = .ok (.invokevirtual 279, 3) := dec_row aX5_even 31 rfl
theorem dX5_even_55 : decode cX5_even 55 = .ok (.istore 6, 2) := dec_row aX5_even 32 rfl
theorem dX5_even_57 : decode cX5_even 57 = .ok (.iload 6, 2) := dec_row aX5_even 33 rfl
theorem dX5_even_59 : decode cX5_even 59 = .ok (.iload_n 3, 1) := dec_row aX5_even 34 rfl
theorem dX5_even_60 : decode cX5_even 60 = .ok (.if_icmp .ge 9, 3) := dec_row aX5_even 35 rfl
theorem dX5_even_63 : decode cX5_even 63 = .ok (.iload 4, 2) := dec_row aX5_even 36 rfl
theorem dX5_even_65 : decode cX5_even 65 = .ok (.istore_n 2, 1) := dec_row aX5_even 37 rfl
theorem dX5_even_66 : decode cX5_even 66 = .ok (.iload 6, 2) := dec_row aX5_even 38 rfl
theorem dX5_even_68 : decode cX5_even 68 = .ok (.istore_n 3, 1) := dec_row aX5_even 39 rfl
theorem dX5_even_69 : decode cX5_even 69 = .ok (.iinc 4 1, 3) := dec_row aX5_even 40 rfl
theorem dX5_even_72 : decode cX5_even 72 = .ok (.goto (-52), 3) := dec_row aX5_even 41 rfl
theorem dX5_even_75 : decode cX5_even 75 = .ok (.iload_n 1, 1) := dec_row aX5_even 42 rfl
theorem dX5_even_76 : decode cX5_even 76 = .ok (.ifCond .ne 10, 3) := dec_row aX5_even 43 rfl
theorem dX5_even_79 : decode cX5_even 79 = .ok (.iload_n 2, 1) := dec_row aX5_even 44 rfl
theorem dX5_even_80 : decode cX5_even 80 = .ok (.bipush 8, 2) := dec_row aX5_even 45 rfl
theorem dX5_even_82 : decode cX5_even 82 = .ok (.iadd, 1) := dec_row aX5_even 46 rfl
theorem dX5_even_83 : decode cX5_even 83 = .ok (.goto 4, 3) := dec_row aX5_even 47 rfl
theorem dX5_even_86 : decode cX5_even 86 = .ok (.iload_n 3, 1) := dec_row aX5_even 48 rfl
theorem dX5_even_87 : decode cX5_even 87 = .ok (.ireturn, 1) := dec_row aX5_even 49 rfl
def tX5_balanceWith : List (Nat × Instr × Nat) := [(0, .aload_n 0, 1), (1, .getfield 51, 3), (4, .aload_n 0, 1), (5, .getfield 19, 3), (8, .aload_n 0, 1), (9, .getfield 40, 3), (12, .iload_n 1, 1), (13, .invokevirtual 175, 3), (16, .aload_n 0, 1), (17, .getfield 51, 3), (20, .invokevirtual 282, 3), (23, .ireturn, 1)]
theorem aX5_balanceWith : tX5_balanceWith.all (fun q => decide (decode cX5_balanceWith q.1 = .ok q.2)) = true := by decide +kernel
theorem dX5_balanceWith_0 : decode cX5_balanceWith 0 = .ok (.aload_n 0, 1) := dec_row aX5_balanceWith 0 rfl
theorem dX5_balanceWith_1 : decode cX5_balanceWith 1 = .ok (.getfield 51, 3) := dec_row aX5_balanceWith 1 rfl
theorem dX5_balanceWith_4 : decode cX5_balanceWith 4 = .ok (.aload_n 0, 1) := dec_row aX5_balanceWith 2 rfl
theorem dX5_balanceWith_5 : decode cX5_balanceWith 5 = .ok (.getfield 19, 3) := dec_row aX5_balanceWith 3 rfl
theorem dX5_balanceWith_8 : decode cX5_balanceWith 8 = .ok (.aload_n 0, 1) := dec_row aX5_balanceWith 4 rfl
theorem dX5_balanceWith_9 : decode cX5_balanceWith 9 = .ok (.getfield 40, 3) := dec_row aX5_balanceWith 5 rfl
theorem dX5_balanceWith_12 : decode cX5_balanceWith 12 = .ok (.iload_n 1, 1) := dec_row aX5_balanceWith 6 rfl
theorem dX5_balanceWith_13 : decode cX5_balanceWith 13 = .ok (.invokevirtual 175, 3) := dec_row aX5_balanceWith 7 rfl
theorem dX5_balanceWith_16 : decode cX5_balanceWith 16 = .ok (.aload_n 0, 1) := dec_row aX5_balanceWith 8 rfl
theorem dX5_balanceWith_17 : decode cX5_balanceWith 17 = .ok (.getfield 51, 3) := dec_row aX5_balanceWith 9 rfl
theorem dX5_balanceWith_20 : decode cX5_balanceWith 20 = .ok (.invokevirtual 282, 3) := dec_row aX5_balanceWith 10 rfl
theorem dX5_balanceWith_23 : decode cX5_balanceWith 23 = .ok (.ireturn, 1) := dec_row aX5_balanceWith 11 rfl
def tX5_earlier : List (Nat × Instr × Nat) := [(0, .aload_n 0, 1), (1, .iload_n 1, 1), (2, .invokevirtual 119, 3), (5, .ifCond .ne 5, 3), (8, .iconst (-1), 1), (9, .ireturn, 1), (10, .aload_n 0, 1), (11, .getfield 19, 3), (14, .getfield 141, 3), (17, .iload_n 1, 1), (18, .iaload, 1), (19, .bipush 9, 2), (21, .if_icmp .ne 8, 3), (24, .bipush (-4), 2), (26, .goto 12, 3), (29, .aload_n 0, 1), (30, .getfield 19, 3), (33, .getfield 141, 3), (36, .iload_n 1, 1), (37, .iaload, 1), (38, .ireturn, 1)]
theorem aX5_earlier : tX5_earlier.all (fun q => decide (decode cX5_earlier q.1 = .ok q.2)) = true := by decide +kernel
theorem dX5_earlier_0 : decode cX5_earlier 0 = .ok (.aload_n 0, 1) := dec_row aX5_earlier 0 rfl
theorem dX5_earlier_1 : decode cX5_earlier 1 = .ok (.iload_n 1, 1) := dec_row aX5_earlier 1 rfl
theorem dX5_earlier_2 : decode cX5_earlier 2 = .ok (.invokevirtual 119, 3) := dec_row aX5_earlier 2 rfl
theorem dX5_earlier_5 : decode cX5_earlier 5 = .ok (.ifCond .ne 5, 3) := dec_row aX5_earlier 3 rfl
theorem dX5_earlier_8 : decode cX5_earlier 8 = .ok (.iconst (-1), 1) := dec_row aX5_earlier 4 rfl
theorem dX5_earlier_9 : decode cX5_earlier 9 = .ok (.ireturn, 1) := dec_row aX5_earlier 5 rfl
theorem dX5_earlier_10 : decode cX5_earlier 10 = .ok (.aload_n 0, 1) := dec_row aX5_earlier 6 rfl
theorem dX5_earlier_11 : decode cX5_earlier 11 = .ok (.getfield 19, 3) := dec_row aX5_earlier 7 rfl
theorem dX5_earlier_14 : decode cX5_earlier 14 = .ok (.getfield 141, 3) := dec_row aX5_earlier 8 rfl
theorem dX5_earlier_17 : decode cX5_earlier 17 = .ok (.iload_n 1, 1) := dec_row aX5_earlier 9 rfl
theorem dX5_earlier_18 : decode cX5_earlier 18 = .ok (.iaload, 1) := dec_row aX5_earlier 10 rfl
theorem dX5_earlier_19 : decode cX5_earlier 19 = .ok (.bipush 9, 2) := dec_row aX5_earlier 11 rfl
theorem dX5_earlier_21 : decode cX5_earlier 21 = .ok (.if_icmp .ne 8, 3) := dec_row aX5_earlier 12 rfl
theorem dX5_earlier_24 : decode cX5_earlier 24 = .ok (.bipush (-4), 2) := dec_row aX5_earlier 13 rfl
theorem dX5_earlier_26 : decode cX5_earlier 26 = .ok (.goto 12, 3) := dec_row aX5_earlier 14 rfl
theorem dX5_earlier_29 : decode cX5_earlier 29 = .ok (.aload_n 0, 1) := dec_row aX5_earlier 15 rfl
theorem dX5_earlier_30 : decode cX5_earlier 30 = .ok (.getfield 19, 3) := dec_row aX5_earlier 16 rfl
theorem dX5_earlier_33 : decode cX5_earlier 33 = .ok (.getfield 141, 3) := dec_row aX5_earlier 17 rfl
theorem dX5_earlier_36 : decode cX5_earlier 36 = .ok (.iload_n 1, 1) := dec_row aX5_earlier 18 rfl
theorem dX5_earlier_37 : decode cX5_earlier 37 = .ok (.iaload, 1) := dec_row aX5_earlier 19 rfl
theorem dX5_earlier_38 : decode cX5_earlier 38 = .ok (.ireturn, 1) := dec_row aX5_earlier 20 rfl
def tX5_order : List (Nat × Instr × Nat) := [(0, .iload_n 1, 1), (1, .ifCond .ge 5, 3), (4, .iconst (-1), 1), (5, .ireturn, 1), (6, .iload_n 1, 1), (7, .aload_n 0, 1), (8, .getfield 19, 3), (11, .getfield 145, 3), (14, .if_icmp .lt 8, 3), (17, .bipush (-4), 2), (19, .goto 11, 3), (22, .aload_n 0, 1), (23, .getfield 19, 3), (26, .iload_n 1, 1), (27, .invokevirtual 285, 3), (30, .ireturn, 1)]
theorem aX5_order : tX5_order.all (fun q => decide (decode cX5_order q.1 = .ok q.2)) = true := by decide +kernel
theorem dX5_order_0 : decode cX5_order 0 = .ok (.iload_n 1, 1) := dec_row aX5_order 0 rfl
theorem dX5_order_1 : decode cX5_order 1 = .ok (.ifCond .ge 5, 3) := dec_row aX5_order 1 rfl
theorem dX5_order_4 : decode cX5_order 4 = .ok (.iconst (-1), 1) := dec_row aX5_order 2 rfl
theorem dX5_order_5 : decode cX5_order 5 = .ok (.ireturn, 1) := dec_row aX5_order 3 rfl
theorem dX5_order_6 : decode cX5_order 6 = .ok (.iload_n 1, 1) := dec_row aX5_order 4 rfl
theorem dX5_order_7 : decode cX5_order 7 = .ok (.aload_n 0, 1) := dec_row aX5_order 5 rfl
theorem dX5_order_8 : decode cX5_order 8 = .ok (.getfield 19, 3) := dec_row aX5_order 6 rfl
theorem dX5_order_11 : decode cX5_order 11 = .ok (.getfield 145, 3) := dec_row aX5_order 7 rfl
theorem dX5_order_14 : decode cX5_order 14 = .ok (.if_icmp .lt 8, 3) := dec_row aX5_order 8 rfl
theorem dX5_order_17 : decode cX5_order 17 = .ok (.bipush (-4), 2) := dec_row aX5_order 9 rfl
theorem dX5_order_19 : decode cX5_order 19 = .ok (.goto 11, 3) := dec_row aX5_order 10 rfl
theorem dX5_order_22 : decode cX5_order 22 = .ok (.aload_n 0, 1) := dec_row aX5_order 11 rfl
theorem dX5_order_23 : decode cX5_order 23 = .ok (.getfield 19, 3) := dec_row aX5_order 12 rfl
theorem dX5_order_26 : decode cX5_order 26 = .ok (.iload_n 1, 1) := dec_row aX5_order 13 rfl
theorem dX5_order_27 : decode cX5_order 27 = .ok (.invokevirtual 285, 3) := dec_row aX5_order 14 rfl
theorem dX5_order_30 : decode cX5_order 30 = .ok (.ireturn, 1) := dec_row aX5_order 15 rfl
def tX5_count_0 : List (Nat × Instr × Nat) := [(0, .iload_n 1, 1), (1, .tableswitch 221 0 14 #[75, 83, 91, 99, 115, 126, 142, 147, 155, 166, 174, 179, 192, 197, 205], 75), (76, .aload_n 0, 1), (77, .getfield 19, 3), (80, .getfield 87, 3), (83, .ireturn, 1), (84, .aload_n 0, 1), (85, .getfield 19, 3), (88, .getfield 145, 3), (91, .ireturn, 1), (92, .aload_n 0, 1), (93, .getfield 19, 3), (96, .getfield 154, 3), (99, .ireturn, 1), (100, .aload_n 0, 1), (101, .getfield 40, 3), (104, .getfield 103, 3), (107, .ifCond .eq 7, 3), (110, .iconst 1, 1), (111, .goto 4, 3), (114, .iconst 0, 1), (115, .ireturn, 1), (116, .aload_n 0, 1), (117, .getfield 40, 3), (120, .getfield 110, 3), (123, .invokestatic 126, 3), (126, .ireturn, 1), (127, .aload_n 0, 1), (128, .getfield 40, 3), (131, .getfield 116, 3), (134, .ifCond .eq 7, 3), (137, .iconst 1, 1), (138, .goto 4, 3), (141, .iconst 0, 1), (142, .ireturn, 1), (143, .aload_n 0, 1), (144, .invokevirtual 182, 3), (147, .ireturn, 1), (148, .aload_n 0, 1), (149, .getfield 40, 3), (152, .getfield 172, 3), (155, .ireturn, 1), (156, .aload_n 0, 1), (157, .getfield 40, 3), (160, .getfield 208, 3), (163, .getfield 218, 3), (166, .ireturn, 1), (167, .aload_n 0, 1), (168, .getfield 40, 3), (171, .getfield 222, 3)]
theorem aX5_count_0 : tX5_count_0.all (fun q => decide (decode cX5_count q.1 = .ok q.2)) = true := by decide +kernel
theorem dX5_count_0 : decode cX5_count 0 = .ok (.iload_n 1, 1) := dec_row aX5_count_0 0 rfl
theorem dX5_count_1 : decode cX5_count 1 = .ok (.tableswitch 221 0 14 #[75, 83, 91, 99, 115, 126, 142, 147, 155, 166, 174, 179, 192, 197, 205], 75) := dec_row aX5_count_0 1 rfl
theorem dX5_count_76 : decode cX5_count 76 = .ok (.aload_n 0, 1) := dec_row aX5_count_0 2 rfl
theorem dX5_count_77 : decode cX5_count 77 = .ok (.getfield 19, 3) := dec_row aX5_count_0 3 rfl
theorem dX5_count_80 : decode cX5_count 80 = .ok (.getfield 87, 3) := dec_row aX5_count_0 4 rfl
theorem dX5_count_83 : decode cX5_count 83 = .ok (.ireturn, 1) := dec_row aX5_count_0 5 rfl
theorem dX5_count_84 : decode cX5_count 84 = .ok (.aload_n 0, 1) := dec_row aX5_count_0 6 rfl
theorem dX5_count_85 : decode cX5_count 85 = .ok (.getfield 19, 3) := dec_row aX5_count_0 7 rfl
theorem dX5_count_88 : decode cX5_count 88 = .ok (.getfield 145, 3) := dec_row aX5_count_0 8 rfl
theorem dX5_count_91 : decode cX5_count 91 = .ok (.ireturn, 1) := dec_row aX5_count_0 9 rfl
theorem dX5_count_92 : decode cX5_count 92 = .ok (.aload_n 0, 1) := dec_row aX5_count_0 10 rfl
theorem dX5_count_93 : decode cX5_count 93 = .ok (.getfield 19, 3) := dec_row aX5_count_0 11 rfl
theorem dX5_count_96 : decode cX5_count 96 = .ok (.getfield 154, 3) := dec_row aX5_count_0 12 rfl
theorem dX5_count_99 : decode cX5_count 99 = .ok (.ireturn, 1) := dec_row aX5_count_0 13 rfl
theorem dX5_count_100 : decode cX5_count 100 = .ok (.aload_n 0, 1) := dec_row aX5_count_0 14 rfl
theorem dX5_count_101 : decode cX5_count 101 = .ok (.getfield 40, 3) := dec_row aX5_count_0 15 rfl
theorem dX5_count_104 : decode cX5_count 104 = .ok (.getfield 103, 3) := dec_row aX5_count_0 16 rfl
theorem dX5_count_107 : decode cX5_count 107 = .ok (.ifCond .eq 7, 3) := dec_row aX5_count_0 17 rfl
theorem dX5_count_110 : decode cX5_count 110 = .ok (.iconst 1, 1) := dec_row aX5_count_0 18 rfl
theorem dX5_count_111 : decode cX5_count 111 = .ok (.goto 4, 3) := dec_row aX5_count_0 19 rfl
theorem dX5_count_114 : decode cX5_count 114 = .ok (.iconst 0, 1) := dec_row aX5_count_0 20 rfl
theorem dX5_count_115 : decode cX5_count 115 = .ok (.ireturn, 1) := dec_row aX5_count_0 21 rfl
theorem dX5_count_116 : decode cX5_count 116 = .ok (.aload_n 0, 1) := dec_row aX5_count_0 22 rfl
theorem dX5_count_117 : decode cX5_count 117 = .ok (.getfield 40, 3) := dec_row aX5_count_0 23 rfl
theorem dX5_count_120 : decode cX5_count 120 = .ok (.getfield 110, 3) := dec_row aX5_count_0 24 rfl
theorem dX5_count_123 : decode cX5_count 123 = .ok (.invokestatic 126, 3) := dec_row aX5_count_0 25 rfl
theorem dX5_count_126 : decode cX5_count 126 = .ok (.ireturn, 1) := dec_row aX5_count_0 26 rfl
theorem dX5_count_127 : decode cX5_count 127 = .ok (.aload_n 0, 1) := dec_row aX5_count_0 27 rfl
theorem dX5_count_128 : decode cX5_count 128 = .ok (.getfield 40, 3) := dec_row aX5_count_0 28 rfl
theorem dX5_count_131 : decode cX5_count 131 = .ok (.getfield 116, 3) := dec_row aX5_count_0 29 rfl
theorem dX5_count_134 : decode cX5_count 134 = .ok (.ifCond .eq 7, 3) := dec_row aX5_count_0 30 rfl
theorem dX5_count_137 : decode cX5_count 137 = .ok (.iconst 1, 1) := dec_row aX5_count_0 31 rfl
theorem dX5_count_138 : decode cX5_count 138 = .ok (.goto 4, 3) := dec_row aX5_count_0 32 rfl
theorem dX5_count_141 : decode cX5_count 141 = .ok (.iconst 0, 1) := dec_row aX5_count_0 33 rfl
theorem dX5_count_142 : decode cX5_count 142 = .ok (.ireturn, 1) := dec_row aX5_count_0 34 rfl
theorem dX5_count_143 : decode cX5_count 143 = .ok (.aload_n 0, 1) := dec_row aX5_count_0 35 rfl
theorem dX5_count_144 : decode cX5_count 144 = .ok (.invokevirtual 182, 3) := dec_row aX5_count_0 36 rfl
theorem dX5_count_147 : decode cX5_count 147 = .ok (.ireturn, 1) := dec_row aX5_count_0 37 rfl
theorem dX5_count_148 : decode cX5_count 148 = .ok (.aload_n 0, 1) := dec_row aX5_count_0 38 rfl
theorem dX5_count_149 : decode cX5_count 149 = .ok (.getfield 40, 3) := dec_row aX5_count_0 39 rfl
theorem dX5_count_152 : decode cX5_count 152 = .ok (.getfield 172, 3) := dec_row aX5_count_0 40 rfl
theorem dX5_count_155 : decode cX5_count 155 = .ok (.ireturn, 1) := dec_row aX5_count_0 41 rfl
theorem dX5_count_156 : decode cX5_count 156 = .ok (.aload_n 0, 1) := dec_row aX5_count_0 42 rfl
theorem dX5_count_157 : decode cX5_count 157 = .ok (.getfield 40, 3) := dec_row aX5_count_0 43 rfl
theorem dX5_count_160 : decode cX5_count 160 = .ok (.getfield 208, 3) := dec_row aX5_count_0 44 rfl
theorem dX5_count_163 : decode cX5_count 163 = .ok (.getfield 218, 3) := dec_row aX5_count_0 45 rfl
theorem dX5_count_166 : decode cX5_count 166 = .ok (.ireturn, 1) := dec_row aX5_count_0 46 rfl
theorem dX5_count_167 : decode cX5_count 167 = .ok (.aload_n 0, 1) := dec_row aX5_count_0 47 rfl
theorem dX5_count_168 : decode cX5_count 168 = .ok (.getfield 40, 3) := dec_row aX5_count_0 48 rfl
theorem dX5_count_171 : decode cX5_count 171 = .ok (.getfield 222, 3) := dec_row aX5_count_0 49 rfl
def tX5_count_1 : List (Nat × Instr × Nat) := [(174, .ireturn, 1), (175, .aload_n 0, 1), (176, .invokevirtual 288, 3), (179, .ireturn, 1), (180, .aload_n 0, 1), (181, .invokevirtual 169, 3), (184, .ifCond .eq 7, 3), (187, .iconst 1, 1), (188, .goto 4, 3), (191, .iconst 0, 1), (192, .ireturn, 1), (193, .aload_n 0, 1), (194, .getfield 36, 3), (197, .ireturn, 1), (198, .aload_n 0, 1), (199, .getfield 12, 3), (202, .getfield 81, 3), (205, .ireturn, 1), (206, .aload_n 0, 1), (207, .getfield 40, 3), (210, .getfield 113, 3), (213, .ifCond .eq 7, 3), (216, .iconst 1, 1), (217, .goto 4, 3), (220, .iconst 0, 1), (221, .ireturn, 1), (222, .iconst (-1), 1), (223, .ireturn, 1)]
theorem aX5_count_1 : tX5_count_1.all (fun q => decide (decode cX5_count q.1 = .ok q.2)) = true := by decide +kernel
theorem dX5_count_174 : decode cX5_count 174 = .ok (.ireturn, 1) := dec_row aX5_count_1 0 rfl
theorem dX5_count_175 : decode cX5_count 175 = .ok (.aload_n 0, 1) := dec_row aX5_count_1 1 rfl
theorem dX5_count_176 : decode cX5_count 176 = .ok (.invokevirtual 288, 3) := dec_row aX5_count_1 2 rfl
theorem dX5_count_179 : decode cX5_count 179 = .ok (.ireturn, 1) := dec_row aX5_count_1 3 rfl
theorem dX5_count_180 : decode cX5_count 180 = .ok (.aload_n 0, 1) := dec_row aX5_count_1 4 rfl
theorem dX5_count_181 : decode cX5_count 181 = .ok (.invokevirtual 169, 3) := dec_row aX5_count_1 5 rfl
theorem dX5_count_184 : decode cX5_count 184 = .ok (.ifCond .eq 7, 3) := dec_row aX5_count_1 6 rfl
theorem dX5_count_187 : decode cX5_count 187 = .ok (.iconst 1, 1) := dec_row aX5_count_1 7 rfl
theorem dX5_count_188 : decode cX5_count 188 = .ok (.goto 4, 3) := dec_row aX5_count_1 8 rfl
theorem dX5_count_191 : decode cX5_count 191 = .ok (.iconst 0, 1) := dec_row aX5_count_1 9 rfl
theorem dX5_count_192 : decode cX5_count 192 = .ok (.ireturn, 1) := dec_row aX5_count_1 10 rfl
theorem dX5_count_193 : decode cX5_count 193 = .ok (.aload_n 0, 1) := dec_row aX5_count_1 11 rfl
theorem dX5_count_194 : decode cX5_count 194 = .ok (.getfield 36, 3) := dec_row aX5_count_1 12 rfl
theorem dX5_count_197 : decode cX5_count 197 = .ok (.ireturn, 1) := dec_row aX5_count_1 13 rfl
theorem dX5_count_198 : decode cX5_count 198 = .ok (.aload_n 0, 1) := dec_row aX5_count_1 14 rfl
theorem dX5_count_199 : decode cX5_count 199 = .ok (.getfield 12, 3) := dec_row aX5_count_1 15 rfl
theorem dX5_count_202 : decode cX5_count 202 = .ok (.getfield 81, 3) := dec_row aX5_count_1 16 rfl
theorem dX5_count_205 : decode cX5_count 205 = .ok (.ireturn, 1) := dec_row aX5_count_1 17 rfl
theorem dX5_count_206 : decode cX5_count 206 = .ok (.aload_n 0, 1) := dec_row aX5_count_1 18 rfl
theorem dX5_count_207 : decode cX5_count 207 = .ok (.getfield 40, 3) := dec_row aX5_count_1 19 rfl
theorem dX5_count_210 : decode cX5_count 210 = .ok (.getfield 113, 3) := dec_row aX5_count_1 20 rfl
theorem dX5_count_213 : decode cX5_count 213 = .ok (.ifCond .eq 7, 3) := dec_row aX5_count_1 21 rfl
theorem dX5_count_216 : decode cX5_count 216 = .ok (.iconst 1, 1) := dec_row aX5_count_1 22 rfl
theorem dX5_count_217 : decode cX5_count 217 = .ok (.goto 4, 3) := dec_row aX5_count_1 23 rfl
theorem dX5_count_220 : decode cX5_count 220 = .ok (.iconst 0, 1) := dec_row aX5_count_1 24 rfl
theorem dX5_count_221 : decode cX5_count 221 = .ok (.ireturn, 1) := dec_row aX5_count_1 25 rfl
theorem dX5_count_222 : decode cX5_count 222 = .ok (.iconst (-1), 1) := dec_row aX5_count_1 26 rfl
theorem dX5_count_223 : decode cX5_count 223 = .ok (.ireturn, 1) := dec_row aX5_count_1 27 rfl
def tX5_badShots : List (Nat × Instr × Nat) := [(0, .iconst 0, 1), (1, .istore_n 1, 1), (2, .iconst 0, 1), (3, .istore_n 2, 1), (4, .iload_n 2, 1), (5, .aload_n 0, 1), (6, .invokevirtual 182, 3), (9, .if_icmp .ge 24, 3), (12, .aload_n 0, 1), (13, .aload_n 0, 1), (14, .iload_n 2, 1), (15, .invokevirtual 185, 3), (18, .invokevirtual 241, 3), (21, .ifCond .eq 6, 3), (24, .iinc 1 1, 3), (27, .iinc 2 1, 3), (30, .goto (-26), 3), (33, .iload_n 1, 1), (34, .ireturn, 1)]
theorem aX5_badShots : tX5_badShots.all (fun q => decide (decode cX5_badShots q.1 = .ok q.2)) = true := by decide +kernel
theorem dX5_badShots_0 : decode cX5_badShots 0 = .ok (.iconst 0, 1) := dec_row aX5_badShots 0 rfl
theorem dX5_badShots_1 : decode cX5_badShots 1 = .ok (.istore_n 1, 1) := dec_row aX5_badShots 1 rfl
theorem dX5_badShots_2 : decode cX5_badShots 2 = .ok (.iconst 0, 1) := dec_row aX5_badShots 2 rfl
theorem dX5_badShots_3 : decode cX5_badShots 3 = .ok (.istore_n 2, 1) := dec_row aX5_badShots 3 rfl
theorem dX5_badShots_4 : decode cX5_badShots 4 = .ok (.iload_n 2, 1) := dec_row aX5_badShots 4 rfl
theorem dX5_badShots_5 : decode cX5_badShots 5 = .ok (.aload_n 0, 1) := dec_row aX5_badShots 5 rfl
theorem dX5_badShots_6 : decode cX5_badShots 6 = .ok (.invokevirtual 182, 3) := dec_row aX5_badShots 6 rfl
theorem dX5_badShots_9 : decode cX5_badShots 9 = .ok (.if_icmp .ge 24, 3) := dec_row aX5_badShots 7 rfl
theorem dX5_badShots_12 : decode cX5_badShots 12 = .ok (.aload_n 0, 1) := dec_row aX5_badShots 8 rfl
theorem dX5_badShots_13 : decode cX5_badShots 13 = .ok (.aload_n 0, 1) := dec_row aX5_badShots 9 rfl
theorem dX5_badShots_14 : decode cX5_badShots 14 = .ok (.iload_n 2, 1) := dec_row aX5_badShots 10 rfl
theorem dX5_badShots_15 : decode cX5_badShots 15 = .ok (.invokevirtual 185, 3) := dec_row aX5_badShots 11 rfl
theorem dX5_badShots_18 : decode cX5_badShots 18 = .ok (.invokevirtual 241, 3) := dec_row aX5_badShots 12 rfl
theorem dX5_badShots_21 : decode cX5_badShots 21 = .ok (.ifCond .eq 6, 3) := dec_row aX5_badShots 13 rfl
theorem dX5_badShots_24 : decode cX5_badShots 24 = .ok (.iinc 1 1, 3) := dec_row aX5_badShots 14 rfl
theorem dX5_badShots_27 : decode cX5_badShots 27 = .ok (.iinc 2 1, 3) := dec_row aX5_badShots 15 rfl
theorem dX5_badShots_30 : decode cX5_badShots 30 = .ok (.goto (-26), 3) := dec_row aX5_badShots 16 rfl
theorem dX5_badShots_33 : decode cX5_badShots 33 = .ok (.iload_n 1, 1) := dec_row aX5_badShots 17 rfl
theorem dX5_badShots_34 : decode cX5_badShots 34 = .ok (.ireturn, 1) := dec_row aX5_badShots 18 rfl
def tX5_isReady : List (Nat × Instr × Nat) := [(0, .aload_n 0, 1), (1, .getfield 40, 3), (4, .getfield 103, 3), (7, .ifCond .eq 27, 3), (10, .aload_n 0, 1), (11, .getfield 40, 3), (14, .getfield 110, 3), (17, .invokestatic 126, 3), (20, .aload_n 0, 1), (21, .getfield 19, 3), (24, .getfield 145, 3), (27, .if_icmp .ne 7, 3), (30, .iconst 1, 1), (31, .goto 4, 3), (34, .iconst 0, 1), (35, .ireturn, 1)]
theorem aX5_isReady : tX5_isReady.all (fun q => decide (decode cX5_isReady q.1 = .ok q.2)) = true := by decide +kernel
theorem dX5_isReady_0 : decode cX5_isReady 0 = .ok (.aload_n 0, 1) := dec_row aX5_isReady 0 rfl
theorem dX5_isReady_1 : decode cX5_isReady 1 = .ok (.getfield 40, 3) := dec_row aX5_isReady 1 rfl
theorem dX5_isReady_4 : decode cX5_isReady 4 = .ok (.getfield 103, 3) := dec_row aX5_isReady 2 rfl
theorem dX5_isReady_7 : decode cX5_isReady 7 = .ok (.ifCond .eq 27, 3) := dec_row aX5_isReady 3 rfl
theorem dX5_isReady_10 : decode cX5_isReady 10 = .ok (.aload_n 0, 1) := dec_row aX5_isReady 4 rfl
theorem dX5_isReady_11 : decode cX5_isReady 11 = .ok (.getfield 40, 3) := dec_row aX5_isReady 5 rfl
theorem dX5_isReady_14 : decode cX5_isReady 14 = .ok (.getfield 110, 3) := dec_row aX5_isReady 6 rfl
theorem dX5_isReady_17 : decode cX5_isReady 17 = .ok (.invokestatic 126, 3) := dec_row aX5_isReady 7 rfl
theorem dX5_isReady_20 : decode cX5_isReady 20 = .ok (.aload_n 0, 1) := dec_row aX5_isReady 8 rfl
theorem dX5_isReady_21 : decode cX5_isReady 21 = .ok (.getfield 19, 3) := dec_row aX5_isReady 9 rfl
theorem dX5_isReady_24 : decode cX5_isReady 24 = .ok (.getfield 145, 3) := dec_row aX5_isReady 10 rfl
theorem dX5_isReady_27 : decode cX5_isReady 27 = .ok (.if_icmp .ne 7, 3) := dec_row aX5_isReady 11 rfl
theorem dX5_isReady_30 : decode cX5_isReady 30 = .ok (.iconst 1, 1) := dec_row aX5_isReady 12 rfl
theorem dX5_isReady_31 : decode cX5_isReady 31 = .ok (.goto 4, 3) := dec_row aX5_isReady 13 rfl
theorem dX5_isReady_34 : decode cX5_isReady 34 = .ok (.iconst 0, 1) := dec_row aX5_isReady 14 rfl
theorem dX5_isReady_35 : decode cX5_isReady 35 = .ok (.ireturn, 1) := dec_row aX5_isReady 15 rfl
def tX5_keptShots : List (Nat × Instr × Nat) := [(0, .aload_n 0, 1), (1, .getfield 40, 3), (4, .getfield 172, 3), (7, .bipush 12, 2), (9, .invokestatic 196, 3), (12, .ireturn, 1)]
theorem aX5_keptShots : tX5_keptShots.all (fun q => decide (decode cX5_keptShots q.1 = .ok q.2)) = true := by decide +kernel
theorem dX5_keptShots_0 : decode cX5_keptShots 0 = .ok (.aload_n 0, 1) := dec_row aX5_keptShots 0 rfl
theorem dX5_keptShots_1 : decode cX5_keptShots 1 = .ok (.getfield 40, 3) := dec_row aX5_keptShots 1 rfl
theorem dX5_keptShots_4 : decode cX5_keptShots 4 = .ok (.getfield 172, 3) := dec_row aX5_keptShots 2 rfl
theorem dX5_keptShots_7 : decode cX5_keptShots 7 = .ok (.bipush 12, 2) := dec_row aX5_keptShots 3 rfl
theorem dX5_keptShots_9 : decode cX5_keptShots 9 = .ok (.invokestatic 196, 3) := dec_row aX5_keptShots 4 rfl
theorem dX5_keptShots_12 : decode cX5_keptShots 12 = .ok (.ireturn, 1) := dec_row aX5_keptShots 5 rfl
def tX5_keptShot : List (Nat × Instr × Nat) := [(0, .aload_n 0, 1), (1, .getfield 46, 3), (4, .aload_n 0, 1), (5, .getfield 40, 3), (8, .getfield 172, 3), (11, .aload_n 0, 1), (12, .invokevirtual 182, 3), (15, .isub, 1), (16, .iload_n 1, 1), (17, .iadd, 1), (18, .bipush 16, 2), (20, .invokestatic 291, 3), (23, .aaload, 1), (24, .areturn, 1)]
theorem aX5_keptShot : tX5_keptShot.all (fun q => decide (decode cX5_keptShot q.1 = .ok q.2)) = true := by decide +kernel
theorem dX5_keptShot_0 : decode cX5_keptShot 0 = .ok (.aload_n 0, 1) := dec_row aX5_keptShot 0 rfl
theorem dX5_keptShot_1 : decode cX5_keptShot 1 = .ok (.getfield 46, 3) := dec_row aX5_keptShot 1 rfl
theorem dX5_keptShot_4 : decode cX5_keptShot 4 = .ok (.aload_n 0, 1) := dec_row aX5_keptShot 2 rfl
theorem dX5_keptShot_5 : decode cX5_keptShot 5 = .ok (.getfield 40, 3) := dec_row aX5_keptShot 3 rfl
theorem dX5_keptShot_8 : decode cX5_keptShot 8 = .ok (.getfield 172, 3) := dec_row aX5_keptShot 4 rfl
theorem dX5_keptShot_11 : decode cX5_keptShot 11 = .ok (.aload_n 0, 1) := dec_row aX5_keptShot 5 rfl
theorem dX5_keptShot_12 : decode cX5_keptShot 12 = .ok (.invokevirtual 182, 3) := dec_row aX5_keptShot 6 rfl
theorem dX5_keptShot_15 : decode cX5_keptShot 15 = .ok (.isub, 1) := dec_row aX5_keptShot 7 rfl
theorem dX5_keptShot_16 : decode cX5_keptShot 16 = .ok (.iload_n 1, 1) := dec_row aX5_keptShot 8 rfl
theorem dX5_keptShot_17 : decode cX5_keptShot 17 = .ok (.iadd, 1) := dec_row aX5_keptShot 9 rfl
theorem dX5_keptShot_18 : decode cX5_keptShot 18 = .ok (.bipush 16, 2) := dec_row aX5_keptShot 10 rfl
theorem dX5_keptShot_20 : decode cX5_keptShot 20 = .ok (.invokestatic 291, 3) := dec_row aX5_keptShot 11 rfl
theorem dX5_keptShot_23 : decode cX5_keptShot 23 = .ok (.aaload, 1) := dec_row aX5_keptShot 12 rfl
theorem dX5_keptShot_24 : decode cX5_keptShot 24 = .ok (.areturn, 1) := dec_row aX5_keptShot 13 rfl
def tX5_isCavity : List (Nat × Instr × Nat) := [(0, .iload_n 1, 1), (1, .ifCond .lt 18, 3), (4, .iload_n 1, 1), (5, .aload_n 0, 1), (6, .getfield 19, 3), (9, .getfield 87, 3), (12, .if_icmp .ge 7, 3), (15, .iconst 1, 1), (16, .goto 4, 3), (19, .iconst 0, 1), (20, .ireturn, 1)]
theorem aX5_isCavity : tX5_isCavity.all (fun q => decide (decode cX5_isCavity q.1 = .ok q.2)) = true := by decide +kernel
theorem dX5_isCavity_0 : decode cX5_isCavity 0 = .ok (.iload_n 1, 1) := dec_row aX5_isCavity 0 rfl
theorem dX5_isCavity_1 : decode cX5_isCavity 1 = .ok (.ifCond .lt 18, 3) := dec_row aX5_isCavity 1 rfl
theorem dX5_isCavity_4 : decode cX5_isCavity 4 = .ok (.iload_n 1, 1) := dec_row aX5_isCavity 2 rfl
theorem dX5_isCavity_5 : decode cX5_isCavity 5 = .ok (.aload_n 0, 1) := dec_row aX5_isCavity 3 rfl
theorem dX5_isCavity_6 : decode cX5_isCavity 6 = .ok (.getfield 19, 3) := dec_row aX5_isCavity 4 rfl
theorem dX5_isCavity_9 : decode cX5_isCavity 9 = .ok (.getfield 87, 3) := dec_row aX5_isCavity 5 rfl
theorem dX5_isCavity_12 : decode cX5_isCavity 12 = .ok (.if_icmp .ge 7, 3) := dec_row aX5_isCavity 6 rfl
theorem dX5_isCavity_15 : decode cX5_isCavity 15 = .ok (.iconst 1, 1) := dec_row aX5_isCavity 7 rfl
theorem dX5_isCavity_16 : decode cX5_isCavity 16 = .ok (.goto 4, 3) := dec_row aX5_isCavity 8 rfl
theorem dX5_isCavity_19 : decode cX5_isCavity 19 = .ok (.iconst 0, 1) := dec_row aX5_isCavity 9 rfl
theorem dX5_isCavity_20 : decode cX5_isCavity 20 = .ok (.ireturn, 1) := dec_row aX5_isCavity 10 rfl
def tX5_isCore : List (Nat × Instr × Nat) := [(0, .iload_n 1, 1), (1, .ifCond .lt 18, 3), (4, .iload_n 1, 1), (5, .aload_n 0, 1), (6, .getfield 19, 3), (9, .getfield 145, 3), (12, .if_icmp .ge 7, 3), (15, .iconst 1, 1), (16, .goto 4, 3), (19, .iconst 0, 1), (20, .ireturn, 1)]
theorem aX5_isCore : tX5_isCore.all (fun q => decide (decode cX5_isCore q.1 = .ok q.2)) = true := by decide +kernel
theorem dX5_isCore_0 : decode cX5_isCore 0 = .ok (.iload_n 1, 1) := dec_row aX5_isCore 0 rfl
theorem dX5_isCore_1 : decode cX5_isCore 1 = .ok (.ifCond .lt 18, 3) := dec_row aX5_isCore 1 rfl
theorem dX5_isCore_4 : decode cX5_isCore 4 = .ok (.iload_n 1, 1) := dec_row aX5_isCore 2 rfl
theorem dX5_isCore_5 : decode cX5_isCore 5 = .ok (.aload_n 0, 1) := dec_row aX5_isCore 3 rfl
theorem dX5_isCore_6 : decode cX5_isCore 6 = .ok (.getfield 19, 3) := dec_row aX5_isCore 4 rfl
theorem dX5_isCore_9 : decode cX5_isCore 9 = .ok (.getfield 145, 3) := dec_row aX5_isCore 5 rfl
theorem dX5_isCore_12 : decode cX5_isCore 12 = .ok (.if_icmp .ge 7, 3) := dec_row aX5_isCore 6 rfl
theorem dX5_isCore_15 : decode cX5_isCore 15 = .ok (.iconst 1, 1) := dec_row aX5_isCore 7 rfl
theorem dX5_isCore_16 : decode cX5_isCore 16 = .ok (.goto 4, 3) := dec_row aX5_isCore 8 rfl
theorem dX5_isCore_19 : decode cX5_isCore 19 = .ok (.iconst 0, 1) := dec_row aX5_isCore 9 rfl
theorem dX5_isCore_20 : decode cX5_isCore 20 = .ok (.ireturn, 1) := dec_row aX5_isCore 10 rfl
def tX5_isShot : List (Nat × Instr × Nat) := [(0, .iload_n 1, 1), (1, .ifCond .lt 15, 3), (4, .iload_n 1, 1), (5, .aload_n 0, 1), (6, .invokevirtual 182, 3), (9, .if_icmp .ge 7, 3), (12, .iconst 1, 1), (13, .goto 4, 3), (16, .iconst 0, 1), (17, .ireturn, 1)]
theorem aX5_isShot : tX5_isShot.all (fun q => decide (decode cX5_isShot q.1 = .ok q.2)) = true := by decide +kernel
theorem dX5_isShot_0 : decode cX5_isShot 0 = .ok (.iload_n 1, 1) := dec_row aX5_isShot 0 rfl
theorem dX5_isShot_1 : decode cX5_isShot 1 = .ok (.ifCond .lt 15, 3) := dec_row aX5_isShot 1 rfl
theorem dX5_isShot_4 : decode cX5_isShot 4 = .ok (.iload_n 1, 1) := dec_row aX5_isShot 2 rfl
theorem dX5_isShot_5 : decode cX5_isShot 5 = .ok (.aload_n 0, 1) := dec_row aX5_isShot 3 rfl
theorem dX5_isShot_6 : decode cX5_isShot 6 = .ok (.invokevirtual 182, 3) := dec_row aX5_isShot 4 rfl
theorem dX5_isShot_9 : decode cX5_isShot 9 = .ok (.if_icmp .ge 7, 3) := dec_row aX5_isShot 5 rfl
theorem dX5_isShot_12 : decode cX5_isShot 12 = .ok (.iconst 1, 1) := dec_row aX5_isShot 6 rfl
theorem dX5_isShot_13 : decode cX5_isShot 13 = .ok (.goto 4, 3) := dec_row aX5_isShot 7 rfl
theorem dX5_isShot_16 : decode cX5_isShot 16 = .ok (.iconst 0, 1) := dec_row aX5_isShot 8 rfl
theorem dX5_isShot_17 : decode cX5_isShot 17 = .ok (.ireturn, 1) := dec_row aX5_isShot 9 rfl
def tX5_isTick : List (Nat × Instr × Nat) := [(0, .iload_n 0, 1), (1, .iconst 1, 1), (2, .if_icmp .lt 13, 3), (5, .iload_n 0, 1), (6, .bipush 60, 2), (8, .if_icmp .gt 7, 3), (11, .iconst 1, 1), (12, .goto 4, 3), (15, .iconst 0, 1), (16, .ireturn, 1)]
theorem aX5_isTick : tX5_isTick.all (fun q => decide (decode cX5_isTick q.1 = .ok q.2)) = true := by decide +kernel
theorem dX5_isTick_0 : decode cX5_isTick 0 = .ok (.iload_n 0, 1) := dec_row aX5_isTick 0 rfl
theorem dX5_isTick_1 : decode cX5_isTick 1 = .ok (.iconst 1, 1) := dec_row aX5_isTick 1 rfl
theorem dX5_isTick_2 : decode cX5_isTick 2 = .ok (.if_icmp .lt 13, 3) := dec_row aX5_isTick 2 rfl
theorem dX5_isTick_5 : decode cX5_isTick 5 = .ok (.iload_n 0, 1) := dec_row aX5_isTick 3 rfl
theorem dX5_isTick_6 : decode cX5_isTick 6 = .ok (.bipush 60, 2) := dec_row aX5_isTick 4 rfl
theorem dX5_isTick_8 : decode cX5_isTick 8 = .ok (.if_icmp .gt 7, 3) := dec_row aX5_isTick 5 rfl
theorem dX5_isTick_11 : decode cX5_isTick 11 = .ok (.iconst 1, 1) := dec_row aX5_isTick 6 rfl
theorem dX5_isTick_12 : decode cX5_isTick 12 = .ok (.goto 4, 3) := dec_row aX5_isTick 7 rfl
theorem dX5_isTick_15 : decode cX5_isTick 15 = .ok (.iconst 0, 1) := dec_row aX5_isTick 8 rfl
theorem dX5_isTick_16 : decode cX5_isTick 16 = .ok (.ireturn, 1) := dec_row aX5_isTick 9 rfl
def tX5_isFlag : List (Nat × Instr × Nat) := [(0, .iload_n 0, 1), (1, .ifCond .eq 8, 3), (4, .iload_n 0, 1), (5, .iconst 1, 1), (6, .if_icmp .ne 7, 3), (9, .iconst 1, 1), (10, .goto 4, 3), (13, .iconst 0, 1), (14, .ireturn, 1)]
theorem aX5_isFlag : tX5_isFlag.all (fun q => decide (decode cX5_isFlag q.1 = .ok q.2)) = true := by decide +kernel
theorem dX5_isFlag_0 : decode cX5_isFlag 0 = .ok (.iload_n 0, 1) := dec_row aX5_isFlag 0 rfl
theorem dX5_isFlag_1 : decode cX5_isFlag 1 = .ok (.ifCond .eq 8, 3) := dec_row aX5_isFlag 1 rfl
theorem dX5_isFlag_4 : decode cX5_isFlag 4 = .ok (.iload_n 0, 1) := dec_row aX5_isFlag 2 rfl
theorem dX5_isFlag_5 : decode cX5_isFlag 5 = .ok (.iconst 1, 1) := dec_row aX5_isFlag 3 rfl
theorem dX5_isFlag_6 : decode cX5_isFlag 6 = .ok (.if_icmp .ne 7, 3) := dec_row aX5_isFlag 4 rfl
theorem dX5_isFlag_9 : decode cX5_isFlag 9 = .ok (.iconst 1, 1) := dec_row aX5_isFlag 5 rfl
theorem dX5_isFlag_10 : decode cX5_isFlag 10 = .ok (.goto 4, 3) := dec_row aX5_isFlag 6 rfl
theorem dX5_isFlag_13 : decode cX5_isFlag 13 = .ok (.iconst 0, 1) := dec_row aX5_isFlag 7 rfl
theorem dX5_isFlag_14 : decode cX5_isFlag 14 = .ok (.ireturn, 1) := dec_row aX5_isFlag 8 rfl
def tX6_init_0 : List (Nat × Instr × Nat) := [(0, .aload_n 0, 1), (1, .invokespecial 1, 3), (4, .aload_n 0, 1), (5, .sipush 200, 3), (8, .newarray .int, 2), (10, .putfield 7, 3), (13, .aload_n 0, 1), (14, .bipush 6, 2), (16, .newarray .int, 2), (18, .putfield 13, 3), (21, .aload_n 0, 1), (22, .bipush 6, 2), (24, .newarray .int, 2), (26, .putfield 16, 3), (29, .aload_n 0, 1), (30, .iconst 4, 1), (31, .newarray .int, 2), (33, .putfield 19, 3), (36, .aload_n 0, 1), (37, .iconst 4, 1), (38, .newarray .int, 2), (40, .putfield 22, 3), (43, .aload_n 0, 1), (44, .sipush 1155, 3), (47, .newarray .int, 2), (49, .putfield 25, 3), (52, .aload_n 0, 1), (53, .sipush 4620, 3), (56, .newarray .int, 2), (58, .putfield 28, 3), (61, .aload_n 0, 1), (62, .bipush 84, 2), (64, .newarray .int, 2), (66, .putfield 31, 3), (69, .aload_n 0, 1), (70, .bipush 18, 2), (72, .newarray .int, 2), (74, .putfield 34, 3), (77, .aload_n 0, 1), (78, .iconst 4, 1), (79, .newarray .int, 2), (81, .putfield 37, 3), (84, .aload_n 0, 1), (85, .bipush 8, 2), (87, .newarray .int, 2), (89, .putfield 40, 3), (92, .aload_n 0, 1), (93, .bipush 6, 2), (95, .newarray .int, 2), (97, .putfield 43, 3)]
theorem aX6_init_0 : tX6_init_0.all (fun q => decide (decode cX6_init q.1 = .ok q.2)) = true := by decide +kernel
theorem dX6_init_0 : decode cX6_init 0 = .ok (.aload_n 0, 1) := dec_row aX6_init_0 0 rfl
theorem dX6_init_1 : decode cX6_init 1 = .ok (.invokespecial 1, 3) := dec_row aX6_init_0 1 rfl
theorem dX6_init_4 : decode cX6_init 4 = .ok (.aload_n 0, 1) := dec_row aX6_init_0 2 rfl
theorem dX6_init_5 : decode cX6_init 5 = .ok (.sipush 200, 3) := dec_row aX6_init_0 3 rfl
theorem dX6_init_8 : decode cX6_init 8 = .ok (.newarray .int, 2) := dec_row aX6_init_0 4 rfl
theorem dX6_init_10 : decode cX6_init 10 = .ok (.putfield 7, 3) := dec_row aX6_init_0 5 rfl
theorem dX6_init_13 : decode cX6_init 13 = .ok (.aload_n 0, 1) := dec_row aX6_init_0 6 rfl
theorem dX6_init_14 : decode cX6_init 14 = .ok (.bipush 6, 2) := dec_row aX6_init_0 7 rfl
theorem dX6_init_16 : decode cX6_init 16 = .ok (.newarray .int, 2) := dec_row aX6_init_0 8 rfl
theorem dX6_init_18 : decode cX6_init 18 = .ok (.putfield 13, 3) := dec_row aX6_init_0 9 rfl
theorem dX6_init_21 : decode cX6_init 21 = .ok (.aload_n 0, 1) := dec_row aX6_init_0 10 rfl
theorem dX6_init_22 : decode cX6_init 22 = .ok (.bipush 6, 2) := dec_row aX6_init_0 11 rfl
theorem dX6_init_24 : decode cX6_init 24 = .ok (.newarray .int, 2) := dec_row aX6_init_0 12 rfl
theorem dX6_init_26 : decode cX6_init 26 = .ok (.putfield 16, 3) := dec_row aX6_init_0 13 rfl
theorem dX6_init_29 : decode cX6_init 29 = .ok (.aload_n 0, 1) := dec_row aX6_init_0 14 rfl
theorem dX6_init_30 : decode cX6_init 30 = .ok (.iconst 4, 1) := dec_row aX6_init_0 15 rfl
theorem dX6_init_31 : decode cX6_init 31 = .ok (.newarray .int, 2) := dec_row aX6_init_0 16 rfl
theorem dX6_init_33 : decode cX6_init 33 = .ok (.putfield 19, 3) := dec_row aX6_init_0 17 rfl
theorem dX6_init_36 : decode cX6_init 36 = .ok (.aload_n 0, 1) := dec_row aX6_init_0 18 rfl
theorem dX6_init_37 : decode cX6_init 37 = .ok (.iconst 4, 1) := dec_row aX6_init_0 19 rfl
theorem dX6_init_38 : decode cX6_init 38 = .ok (.newarray .int, 2) := dec_row aX6_init_0 20 rfl
theorem dX6_init_40 : decode cX6_init 40 = .ok (.putfield 22, 3) := dec_row aX6_init_0 21 rfl
theorem dX6_init_43 : decode cX6_init 43 = .ok (.aload_n 0, 1) := dec_row aX6_init_0 22 rfl
theorem dX6_init_44 : decode cX6_init 44 = .ok (.sipush 1155, 3) := dec_row aX6_init_0 23 rfl
theorem dX6_init_47 : decode cX6_init 47 = .ok (.newarray .int, 2) := dec_row aX6_init_0 24 rfl
theorem dX6_init_49 : decode cX6_init 49 = .ok (.putfield 25, 3) := dec_row aX6_init_0 25 rfl
theorem dX6_init_52 : decode cX6_init 52 = .ok (.aload_n 0, 1) := dec_row aX6_init_0 26 rfl
theorem dX6_init_53 : decode cX6_init 53 = .ok (.sipush 4620, 3) := dec_row aX6_init_0 27 rfl
theorem dX6_init_56 : decode cX6_init 56 = .ok (.newarray .int, 2) := dec_row aX6_init_0 28 rfl
theorem dX6_init_58 : decode cX6_init 58 = .ok (.putfield 28, 3) := dec_row aX6_init_0 29 rfl
theorem dX6_init_61 : decode cX6_init 61 = .ok (.aload_n 0, 1) := dec_row aX6_init_0 30 rfl
theorem dX6_init_62 : decode cX6_init 62 = .ok (.bipush 84, 2) := dec_row aX6_init_0 31 rfl
theorem dX6_init_64 : decode cX6_init 64 = .ok (.newarray .int, 2) := dec_row aX6_init_0 32 rfl
theorem dX6_init_66 : decode cX6_init 66 = .ok (.putfield 31, 3) := dec_row aX6_init_0 33 rfl
theorem dX6_init_69 : decode cX6_init 69 = .ok (.aload_n 0, 1) := dec_row aX6_init_0 34 rfl
theorem dX6_init_70 : decode cX6_init 70 = .ok (.bipush 18, 2) := dec_row aX6_init_0 35 rfl
theorem dX6_init_72 : decode cX6_init 72 = .ok (.newarray .int, 2) := dec_row aX6_init_0 36 rfl
theorem dX6_init_74 : decode cX6_init 74 = .ok (.putfield 34, 3) := dec_row aX6_init_0 37 rfl
theorem dX6_init_77 : decode cX6_init 77 = .ok (.aload_n 0, 1) := dec_row aX6_init_0 38 rfl
theorem dX6_init_78 : decode cX6_init 78 = .ok (.iconst 4, 1) := dec_row aX6_init_0 39 rfl
theorem dX6_init_79 : decode cX6_init 79 = .ok (.newarray .int, 2) := dec_row aX6_init_0 40 rfl
theorem dX6_init_81 : decode cX6_init 81 = .ok (.putfield 37, 3) := dec_row aX6_init_0 41 rfl
theorem dX6_init_84 : decode cX6_init 84 = .ok (.aload_n 0, 1) := dec_row aX6_init_0 42 rfl
theorem dX6_init_85 : decode cX6_init 85 = .ok (.bipush 8, 2) := dec_row aX6_init_0 43 rfl
theorem dX6_init_87 : decode cX6_init 87 = .ok (.newarray .int, 2) := dec_row aX6_init_0 44 rfl
theorem dX6_init_89 : decode cX6_init 89 = .ok (.putfield 40, 3) := dec_row aX6_init_0 45 rfl
theorem dX6_init_92 : decode cX6_init 92 = .ok (.aload_n 0, 1) := dec_row aX6_init_0 46 rfl
theorem dX6_init_93 : decode cX6_init 93 = .ok (.bipush 6, 2) := dec_row aX6_init_0 47 rfl
theorem dX6_init_95 : decode cX6_init 95 = .ok (.newarray .int, 2) := dec_row aX6_init_0 48 rfl
theorem dX6_init_97 : decode cX6_init 97 = .ok (.putfield 43, 3) := dec_row aX6_init_0 49 rfl
def tX6_init_1 : List (Nat × Instr × Nat) := [(100, .aload_n 0, 1), (101, .invokevirtual 46, 3), (104, .aload_n 0, 1), (105, .bipush 12, 2), (107, .iconst 2, 1), (108, .bipush 6, 2), (110, .invokevirtual 49, 3), (113, .aload_n 0, 1), (114, .bipush 12, 2), (116, .iconst 3, 1), (117, .iconst 5, 1), (118, .invokevirtual 49, 3), (121, .aload_n 0, 1), (122, .bipush 8, 2), (124, .iconst 4, 1), (125, .iconst 4, 1), (126, .invokevirtual 49, 3), (129, .aload_n 0, 1), (130, .getfield 37, 3), (133, .iconst 0, 1), (134, .iconst 1, 1), (135, .iastore, 1), (136, .aload_n 0, 1), (137, .getfield 37, 3), (140, .iconst 1, 1), (141, .bipush 9, 2), (143, .iastore, 1), (144, .aload_n 0, 1), (145, .getfield 37, 3), (148, .iconst 2, 1), (149, .iconst 1, 1), (150, .iastore, 1), (151, .aload_n 0, 1), (152, .iconst 3, 1), (153, .putfield 53, 3), (156, .aload_n 0, 1), (157, .iconst 0, 1), (158, .iconst 2, 1), (159, .invokevirtual 57, 3), (162, .aload_n 0, 1), (163, .bipush 10, 2), (165, .iconst 5, 1), (166, .invokevirtual 57, 3), (169, .aload_n 0, 1), (170, .bipush 30, 2), (172, .iconst 3, 1), (173, .invokevirtual 57, 3), (176, .aload_n 0, 1), (177, .getfield 43, 3), (180, .iconst 0, 1)]
theorem aX6_init_1 : tX6_init_1.all (fun q => decide (decode cX6_init q.1 = .ok q.2)) = true := by decide +kernel
theorem dX6_init_100 : decode cX6_init 100 = .ok (.aload_n 0, 1) := dec_row aX6_init_1 0 rfl
theorem dX6_init_101 : decode cX6_init 101 = .ok (.invokevirtual 46, 3) := dec_row aX6_init_1 1 rfl
theorem dX6_init_104 : decode cX6_init 104 = .ok (.aload_n 0, 1) := dec_row aX6_init_1 2 rfl
theorem dX6_init_105 : decode cX6_init 105 = .ok (.bipush 12, 2) := dec_row aX6_init_1 3 rfl
theorem dX6_init_107 : decode cX6_init 107 = .ok (.iconst 2, 1) := dec_row aX6_init_1 4 rfl
theorem dX6_init_108 : decode cX6_init 108 = .ok (.bipush 6, 2) := dec_row aX6_init_1 5 rfl
theorem dX6_init_110 : decode cX6_init 110 = .ok (.invokevirtual 49, 3) := dec_row aX6_init_1 6 rfl
theorem dX6_init_113 : decode cX6_init 113 = .ok (.aload_n 0, 1) := dec_row aX6_init_1 7 rfl
theorem dX6_init_114 : decode cX6_init 114 = .ok (.bipush 12, 2) := dec_row aX6_init_1 8 rfl
theorem dX6_init_116 : decode cX6_init 116 = .ok (.iconst 3, 1) := dec_row aX6_init_1 9 rfl
theorem dX6_init_117 : decode cX6_init 117 = .ok (.iconst 5, 1) := dec_row aX6_init_1 10 rfl
theorem dX6_init_118 : decode cX6_init 118 = .ok (.invokevirtual 49, 3) := dec_row aX6_init_1 11 rfl
theorem dX6_init_121 : decode cX6_init 121 = .ok (.aload_n 0, 1) := dec_row aX6_init_1 12 rfl
theorem dX6_init_122 : decode cX6_init 122 = .ok (.bipush 8, 2) := dec_row aX6_init_1 13 rfl
theorem dX6_init_124 : decode cX6_init 124 = .ok (.iconst 4, 1) := dec_row aX6_init_1 14 rfl
theorem dX6_init_125 : decode cX6_init 125 = .ok (.iconst 4, 1) := dec_row aX6_init_1 15 rfl
theorem dX6_init_126 : decode cX6_init 126 = .ok (.invokevirtual 49, 3) := dec_row aX6_init_1 16 rfl
theorem dX6_init_129 : decode cX6_init 129 = .ok (.aload_n 0, 1) := dec_row aX6_init_1 17 rfl
theorem dX6_init_130 : decode cX6_init 130 = .ok (.getfield 37, 3) := dec_row aX6_init_1 18 rfl
theorem dX6_init_133 : decode cX6_init 133 = .ok (.iconst 0, 1) := dec_row aX6_init_1 19 rfl
theorem dX6_init_134 : decode cX6_init 134 = .ok (.iconst 1, 1) := dec_row aX6_init_1 20 rfl
theorem dX6_init_135 : decode cX6_init 135 = .ok (.iastore, 1) := dec_row aX6_init_1 21 rfl
theorem dX6_init_136 : decode cX6_init 136 = .ok (.aload_n 0, 1) := dec_row aX6_init_1 22 rfl
theorem dX6_init_137 : decode cX6_init 137 = .ok (.getfield 37, 3) := dec_row aX6_init_1 23 rfl
theorem dX6_init_140 : decode cX6_init 140 = .ok (.iconst 1, 1) := dec_row aX6_init_1 24 rfl
theorem dX6_init_141 : decode cX6_init 141 = .ok (.bipush 9, 2) := dec_row aX6_init_1 25 rfl
theorem dX6_init_143 : decode cX6_init 143 = .ok (.iastore, 1) := dec_row aX6_init_1 26 rfl
theorem dX6_init_144 : decode cX6_init 144 = .ok (.aload_n 0, 1) := dec_row aX6_init_1 27 rfl
theorem dX6_init_145 : decode cX6_init 145 = .ok (.getfield 37, 3) := dec_row aX6_init_1 28 rfl
theorem dX6_init_148 : decode cX6_init 148 = .ok (.iconst 2, 1) := dec_row aX6_init_1 29 rfl
theorem dX6_init_149 : decode cX6_init 149 = .ok (.iconst 1, 1) := dec_row aX6_init_1 30 rfl
theorem dX6_init_150 : decode cX6_init 150 = .ok (.iastore, 1) := dec_row aX6_init_1 31 rfl
theorem dX6_init_151 : decode cX6_init 151 = .ok (.aload_n 0, 1) := dec_row aX6_init_1 32 rfl
theorem dX6_init_152 : decode cX6_init 152 = .ok (.iconst 3, 1) := dec_row aX6_init_1 33 rfl
theorem dX6_init_153 : decode cX6_init 153 = .ok (.putfield 53, 3) := dec_row aX6_init_1 34 rfl
theorem dX6_init_156 : decode cX6_init 156 = .ok (.aload_n 0, 1) := dec_row aX6_init_1 35 rfl
theorem dX6_init_157 : decode cX6_init 157 = .ok (.iconst 0, 1) := dec_row aX6_init_1 36 rfl
theorem dX6_init_158 : decode cX6_init 158 = .ok (.iconst 2, 1) := dec_row aX6_init_1 37 rfl
theorem dX6_init_159 : decode cX6_init 159 = .ok (.invokevirtual 57, 3) := dec_row aX6_init_1 38 rfl
theorem dX6_init_162 : decode cX6_init 162 = .ok (.aload_n 0, 1) := dec_row aX6_init_1 39 rfl
theorem dX6_init_163 : decode cX6_init 163 = .ok (.bipush 10, 2) := dec_row aX6_init_1 40 rfl
theorem dX6_init_165 : decode cX6_init 165 = .ok (.iconst 5, 1) := dec_row aX6_init_1 41 rfl
theorem dX6_init_166 : decode cX6_init 166 = .ok (.invokevirtual 57, 3) := dec_row aX6_init_1 42 rfl
theorem dX6_init_169 : decode cX6_init 169 = .ok (.aload_n 0, 1) := dec_row aX6_init_1 43 rfl
theorem dX6_init_170 : decode cX6_init 170 = .ok (.bipush 30, 2) := dec_row aX6_init_1 44 rfl
theorem dX6_init_172 : decode cX6_init 172 = .ok (.iconst 3, 1) := dec_row aX6_init_1 45 rfl
theorem dX6_init_173 : decode cX6_init 173 = .ok (.invokevirtual 57, 3) := dec_row aX6_init_1 46 rfl
theorem dX6_init_176 : decode cX6_init 176 = .ok (.aload_n 0, 1) := dec_row aX6_init_1 47 rfl
theorem dX6_init_177 : decode cX6_init 177 = .ok (.getfield 43, 3) := dec_row aX6_init_1 48 rfl
theorem dX6_init_180 : decode cX6_init 180 = .ok (.iconst 0, 1) := dec_row aX6_init_1 49 rfl
def tX6_init_2 : List (Nat × Instr × Nat) := [(181, .bipush 36, 2), (183, .iastore, 1), (184, .aload_n 0, 1), (185, .getfield 43, 3), (188, .iconst 1, 1), (189, .bipush 60, 2), (191, .iastore, 1), (192, .aload_n 0, 1), (193, .getfield 43, 3), (196, .iconst 2, 1), (197, .bipush 20, 2), (199, .iastore, 1), (200, .aload_n 0, 1), (201, .getfield 43, 3), (204, .iconst 3, 1), (205, .bipush 50, 2), (207, .iastore, 1), (208, .aload_n 0, 1), (209, .getfield 43, 3), (212, .iconst 4, 1), (213, .bipush 6, 2), (215, .iastore, 1), (216, .aload_n 0, 1), (217, .getfield 43, 3), (220, .iconst 5, 1), (221, .bipush 9, 2), (223, .iastore, 1), (224, .aload_n 0, 1), (225, .invokevirtual 61, 3), (228, .return_, 1)]
theorem aX6_init_2 : tX6_init_2.all (fun q => decide (decode cX6_init q.1 = .ok q.2)) = true := by decide +kernel
theorem dX6_init_181 : decode cX6_init 181 = .ok (.bipush 36, 2) := dec_row aX6_init_2 0 rfl
theorem dX6_init_183 : decode cX6_init 183 = .ok (.iastore, 1) := dec_row aX6_init_2 1 rfl
theorem dX6_init_184 : decode cX6_init 184 = .ok (.aload_n 0, 1) := dec_row aX6_init_2 2 rfl
theorem dX6_init_185 : decode cX6_init 185 = .ok (.getfield 43, 3) := dec_row aX6_init_2 3 rfl
theorem dX6_init_188 : decode cX6_init 188 = .ok (.iconst 1, 1) := dec_row aX6_init_2 4 rfl
theorem dX6_init_189 : decode cX6_init 189 = .ok (.bipush 60, 2) := dec_row aX6_init_2 5 rfl
theorem dX6_init_191 : decode cX6_init 191 = .ok (.iastore, 1) := dec_row aX6_init_2 6 rfl
theorem dX6_init_192 : decode cX6_init 192 = .ok (.aload_n 0, 1) := dec_row aX6_init_2 7 rfl
theorem dX6_init_193 : decode cX6_init 193 = .ok (.getfield 43, 3) := dec_row aX6_init_2 8 rfl
theorem dX6_init_196 : decode cX6_init 196 = .ok (.iconst 2, 1) := dec_row aX6_init_2 9 rfl
theorem dX6_init_197 : decode cX6_init 197 = .ok (.bipush 20, 2) := dec_row aX6_init_2 10 rfl
theorem dX6_init_199 : decode cX6_init 199 = .ok (.iastore, 1) := dec_row aX6_init_2 11 rfl
theorem dX6_init_200 : decode cX6_init 200 = .ok (.aload_n 0, 1) := dec_row aX6_init_2 12 rfl
theorem dX6_init_201 : decode cX6_init 201 = .ok (.getfield 43, 3) := dec_row aX6_init_2 13 rfl
theorem dX6_init_204 : decode cX6_init 204 = .ok (.iconst 3, 1) := dec_row aX6_init_2 14 rfl
theorem dX6_init_205 : decode cX6_init 205 = .ok (.bipush 50, 2) := dec_row aX6_init_2 15 rfl
theorem dX6_init_207 : decode cX6_init 207 = .ok (.iastore, 1) := dec_row aX6_init_2 16 rfl
theorem dX6_init_208 : decode cX6_init 208 = .ok (.aload_n 0, 1) := dec_row aX6_init_2 17 rfl
theorem dX6_init_209 : decode cX6_init 209 = .ok (.getfield 43, 3) := dec_row aX6_init_2 18 rfl
theorem dX6_init_212 : decode cX6_init 212 = .ok (.iconst 4, 1) := dec_row aX6_init_2 19 rfl
theorem dX6_init_213 : decode cX6_init 213 = .ok (.bipush 6, 2) := dec_row aX6_init_2 20 rfl
theorem dX6_init_215 : decode cX6_init 215 = .ok (.iastore, 1) := dec_row aX6_init_2 21 rfl
theorem dX6_init_216 : decode cX6_init 216 = .ok (.aload_n 0, 1) := dec_row aX6_init_2 22 rfl
theorem dX6_init_217 : decode cX6_init 217 = .ok (.getfield 43, 3) := dec_row aX6_init_2 23 rfl
theorem dX6_init_220 : decode cX6_init 220 = .ok (.iconst 5, 1) := dec_row aX6_init_2 24 rfl
theorem dX6_init_221 : decode cX6_init 221 = .ok (.bipush 9, 2) := dec_row aX6_init_2 25 rfl
theorem dX6_init_223 : decode cX6_init 223 = .ok (.iastore, 1) := dec_row aX6_init_2 26 rfl
theorem dX6_init_224 : decode cX6_init 224 = .ok (.aload_n 0, 1) := dec_row aX6_init_2 27 rfl
theorem dX6_init_225 : decode cX6_init 225 = .ok (.invokevirtual 61, 3) := dec_row aX6_init_2 28 rfl
theorem dX6_init_228 : decode cX6_init 228 = .ok (.return_, 1) := dec_row aX6_init_2 29 rfl
def tX6_cavityOf : List (Nat × Instr × Nat) := [(0, .aload_n 0, 1), (1, .getfield 34, 3), (4, .iconst 3, 1), (5, .aload_n 0, 1), (6, .getfield 64, 3), (9, .imul, 1), (10, .iload_n 1, 1), (11, .iastore, 1), (12, .aload_n 0, 1), (13, .getfield 34, 3), (16, .iconst 3, 1), (17, .aload_n 0, 1), (18, .getfield 64, 3), (21, .imul, 1), (22, .iconst 1, 1), (23, .iadd, 1), (24, .iload_n 2, 1), (25, .iastore, 1), (26, .aload_n 0, 1), (27, .getfield 34, 3), (30, .iconst 3, 1), (31, .aload_n 0, 1), (32, .getfield 64, 3), (35, .imul, 1), (36, .iconst 2, 1), (37, .iadd, 1), (38, .iload_n 3, 1), (39, .iastore, 1), (40, .aload_n 0, 1), (41, .dup, 1), (42, .getfield 64, 3), (45, .iconst 1, 1), (46, .iadd, 1), (47, .putfield 64, 3), (50, .return_, 1)]
theorem aX6_cavityOf : tX6_cavityOf.all (fun q => decide (decode cX6_cavityOf q.1 = .ok q.2)) = true := by decide +kernel
theorem dX6_cavityOf_0 : decode cX6_cavityOf 0 = .ok (.aload_n 0, 1) := dec_row aX6_cavityOf 0 rfl
theorem dX6_cavityOf_1 : decode cX6_cavityOf 1 = .ok (.getfield 34, 3) := dec_row aX6_cavityOf 1 rfl
theorem dX6_cavityOf_4 : decode cX6_cavityOf 4 = .ok (.iconst 3, 1) := dec_row aX6_cavityOf 2 rfl
theorem dX6_cavityOf_5 : decode cX6_cavityOf 5 = .ok (.aload_n 0, 1) := dec_row aX6_cavityOf 3 rfl
theorem dX6_cavityOf_6 : decode cX6_cavityOf 6 = .ok (.getfield 64, 3) := dec_row aX6_cavityOf 4 rfl
theorem dX6_cavityOf_9 : decode cX6_cavityOf 9 = .ok (.imul, 1) := dec_row aX6_cavityOf 5 rfl
theorem dX6_cavityOf_10 : decode cX6_cavityOf 10 = .ok (.iload_n 1, 1) := dec_row aX6_cavityOf 6 rfl
theorem dX6_cavityOf_11 : decode cX6_cavityOf 11 = .ok (.iastore, 1) := dec_row aX6_cavityOf 7 rfl
theorem dX6_cavityOf_12 : decode cX6_cavityOf 12 = .ok (.aload_n 0, 1) := dec_row aX6_cavityOf 8 rfl
theorem dX6_cavityOf_13 : decode cX6_cavityOf 13 = .ok (.getfield 34, 3) := dec_row aX6_cavityOf 9 rfl
theorem dX6_cavityOf_16 : decode cX6_cavityOf 16 = .ok (.iconst 3, 1) := dec_row aX6_cavityOf 10 rfl
theorem dX6_cavityOf_17 : decode cX6_cavityOf 17 = .ok (.aload_n 0, 1) := dec_row aX6_cavityOf 11 rfl
theorem dX6_cavityOf_18 : decode cX6_cavityOf 18 = .ok (.getfield 64, 3) := dec_row aX6_cavityOf 12 rfl
theorem dX6_cavityOf_21 : decode cX6_cavityOf 21 = .ok (.imul, 1) := dec_row aX6_cavityOf 13 rfl
theorem dX6_cavityOf_22 : decode cX6_cavityOf 22 = .ok (.iconst 1, 1) := dec_row aX6_cavityOf 14 rfl
theorem dX6_cavityOf_23 : decode cX6_cavityOf 23 = .ok (.iadd, 1) := dec_row aX6_cavityOf 15 rfl
theorem dX6_cavityOf_24 : decode cX6_cavityOf 24 = .ok (.iload_n 2, 1) := dec_row aX6_cavityOf 16 rfl
theorem dX6_cavityOf_25 : decode cX6_cavityOf 25 = .ok (.iastore, 1) := dec_row aX6_cavityOf 17 rfl
theorem dX6_cavityOf_26 : decode cX6_cavityOf 26 = .ok (.aload_n 0, 1) := dec_row aX6_cavityOf 18 rfl
theorem dX6_cavityOf_27 : decode cX6_cavityOf 27 = .ok (.getfield 34, 3) := dec_row aX6_cavityOf 19 rfl
theorem dX6_cavityOf_30 : decode cX6_cavityOf 30 = .ok (.iconst 3, 1) := dec_row aX6_cavityOf 20 rfl
theorem dX6_cavityOf_31 : decode cX6_cavityOf 31 = .ok (.aload_n 0, 1) := dec_row aX6_cavityOf 21 rfl
theorem dX6_cavityOf_32 : decode cX6_cavityOf 32 = .ok (.getfield 64, 3) := dec_row aX6_cavityOf 22 rfl
theorem dX6_cavityOf_35 : decode cX6_cavityOf 35 = .ok (.imul, 1) := dec_row aX6_cavityOf 23 rfl
theorem dX6_cavityOf_36 : decode cX6_cavityOf 36 = .ok (.iconst 2, 1) := dec_row aX6_cavityOf 24 rfl
theorem dX6_cavityOf_37 : decode cX6_cavityOf 37 = .ok (.iadd, 1) := dec_row aX6_cavityOf 25 rfl
theorem dX6_cavityOf_38 : decode cX6_cavityOf 38 = .ok (.iload_n 3, 1) := dec_row aX6_cavityOf 26 rfl
theorem dX6_cavityOf_39 : decode cX6_cavityOf 39 = .ok (.iastore, 1) := dec_row aX6_cavityOf 27 rfl
theorem dX6_cavityOf_40 : decode cX6_cavityOf 40 = .ok (.aload_n 0, 1) := dec_row aX6_cavityOf 28 rfl
theorem dX6_cavityOf_41 : decode cX6_cavityOf 41 = .ok (.dup, 1) := dec_row aX6_cavityOf 29 rfl
theorem dX6_cavityOf_42 : decode cX6_cavityOf 42 = .ok (.getfield 64, 3) := dec_row aX6_cavityOf 30 rfl
theorem dX6_cavityOf_45 : decode cX6_cavityOf 45 = .ok (.iconst 1, 1) := dec_row aX6_cavityOf 31 rfl
theorem dX6_cavityOf_46 : decode cX6_cavityOf 46 = .ok (.iadd, 1) := dec_row aX6_cavityOf 32 rfl
theorem dX6_cavityOf_47 : decode cX6_cavityOf 47 = .ok (.putfield 64, 3) := dec_row aX6_cavityOf 33 rfl
theorem dX6_cavityOf_50 : decode cX6_cavityOf 50 = .ok (.return_, 1) := dec_row aX6_cavityOf 34 rfl
def tX6_stageOf : List (Nat × Instr × Nat) := [(0, .aload_n 0, 1), (1, .getfield 40, 3), (4, .iconst 2, 1), (5, .aload_n 0, 1), (6, .getfield 67, 3), (9, .imul, 1), (10, .iload_n 1, 1), (11, .iastore, 1), (12, .aload_n 0, 1), (13, .getfield 40, 3), (16, .iconst 2, 1), (17, .aload_n 0, 1), (18, .getfield 67, 3), (21, .imul, 1), (22, .iconst 1, 1), (23, .iadd, 1), (24, .iload_n 2, 1), (25, .iastore, 1), (26, .aload_n 0, 1), (27, .dup, 1), (28, .getfield 67, 3), (31, .iconst 1, 1), (32, .iadd, 1), (33, .putfield 67, 3), (36, .return_, 1)]
theorem aX6_stageOf : tX6_stageOf.all (fun q => decide (decode cX6_stageOf q.1 = .ok q.2)) = true := by decide +kernel
theorem dX6_stageOf_0 : decode cX6_stageOf 0 = .ok (.aload_n 0, 1) := dec_row aX6_stageOf 0 rfl
theorem dX6_stageOf_1 : decode cX6_stageOf 1 = .ok (.getfield 40, 3) := dec_row aX6_stageOf 1 rfl
theorem dX6_stageOf_4 : decode cX6_stageOf 4 = .ok (.iconst 2, 1) := dec_row aX6_stageOf 2 rfl
theorem dX6_stageOf_5 : decode cX6_stageOf 5 = .ok (.aload_n 0, 1) := dec_row aX6_stageOf 3 rfl
theorem dX6_stageOf_6 : decode cX6_stageOf 6 = .ok (.getfield 67, 3) := dec_row aX6_stageOf 4 rfl
theorem dX6_stageOf_9 : decode cX6_stageOf 9 = .ok (.imul, 1) := dec_row aX6_stageOf 5 rfl
theorem dX6_stageOf_10 : decode cX6_stageOf 10 = .ok (.iload_n 1, 1) := dec_row aX6_stageOf 6 rfl
theorem dX6_stageOf_11 : decode cX6_stageOf 11 = .ok (.iastore, 1) := dec_row aX6_stageOf 7 rfl
theorem dX6_stageOf_12 : decode cX6_stageOf 12 = .ok (.aload_n 0, 1) := dec_row aX6_stageOf 8 rfl
theorem dX6_stageOf_13 : decode cX6_stageOf 13 = .ok (.getfield 40, 3) := dec_row aX6_stageOf 9 rfl
theorem dX6_stageOf_16 : decode cX6_stageOf 16 = .ok (.iconst 2, 1) := dec_row aX6_stageOf 10 rfl
theorem dX6_stageOf_17 : decode cX6_stageOf 17 = .ok (.aload_n 0, 1) := dec_row aX6_stageOf 11 rfl
theorem dX6_stageOf_18 : decode cX6_stageOf 18 = .ok (.getfield 67, 3) := dec_row aX6_stageOf 12 rfl
theorem dX6_stageOf_21 : decode cX6_stageOf 21 = .ok (.imul, 1) := dec_row aX6_stageOf 13 rfl
theorem dX6_stageOf_22 : decode cX6_stageOf 22 = .ok (.iconst 1, 1) := dec_row aX6_stageOf 14 rfl
theorem dX6_stageOf_23 : decode cX6_stageOf 23 = .ok (.iadd, 1) := dec_row aX6_stageOf 15 rfl
theorem dX6_stageOf_24 : decode cX6_stageOf 24 = .ok (.iload_n 2, 1) := dec_row aX6_stageOf 16 rfl
theorem dX6_stageOf_25 : decode cX6_stageOf 25 = .ok (.iastore, 1) := dec_row aX6_stageOf 17 rfl
theorem dX6_stageOf_26 : decode cX6_stageOf 26 = .ok (.aload_n 0, 1) := dec_row aX6_stageOf 18 rfl
theorem dX6_stageOf_27 : decode cX6_stageOf 27 = .ok (.dup, 1) := dec_row aX6_stageOf 19 rfl
theorem dX6_stageOf_28 : decode cX6_stageOf 28 = .ok (.getfield 67, 3) := dec_row aX6_stageOf 20 rfl
theorem dX6_stageOf_31 : decode cX6_stageOf 31 = .ok (.iconst 1, 1) := dec_row aX6_stageOf 21 rfl
theorem dX6_stageOf_32 : decode cX6_stageOf 32 = .ok (.iadd, 1) := dec_row aX6_stageOf 22 rfl
theorem dX6_stageOf_33 : decode cX6_stageOf 33 = .ok (.putfield 67, 3) := dec_row aX6_stageOf 23 rfl
theorem dX6_stageOf_36 : decode cX6_stageOf 36 = .ok (.return_, 1) := dec_row aX6_stageOf 24 rfl
def tX6_isIn : List (Nat × Instr × Nat) := [(0, .iload_n 0, 1), (1, .iload_n 1, 1), (2, .if_icmp .lt 12, 3), (5, .iload_n 0, 1), (6, .iload_n 2, 1), (7, .if_icmp .gt 7, 3), (10, .iconst 1, 1), (11, .goto 4, 3), (14, .iconst 0, 1), (15, .ireturn, 1)]
theorem aX6_isIn : tX6_isIn.all (fun q => decide (decode cX6_isIn q.1 = .ok q.2)) = true := by decide +kernel
theorem dX6_isIn_0 : decode cX6_isIn 0 = .ok (.iload_n 0, 1) := dec_row aX6_isIn 0 rfl
theorem dX6_isIn_1 : decode cX6_isIn 1 = .ok (.iload_n 1, 1) := dec_row aX6_isIn 1 rfl
theorem dX6_isIn_2 : decode cX6_isIn 2 = .ok (.if_icmp .lt 12, 3) := dec_row aX6_isIn 2 rfl
theorem dX6_isIn_5 : decode cX6_isIn 5 = .ok (.iload_n 0, 1) := dec_row aX6_isIn 3 rfl
theorem dX6_isIn_6 : decode cX6_isIn 6 = .ok (.iload_n 2, 1) := dec_row aX6_isIn 4 rfl
theorem dX6_isIn_7 : decode cX6_isIn 7 = .ok (.if_icmp .gt 7, 3) := dec_row aX6_isIn 5 rfl
theorem dX6_isIn_10 : decode cX6_isIn 10 = .ok (.iconst 1, 1) := dec_row aX6_isIn 6 rfl
theorem dX6_isIn_11 : decode cX6_isIn 11 = .ok (.goto 4, 3) := dec_row aX6_isIn 7 rfl
theorem dX6_isIn_14 : decode cX6_isIn 14 = .ok (.iconst 0, 1) := dec_row aX6_isIn 8 rfl
theorem dX6_isIn_15 : decode cX6_isIn 15 = .ok (.ireturn, 1) := dec_row aX6_isIn 9 rfl
def tX6_clears : List (Nat × Instr × Nat) := [(0, .aload_n 0, 1), (1, .iconst 0, 1), (2, .putfield 64, 3), (5, .aload_n 0, 1), (6, .iconst 0, 1), (7, .putfield 53, 3), (10, .aload_n 0, 1), (11, .iconst 0, 1), (12, .putfield 67, 3), (15, .aload_n 0, 1), (16, .getfield 43, 3), (19, .iconst 0, 1), (20, .bipush 80, 2), (22, .iastore, 1), (23, .aload_n 0, 1), (24, .getfield 43, 3), (27, .iconst 1, 1), (28, .bipush 90, 2), (30, .iastore, 1), (31, .aload_n 0, 1), (32, .getfield 43, 3), (35, .iconst 2, 1), (36, .bipush 30, 2), (38, .iastore, 1), (39, .aload_n 0, 1), (40, .getfield 43, 3), (43, .iconst 3, 1), (44, .bipush 40, 2), (46, .iastore, 1), (47, .aload_n 0, 1), (48, .getfield 43, 3), (51, .iconst 4, 1), (52, .iconst 5, 1), (53, .iastore, 1), (54, .aload_n 0, 1), (55, .getfield 43, 3), (58, .iconst 5, 1), (59, .bipush 8, 2), (61, .iastore, 1), (62, .return_, 1)]
theorem aX6_clears : tX6_clears.all (fun q => decide (decode cX6_clears q.1 = .ok q.2)) = true := by decide +kernel
theorem dX6_clears_0 : decode cX6_clears 0 = .ok (.aload_n 0, 1) := dec_row aX6_clears 0 rfl
theorem dX6_clears_1 : decode cX6_clears 1 = .ok (.iconst 0, 1) := dec_row aX6_clears 1 rfl
theorem dX6_clears_2 : decode cX6_clears 2 = .ok (.putfield 64, 3) := dec_row aX6_clears 2 rfl
theorem dX6_clears_5 : decode cX6_clears 5 = .ok (.aload_n 0, 1) := dec_row aX6_clears 3 rfl
theorem dX6_clears_6 : decode cX6_clears 6 = .ok (.iconst 0, 1) := dec_row aX6_clears 4 rfl
theorem dX6_clears_7 : decode cX6_clears 7 = .ok (.putfield 53, 3) := dec_row aX6_clears 5 rfl
theorem dX6_clears_10 : decode cX6_clears 10 = .ok (.aload_n 0, 1) := dec_row aX6_clears 6 rfl
theorem dX6_clears_11 : decode cX6_clears 11 = .ok (.iconst 0, 1) := dec_row aX6_clears 7 rfl
theorem dX6_clears_12 : decode cX6_clears 12 = .ok (.putfield 67, 3) := dec_row aX6_clears 8 rfl
theorem dX6_clears_15 : decode cX6_clears 15 = .ok (.aload_n 0, 1) := dec_row aX6_clears 9 rfl
theorem dX6_clears_16 : decode cX6_clears 16 = .ok (.getfield 43, 3) := dec_row aX6_clears 10 rfl
theorem dX6_clears_19 : decode cX6_clears 19 = .ok (.iconst 0, 1) := dec_row aX6_clears 11 rfl
theorem dX6_clears_20 : decode cX6_clears 20 = .ok (.bipush 80, 2) := dec_row aX6_clears 12 rfl
theorem dX6_clears_22 : decode cX6_clears 22 = .ok (.iastore, 1) := dec_row aX6_clears 13 rfl
theorem dX6_clears_23 : decode cX6_clears 23 = .ok (.aload_n 0, 1) := dec_row aX6_clears 14 rfl
theorem dX6_clears_24 : decode cX6_clears 24 = .ok (.getfield 43, 3) := dec_row aX6_clears 15 rfl
theorem dX6_clears_27 : decode cX6_clears 27 = .ok (.iconst 1, 1) := dec_row aX6_clears 16 rfl
theorem dX6_clears_28 : decode cX6_clears 28 = .ok (.bipush 90, 2) := dec_row aX6_clears 17 rfl
theorem dX6_clears_30 : decode cX6_clears 30 = .ok (.iastore, 1) := dec_row aX6_clears 18 rfl
theorem dX6_clears_31 : decode cX6_clears 31 = .ok (.aload_n 0, 1) := dec_row aX6_clears 19 rfl
theorem dX6_clears_32 : decode cX6_clears 32 = .ok (.getfield 43, 3) := dec_row aX6_clears 20 rfl
theorem dX6_clears_35 : decode cX6_clears 35 = .ok (.iconst 2, 1) := dec_row aX6_clears 21 rfl
theorem dX6_clears_36 : decode cX6_clears 36 = .ok (.bipush 30, 2) := dec_row aX6_clears 22 rfl
theorem dX6_clears_38 : decode cX6_clears 38 = .ok (.iastore, 1) := dec_row aX6_clears 23 rfl
theorem dX6_clears_39 : decode cX6_clears 39 = .ok (.aload_n 0, 1) := dec_row aX6_clears 24 rfl
theorem dX6_clears_40 : decode cX6_clears 40 = .ok (.getfield 43, 3) := dec_row aX6_clears 25 rfl
theorem dX6_clears_43 : decode cX6_clears 43 = .ok (.iconst 3, 1) := dec_row aX6_clears 26 rfl
theorem dX6_clears_44 : decode cX6_clears 44 = .ok (.bipush 40, 2) := dec_row aX6_clears 27 rfl
theorem dX6_clears_46 : decode cX6_clears 46 = .ok (.iastore, 1) := dec_row aX6_clears 28 rfl
theorem dX6_clears_47 : decode cX6_clears 47 = .ok (.aload_n 0, 1) := dec_row aX6_clears 29 rfl
theorem dX6_clears_48 : decode cX6_clears 48 = .ok (.getfield 43, 3) := dec_row aX6_clears 30 rfl
theorem dX6_clears_51 : decode cX6_clears 51 = .ok (.iconst 4, 1) := dec_row aX6_clears 31 rfl
theorem dX6_clears_52 : decode cX6_clears 52 = .ok (.iconst 5, 1) := dec_row aX6_clears 32 rfl
theorem dX6_clears_53 : decode cX6_clears 53 = .ok (.iastore, 1) := dec_row aX6_clears 33 rfl
theorem dX6_clears_54 : decode cX6_clears 54 = .ok (.aload_n 0, 1) := dec_row aX6_clears 34 rfl
theorem dX6_clears_55 : decode cX6_clears 55 = .ok (.getfield 43, 3) := dec_row aX6_clears 35 rfl
theorem dX6_clears_58 : decode cX6_clears 58 = .ok (.iconst 5, 1) := dec_row aX6_clears 36 rfl
theorem dX6_clears_59 : decode cX6_clears 59 = .ok (.bipush 8, 2) := dec_row aX6_clears 37 rfl
theorem dX6_clears_61 : decode cX6_clears 61 = .ok (.iastore, 1) := dec_row aX6_clears 38 rfl
theorem dX6_clears_62 : decode cX6_clears 62 = .ok (.return_, 1) := dec_row aX6_clears 39 rfl
def tX6_takes_0 : List (Nat × Instr × Nat) := [(0, .aload_n 0, 1), (1, .aload_n 0, 1), (2, .getfield 64, 3), (5, .putfield 70, 3), (8, .aload_n 0, 1), (9, .aload_n 0, 1), (10, .getfield 53, 3), (13, .putfield 73, 3), (16, .aload_n 0, 1), (17, .aload_n 0, 1), (18, .getfield 67, 3), (21, .putfield 76, 3), (24, .iconst 0, 1), (25, .istore_n 1, 1), (26, .iload_n 1, 1), (27, .sipush 1155, 3), (30, .if_icmp .ge 16, 3), (33, .aload_n 0, 1), (34, .getfield 25, 3), (37, .iload_n 1, 1), (38, .iconst 0, 1), (39, .iastore, 1), (40, .iinc 1 1, 3), (43, .goto (-17), 3), (46, .iconst 0, 1), (47, .istore_n 1, 1), (48, .iload_n 1, 1), (49, .aload_n 0, 1), (50, .getfield 70, 3), (53, .if_icmp .ge 59, 3), (56, .aload_n 0, 1), (57, .getfield 13, 3), (60, .iload_n 1, 1), (61, .aload_n 0, 1), (62, .getfield 34, 3), (65, .iconst 3, 1), (66, .iload_n 1, 1), (67, .imul, 1), (68, .iaload, 1), (69, .iastore, 1), (70, .aload_n 0, 1), (71, .getfield 25, 3), (74, .sipush 1139, 3), (77, .iload_n 1, 1), (78, .iadd, 1), (79, .aload_n 0, 1), (80, .getfield 34, 3), (83, .iconst 3, 1), (84, .iload_n 1, 1), (85, .imul, 1)]
theorem aX6_takes_0 : tX6_takes_0.all (fun q => decide (decode cX6_takes q.1 = .ok q.2)) = true := by decide +kernel
theorem dX6_takes_0 : decode cX6_takes 0 = .ok (.aload_n 0, 1) := dec_row aX6_takes_0 0 rfl
theorem dX6_takes_1 : decode cX6_takes 1 = .ok (.aload_n 0, 1) := dec_row aX6_takes_0 1 rfl
theorem dX6_takes_2 : decode cX6_takes 2 = .ok (.getfield 64, 3) := dec_row aX6_takes_0 2 rfl
theorem dX6_takes_5 : decode cX6_takes 5 = .ok (.putfield 70, 3) := dec_row aX6_takes_0 3 rfl
theorem dX6_takes_8 : decode cX6_takes 8 = .ok (.aload_n 0, 1) := dec_row aX6_takes_0 4 rfl
theorem dX6_takes_9 : decode cX6_takes 9 = .ok (.aload_n 0, 1) := dec_row aX6_takes_0 5 rfl
theorem dX6_takes_10 : decode cX6_takes 10 = .ok (.getfield 53, 3) := dec_row aX6_takes_0 6 rfl
theorem dX6_takes_13 : decode cX6_takes 13 = .ok (.putfield 73, 3) := dec_row aX6_takes_0 7 rfl
theorem dX6_takes_16 : decode cX6_takes 16 = .ok (.aload_n 0, 1) := dec_row aX6_takes_0 8 rfl
theorem dX6_takes_17 : decode cX6_takes 17 = .ok (.aload_n 0, 1) := dec_row aX6_takes_0 9 rfl
theorem dX6_takes_18 : decode cX6_takes 18 = .ok (.getfield 67, 3) := dec_row aX6_takes_0 10 rfl
theorem dX6_takes_21 : decode cX6_takes 21 = .ok (.putfield 76, 3) := dec_row aX6_takes_0 11 rfl
theorem dX6_takes_24 : decode cX6_takes 24 = .ok (.iconst 0, 1) := dec_row aX6_takes_0 12 rfl
theorem dX6_takes_25 : decode cX6_takes 25 = .ok (.istore_n 1, 1) := dec_row aX6_takes_0 13 rfl
theorem dX6_takes_26 : decode cX6_takes 26 = .ok (.iload_n 1, 1) := dec_row aX6_takes_0 14 rfl
theorem dX6_takes_27 : decode cX6_takes 27 = .ok (.sipush 1155, 3) := dec_row aX6_takes_0 15 rfl
theorem dX6_takes_30 : decode cX6_takes 30 = .ok (.if_icmp .ge 16, 3) := dec_row aX6_takes_0 16 rfl
theorem dX6_takes_33 : decode cX6_takes 33 = .ok (.aload_n 0, 1) := dec_row aX6_takes_0 17 rfl
theorem dX6_takes_34 : decode cX6_takes 34 = .ok (.getfield 25, 3) := dec_row aX6_takes_0 18 rfl
theorem dX6_takes_37 : decode cX6_takes 37 = .ok (.iload_n 1, 1) := dec_row aX6_takes_0 19 rfl
theorem dX6_takes_38 : decode cX6_takes 38 = .ok (.iconst 0, 1) := dec_row aX6_takes_0 20 rfl
theorem dX6_takes_39 : decode cX6_takes 39 = .ok (.iastore, 1) := dec_row aX6_takes_0 21 rfl
theorem dX6_takes_40 : decode cX6_takes 40 = .ok (.iinc 1 1, 3) := dec_row aX6_takes_0 22 rfl
theorem dX6_takes_43 : decode cX6_takes 43 = .ok (.goto (-17), 3) := dec_row aX6_takes_0 23 rfl
theorem dX6_takes_46 : decode cX6_takes 46 = .ok (.iconst 0, 1) := dec_row aX6_takes_0 24 rfl
theorem dX6_takes_47 : decode cX6_takes 47 = .ok (.istore_n 1, 1) := dec_row aX6_takes_0 25 rfl
theorem dX6_takes_48 : decode cX6_takes 48 = .ok (.iload_n 1, 1) := dec_row aX6_takes_0 26 rfl
theorem dX6_takes_49 : decode cX6_takes 49 = .ok (.aload_n 0, 1) := dec_row aX6_takes_0 27 rfl
theorem dX6_takes_50 : decode cX6_takes 50 = .ok (.getfield 70, 3) := dec_row aX6_takes_0 28 rfl
theorem dX6_takes_53 : decode cX6_takes 53 = .ok (.if_icmp .ge 59, 3) := dec_row aX6_takes_0 29 rfl
theorem dX6_takes_56 : decode cX6_takes 56 = .ok (.aload_n 0, 1) := dec_row aX6_takes_0 30 rfl
theorem dX6_takes_57 : decode cX6_takes 57 = .ok (.getfield 13, 3) := dec_row aX6_takes_0 31 rfl
theorem dX6_takes_60 : decode cX6_takes 60 = .ok (.iload_n 1, 1) := dec_row aX6_takes_0 32 rfl
theorem dX6_takes_61 : decode cX6_takes 61 = .ok (.aload_n 0, 1) := dec_row aX6_takes_0 33 rfl
theorem dX6_takes_62 : decode cX6_takes 62 = .ok (.getfield 34, 3) := dec_row aX6_takes_0 34 rfl
theorem dX6_takes_65 : decode cX6_takes 65 = .ok (.iconst 3, 1) := dec_row aX6_takes_0 35 rfl
theorem dX6_takes_66 : decode cX6_takes 66 = .ok (.iload_n 1, 1) := dec_row aX6_takes_0 36 rfl
theorem dX6_takes_67 : decode cX6_takes 67 = .ok (.imul, 1) := dec_row aX6_takes_0 37 rfl
theorem dX6_takes_68 : decode cX6_takes 68 = .ok (.iaload, 1) := dec_row aX6_takes_0 38 rfl
theorem dX6_takes_69 : decode cX6_takes 69 = .ok (.iastore, 1) := dec_row aX6_takes_0 39 rfl
theorem dX6_takes_70 : decode cX6_takes 70 = .ok (.aload_n 0, 1) := dec_row aX6_takes_0 40 rfl
theorem dX6_takes_71 : decode cX6_takes 71 = .ok (.getfield 25, 3) := dec_row aX6_takes_0 41 rfl
theorem dX6_takes_74 : decode cX6_takes 74 = .ok (.sipush 1139, 3) := dec_row aX6_takes_0 42 rfl
theorem dX6_takes_77 : decode cX6_takes 77 = .ok (.iload_n 1, 1) := dec_row aX6_takes_0 43 rfl
theorem dX6_takes_78 : decode cX6_takes 78 = .ok (.iadd, 1) := dec_row aX6_takes_0 44 rfl
theorem dX6_takes_79 : decode cX6_takes 79 = .ok (.aload_n 0, 1) := dec_row aX6_takes_0 45 rfl
theorem dX6_takes_80 : decode cX6_takes 80 = .ok (.getfield 34, 3) := dec_row aX6_takes_0 46 rfl
theorem dX6_takes_83 : decode cX6_takes 83 = .ok (.iconst 3, 1) := dec_row aX6_takes_0 47 rfl
theorem dX6_takes_84 : decode cX6_takes 84 = .ok (.iload_n 1, 1) := dec_row aX6_takes_0 48 rfl
theorem dX6_takes_85 : decode cX6_takes 85 = .ok (.imul, 1) := dec_row aX6_takes_0 49 rfl
def tX6_takes_1 : List (Nat × Instr × Nat) := [(86, .iconst 1, 1), (87, .iadd, 1), (88, .iaload, 1), (89, .iastore, 1), (90, .aload_n 0, 1), (91, .getfield 16, 3), (94, .iload_n 1, 1), (95, .aload_n 0, 1), (96, .getfield 34, 3), (99, .iconst 3, 1), (100, .iload_n 1, 1), (101, .imul, 1), (102, .iconst 2, 1), (103, .iadd, 1), (104, .iaload, 1), (105, .iastore, 1), (106, .iinc 1 1, 3), (109, .goto (-61), 3), (112, .iconst 0, 1), (113, .istore_n 1, 1), (114, .iload_n 1, 1), (115, .aload_n 0, 1), (116, .getfield 73, 3), (119, .if_icmp .ge 37, 3), (122, .aload_n 0, 1), (123, .getfield 19, 3), (126, .iload_n 1, 1), (127, .aload_n 0, 1), (128, .getfield 37, 3), (131, .iload_n 1, 1), (132, .iaload, 1), (133, .bipush 9, 2), (135, .if_icmp .ne 8, 3), (138, .bipush (-4), 2), (140, .goto 9, 3), (143, .aload_n 0, 1), (144, .getfield 37, 3), (147, .iload_n 1, 1), (148, .iaload, 1), (149, .iastore, 1), (150, .iinc 1 1, 3), (153, .goto (-39), 3), (156, .iconst 0, 1), (157, .istore_n 1, 1), (158, .iload_n 1, 1), (159, .aload_n 0, 1), (160, .getfield 76, 3), (163, .if_icmp .ge 43, 3), (166, .aload_n 0, 1), (167, .getfield 22, 3)]
theorem aX6_takes_1 : tX6_takes_1.all (fun q => decide (decode cX6_takes q.1 = .ok q.2)) = true := by decide +kernel
theorem dX6_takes_86 : decode cX6_takes 86 = .ok (.iconst 1, 1) := dec_row aX6_takes_1 0 rfl
theorem dX6_takes_87 : decode cX6_takes 87 = .ok (.iadd, 1) := dec_row aX6_takes_1 1 rfl
theorem dX6_takes_88 : decode cX6_takes 88 = .ok (.iaload, 1) := dec_row aX6_takes_1 2 rfl
theorem dX6_takes_89 : decode cX6_takes 89 = .ok (.iastore, 1) := dec_row aX6_takes_1 3 rfl
theorem dX6_takes_90 : decode cX6_takes 90 = .ok (.aload_n 0, 1) := dec_row aX6_takes_1 4 rfl
theorem dX6_takes_91 : decode cX6_takes 91 = .ok (.getfield 16, 3) := dec_row aX6_takes_1 5 rfl
theorem dX6_takes_94 : decode cX6_takes 94 = .ok (.iload_n 1, 1) := dec_row aX6_takes_1 6 rfl
theorem dX6_takes_95 : decode cX6_takes 95 = .ok (.aload_n 0, 1) := dec_row aX6_takes_1 7 rfl
theorem dX6_takes_96 : decode cX6_takes 96 = .ok (.getfield 34, 3) := dec_row aX6_takes_1 8 rfl
theorem dX6_takes_99 : decode cX6_takes 99 = .ok (.iconst 3, 1) := dec_row aX6_takes_1 9 rfl
theorem dX6_takes_100 : decode cX6_takes 100 = .ok (.iload_n 1, 1) := dec_row aX6_takes_1 10 rfl
theorem dX6_takes_101 : decode cX6_takes 101 = .ok (.imul, 1) := dec_row aX6_takes_1 11 rfl
theorem dX6_takes_102 : decode cX6_takes 102 = .ok (.iconst 2, 1) := dec_row aX6_takes_1 12 rfl
theorem dX6_takes_103 : decode cX6_takes 103 = .ok (.iadd, 1) := dec_row aX6_takes_1 13 rfl
theorem dX6_takes_104 : decode cX6_takes 104 = .ok (.iaload, 1) := dec_row aX6_takes_1 14 rfl
theorem dX6_takes_105 : decode cX6_takes 105 = .ok (.iastore, 1) := dec_row aX6_takes_1 15 rfl
theorem dX6_takes_106 : decode cX6_takes 106 = .ok (.iinc 1 1, 3) := dec_row aX6_takes_1 16 rfl
theorem dX6_takes_109 : decode cX6_takes 109 = .ok (.goto (-61), 3) := dec_row aX6_takes_1 17 rfl
theorem dX6_takes_112 : decode cX6_takes 112 = .ok (.iconst 0, 1) := dec_row aX6_takes_1 18 rfl
theorem dX6_takes_113 : decode cX6_takes 113 = .ok (.istore_n 1, 1) := dec_row aX6_takes_1 19 rfl
theorem dX6_takes_114 : decode cX6_takes 114 = .ok (.iload_n 1, 1) := dec_row aX6_takes_1 20 rfl
theorem dX6_takes_115 : decode cX6_takes 115 = .ok (.aload_n 0, 1) := dec_row aX6_takes_1 21 rfl
theorem dX6_takes_116 : decode cX6_takes 116 = .ok (.getfield 73, 3) := dec_row aX6_takes_1 22 rfl
theorem dX6_takes_119 : decode cX6_takes 119 = .ok (.if_icmp .ge 37, 3) := dec_row aX6_takes_1 23 rfl
theorem dX6_takes_122 : decode cX6_takes 122 = .ok (.aload_n 0, 1) := dec_row aX6_takes_1 24 rfl
theorem dX6_takes_123 : decode cX6_takes 123 = .ok (.getfield 19, 3) := dec_row aX6_takes_1 25 rfl
theorem dX6_takes_126 : decode cX6_takes 126 = .ok (.iload_n 1, 1) := dec_row aX6_takes_1 26 rfl
theorem dX6_takes_127 : decode cX6_takes 127 = .ok (.aload_n 0, 1) := dec_row aX6_takes_1 27 rfl
theorem dX6_takes_128 : decode cX6_takes 128 = .ok (.getfield 37, 3) := dec_row aX6_takes_1 28 rfl
theorem dX6_takes_131 : decode cX6_takes 131 = .ok (.iload_n 1, 1) := dec_row aX6_takes_1 29 rfl
theorem dX6_takes_132 : decode cX6_takes 132 = .ok (.iaload, 1) := dec_row aX6_takes_1 30 rfl
theorem dX6_takes_133 : decode cX6_takes 133 = .ok (.bipush 9, 2) := dec_row aX6_takes_1 31 rfl
theorem dX6_takes_135 : decode cX6_takes 135 = .ok (.if_icmp .ne 8, 3) := dec_row aX6_takes_1 32 rfl
theorem dX6_takes_138 : decode cX6_takes 138 = .ok (.bipush (-4), 2) := dec_row aX6_takes_1 33 rfl
theorem dX6_takes_140 : decode cX6_takes 140 = .ok (.goto 9, 3) := dec_row aX6_takes_1 34 rfl
theorem dX6_takes_143 : decode cX6_takes 143 = .ok (.aload_n 0, 1) := dec_row aX6_takes_1 35 rfl
theorem dX6_takes_144 : decode cX6_takes 144 = .ok (.getfield 37, 3) := dec_row aX6_takes_1 36 rfl
theorem dX6_takes_147 : decode cX6_takes 147 = .ok (.iload_n 1, 1) := dec_row aX6_takes_1 37 rfl
theorem dX6_takes_148 : decode cX6_takes 148 = .ok (.iaload, 1) := dec_row aX6_takes_1 38 rfl
theorem dX6_takes_149 : decode cX6_takes 149 = .ok (.iastore, 1) := dec_row aX6_takes_1 39 rfl
theorem dX6_takes_150 : decode cX6_takes 150 = .ok (.iinc 1 1, 3) := dec_row aX6_takes_1 40 rfl
theorem dX6_takes_153 : decode cX6_takes 153 = .ok (.goto (-39), 3) := dec_row aX6_takes_1 41 rfl
theorem dX6_takes_156 : decode cX6_takes 156 = .ok (.iconst 0, 1) := dec_row aX6_takes_1 42 rfl
theorem dX6_takes_157 : decode cX6_takes 157 = .ok (.istore_n 1, 1) := dec_row aX6_takes_1 43 rfl
theorem dX6_takes_158 : decode cX6_takes 158 = .ok (.iload_n 1, 1) := dec_row aX6_takes_1 44 rfl
theorem dX6_takes_159 : decode cX6_takes 159 = .ok (.aload_n 0, 1) := dec_row aX6_takes_1 45 rfl
theorem dX6_takes_160 : decode cX6_takes 160 = .ok (.getfield 76, 3) := dec_row aX6_takes_1 46 rfl
theorem dX6_takes_163 : decode cX6_takes 163 = .ok (.if_icmp .ge 43, 3) := dec_row aX6_takes_1 47 rfl
theorem dX6_takes_166 : decode cX6_takes 166 = .ok (.aload_n 0, 1) := dec_row aX6_takes_1 48 rfl
theorem dX6_takes_167 : decode cX6_takes 167 = .ok (.getfield 22, 3) := dec_row aX6_takes_1 49 rfl
def tX6_takes_2 : List (Nat × Instr × Nat) := [(170, .iload_n 1, 1), (171, .aload_n 0, 1), (172, .getfield 40, 3), (175, .iconst 2, 1), (176, .iload_n 1, 1), (177, .imul, 1), (178, .iaload, 1), (179, .iastore, 1), (180, .aload_n 0, 1), (181, .getfield 25, 3), (184, .sipush 1145, 3), (187, .iload_n 1, 1), (188, .iadd, 1), (189, .aload_n 0, 1), (190, .getfield 40, 3), (193, .iconst 2, 1), (194, .iload_n 1, 1), (195, .imul, 1), (196, .iconst 1, 1), (197, .iadd, 1), (198, .iaload, 1), (199, .iastore, 1), (200, .iinc 1 1, 3), (203, .goto (-45), 3), (206, .iconst 0, 1), (207, .istore_n 1, 1), (208, .iload_n 1, 1), (209, .bipush 6, 2), (211, .if_icmp .ge 25, 3), (214, .aload_n 0, 1), (215, .getfield 25, 3), (218, .sipush 1149, 3), (221, .iload_n 1, 1), (222, .iadd, 1), (223, .aload_n 0, 1), (224, .getfield 43, 3), (227, .iload_n 1, 1), (228, .iaload, 1), (229, .iastore, 1), (230, .iinc 1 1, 3), (233, .goto (-25), 3), (236, .aload_n 0, 1), (237, .getfield 25, 3), (240, .sipush 1018, 3), (243, .iconst 2, 1), (244, .iastore, 1), (245, .aload_n 0, 1), (246, .iconst 0, 1), (247, .putfield 79, 3), (250, .return_, 1)]
theorem aX6_takes_2 : tX6_takes_2.all (fun q => decide (decode cX6_takes q.1 = .ok q.2)) = true := by decide +kernel
theorem dX6_takes_170 : decode cX6_takes 170 = .ok (.iload_n 1, 1) := dec_row aX6_takes_2 0 rfl
theorem dX6_takes_171 : decode cX6_takes 171 = .ok (.aload_n 0, 1) := dec_row aX6_takes_2 1 rfl
theorem dX6_takes_172 : decode cX6_takes 172 = .ok (.getfield 40, 3) := dec_row aX6_takes_2 2 rfl
theorem dX6_takes_175 : decode cX6_takes 175 = .ok (.iconst 2, 1) := dec_row aX6_takes_2 3 rfl
theorem dX6_takes_176 : decode cX6_takes 176 = .ok (.iload_n 1, 1) := dec_row aX6_takes_2 4 rfl
theorem dX6_takes_177 : decode cX6_takes 177 = .ok (.imul, 1) := dec_row aX6_takes_2 5 rfl
theorem dX6_takes_178 : decode cX6_takes 178 = .ok (.iaload, 1) := dec_row aX6_takes_2 6 rfl
theorem dX6_takes_179 : decode cX6_takes 179 = .ok (.iastore, 1) := dec_row aX6_takes_2 7 rfl
theorem dX6_takes_180 : decode cX6_takes 180 = .ok (.aload_n 0, 1) := dec_row aX6_takes_2 8 rfl
theorem dX6_takes_181 : decode cX6_takes 181 = .ok (.getfield 25, 3) := dec_row aX6_takes_2 9 rfl
theorem dX6_takes_184 : decode cX6_takes 184 = .ok (.sipush 1145, 3) := dec_row aX6_takes_2 10 rfl
theorem dX6_takes_187 : decode cX6_takes 187 = .ok (.iload_n 1, 1) := dec_row aX6_takes_2 11 rfl
theorem dX6_takes_188 : decode cX6_takes 188 = .ok (.iadd, 1) := dec_row aX6_takes_2 12 rfl
theorem dX6_takes_189 : decode cX6_takes 189 = .ok (.aload_n 0, 1) := dec_row aX6_takes_2 13 rfl
theorem dX6_takes_190 : decode cX6_takes 190 = .ok (.getfield 40, 3) := dec_row aX6_takes_2 14 rfl
theorem dX6_takes_193 : decode cX6_takes 193 = .ok (.iconst 2, 1) := dec_row aX6_takes_2 15 rfl
theorem dX6_takes_194 : decode cX6_takes 194 = .ok (.iload_n 1, 1) := dec_row aX6_takes_2 16 rfl
theorem dX6_takes_195 : decode cX6_takes 195 = .ok (.imul, 1) := dec_row aX6_takes_2 17 rfl
theorem dX6_takes_196 : decode cX6_takes 196 = .ok (.iconst 1, 1) := dec_row aX6_takes_2 18 rfl
theorem dX6_takes_197 : decode cX6_takes 197 = .ok (.iadd, 1) := dec_row aX6_takes_2 19 rfl
theorem dX6_takes_198 : decode cX6_takes 198 = .ok (.iaload, 1) := dec_row aX6_takes_2 20 rfl
theorem dX6_takes_199 : decode cX6_takes 199 = .ok (.iastore, 1) := dec_row aX6_takes_2 21 rfl
theorem dX6_takes_200 : decode cX6_takes 200 = .ok (.iinc 1 1, 3) := dec_row aX6_takes_2 22 rfl
theorem dX6_takes_203 : decode cX6_takes 203 = .ok (.goto (-45), 3) := dec_row aX6_takes_2 23 rfl
theorem dX6_takes_206 : decode cX6_takes 206 = .ok (.iconst 0, 1) := dec_row aX6_takes_2 24 rfl
theorem dX6_takes_207 : decode cX6_takes 207 = .ok (.istore_n 1, 1) := dec_row aX6_takes_2 25 rfl
theorem dX6_takes_208 : decode cX6_takes 208 = .ok (.iload_n 1, 1) := dec_row aX6_takes_2 26 rfl
theorem dX6_takes_209 : decode cX6_takes 209 = .ok (.bipush 6, 2) := dec_row aX6_takes_2 27 rfl
theorem dX6_takes_211 : decode cX6_takes 211 = .ok (.if_icmp .ge 25, 3) := dec_row aX6_takes_2 28 rfl
theorem dX6_takes_214 : decode cX6_takes 214 = .ok (.aload_n 0, 1) := dec_row aX6_takes_2 29 rfl
theorem dX6_takes_215 : decode cX6_takes 215 = .ok (.getfield 25, 3) := dec_row aX6_takes_2 30 rfl
theorem dX6_takes_218 : decode cX6_takes 218 = .ok (.sipush 1149, 3) := dec_row aX6_takes_2 31 rfl
theorem dX6_takes_221 : decode cX6_takes 221 = .ok (.iload_n 1, 1) := dec_row aX6_takes_2 32 rfl
theorem dX6_takes_222 : decode cX6_takes 222 = .ok (.iadd, 1) := dec_row aX6_takes_2 33 rfl
theorem dX6_takes_223 : decode cX6_takes 223 = .ok (.aload_n 0, 1) := dec_row aX6_takes_2 34 rfl
theorem dX6_takes_224 : decode cX6_takes 224 = .ok (.getfield 43, 3) := dec_row aX6_takes_2 35 rfl
theorem dX6_takes_227 : decode cX6_takes 227 = .ok (.iload_n 1, 1) := dec_row aX6_takes_2 36 rfl
theorem dX6_takes_228 : decode cX6_takes 228 = .ok (.iaload, 1) := dec_row aX6_takes_2 37 rfl
theorem dX6_takes_229 : decode cX6_takes 229 = .ok (.iastore, 1) := dec_row aX6_takes_2 38 rfl
theorem dX6_takes_230 : decode cX6_takes 230 = .ok (.iinc 1 1, 3) := dec_row aX6_takes_2 39 rfl
theorem dX6_takes_233 : decode cX6_takes 233 = .ok (.goto (-25), 3) := dec_row aX6_takes_2 40 rfl
theorem dX6_takes_236 : decode cX6_takes 236 = .ok (.aload_n 0, 1) := dec_row aX6_takes_2 41 rfl
theorem dX6_takes_237 : decode cX6_takes 237 = .ok (.getfield 25, 3) := dec_row aX6_takes_2 42 rfl
theorem dX6_takes_240 : decode cX6_takes 240 = .ok (.sipush 1018, 3) := dec_row aX6_takes_2 43 rfl
theorem dX6_takes_243 : decode cX6_takes 243 = .ok (.iconst 2, 1) := dec_row aX6_takes_2 44 rfl
theorem dX6_takes_244 : decode cX6_takes 244 = .ok (.iastore, 1) := dec_row aX6_takes_2 45 rfl
theorem dX6_takes_245 : decode cX6_takes 245 = .ok (.aload_n 0, 1) := dec_row aX6_takes_2 46 rfl
theorem dX6_takes_246 : decode cX6_takes 246 = .ok (.iconst 0, 1) := dec_row aX6_takes_2 47 rfl
theorem dX6_takes_247 : decode cX6_takes 247 = .ok (.putfield 79, 3) := dec_row aX6_takes_2 48 rfl
theorem dX6_takes_250 : decode cX6_takes 250 = .ok (.return_, 1) := dec_row aX6_takes_2 49 rfl
def tX6_letterAt : List (Nat × Instr × Nat) := [(0, .iload_n 1, 1), (1, .aload_n 0, 1), (2, .getfield 82, 3), (5, .if_icmp .ge 12, 3), (8, .aload_n 0, 1), (9, .getfield 7, 3), (12, .iload_n 1, 1), (13, .iaload, 1), (14, .goto 4, 3), (17, .iconst 0, 1), (18, .ireturn, 1)]
theorem aX6_letterAt : tX6_letterAt.all (fun q => decide (decode cX6_letterAt q.1 = .ok q.2)) = true := by decide +kernel
theorem dX6_letterAt_0 : decode cX6_letterAt 0 = .ok (.iload_n 1, 1) := dec_row aX6_letterAt 0 rfl
theorem dX6_letterAt_1 : decode cX6_letterAt 1 = .ok (.aload_n 0, 1) := dec_row aX6_letterAt 1 rfl
theorem dX6_letterAt_2 : decode cX6_letterAt 2 = .ok (.getfield 82, 3) := dec_row aX6_letterAt 2 rfl
theorem dX6_letterAt_5 : decode cX6_letterAt 5 = .ok (.if_icmp .ge 12, 3) := dec_row aX6_letterAt 3 rfl
theorem dX6_letterAt_8 : decode cX6_letterAt 8 = .ok (.aload_n 0, 1) := dec_row aX6_letterAt 4 rfl
theorem dX6_letterAt_9 : decode cX6_letterAt 9 = .ok (.getfield 7, 3) := dec_row aX6_letterAt 5 rfl
theorem dX6_letterAt_12 : decode cX6_letterAt 12 = .ok (.iload_n 1, 1) := dec_row aX6_letterAt 6 rfl
theorem dX6_letterAt_13 : decode cX6_letterAt 13 = .ok (.iaload, 1) := dec_row aX6_letterAt 7 rfl
theorem dX6_letterAt_14 : decode cX6_letterAt 14 = .ok (.goto 4, 3) := dec_row aX6_letterAt 8 rfl
theorem dX6_letterAt_17 : decode cX6_letterAt 17 = .ok (.iconst 0, 1) := dec_row aX6_letterAt 9 rfl
theorem dX6_letterAt_18 : decode cX6_letterAt 18 = .ok (.ireturn, 1) := dec_row aX6_letterAt 10 rfl
def tX6_number_0 : List (Nat × Instr × Nat) := [(0, .aload_n 0, 1), (1, .iconst 0, 1), (2, .putfield 85, 3), (5, .aload_n 0, 1), (6, .iload_n 1, 1), (7, .putfield 88, 3), (10, .aload_n 0, 1), (11, .getfield 88, 3), (14, .iload_n 1, 1), (15, .iconst 2, 1), (16, .iadd, 1), (17, .if_icmp .ge 66, 3), (20, .aload_n 0, 1), (21, .aload_n 0, 1), (22, .getfield 88, 3), (25, .invokevirtual 91, 3), (28, .bipush 48, 2), (30, .if_icmp .lt 53, 3), (33, .aload_n 0, 1), (34, .aload_n 0, 1), (35, .getfield 88, 3), (38, .invokevirtual 91, 3), (41, .bipush 57, 2), (43, .if_icmp .gt 40, 3), (46, .aload_n 0, 1), (47, .bipush 10, 2), (49, .aload_n 0, 1), (50, .getfield 85, 3), (53, .imul, 1), (54, .aload_n 0, 1), (55, .getfield 7, 3), (58, .aload_n 0, 1), (59, .getfield 88, 3), (62, .iaload, 1), (63, .iadd, 1), (64, .bipush 48, 2), (66, .isub, 1), (67, .putfield 85, 3), (70, .aload_n 0, 1), (71, .dup, 1), (72, .getfield 88, 3), (75, .iconst 1, 1), (76, .iadd, 1), (77, .putfield 88, 3), (80, .goto (-70), 3), (83, .aload_n 0, 1), (84, .getfield 88, 3), (87, .iload_n 1, 1), (88, .if_icmp .le 19, 3), (91, .aload_n 0, 1)]
theorem aX6_number_0 : tX6_number_0.all (fun q => decide (decode cX6_number q.1 = .ok q.2)) = true := by decide +kernel
theorem dX6_number_0 : decode cX6_number 0 = .ok (.aload_n 0, 1) := dec_row aX6_number_0 0 rfl
theorem dX6_number_1 : decode cX6_number 1 = .ok (.iconst 0, 1) := dec_row aX6_number_0 1 rfl
theorem dX6_number_2 : decode cX6_number 2 = .ok (.putfield 85, 3) := dec_row aX6_number_0 2 rfl
theorem dX6_number_5 : decode cX6_number 5 = .ok (.aload_n 0, 1) := dec_row aX6_number_0 3 rfl
theorem dX6_number_6 : decode cX6_number 6 = .ok (.iload_n 1, 1) := dec_row aX6_number_0 4 rfl
theorem dX6_number_7 : decode cX6_number 7 = .ok (.putfield 88, 3) := dec_row aX6_number_0 5 rfl
theorem dX6_number_10 : decode cX6_number 10 = .ok (.aload_n 0, 1) := dec_row aX6_number_0 6 rfl
theorem dX6_number_11 : decode cX6_number 11 = .ok (.getfield 88, 3) := dec_row aX6_number_0 7 rfl
theorem dX6_number_14 : decode cX6_number 14 = .ok (.iload_n 1, 1) := dec_row aX6_number_0 8 rfl
theorem dX6_number_15 : decode cX6_number 15 = .ok (.iconst 2, 1) := dec_row aX6_number_0 9 rfl
theorem dX6_number_16 : decode cX6_number 16 = .ok (.iadd, 1) := dec_row aX6_number_0 10 rfl
theorem dX6_number_17 : decode cX6_number 17 = .ok (.if_icmp .ge 66, 3) := dec_row aX6_number_0 11 rfl
theorem dX6_number_20 : decode cX6_number 20 = .ok (.aload_n 0, 1) := dec_row aX6_number_0 12 rfl
theorem dX6_number_21 : decode cX6_number 21 = .ok (.aload_n 0, 1) := dec_row aX6_number_0 13 rfl
theorem dX6_number_22 : decode cX6_number 22 = .ok (.getfield 88, 3) := dec_row aX6_number_0 14 rfl
theorem dX6_number_25 : decode cX6_number 25 = .ok (.invokevirtual 91, 3) := dec_row aX6_number_0 15 rfl
theorem dX6_number_28 : decode cX6_number 28 = .ok (.bipush 48, 2) := dec_row aX6_number_0 16 rfl
theorem dX6_number_30 : decode cX6_number 30 = .ok (.if_icmp .lt 53, 3) := dec_row aX6_number_0 17 rfl
theorem dX6_number_33 : decode cX6_number 33 = .ok (.aload_n 0, 1) := dec_row aX6_number_0 18 rfl
theorem dX6_number_34 : decode cX6_number 34 = .ok (.aload_n 0, 1) := dec_row aX6_number_0 19 rfl
theorem dX6_number_35 : decode cX6_number 35 = .ok (.getfield 88, 3) := dec_row aX6_number_0 20 rfl
theorem dX6_number_38 : decode cX6_number 38 = .ok (.invokevirtual 91, 3) := dec_row aX6_number_0 21 rfl
theorem dX6_number_41 : decode cX6_number 41 = .ok (.bipush 57, 2) := dec_row aX6_number_0 22 rfl
theorem dX6_number_43 : decode cX6_number 43 = .ok (.if_icmp .gt 40, 3) := dec_row aX6_number_0 23 rfl
theorem dX6_number_46 : decode cX6_number 46 = .ok (.aload_n 0, 1) := dec_row aX6_number_0 24 rfl
theorem dX6_number_47 : decode cX6_number 47 = .ok (.bipush 10, 2) := dec_row aX6_number_0 25 rfl
theorem dX6_number_49 : decode cX6_number 49 = .ok (.aload_n 0, 1) := dec_row aX6_number_0 26 rfl
theorem dX6_number_50 : decode cX6_number 50 = .ok (.getfield 85, 3) := dec_row aX6_number_0 27 rfl
theorem dX6_number_53 : decode cX6_number 53 = .ok (.imul, 1) := dec_row aX6_number_0 28 rfl
theorem dX6_number_54 : decode cX6_number 54 = .ok (.aload_n 0, 1) := dec_row aX6_number_0 29 rfl
theorem dX6_number_55 : decode cX6_number 55 = .ok (.getfield 7, 3) := dec_row aX6_number_0 30 rfl
theorem dX6_number_58 : decode cX6_number 58 = .ok (.aload_n 0, 1) := dec_row aX6_number_0 31 rfl
theorem dX6_number_59 : decode cX6_number 59 = .ok (.getfield 88, 3) := dec_row aX6_number_0 32 rfl
theorem dX6_number_62 : decode cX6_number 62 = .ok (.iaload, 1) := dec_row aX6_number_0 33 rfl
theorem dX6_number_63 : decode cX6_number 63 = .ok (.iadd, 1) := dec_row aX6_number_0 34 rfl
theorem dX6_number_64 : decode cX6_number 64 = .ok (.bipush 48, 2) := dec_row aX6_number_0 35 rfl
theorem dX6_number_66 : decode cX6_number 66 = .ok (.isub, 1) := dec_row aX6_number_0 36 rfl
theorem dX6_number_67 : decode cX6_number 67 = .ok (.putfield 85, 3) := dec_row aX6_number_0 37 rfl
theorem dX6_number_70 : decode cX6_number 70 = .ok (.aload_n 0, 1) := dec_row aX6_number_0 38 rfl
theorem dX6_number_71 : decode cX6_number 71 = .ok (.dup, 1) := dec_row aX6_number_0 39 rfl
theorem dX6_number_72 : decode cX6_number 72 = .ok (.getfield 88, 3) := dec_row aX6_number_0 40 rfl
theorem dX6_number_75 : decode cX6_number 75 = .ok (.iconst 1, 1) := dec_row aX6_number_0 41 rfl
theorem dX6_number_76 : decode cX6_number 76 = .ok (.iadd, 1) := dec_row aX6_number_0 42 rfl
theorem dX6_number_77 : decode cX6_number 77 = .ok (.putfield 88, 3) := dec_row aX6_number_0 43 rfl
theorem dX6_number_80 : decode cX6_number 80 = .ok (.goto (-70), 3) := dec_row aX6_number_0 44 rfl
theorem dX6_number_83 : decode cX6_number 83 = .ok (.aload_n 0, 1) := dec_row aX6_number_0 45 rfl
theorem dX6_number_84 : decode cX6_number 84 = .ok (.getfield 88, 3) := dec_row aX6_number_0 46 rfl
theorem dX6_number_87 : decode cX6_number 87 = .ok (.iload_n 1, 1) := dec_row aX6_number_0 47 rfl
theorem dX6_number_88 : decode cX6_number 88 = .ok (.if_icmp .le 19, 3) := dec_row aX6_number_0 48 rfl
theorem dX6_number_91 : decode cX6_number 91 = .ok (.aload_n 0, 1) := dec_row aX6_number_0 49 rfl
def tX6_number_1 : List (Nat × Instr × Nat) := [(92, .getfield 85, 3), (95, .iload_n 2, 1), (96, .iload_n 3, 1), (97, .invokestatic 95, 3), (100, .ifCond .eq 7, 3), (103, .iconst 1, 1), (104, .goto 4, 3), (107, .iconst 0, 1), (108, .ireturn, 1)]
theorem aX6_number_1 : tX6_number_1.all (fun q => decide (decode cX6_number q.1 = .ok q.2)) = true := by decide +kernel
theorem dX6_number_92 : decode cX6_number 92 = .ok (.getfield 85, 3) := dec_row aX6_number_1 0 rfl
theorem dX6_number_95 : decode cX6_number 95 = .ok (.iload_n 2, 1) := dec_row aX6_number_1 1 rfl
theorem dX6_number_96 : decode cX6_number 96 = .ok (.iload_n 3, 1) := dec_row aX6_number_1 2 rfl
theorem dX6_number_97 : decode cX6_number 97 = .ok (.invokestatic 95, 3) := dec_row aX6_number_1 3 rfl
theorem dX6_number_100 : decode cX6_number 100 = .ok (.ifCond .eq 7, 3) := dec_row aX6_number_1 4 rfl
theorem dX6_number_103 : decode cX6_number 103 = .ok (.iconst 1, 1) := dec_row aX6_number_1 5 rfl
theorem dX6_number_104 : decode cX6_number 104 = .ok (.goto 4, 3) := dec_row aX6_number_1 6 rfl
theorem dX6_number_107 : decode cX6_number 107 = .ok (.iconst 0, 1) := dec_row aX6_number_1 7 rfl
theorem dX6_number_108 : decode cX6_number 108 = .ok (.ireturn, 1) := dec_row aX6_number_1 8 rfl
def tX6_more : List (Nat × Instr × Nat) := [(0, .aload_n 0, 1), (1, .aload_n 0, 1), (2, .getfield 88, 3), (5, .invokevirtual 91, 3), (8, .bipush 44, 2), (10, .if_icmp .ne 22, 3), (13, .aload_n 0, 1), (14, .aload_n 0, 1), (15, .getfield 88, 3), (18, .iconst 1, 1), (19, .iadd, 1), (20, .iload_n 1, 1), (21, .iload_n 2, 1), (22, .invokevirtual 99, 3), (25, .ifCond .eq 7, 3), (28, .iconst 1, 1), (29, .goto 4, 3), (32, .iconst 0, 1), (33, .ireturn, 1)]
theorem aX6_more : tX6_more.all (fun q => decide (decode cX6_more q.1 = .ok q.2)) = true := by decide +kernel
theorem dX6_more_0 : decode cX6_more 0 = .ok (.aload_n 0, 1) := dec_row aX6_more 0 rfl
theorem dX6_more_1 : decode cX6_more 1 = .ok (.aload_n 0, 1) := dec_row aX6_more 1 rfl
theorem dX6_more_2 : decode cX6_more 2 = .ok (.getfield 88, 3) := dec_row aX6_more 2 rfl
theorem dX6_more_5 : decode cX6_more 5 = .ok (.invokevirtual 91, 3) := dec_row aX6_more 3 rfl
theorem dX6_more_8 : decode cX6_more 8 = .ok (.bipush 44, 2) := dec_row aX6_more 4 rfl
theorem dX6_more_10 : decode cX6_more 10 = .ok (.if_icmp .ne 22, 3) := dec_row aX6_more 5 rfl
theorem dX6_more_13 : decode cX6_more 13 = .ok (.aload_n 0, 1) := dec_row aX6_more 6 rfl
theorem dX6_more_14 : decode cX6_more 14 = .ok (.aload_n 0, 1) := dec_row aX6_more 7 rfl
theorem dX6_more_15 : decode cX6_more 15 = .ok (.getfield 88, 3) := dec_row aX6_more 8 rfl
theorem dX6_more_18 : decode cX6_more 18 = .ok (.iconst 1, 1) := dec_row aX6_more 9 rfl
theorem dX6_more_19 : decode cX6_more 19 = .ok (.iadd, 1) := dec_row aX6_more 10 rfl
theorem dX6_more_20 : decode cX6_more 20 = .ok (.iload_n 1, 1) := dec_row aX6_more 11 rfl
theorem dX6_more_21 : decode cX6_more 21 = .ok (.iload_n 2, 1) := dec_row aX6_more 12 rfl
theorem dX6_more_22 : decode cX6_more 22 = .ok (.invokevirtual 99, 3) := dec_row aX6_more 13 rfl
theorem dX6_more_25 : decode cX6_more 25 = .ok (.ifCond .eq 7, 3) := dec_row aX6_more 14 rfl
theorem dX6_more_28 : decode cX6_more 28 = .ok (.iconst 1, 1) := dec_row aX6_more 15 rfl
theorem dX6_more_29 : decode cX6_more 29 = .ok (.goto 4, 3) := dec_row aX6_more 16 rfl
theorem dX6_more_32 : decode cX6_more 32 = .ok (.iconst 0, 1) := dec_row aX6_more 17 rfl
theorem dX6_more_33 : decode cX6_more 33 = .ok (.ireturn, 1) := dec_row aX6_more 18 rfl
def tX6_readsCavity : List (Nat × Instr × Nat) := [(0, .aload_n 0, 1), (1, .getfield 64, 3), (4, .bipush 6, 2), (6, .if_icmp .eq 14, 3), (9, .aload_n 0, 1), (10, .iload_n 1, 1), (11, .iconst 1, 1), (12, .bipush 30, 2), (14, .invokevirtual 99, 3), (17, .ifCond .ne 5, 3), (20, .iconst 0, 1), (21, .ireturn, 1), (22, .aload_n 0, 1), (23, .getfield 85, 3), (26, .istore_n 2, 1), (27, .aload_n 0, 1), (28, .iconst 1, 1), (29, .bipush 9, 2), (31, .invokevirtual 102, 3), (34, .ifCond .ne 5, 3), (37, .iconst 0, 1), (38, .ireturn, 1), (39, .aload_n 0, 1), (40, .getfield 85, 3), (43, .istore_n 3, 1), (44, .aload_n 0, 1), (45, .iconst 1, 1), (46, .bipush 9, 2), (48, .invokevirtual 102, 3), (51, .istore 4, 2), (53, .aload_n 0, 1), (54, .iload_n 2, 1), (55, .iload_n 3, 1), (56, .aload_n 0, 1), (57, .getfield 85, 3), (60, .invokevirtual 49, 3), (63, .iload 4, 2), (65, .ireturn, 1)]
theorem aX6_readsCavity : tX6_readsCavity.all (fun q => decide (decode cX6_readsCavity q.1 = .ok q.2)) = true := by decide +kernel
theorem dX6_readsCavity_0 : decode cX6_readsCavity 0 = .ok (.aload_n 0, 1) := dec_row aX6_readsCavity 0 rfl
theorem dX6_readsCavity_1 : decode cX6_readsCavity 1 = .ok (.getfield 64, 3) := dec_row aX6_readsCavity 1 rfl
theorem dX6_readsCavity_4 : decode cX6_readsCavity 4 = .ok (.bipush 6, 2) := dec_row aX6_readsCavity 2 rfl
theorem dX6_readsCavity_6 : decode cX6_readsCavity 6 = .ok (.if_icmp .eq 14, 3) := dec_row aX6_readsCavity 3 rfl
theorem dX6_readsCavity_9 : decode cX6_readsCavity 9 = .ok (.aload_n 0, 1) := dec_row aX6_readsCavity 4 rfl
theorem dX6_readsCavity_10 : decode cX6_readsCavity 10 = .ok (.iload_n 1, 1) := dec_row aX6_readsCavity 5 rfl
theorem dX6_readsCavity_11 : decode cX6_readsCavity 11 = .ok (.iconst 1, 1) := dec_row aX6_readsCavity 6 rfl
theorem dX6_readsCavity_12 : decode cX6_readsCavity 12 = .ok (.bipush 30, 2) := dec_row aX6_readsCavity 7 rfl
theorem dX6_readsCavity_14 : decode cX6_readsCavity 14 = .ok (.invokevirtual 99, 3) := dec_row aX6_readsCavity 8 rfl
theorem dX6_readsCavity_17 : decode cX6_readsCavity 17 = .ok (.ifCond .ne 5, 3) := dec_row aX6_readsCavity 9 rfl
theorem dX6_readsCavity_20 : decode cX6_readsCavity 20 = .ok (.iconst 0, 1) := dec_row aX6_readsCavity 10 rfl
theorem dX6_readsCavity_21 : decode cX6_readsCavity 21 = .ok (.ireturn, 1) := dec_row aX6_readsCavity 11 rfl
theorem dX6_readsCavity_22 : decode cX6_readsCavity 22 = .ok (.aload_n 0, 1) := dec_row aX6_readsCavity 12 rfl
theorem dX6_readsCavity_23 : decode cX6_readsCavity 23 = .ok (.getfield 85, 3) := dec_row aX6_readsCavity 13 rfl
theorem dX6_readsCavity_26 : decode cX6_readsCavity 26 = .ok (.istore_n 2, 1) := dec_row aX6_readsCavity 14 rfl
theorem dX6_readsCavity_27 : decode cX6_readsCavity 27 = .ok (.aload_n 0, 1) := dec_row aX6_readsCavity 15 rfl
theorem dX6_readsCavity_28 : decode cX6_readsCavity 28 = .ok (.iconst 1, 1) := dec_row aX6_readsCavity 16 rfl
theorem dX6_readsCavity_29 : decode cX6_readsCavity 29 = .ok (.bipush 9, 2) := dec_row aX6_readsCavity 17 rfl
theorem dX6_readsCavity_31 : decode cX6_readsCavity 31 = .ok (.invokevirtual 102, 3) := dec_row aX6_readsCavity 18 rfl
theorem dX6_readsCavity_34 : decode cX6_readsCavity 34 = .ok (.ifCond .ne 5, 3) := dec_row aX6_readsCavity 19 rfl
theorem dX6_readsCavity_37 : decode cX6_readsCavity 37 = .ok (.iconst 0, 1) := dec_row aX6_readsCavity 20 rfl
theorem dX6_readsCavity_38 : decode cX6_readsCavity 38 = .ok (.ireturn, 1) := dec_row aX6_readsCavity 21 rfl
theorem dX6_readsCavity_39 : decode cX6_readsCavity 39 = .ok (.aload_n 0, 1) := dec_row aX6_readsCavity 22 rfl
theorem dX6_readsCavity_40 : decode cX6_readsCavity 40 = .ok (.getfield 85, 3) := dec_row aX6_readsCavity 23 rfl
theorem dX6_readsCavity_43 : decode cX6_readsCavity 43 = .ok (.istore_n 3, 1) := dec_row aX6_readsCavity 24 rfl
theorem dX6_readsCavity_44 : decode cX6_readsCavity 44 = .ok (.aload_n 0, 1) := dec_row aX6_readsCavity 25 rfl
theorem dX6_readsCavity_45 : decode cX6_readsCavity 45 = .ok (.iconst 1, 1) := dec_row aX6_readsCavity 26 rfl
theorem dX6_readsCavity_46 : decode cX6_readsCavity 46 = .ok (.bipush 9, 2) := dec_row aX6_readsCavity 27 rfl
theorem dX6_readsCavity_48 : decode cX6_readsCavity 48 = .ok (.invokevirtual 102, 3) := dec_row aX6_readsCavity 28 rfl
theorem dX6_readsCavity_51 : decode cX6_readsCavity 51 = .ok (.istore 4, 2) := dec_row aX6_readsCavity 29 rfl
theorem dX6_readsCavity_53 : decode cX6_readsCavity 53 = .ok (.aload_n 0, 1) := dec_row aX6_readsCavity 30 rfl
theorem dX6_readsCavity_54 : decode cX6_readsCavity 54 = .ok (.iload_n 2, 1) := dec_row aX6_readsCavity 31 rfl
theorem dX6_readsCavity_55 : decode cX6_readsCavity 55 = .ok (.iload_n 3, 1) := dec_row aX6_readsCavity 32 rfl
theorem dX6_readsCavity_56 : decode cX6_readsCavity 56 = .ok (.aload_n 0, 1) := dec_row aX6_readsCavity 33 rfl
theorem dX6_readsCavity_57 : decode cX6_readsCavity 57 = .ok (.getfield 85, 3) := dec_row aX6_readsCavity 34 rfl
theorem dX6_readsCavity_60 : decode cX6_readsCavity 60 = .ok (.invokevirtual 49, 3) := dec_row aX6_readsCavity 35 rfl
theorem dX6_readsCavity_63 : decode cX6_readsCavity 63 = .ok (.iload 4, 2) := dec_row aX6_readsCavity 36 rfl
theorem dX6_readsCavity_65 : decode cX6_readsCavity 65 = .ok (.ireturn, 1) := dec_row aX6_readsCavity 37 rfl
def tX6_readsCore : List (Nat × Instr × Nat) := [(0, .aload_n 0, 1), (1, .getfield 53, 3), (4, .iconst 4, 1), (5, .if_icmp .ge 35, 3), (8, .aload_n 0, 1), (9, .iload_n 1, 1), (10, .iconst 0, 1), (11, .bipush 9, 2), (13, .invokevirtual 99, 3), (16, .ifCond .eq 24, 3), (19, .aload_n 0, 1), (20, .getfield 85, 3), (23, .iconst 4, 1), (24, .if_icmp .lt 12, 3), (27, .aload_n 0, 1), (28, .getfield 85, 3), (31, .bipush 9, 2), (33, .if_icmp .ne 7, 3), (36, .iconst 1, 1), (37, .goto 4, 3), (40, .iconst 0, 1), (41, .istore_n 2, 1), (42, .iload_n 2, 1), (43, .ifCond .eq 26, 3), (46, .aload_n 0, 1), (47, .getfield 37, 3), (50, .aload_n 0, 1), (51, .getfield 53, 3), (54, .aload_n 0, 1), (55, .getfield 85, 3), (58, .iastore, 1), (59, .aload_n 0, 1), (60, .dup, 1), (61, .getfield 53, 3), (64, .iconst 1, 1), (65, .iadd, 1), (66, .putfield 53, 3), (69, .iload_n 2, 1), (70, .ireturn, 1)]
theorem aX6_readsCore : tX6_readsCore.all (fun q => decide (decode cX6_readsCore q.1 = .ok q.2)) = true := by decide +kernel
theorem dX6_readsCore_0 : decode cX6_readsCore 0 = .ok (.aload_n 0, 1) := dec_row aX6_readsCore 0 rfl
theorem dX6_readsCore_1 : decode cX6_readsCore 1 = .ok (.getfield 53, 3) := dec_row aX6_readsCore 1 rfl
theorem dX6_readsCore_4 : decode cX6_readsCore 4 = .ok (.iconst 4, 1) := dec_row aX6_readsCore 2 rfl
theorem dX6_readsCore_5 : decode cX6_readsCore 5 = .ok (.if_icmp .ge 35, 3) := dec_row aX6_readsCore 3 rfl
theorem dX6_readsCore_8 : decode cX6_readsCore 8 = .ok (.aload_n 0, 1) := dec_row aX6_readsCore 4 rfl
theorem dX6_readsCore_9 : decode cX6_readsCore 9 = .ok (.iload_n 1, 1) := dec_row aX6_readsCore 5 rfl
theorem dX6_readsCore_10 : decode cX6_readsCore 10 = .ok (.iconst 0, 1) := dec_row aX6_readsCore 6 rfl
theorem dX6_readsCore_11 : decode cX6_readsCore 11 = .ok (.bipush 9, 2) := dec_row aX6_readsCore 7 rfl
theorem dX6_readsCore_13 : decode cX6_readsCore 13 = .ok (.invokevirtual 99, 3) := dec_row aX6_readsCore 8 rfl
theorem dX6_readsCore_16 : decode cX6_readsCore 16 = .ok (.ifCond .eq 24, 3) := dec_row aX6_readsCore 9 rfl
theorem dX6_readsCore_19 : decode cX6_readsCore 19 = .ok (.aload_n 0, 1) := dec_row aX6_readsCore 10 rfl
theorem dX6_readsCore_20 : decode cX6_readsCore 20 = .ok (.getfield 85, 3) := dec_row aX6_readsCore 11 rfl
theorem dX6_readsCore_23 : decode cX6_readsCore 23 = .ok (.iconst 4, 1) := dec_row aX6_readsCore 12 rfl
theorem dX6_readsCore_24 : decode cX6_readsCore 24 = .ok (.if_icmp .lt 12, 3) := dec_row aX6_readsCore 13 rfl
theorem dX6_readsCore_27 : decode cX6_readsCore 27 = .ok (.aload_n 0, 1) := dec_row aX6_readsCore 14 rfl
theorem dX6_readsCore_28 : decode cX6_readsCore 28 = .ok (.getfield 85, 3) := dec_row aX6_readsCore 15 rfl
theorem dX6_readsCore_31 : decode cX6_readsCore 31 = .ok (.bipush 9, 2) := dec_row aX6_readsCore 16 rfl
theorem dX6_readsCore_33 : decode cX6_readsCore 33 = .ok (.if_icmp .ne 7, 3) := dec_row aX6_readsCore 17 rfl
theorem dX6_readsCore_36 : decode cX6_readsCore 36 = .ok (.iconst 1, 1) := dec_row aX6_readsCore 18 rfl
theorem dX6_readsCore_37 : decode cX6_readsCore 37 = .ok (.goto 4, 3) := dec_row aX6_readsCore 19 rfl
theorem dX6_readsCore_40 : decode cX6_readsCore 40 = .ok (.iconst 0, 1) := dec_row aX6_readsCore 20 rfl
theorem dX6_readsCore_41 : decode cX6_readsCore 41 = .ok (.istore_n 2, 1) := dec_row aX6_readsCore 21 rfl
theorem dX6_readsCore_42 : decode cX6_readsCore 42 = .ok (.iload_n 2, 1) := dec_row aX6_readsCore 22 rfl
theorem dX6_readsCore_43 : decode cX6_readsCore 43 = .ok (.ifCond .eq 26, 3) := dec_row aX6_readsCore 23 rfl
theorem dX6_readsCore_46 : decode cX6_readsCore 46 = .ok (.aload_n 0, 1) := dec_row aX6_readsCore 24 rfl
theorem dX6_readsCore_47 : decode cX6_readsCore 47 = .ok (.getfield 37, 3) := dec_row aX6_readsCore 25 rfl
theorem dX6_readsCore_50 : decode cX6_readsCore 50 = .ok (.aload_n 0, 1) := dec_row aX6_readsCore 26 rfl
theorem dX6_readsCore_51 : decode cX6_readsCore 51 = .ok (.getfield 53, 3) := dec_row aX6_readsCore 27 rfl
theorem dX6_readsCore_54 : decode cX6_readsCore 54 = .ok (.aload_n 0, 1) := dec_row aX6_readsCore 28 rfl
theorem dX6_readsCore_55 : decode cX6_readsCore 55 = .ok (.getfield 85, 3) := dec_row aX6_readsCore 29 rfl
theorem dX6_readsCore_58 : decode cX6_readsCore 58 = .ok (.iastore, 1) := dec_row aX6_readsCore 30 rfl
theorem dX6_readsCore_59 : decode cX6_readsCore 59 = .ok (.aload_n 0, 1) := dec_row aX6_readsCore 31 rfl
theorem dX6_readsCore_60 : decode cX6_readsCore 60 = .ok (.dup, 1) := dec_row aX6_readsCore 32 rfl
theorem dX6_readsCore_61 : decode cX6_readsCore 61 = .ok (.getfield 53, 3) := dec_row aX6_readsCore 33 rfl
theorem dX6_readsCore_64 : decode cX6_readsCore 64 = .ok (.iconst 1, 1) := dec_row aX6_readsCore 34 rfl
theorem dX6_readsCore_65 : decode cX6_readsCore 65 = .ok (.iadd, 1) := dec_row aX6_readsCore 35 rfl
theorem dX6_readsCore_66 : decode cX6_readsCore 66 = .ok (.putfield 53, 3) := dec_row aX6_readsCore 36 rfl
theorem dX6_readsCore_69 : decode cX6_readsCore 69 = .ok (.iload_n 2, 1) := dec_row aX6_readsCore 37 rfl
theorem dX6_readsCore_70 : decode cX6_readsCore 70 = .ok (.ireturn, 1) := dec_row aX6_readsCore 38 rfl
def tX6_readsStage_0 : List (Nat × Instr × Nat) := [(0, .aload_n 0, 1), (1, .getfield 67, 3), (4, .ifCond .eq 11, 3), (7, .aload_n 0, 1), (8, .getfield 67, 3), (11, .iconst 4, 1), (12, .if_icmp .ne 7, 3), (15, .iconst 0, 1), (16, .goto 18, 3), (19, .aload_n 0, 1), (20, .getfield 40, 3), (23, .iconst 2, 1), (24, .aload_n 0, 1), (25, .getfield 67, 3), (28, .imul, 1), (29, .iconst 2, 1), (30, .isub, 1), (31, .iaload, 1), (32, .iconst 1, 1), (33, .iadd, 1), (34, .istore_n 2, 1), (35, .aload_n 0, 1), (36, .getfield 67, 3), (39, .iconst 4, 1), (40, .if_icmp .eq 25, 3), (43, .aload_n 0, 1), (44, .iload_n 1, 1), (45, .iload_n 2, 1), (46, .aload_n 0, 1), (47, .getfield 67, 3), (50, .ifCond .ne 7, 3), (53, .iconst 0, 1), (54, .goto 5, 3), (57, .bipush 98, 2), (59, .invokevirtual 99, 3), (62, .ifCond .ne 5, 3), (65, .iconst 0, 1), (66, .ireturn, 1), (67, .aload_n 0, 1), (68, .getfield 85, 3), (71, .istore_n 3, 1), (72, .aload_n 0, 1), (73, .iconst 1, 1), (74, .bipush 9, 2), (76, .invokevirtual 102, 3), (79, .istore 4, 2), (81, .aload_n 0, 1), (82, .iload_n 3, 1), (83, .aload_n 0, 1), (84, .getfield 85, 3)]
theorem aX6_readsStage_0 : tX6_readsStage_0.all (fun q => decide (decode cX6_readsStage q.1 = .ok q.2)) = true := by decide +kernel
theorem dX6_readsStage_0 : decode cX6_readsStage 0 = .ok (.aload_n 0, 1) := dec_row aX6_readsStage_0 0 rfl
theorem dX6_readsStage_1 : decode cX6_readsStage 1 = .ok (.getfield 67, 3) := dec_row aX6_readsStage_0 1 rfl
theorem dX6_readsStage_4 : decode cX6_readsStage 4 = .ok (.ifCond .eq 11, 3) := dec_row aX6_readsStage_0 2 rfl
theorem dX6_readsStage_7 : decode cX6_readsStage 7 = .ok (.aload_n 0, 1) := dec_row aX6_readsStage_0 3 rfl
theorem dX6_readsStage_8 : decode cX6_readsStage 8 = .ok (.getfield 67, 3) := dec_row aX6_readsStage_0 4 rfl
theorem dX6_readsStage_11 : decode cX6_readsStage 11 = .ok (.iconst 4, 1) := dec_row aX6_readsStage_0 5 rfl
theorem dX6_readsStage_12 : decode cX6_readsStage 12 = .ok (.if_icmp .ne 7, 3) := dec_row aX6_readsStage_0 6 rfl
theorem dX6_readsStage_15 : decode cX6_readsStage 15 = .ok (.iconst 0, 1) := dec_row aX6_readsStage_0 7 rfl
theorem dX6_readsStage_16 : decode cX6_readsStage 16 = .ok (.goto 18, 3) := dec_row aX6_readsStage_0 8 rfl
theorem dX6_readsStage_19 : decode cX6_readsStage 19 = .ok (.aload_n 0, 1) := dec_row aX6_readsStage_0 9 rfl
theorem dX6_readsStage_20 : decode cX6_readsStage 20 = .ok (.getfield 40, 3) := dec_row aX6_readsStage_0 10 rfl
theorem dX6_readsStage_23 : decode cX6_readsStage 23 = .ok (.iconst 2, 1) := dec_row aX6_readsStage_0 11 rfl
theorem dX6_readsStage_24 : decode cX6_readsStage 24 = .ok (.aload_n 0, 1) := dec_row aX6_readsStage_0 12 rfl
theorem dX6_readsStage_25 : decode cX6_readsStage 25 = .ok (.getfield 67, 3) := dec_row aX6_readsStage_0 13 rfl
theorem dX6_readsStage_28 : decode cX6_readsStage 28 = .ok (.imul, 1) := dec_row aX6_readsStage_0 14 rfl
theorem dX6_readsStage_29 : decode cX6_readsStage 29 = .ok (.iconst 2, 1) := dec_row aX6_readsStage_0 15 rfl
theorem dX6_readsStage_30 : decode cX6_readsStage 30 = .ok (.isub, 1) := dec_row aX6_readsStage_0 16 rfl
theorem dX6_readsStage_31 : decode cX6_readsStage 31 = .ok (.iaload, 1) := dec_row aX6_readsStage_0 17 rfl
theorem dX6_readsStage_32 : decode cX6_readsStage 32 = .ok (.iconst 1, 1) := dec_row aX6_readsStage_0 18 rfl
theorem dX6_readsStage_33 : decode cX6_readsStage 33 = .ok (.iadd, 1) := dec_row aX6_readsStage_0 19 rfl
theorem dX6_readsStage_34 : decode cX6_readsStage 34 = .ok (.istore_n 2, 1) := dec_row aX6_readsStage_0 20 rfl
theorem dX6_readsStage_35 : decode cX6_readsStage 35 = .ok (.aload_n 0, 1) := dec_row aX6_readsStage_0 21 rfl
theorem dX6_readsStage_36 : decode cX6_readsStage 36 = .ok (.getfield 67, 3) := dec_row aX6_readsStage_0 22 rfl
theorem dX6_readsStage_39 : decode cX6_readsStage 39 = .ok (.iconst 4, 1) := dec_row aX6_readsStage_0 23 rfl
theorem dX6_readsStage_40 : decode cX6_readsStage 40 = .ok (.if_icmp .eq 25, 3) := dec_row aX6_readsStage_0 24 rfl
theorem dX6_readsStage_43 : decode cX6_readsStage 43 = .ok (.aload_n 0, 1) := dec_row aX6_readsStage_0 25 rfl
theorem dX6_readsStage_44 : decode cX6_readsStage 44 = .ok (.iload_n 1, 1) := dec_row aX6_readsStage_0 26 rfl
theorem dX6_readsStage_45 : decode cX6_readsStage 45 = .ok (.iload_n 2, 1) := dec_row aX6_readsStage_0 27 rfl
theorem dX6_readsStage_46 : decode cX6_readsStage 46 = .ok (.aload_n 0, 1) := dec_row aX6_readsStage_0 28 rfl
theorem dX6_readsStage_47 : decode cX6_readsStage 47 = .ok (.getfield 67, 3) := dec_row aX6_readsStage_0 29 rfl
theorem dX6_readsStage_50 : decode cX6_readsStage 50 = .ok (.ifCond .ne 7, 3) := dec_row aX6_readsStage_0 30 rfl
theorem dX6_readsStage_53 : decode cX6_readsStage 53 = .ok (.iconst 0, 1) := dec_row aX6_readsStage_0 31 rfl
theorem dX6_readsStage_54 : decode cX6_readsStage 54 = .ok (.goto 5, 3) := dec_row aX6_readsStage_0 32 rfl
theorem dX6_readsStage_57 : decode cX6_readsStage 57 = .ok (.bipush 98, 2) := dec_row aX6_readsStage_0 33 rfl
theorem dX6_readsStage_59 : decode cX6_readsStage 59 = .ok (.invokevirtual 99, 3) := dec_row aX6_readsStage_0 34 rfl
theorem dX6_readsStage_62 : decode cX6_readsStage 62 = .ok (.ifCond .ne 5, 3) := dec_row aX6_readsStage_0 35 rfl
theorem dX6_readsStage_65 : decode cX6_readsStage 65 = .ok (.iconst 0, 1) := dec_row aX6_readsStage_0 36 rfl
theorem dX6_readsStage_66 : decode cX6_readsStage 66 = .ok (.ireturn, 1) := dec_row aX6_readsStage_0 37 rfl
theorem dX6_readsStage_67 : decode cX6_readsStage 67 = .ok (.aload_n 0, 1) := dec_row aX6_readsStage_0 38 rfl
theorem dX6_readsStage_68 : decode cX6_readsStage 68 = .ok (.getfield 85, 3) := dec_row aX6_readsStage_0 39 rfl
theorem dX6_readsStage_71 : decode cX6_readsStage 71 = .ok (.istore_n 3, 1) := dec_row aX6_readsStage_0 40 rfl
theorem dX6_readsStage_72 : decode cX6_readsStage 72 = .ok (.aload_n 0, 1) := dec_row aX6_readsStage_0 41 rfl
theorem dX6_readsStage_73 : decode cX6_readsStage 73 = .ok (.iconst 1, 1) := dec_row aX6_readsStage_0 42 rfl
theorem dX6_readsStage_74 : decode cX6_readsStage 74 = .ok (.bipush 9, 2) := dec_row aX6_readsStage_0 43 rfl
theorem dX6_readsStage_76 : decode cX6_readsStage 76 = .ok (.invokevirtual 102, 3) := dec_row aX6_readsStage_0 44 rfl
theorem dX6_readsStage_79 : decode cX6_readsStage 79 = .ok (.istore 4, 2) := dec_row aX6_readsStage_0 45 rfl
theorem dX6_readsStage_81 : decode cX6_readsStage 81 = .ok (.aload_n 0, 1) := dec_row aX6_readsStage_0 46 rfl
theorem dX6_readsStage_82 : decode cX6_readsStage 82 = .ok (.iload_n 3, 1) := dec_row aX6_readsStage_0 47 rfl
theorem dX6_readsStage_83 : decode cX6_readsStage 83 = .ok (.aload_n 0, 1) := dec_row aX6_readsStage_0 48 rfl
theorem dX6_readsStage_84 : decode cX6_readsStage 84 = .ok (.getfield 85, 3) := dec_row aX6_readsStage_0 49 rfl
def tX6_readsStage_1 : List (Nat × Instr × Nat) := [(87, .invokevirtual 57, 3), (90, .iload 4, 2), (92, .ireturn, 1)]
theorem aX6_readsStage_1 : tX6_readsStage_1.all (fun q => decide (decode cX6_readsStage q.1 = .ok q.2)) = true := by decide +kernel
theorem dX6_readsStage_87 : decode cX6_readsStage 87 = .ok (.invokevirtual 57, 3) := dec_row aX6_readsStage_1 0 rfl
theorem dX6_readsStage_90 : decode cX6_readsStage 90 = .ok (.iload 4, 2) := dec_row aX6_readsStage_1 1 rfl
theorem dX6_readsStage_92 : decode cX6_readsStage 92 = .ok (.ireturn, 1) := dec_row aX6_readsStage_1 2 rfl
def tX6_lowOf : List (Nat × Instr × Nat) := [(0, .iload_n 0, 1), (1, .iconst 3, 1), (2, .if_icmp .ge 7, 3), (5, .iconst 1, 1), (6, .goto 4, 3), (9, .iconst 0, 1), (10, .ireturn, 1)]
theorem aX6_lowOf : tX6_lowOf.all (fun q => decide (decode cX6_lowOf q.1 = .ok q.2)) = true := by decide +kernel
theorem dX6_lowOf_0 : decode cX6_lowOf 0 = .ok (.iload_n 0, 1) := dec_row aX6_lowOf 0 rfl
theorem dX6_lowOf_1 : decode cX6_lowOf 1 = .ok (.iconst 3, 1) := dec_row aX6_lowOf 1 rfl
theorem dX6_lowOf_2 : decode cX6_lowOf 2 = .ok (.if_icmp .ge 7, 3) := dec_row aX6_lowOf 2 rfl
theorem dX6_lowOf_5 : decode cX6_lowOf 5 = .ok (.iconst 1, 1) := dec_row aX6_lowOf 3 rfl
theorem dX6_lowOf_6 : decode cX6_lowOf 6 = .ok (.goto 4, 3) := dec_row aX6_lowOf 4 rfl
theorem dX6_lowOf_9 : decode cX6_lowOf 9 = .ok (.iconst 0, 1) := dec_row aX6_lowOf 5 rfl
theorem dX6_lowOf_10 : decode cX6_lowOf 10 = .ok (.ireturn, 1) := dec_row aX6_lowOf 6 rfl
def tX6_highOf : List (Nat × Instr × Nat) := [(0, .iload_n 0, 1), (1, .iconst 2, 1), (2, .if_icmp .ne 8, 3), (5, .bipush 40, 2), (7, .goto 15, 3), (10, .iload_n 0, 1), (11, .iconst 4, 1), (12, .if_icmp .ne 8, 3), (15, .bipush 20, 2), (17, .goto 5, 3), (20, .bipush 99, 2), (22, .ireturn, 1)]
theorem aX6_highOf : tX6_highOf.all (fun q => decide (decode cX6_highOf q.1 = .ok q.2)) = true := by decide +kernel
theorem dX6_highOf_0 : decode cX6_highOf 0 = .ok (.iload_n 0, 1) := dec_row aX6_highOf 0 rfl
theorem dX6_highOf_1 : decode cX6_highOf 1 = .ok (.iconst 2, 1) := dec_row aX6_highOf 1 rfl
theorem dX6_highOf_2 : decode cX6_highOf 2 = .ok (.if_icmp .ne 8, 3) := dec_row aX6_highOf 2 rfl
theorem dX6_highOf_5 : decode cX6_highOf 5 = .ok (.bipush 40, 2) := dec_row aX6_highOf 3 rfl
theorem dX6_highOf_7 : decode cX6_highOf 7 = .ok (.goto 15, 3) := dec_row aX6_highOf 4 rfl
theorem dX6_highOf_10 : decode cX6_highOf 10 = .ok (.iload_n 0, 1) := dec_row aX6_highOf 5 rfl
theorem dX6_highOf_11 : decode cX6_highOf 11 = .ok (.iconst 4, 1) := dec_row aX6_highOf 6 rfl
theorem dX6_highOf_12 : decode cX6_highOf 12 = .ok (.if_icmp .ne 8, 3) := dec_row aX6_highOf 7 rfl
theorem dX6_highOf_15 : decode cX6_highOf 15 = .ok (.bipush 20, 2) := dec_row aX6_highOf 8 rfl
theorem dX6_highOf_17 : decode cX6_highOf 17 = .ok (.goto 5, 3) := dec_row aX6_highOf 9 rfl
theorem dX6_highOf_20 : decode cX6_highOf 20 = .ok (.bipush 99, 2) := dec_row aX6_highOf 10 rfl
theorem dX6_highOf_22 : decode cX6_highOf 22 = .ok (.ireturn, 1) := dec_row aX6_highOf 11 rfl
def tX6_readsRules : List (Nat × Instr × Nat) := [(0, .iload_n 2, 1), (1, .istore_n 3, 1), (2, .iload_n 3, 1), (3, .iload_n 2, 1), (4, .iconst 3, 1), (5, .iadd, 1), (6, .if_icmp .ge 61, 3), (9, .iload_n 3, 1), (10, .iload_n 2, 1), (11, .if_icmp .ne 19, 3), (14, .aload_n 0, 1), (15, .iload_n 1, 1), (16, .iload_n 3, 1), (17, .invokestatic 106, 3), (20, .iload_n 3, 1), (21, .invokestatic 109, 3), (24, .invokevirtual 99, 3), (27, .goto 15, 3), (30, .aload_n 0, 1), (31, .iload_n 3, 1), (32, .invokestatic 106, 3), (35, .iload_n 3, 1), (36, .invokestatic 109, 3), (39, .invokevirtual 102, 3), (42, .istore 4, 2), (44, .iload 4, 2), (46, .ifCond .ne 5, 3), (49, .iconst 0, 1), (50, .ireturn, 1), (51, .aload_n 0, 1), (52, .getfield 43, 3), (55, .iload_n 3, 1), (56, .aload_n 0, 1), (57, .getfield 85, 3), (60, .iastore, 1), (61, .iinc 3 1, 3), (64, .goto (-62), 3), (67, .iconst 1, 1), (68, .ireturn, 1)]
theorem aX6_readsRules : tX6_readsRules.all (fun q => decide (decode cX6_readsRules q.1 = .ok q.2)) = true := by decide +kernel
theorem dX6_readsRules_0 : decode cX6_readsRules 0 = .ok (.iload_n 2, 1) := dec_row aX6_readsRules 0 rfl
theorem dX6_readsRules_1 : decode cX6_readsRules 1 = .ok (.istore_n 3, 1) := dec_row aX6_readsRules 1 rfl
theorem dX6_readsRules_2 : decode cX6_readsRules 2 = .ok (.iload_n 3, 1) := dec_row aX6_readsRules 2 rfl
theorem dX6_readsRules_3 : decode cX6_readsRules 3 = .ok (.iload_n 2, 1) := dec_row aX6_readsRules 3 rfl
theorem dX6_readsRules_4 : decode cX6_readsRules 4 = .ok (.iconst 3, 1) := dec_row aX6_readsRules 4 rfl
theorem dX6_readsRules_5 : decode cX6_readsRules 5 = .ok (.iadd, 1) := dec_row aX6_readsRules 5 rfl
theorem dX6_readsRules_6 : decode cX6_readsRules 6 = .ok (.if_icmp .ge 61, 3) := dec_row aX6_readsRules 6 rfl
theorem dX6_readsRules_9 : decode cX6_readsRules 9 = .ok (.iload_n 3, 1) := dec_row aX6_readsRules 7 rfl
theorem dX6_readsRules_10 : decode cX6_readsRules 10 = .ok (.iload_n 2, 1) := dec_row aX6_readsRules 8 rfl
theorem dX6_readsRules_11 : decode cX6_readsRules 11 = .ok (.if_icmp .ne 19, 3) := dec_row aX6_readsRules 9 rfl
theorem dX6_readsRules_14 : decode cX6_readsRules 14 = .ok (.aload_n 0, 1) := dec_row aX6_readsRules 10 rfl
theorem dX6_readsRules_15 : decode cX6_readsRules 15 = .ok (.iload_n 1, 1) := dec_row aX6_readsRules 11 rfl
theorem dX6_readsRules_16 : decode cX6_readsRules 16 = .ok (.iload_n 3, 1) := dec_row aX6_readsRules 12 rfl
theorem dX6_readsRules_17 : decode cX6_readsRules 17 = .ok (.invokestatic 106, 3) := dec_row aX6_readsRules 13 rfl
theorem dX6_readsRules_20 : decode cX6_readsRules 20 = .ok (.iload_n 3, 1) := dec_row aX6_readsRules 14 rfl
theorem dX6_readsRules_21 : decode cX6_readsRules 21 = .ok (.invokestatic 109, 3) := dec_row aX6_readsRules 15 rfl
theorem dX6_readsRules_24 : decode cX6_readsRules 24 = .ok (.invokevirtual 99, 3) := dec_row aX6_readsRules 16 rfl
theorem dX6_readsRules_27 : decode cX6_readsRules 27 = .ok (.goto 15, 3) := dec_row aX6_readsRules 17 rfl
theorem dX6_readsRules_30 : decode cX6_readsRules 30 = .ok (.aload_n 0, 1) := dec_row aX6_readsRules 18 rfl
theorem dX6_readsRules_31 : decode cX6_readsRules 31 = .ok (.iload_n 3, 1) := dec_row aX6_readsRules 19 rfl
theorem dX6_readsRules_32 : decode cX6_readsRules 32 = .ok (.invokestatic 106, 3) := dec_row aX6_readsRules 20 rfl
theorem dX6_readsRules_35 : decode cX6_readsRules 35 = .ok (.iload_n 3, 1) := dec_row aX6_readsRules 21 rfl
theorem dX6_readsRules_36 : decode cX6_readsRules 36 = .ok (.invokestatic 109, 3) := dec_row aX6_readsRules 22 rfl
theorem dX6_readsRules_39 : decode cX6_readsRules 39 = .ok (.invokevirtual 102, 3) := dec_row aX6_readsRules 23 rfl
theorem dX6_readsRules_42 : decode cX6_readsRules 42 = .ok (.istore 4, 2) := dec_row aX6_readsRules 24 rfl
theorem dX6_readsRules_44 : decode cX6_readsRules 44 = .ok (.iload 4, 2) := dec_row aX6_readsRules 25 rfl
theorem dX6_readsRules_46 : decode cX6_readsRules 46 = .ok (.ifCond .ne 5, 3) := dec_row aX6_readsRules 26 rfl
theorem dX6_readsRules_49 : decode cX6_readsRules 49 = .ok (.iconst 0, 1) := dec_row aX6_readsRules 27 rfl
theorem dX6_readsRules_50 : decode cX6_readsRules 50 = .ok (.ireturn, 1) := dec_row aX6_readsRules 28 rfl
theorem dX6_readsRules_51 : decode cX6_readsRules 51 = .ok (.aload_n 0, 1) := dec_row aX6_readsRules 29 rfl
theorem dX6_readsRules_52 : decode cX6_readsRules 52 = .ok (.getfield 43, 3) := dec_row aX6_readsRules 30 rfl
theorem dX6_readsRules_55 : decode cX6_readsRules 55 = .ok (.iload_n 3, 1) := dec_row aX6_readsRules 31 rfl
theorem dX6_readsRules_56 : decode cX6_readsRules 56 = .ok (.aload_n 0, 1) := dec_row aX6_readsRules 32 rfl
theorem dX6_readsRules_57 : decode cX6_readsRules 57 = .ok (.getfield 85, 3) := dec_row aX6_readsRules 33 rfl
theorem dX6_readsRules_60 : decode cX6_readsRules 60 = .ok (.iastore, 1) := dec_row aX6_readsRules 34 rfl
theorem dX6_readsRules_61 : decode cX6_readsRules 61 = .ok (.iinc 3 1, 3) := dec_row aX6_readsRules 35 rfl
theorem dX6_readsRules_64 : decode cX6_readsRules 64 = .ok (.goto (-62), 3) := dec_row aX6_readsRules 36 rfl
theorem dX6_readsRules_67 : decode cX6_readsRules 67 = .ok (.iconst 1, 1) := dec_row aX6_readsRules 37 rfl
theorem dX6_readsRules_68 : decode cX6_readsRules 68 = .ok (.ireturn, 1) := dec_row aX6_readsRules 38 rfl
def tX6_readsItem : List (Nat × Instr × Nat) := [(0, .iload_n 1, 1), (1, .lookupswitch 83 #[(99, 57), (104, 76), (111, 69), (115, 63), (118, 51)], 51), (52, .aload_n 0, 1), (53, .iload_n 2, 1), (54, .invokevirtual 112, 3), (57, .ireturn, 1), (58, .aload_n 0, 1), (59, .iload_n 2, 1), (60, .invokevirtual 116, 3), (63, .ireturn, 1), (64, .aload_n 0, 1), (65, .iload_n 2, 1), (66, .invokevirtual 119, 3), (69, .ireturn, 1), (70, .aload_n 0, 1), (71, .iload_n 2, 1), (72, .iconst 0, 1), (73, .invokevirtual 122, 3), (76, .ireturn, 1), (77, .aload_n 0, 1), (78, .iload_n 2, 1), (79, .iconst 3, 1), (80, .invokevirtual 122, 3), (83, .ireturn, 1), (84, .iconst 0, 1), (85, .ireturn, 1)]
theorem aX6_readsItem : tX6_readsItem.all (fun q => decide (decode cX6_readsItem q.1 = .ok q.2)) = true := by decide +kernel
theorem dX6_readsItem_0 : decode cX6_readsItem 0 = .ok (.iload_n 1, 1) := dec_row aX6_readsItem 0 rfl
theorem dX6_readsItem_1 : decode cX6_readsItem 1 = .ok (.lookupswitch 83 #[(99, 57), (104, 76), (111, 69), (115, 63), (118, 51)], 51) := dec_row aX6_readsItem 1 rfl
theorem dX6_readsItem_52 : decode cX6_readsItem 52 = .ok (.aload_n 0, 1) := dec_row aX6_readsItem 2 rfl
theorem dX6_readsItem_53 : decode cX6_readsItem 53 = .ok (.iload_n 2, 1) := dec_row aX6_readsItem 3 rfl
theorem dX6_readsItem_54 : decode cX6_readsItem 54 = .ok (.invokevirtual 112, 3) := dec_row aX6_readsItem 4 rfl
theorem dX6_readsItem_57 : decode cX6_readsItem 57 = .ok (.ireturn, 1) := dec_row aX6_readsItem 5 rfl
theorem dX6_readsItem_58 : decode cX6_readsItem 58 = .ok (.aload_n 0, 1) := dec_row aX6_readsItem 6 rfl
theorem dX6_readsItem_59 : decode cX6_readsItem 59 = .ok (.iload_n 2, 1) := dec_row aX6_readsItem 7 rfl
theorem dX6_readsItem_60 : decode cX6_readsItem 60 = .ok (.invokevirtual 116, 3) := dec_row aX6_readsItem 8 rfl
theorem dX6_readsItem_63 : decode cX6_readsItem 63 = .ok (.ireturn, 1) := dec_row aX6_readsItem 9 rfl
theorem dX6_readsItem_64 : decode cX6_readsItem 64 = .ok (.aload_n 0, 1) := dec_row aX6_readsItem 10 rfl
theorem dX6_readsItem_65 : decode cX6_readsItem 65 = .ok (.iload_n 2, 1) := dec_row aX6_readsItem 11 rfl
theorem dX6_readsItem_66 : decode cX6_readsItem 66 = .ok (.invokevirtual 119, 3) := dec_row aX6_readsItem 12 rfl
theorem dX6_readsItem_69 : decode cX6_readsItem 69 = .ok (.ireturn, 1) := dec_row aX6_readsItem 13 rfl
theorem dX6_readsItem_70 : decode cX6_readsItem 70 = .ok (.aload_n 0, 1) := dec_row aX6_readsItem 14 rfl
theorem dX6_readsItem_71 : decode cX6_readsItem 71 = .ok (.iload_n 2, 1) := dec_row aX6_readsItem 15 rfl
theorem dX6_readsItem_72 : decode cX6_readsItem 72 = .ok (.iconst 0, 1) := dec_row aX6_readsItem 16 rfl
theorem dX6_readsItem_73 : decode cX6_readsItem 73 = .ok (.invokevirtual 122, 3) := dec_row aX6_readsItem 17 rfl
theorem dX6_readsItem_76 : decode cX6_readsItem 76 = .ok (.ireturn, 1) := dec_row aX6_readsItem 18 rfl
theorem dX6_readsItem_77 : decode cX6_readsItem 77 = .ok (.aload_n 0, 1) := dec_row aX6_readsItem 19 rfl
theorem dX6_readsItem_78 : decode cX6_readsItem 78 = .ok (.iload_n 2, 1) := dec_row aX6_readsItem 20 rfl
theorem dX6_readsItem_79 : decode cX6_readsItem 79 = .ok (.iconst 3, 1) := dec_row aX6_readsItem 21 rfl
theorem dX6_readsItem_80 : decode cX6_readsItem 80 = .ok (.invokevirtual 122, 3) := dec_row aX6_readsItem 22 rfl
theorem dX6_readsItem_83 : decode cX6_readsItem 83 = .ok (.ireturn, 1) := dec_row aX6_readsItem 23 rfl
theorem dX6_readsItem_84 : decode cX6_readsItem 84 = .ok (.iconst 0, 1) := dec_row aX6_readsItem 24 rfl
theorem dX6_readsItem_85 : decode cX6_readsItem 85 = .ok (.ireturn, 1) := dec_row aX6_readsItem 25 rfl
def tX6_reads : List (Nat × Instr × Nat) := [(0, .aload_n 0, 1), (1, .invokevirtual 46, 3), (4, .iconst 0, 1), (5, .istore_n 1, 1), (6, .iload_n 1, 1), (7, .aload_n 0, 1), (8, .getfield 82, 3), (11, .if_icmp .ge 44, 3), (14, .aload_n 0, 1), (15, .aload_n 0, 1), (16, .getfield 7, 3), (19, .iload_n 1, 1), (20, .iaload, 1), (21, .iload_n 1, 1), (22, .iconst 1, 1), (23, .iadd, 1), (24, .invokevirtual 125, 3), (27, .ifCond .eq 16, 3), (30, .aload_n 0, 1), (31, .aload_n 0, 1), (32, .getfield 88, 3), (35, .invokevirtual 91, 3), (38, .bipush 59, 2), (40, .if_icmp .eq 5, 3), (43, .iload_n 1, 1), (44, .ireturn, 1), (45, .aload_n 0, 1), (46, .getfield 88, 3), (49, .iconst 1, 1), (50, .iadd, 1), (51, .istore_n 1, 1), (52, .goto (-46), 3), (55, .bipush (-4), 2), (57, .ireturn, 1)]
theorem aX6_reads : tX6_reads.all (fun q => decide (decode cX6_reads q.1 = .ok q.2)) = true := by decide +kernel
theorem dX6_reads_0 : decode cX6_reads 0 = .ok (.aload_n 0, 1) := dec_row aX6_reads 0 rfl
theorem dX6_reads_1 : decode cX6_reads 1 = .ok (.invokevirtual 46, 3) := dec_row aX6_reads 1 rfl
theorem dX6_reads_4 : decode cX6_reads 4 = .ok (.iconst 0, 1) := dec_row aX6_reads 2 rfl
theorem dX6_reads_5 : decode cX6_reads 5 = .ok (.istore_n 1, 1) := dec_row aX6_reads 3 rfl
theorem dX6_reads_6 : decode cX6_reads 6 = .ok (.iload_n 1, 1) := dec_row aX6_reads 4 rfl
theorem dX6_reads_7 : decode cX6_reads 7 = .ok (.aload_n 0, 1) := dec_row aX6_reads 5 rfl
theorem dX6_reads_8 : decode cX6_reads 8 = .ok (.getfield 82, 3) := dec_row aX6_reads 6 rfl
theorem dX6_reads_11 : decode cX6_reads 11 = .ok (.if_icmp .ge 44, 3) := dec_row aX6_reads 7 rfl
theorem dX6_reads_14 : decode cX6_reads 14 = .ok (.aload_n 0, 1) := dec_row aX6_reads 8 rfl
theorem dX6_reads_15 : decode cX6_reads 15 = .ok (.aload_n 0, 1) := dec_row aX6_reads 9 rfl
theorem dX6_reads_16 : decode cX6_reads 16 = .ok (.getfield 7, 3) := dec_row aX6_reads 10 rfl
theorem dX6_reads_19 : decode cX6_reads 19 = .ok (.iload_n 1, 1) := dec_row aX6_reads 11 rfl
theorem dX6_reads_20 : decode cX6_reads 20 = .ok (.iaload, 1) := dec_row aX6_reads 12 rfl
theorem dX6_reads_21 : decode cX6_reads 21 = .ok (.iload_n 1, 1) := dec_row aX6_reads 13 rfl
theorem dX6_reads_22 : decode cX6_reads 22 = .ok (.iconst 1, 1) := dec_row aX6_reads 14 rfl
theorem dX6_reads_23 : decode cX6_reads 23 = .ok (.iadd, 1) := dec_row aX6_reads 15 rfl
theorem dX6_reads_24 : decode cX6_reads 24 = .ok (.invokevirtual 125, 3) := dec_row aX6_reads 16 rfl
theorem dX6_reads_27 : decode cX6_reads 27 = .ok (.ifCond .eq 16, 3) := dec_row aX6_reads 17 rfl
theorem dX6_reads_30 : decode cX6_reads 30 = .ok (.aload_n 0, 1) := dec_row aX6_reads 18 rfl
theorem dX6_reads_31 : decode cX6_reads 31 = .ok (.aload_n 0, 1) := dec_row aX6_reads 19 rfl
theorem dX6_reads_32 : decode cX6_reads 32 = .ok (.getfield 88, 3) := dec_row aX6_reads 20 rfl
theorem dX6_reads_35 : decode cX6_reads 35 = .ok (.invokevirtual 91, 3) := dec_row aX6_reads 21 rfl
theorem dX6_reads_38 : decode cX6_reads 38 = .ok (.bipush 59, 2) := dec_row aX6_reads 22 rfl
theorem dX6_reads_40 : decode cX6_reads 40 = .ok (.if_icmp .eq 5, 3) := dec_row aX6_reads 23 rfl
theorem dX6_reads_43 : decode cX6_reads 43 = .ok (.iload_n 1, 1) := dec_row aX6_reads 24 rfl
theorem dX6_reads_44 : decode cX6_reads 44 = .ok (.ireturn, 1) := dec_row aX6_reads 25 rfl
theorem dX6_reads_45 : decode cX6_reads 45 = .ok (.aload_n 0, 1) := dec_row aX6_reads 26 rfl
theorem dX6_reads_46 : decode cX6_reads 46 = .ok (.getfield 88, 3) := dec_row aX6_reads 27 rfl
theorem dX6_reads_49 : decode cX6_reads 49 = .ok (.iconst 1, 1) := dec_row aX6_reads 28 rfl
theorem dX6_reads_50 : decode cX6_reads 50 = .ok (.iadd, 1) := dec_row aX6_reads 29 rfl
theorem dX6_reads_51 : decode cX6_reads 51 = .ok (.istore_n 1, 1) := dec_row aX6_reads 30 rfl
theorem dX6_reads_52 : decode cX6_reads 52 = .ok (.goto (-46), 3) := dec_row aX6_reads 31 rfl
theorem dX6_reads_55 : decode cX6_reads 55 = .ok (.bipush (-4), 2) := dec_row aX6_reads 32 rfl
theorem dX6_reads_57 : decode cX6_reads 57 = .ok (.ireturn, 1) := dec_row aX6_reads 33 rfl
def tX6_areCores : List (Nat × Instr × Nat) := [(0, .iconst 0, 1), (1, .istore_n 1, 1), (2, .iload_n 1, 1), (3, .aload_n 0, 1), (4, .getfield 53, 3), (7, .if_icmp .ge 61, 3), (10, .iload_n 1, 1), (11, .istore_n 2, 1), (12, .iconst 0, 1), (13, .istore_n 3, 1), (14, .iload_n 2, 1), (15, .bipush 9, 2), (17, .if_icmp .eq 37, 3), (20, .iload_n 3, 1), (21, .iconst 5, 1), (22, .if_icmp .ge 32, 3), (25, .aload_n 0, 1), (26, .getfield 37, 3), (29, .iload_n 2, 1), (30, .iaload, 1), (31, .istore_n 2, 1), (32, .iload_n 2, 1), (33, .bipush 9, 2), (35, .if_icmp .eq 13, 3), (38, .iload_n 2, 1), (39, .aload_n 0, 1), (40, .getfield 53, 3), (43, .if_icmp .lt 5, 3), (46, .iconst 0, 1), (47, .ireturn, 1), (48, .iinc 3 1, 3), (51, .goto (-37), 3), (54, .iload_n 2, 1), (55, .bipush 9, 2), (57, .if_icmp .eq 5, 3), (60, .iconst 0, 1), (61, .ireturn, 1), (62, .iinc 1 1, 3), (65, .goto (-63), 3), (68, .iconst 1, 1), (69, .ireturn, 1)]
theorem aX6_areCores : tX6_areCores.all (fun q => decide (decode cX6_areCores q.1 = .ok q.2)) = true := by decide +kernel
theorem dX6_areCores_0 : decode cX6_areCores 0 = .ok (.iconst 0, 1) := dec_row aX6_areCores 0 rfl
theorem dX6_areCores_1 : decode cX6_areCores 1 = .ok (.istore_n 1, 1) := dec_row aX6_areCores 1 rfl
theorem dX6_areCores_2 : decode cX6_areCores 2 = .ok (.iload_n 1, 1) := dec_row aX6_areCores 2 rfl
theorem dX6_areCores_3 : decode cX6_areCores 3 = .ok (.aload_n 0, 1) := dec_row aX6_areCores 3 rfl
theorem dX6_areCores_4 : decode cX6_areCores 4 = .ok (.getfield 53, 3) := dec_row aX6_areCores 4 rfl
theorem dX6_areCores_7 : decode cX6_areCores 7 = .ok (.if_icmp .ge 61, 3) := dec_row aX6_areCores 5 rfl
theorem dX6_areCores_10 : decode cX6_areCores 10 = .ok (.iload_n 1, 1) := dec_row aX6_areCores 6 rfl
theorem dX6_areCores_11 : decode cX6_areCores 11 = .ok (.istore_n 2, 1) := dec_row aX6_areCores 7 rfl
theorem dX6_areCores_12 : decode cX6_areCores 12 = .ok (.iconst 0, 1) := dec_row aX6_areCores 8 rfl
theorem dX6_areCores_13 : decode cX6_areCores 13 = .ok (.istore_n 3, 1) := dec_row aX6_areCores 9 rfl
theorem dX6_areCores_14 : decode cX6_areCores 14 = .ok (.iload_n 2, 1) := dec_row aX6_areCores 10 rfl
theorem dX6_areCores_15 : decode cX6_areCores 15 = .ok (.bipush 9, 2) := dec_row aX6_areCores 11 rfl
theorem dX6_areCores_17 : decode cX6_areCores 17 = .ok (.if_icmp .eq 37, 3) := dec_row aX6_areCores 12 rfl
theorem dX6_areCores_20 : decode cX6_areCores 20 = .ok (.iload_n 3, 1) := dec_row aX6_areCores 13 rfl
theorem dX6_areCores_21 : decode cX6_areCores 21 = .ok (.iconst 5, 1) := dec_row aX6_areCores 14 rfl
theorem dX6_areCores_22 : decode cX6_areCores 22 = .ok (.if_icmp .ge 32, 3) := dec_row aX6_areCores 15 rfl
theorem dX6_areCores_25 : decode cX6_areCores 25 = .ok (.aload_n 0, 1) := dec_row aX6_areCores 16 rfl
theorem dX6_areCores_26 : decode cX6_areCores 26 = .ok (.getfield 37, 3) := dec_row aX6_areCores 17 rfl
theorem dX6_areCores_29 : decode cX6_areCores 29 = .ok (.iload_n 2, 1) := dec_row aX6_areCores 18 rfl
theorem dX6_areCores_30 : decode cX6_areCores 30 = .ok (.iaload, 1) := dec_row aX6_areCores 19 rfl
theorem dX6_areCores_31 : decode cX6_areCores 31 = .ok (.istore_n 2, 1) := dec_row aX6_areCores 20 rfl
theorem dX6_areCores_32 : decode cX6_areCores 32 = .ok (.iload_n 2, 1) := dec_row aX6_areCores 21 rfl
theorem dX6_areCores_33 : decode cX6_areCores 33 = .ok (.bipush 9, 2) := dec_row aX6_areCores 22 rfl
theorem dX6_areCores_35 : decode cX6_areCores 35 = .ok (.if_icmp .eq 13, 3) := dec_row aX6_areCores 23 rfl
theorem dX6_areCores_38 : decode cX6_areCores 38 = .ok (.iload_n 2, 1) := dec_row aX6_areCores 24 rfl
theorem dX6_areCores_39 : decode cX6_areCores 39 = .ok (.aload_n 0, 1) := dec_row aX6_areCores 25 rfl
theorem dX6_areCores_40 : decode cX6_areCores 40 = .ok (.getfield 53, 3) := dec_row aX6_areCores 26 rfl
theorem dX6_areCores_43 : decode cX6_areCores 43 = .ok (.if_icmp .lt 5, 3) := dec_row aX6_areCores 27 rfl
theorem dX6_areCores_46 : decode cX6_areCores 46 = .ok (.iconst 0, 1) := dec_row aX6_areCores 28 rfl
theorem dX6_areCores_47 : decode cX6_areCores 47 = .ok (.ireturn, 1) := dec_row aX6_areCores 29 rfl
theorem dX6_areCores_48 : decode cX6_areCores 48 = .ok (.iinc 3 1, 3) := dec_row aX6_areCores 30 rfl
theorem dX6_areCores_51 : decode cX6_areCores 51 = .ok (.goto (-37), 3) := dec_row aX6_areCores 31 rfl
theorem dX6_areCores_54 : decode cX6_areCores 54 = .ok (.iload_n 2, 1) := dec_row aX6_areCores 32 rfl
theorem dX6_areCores_55 : decode cX6_areCores 55 = .ok (.bipush 9, 2) := dec_row aX6_areCores 33 rfl
theorem dX6_areCores_57 : decode cX6_areCores 57 = .ok (.if_icmp .eq 5, 3) := dec_row aX6_areCores 34 rfl
theorem dX6_areCores_60 : decode cX6_areCores 60 = .ok (.iconst 0, 1) := dec_row aX6_areCores 35 rfl
theorem dX6_areCores_61 : decode cX6_areCores 61 = .ok (.ireturn, 1) := dec_row aX6_areCores 36 rfl
theorem dX6_areCores_62 : decode cX6_areCores 62 = .ok (.iinc 1 1, 3) := dec_row aX6_areCores 37 rfl
theorem dX6_areCores_65 : decode cX6_areCores 65 = .ok (.goto (-63), 3) := dec_row aX6_areCores 38 rfl
theorem dX6_areCores_68 : decode cX6_areCores 68 = .ok (.iconst 1, 1) := dec_row aX6_areCores 39 rfl
theorem dX6_areCores_69 : decode cX6_areCores 69 = .ok (.ireturn, 1) := dec_row aX6_areCores 40 rfl
def tX6_write : List (Nat × Instr × Nat) := [(0, .iload_n 1, 1), (1, .bipush 32, 2), (3, .if_icmp .lt 9, 3), (6, .iload_n 1, 1), (7, .bipush 126, 2), (9, .if_icmp .le 5, 3), (12, .iconst (-1), 1), (13, .ireturn, 1), (14, .aload_n 0, 1), (15, .getfield 82, 3), (18, .sipush 200, 3), (21, .if_icmp .ne 6, 3), (24, .bipush (-3), 2), (26, .ireturn, 1), (27, .aload_n 0, 1), (28, .getfield 7, 3), (31, .aload_n 0, 1), (32, .getfield 82, 3), (35, .iload_n 1, 1), (36, .iastore, 1), (37, .aload_n 0, 1), (38, .dup, 1), (39, .getfield 82, 3), (42, .iconst 1, 1), (43, .iadd, 1), (44, .putfield 82, 3), (47, .aload_n 0, 1), (48, .getfield 82, 3), (51, .ireturn, 1)]
theorem aX6_write : tX6_write.all (fun q => decide (decode cX6_write q.1 = .ok q.2)) = true := by decide +kernel
theorem dX6_write_0 : decode cX6_write 0 = .ok (.iload_n 1, 1) := dec_row aX6_write 0 rfl
theorem dX6_write_1 : decode cX6_write 1 = .ok (.bipush 32, 2) := dec_row aX6_write 1 rfl
theorem dX6_write_3 : decode cX6_write 3 = .ok (.if_icmp .lt 9, 3) := dec_row aX6_write 2 rfl
theorem dX6_write_6 : decode cX6_write 6 = .ok (.iload_n 1, 1) := dec_row aX6_write 3 rfl
theorem dX6_write_7 : decode cX6_write 7 = .ok (.bipush 126, 2) := dec_row aX6_write 4 rfl
theorem dX6_write_9 : decode cX6_write 9 = .ok (.if_icmp .le 5, 3) := dec_row aX6_write 5 rfl
theorem dX6_write_12 : decode cX6_write 12 = .ok (.iconst (-1), 1) := dec_row aX6_write 6 rfl
theorem dX6_write_13 : decode cX6_write 13 = .ok (.ireturn, 1) := dec_row aX6_write 7 rfl
theorem dX6_write_14 : decode cX6_write 14 = .ok (.aload_n 0, 1) := dec_row aX6_write 8 rfl
theorem dX6_write_15 : decode cX6_write 15 = .ok (.getfield 82, 3) := dec_row aX6_write 9 rfl
theorem dX6_write_18 : decode cX6_write 18 = .ok (.sipush 200, 3) := dec_row aX6_write 10 rfl
theorem dX6_write_21 : decode cX6_write 21 = .ok (.if_icmp .ne 6, 3) := dec_row aX6_write 11 rfl
theorem dX6_write_24 : decode cX6_write 24 = .ok (.bipush (-3), 2) := dec_row aX6_write 12 rfl
theorem dX6_write_26 : decode cX6_write 26 = .ok (.ireturn, 1) := dec_row aX6_write 13 rfl
theorem dX6_write_27 : decode cX6_write 27 = .ok (.aload_n 0, 1) := dec_row aX6_write 14 rfl
theorem dX6_write_28 : decode cX6_write 28 = .ok (.getfield 7, 3) := dec_row aX6_write 15 rfl
theorem dX6_write_31 : decode cX6_write 31 = .ok (.aload_n 0, 1) := dec_row aX6_write 16 rfl
theorem dX6_write_32 : decode cX6_write 32 = .ok (.getfield 82, 3) := dec_row aX6_write 17 rfl
theorem dX6_write_35 : decode cX6_write 35 = .ok (.iload_n 1, 1) := dec_row aX6_write 18 rfl
theorem dX6_write_36 : decode cX6_write 36 = .ok (.iastore, 1) := dec_row aX6_write 19 rfl
theorem dX6_write_37 : decode cX6_write 37 = .ok (.aload_n 0, 1) := dec_row aX6_write 20 rfl
theorem dX6_write_38 : decode cX6_write 38 = .ok (.dup, 1) := dec_row aX6_write 21 rfl
theorem dX6_write_39 : decode cX6_write 39 = .ok (.getfield 82, 3) := dec_row aX6_write 22 rfl
theorem dX6_write_42 : decode cX6_write 42 = .ok (.iconst 1, 1) := dec_row aX6_write 23 rfl
theorem dX6_write_43 : decode cX6_write 43 = .ok (.iadd, 1) := dec_row aX6_write 24 rfl
theorem dX6_write_44 : decode cX6_write 44 = .ok (.putfield 82, 3) := dec_row aX6_write 25 rfl
theorem dX6_write_47 : decode cX6_write 47 = .ok (.aload_n 0, 1) := dec_row aX6_write 26 rfl
theorem dX6_write_48 : decode cX6_write 48 = .ok (.getfield 82, 3) := dec_row aX6_write 27 rfl
theorem dX6_write_51 : decode cX6_write 51 = .ok (.ireturn, 1) := dec_row aX6_write 28 rfl
def tX6_wipe : List (Nat × Instr × Nat) := [(0, .aload_n 0, 1), (1, .getfield 82, 3), (4, .istore_n 1, 1), (5, .aload_n 0, 1), (6, .iconst 0, 1), (7, .putfield 82, 3), (10, .iload_n 1, 1), (11, .ireturn, 1)]
theorem aX6_wipe : tX6_wipe.all (fun q => decide (decode cX6_wipe q.1 = .ok q.2)) = true := by decide +kernel
theorem dX6_wipe_0 : decode cX6_wipe 0 = .ok (.aload_n 0, 1) := dec_row aX6_wipe 0 rfl
theorem dX6_wipe_1 : decode cX6_wipe 1 = .ok (.getfield 82, 3) := dec_row aX6_wipe 1 rfl
theorem dX6_wipe_4 : decode cX6_wipe 4 = .ok (.istore_n 1, 1) := dec_row aX6_wipe 2 rfl
theorem dX6_wipe_5 : decode cX6_wipe 5 = .ok (.aload_n 0, 1) := dec_row aX6_wipe 3 rfl
theorem dX6_wipe_6 : decode cX6_wipe 6 = .ok (.iconst 0, 1) := dec_row aX6_wipe 4 rfl
theorem dX6_wipe_7 : decode cX6_wipe 7 = .ok (.putfield 82, 3) := dec_row aX6_wipe 5 rfl
theorem dX6_wipe_10 : decode cX6_wipe 10 = .ok (.iload_n 1, 1) := dec_row aX6_wipe 6 rfl
theorem dX6_wipe_11 : decode cX6_wipe 11 = .ok (.ireturn, 1) := dec_row aX6_wipe 7 rfl
def tX6_fault : List (Nat × Instr × Nat) := [(0, .aload_n 0, 1), (1, .invokevirtual 128, 3), (4, .ireturn, 1)]
theorem aX6_fault : tX6_fault.all (fun q => decide (decode cX6_fault q.1 = .ok q.2)) = true := by decide +kernel
theorem dX6_fault_0 : decode cX6_fault 0 = .ok (.aload_n 0, 1) := dec_row aX6_fault 0 rfl
theorem dX6_fault_1 : decode cX6_fault 1 = .ok (.invokevirtual 128, 3) := dec_row aX6_fault 1 rfl
theorem dX6_fault_4 : decode cX6_fault 4 = .ok (.ireturn, 1) := dec_row aX6_fault 2 rfl
def tX6_lay : List (Nat × Instr × Nat) := [(0, .aload_n 0, 1), (1, .invokevirtual 128, 3), (4, .bipush (-4), 2), (6, .if_icmp .ne 24, 3), (9, .aload_n 0, 1), (10, .getfield 64, 3), (13, .ifCond .eq 17, 3), (16, .aload_n 0, 1), (17, .getfield 67, 3), (20, .ifCond .eq 10, 3), (23, .aload_n 0, 1), (24, .invokevirtual 132, 3), (27, .ifCond .ne 6, 3), (30, .bipush (-2), 2), (32, .ireturn, 1), (33, .aload_n 0, 1), (34, .invokevirtual 61, 3), (37, .aload_n 0, 1), (38, .getfield 70, 3), (41, .ireturn, 1)]
theorem aX6_lay : tX6_lay.all (fun q => decide (decode cX6_lay q.1 = .ok q.2)) = true := by decide +kernel
theorem dX6_lay_0 : decode cX6_lay 0 = .ok (.aload_n 0, 1) := dec_row aX6_lay 0 rfl
theorem dX6_lay_1 : decode cX6_lay 1 = .ok (.invokevirtual 128, 3) := dec_row aX6_lay 1 rfl
theorem dX6_lay_4 : decode cX6_lay 4 = .ok (.bipush (-4), 2) := dec_row aX6_lay 2 rfl
theorem dX6_lay_6 : decode cX6_lay 6 = .ok (.if_icmp .ne 24, 3) := dec_row aX6_lay 3 rfl
theorem dX6_lay_9 : decode cX6_lay 9 = .ok (.aload_n 0, 1) := dec_row aX6_lay 4 rfl
theorem dX6_lay_10 : decode cX6_lay 10 = .ok (.getfield 64, 3) := dec_row aX6_lay 5 rfl
theorem dX6_lay_13 : decode cX6_lay 13 = .ok (.ifCond .eq 17, 3) := dec_row aX6_lay 6 rfl
theorem dX6_lay_16 : decode cX6_lay 16 = .ok (.aload_n 0, 1) := dec_row aX6_lay 7 rfl
theorem dX6_lay_17 : decode cX6_lay 17 = .ok (.getfield 67, 3) := dec_row aX6_lay 8 rfl
theorem dX6_lay_20 : decode cX6_lay 20 = .ok (.ifCond .eq 10, 3) := dec_row aX6_lay 9 rfl
theorem dX6_lay_23 : decode cX6_lay 23 = .ok (.aload_n 0, 1) := dec_row aX6_lay 10 rfl
theorem dX6_lay_24 : decode cX6_lay 24 = .ok (.invokevirtual 132, 3) := dec_row aX6_lay 11 rfl
theorem dX6_lay_27 : decode cX6_lay 27 = .ok (.ifCond .ne 6, 3) := dec_row aX6_lay 12 rfl
theorem dX6_lay_30 : decode cX6_lay 30 = .ok (.bipush (-2), 2) := dec_row aX6_lay 13 rfl
theorem dX6_lay_32 : decode cX6_lay 32 = .ok (.ireturn, 1) := dec_row aX6_lay 14 rfl
theorem dX6_lay_33 : decode cX6_lay 33 = .ok (.aload_n 0, 1) := dec_row aX6_lay 15 rfl
theorem dX6_lay_34 : decode cX6_lay 34 = .ok (.invokevirtual 61, 3) := dec_row aX6_lay 16 rfl
theorem dX6_lay_37 : decode cX6_lay 37 = .ok (.aload_n 0, 1) := dec_row aX6_lay 17 rfl
theorem dX6_lay_38 : decode cX6_lay 38 = .ok (.getfield 70, 3) := dec_row aX6_lay 18 rfl
theorem dX6_lay_41 : decode cX6_lay 41 = .ok (.ireturn, 1) := dec_row aX6_lay 19 rfl
def tX6_easiest_0 : List (Nat × Instr × Nat) := [(0, .bipush (-4), 2), (2, .istore_n 1, 1), (3, .iconst 0, 1), (4, .istore_n 2, 1), (5, .iload_n 2, 1), (6, .aload_n 0, 1), (7, .getfield 70, 3), (10, .if_icmp .ge 98, 3), (13, .aload_n 0, 1), (14, .getfield 31, 3), (17, .bipush 66, 2), (19, .iload_n 2, 1), (20, .iadd, 1), (21, .iaload, 1), (22, .aload_n 0, 1), (23, .getfield 13, 3), (26, .iload_n 2, 1), (27, .iaload, 1), (28, .if_icmp .ge 7, 3), (31, .iconst 1, 1), (32, .goto 4, 3), (35, .iconst 0, 1), (36, .istore_n 3, 1), (37, .aload_n 0, 1), (38, .getfield 25, 3), (41, .sipush 1139, 3), (44, .iload_n 2, 1), (45, .iadd, 1), (46, .iaload, 1), (47, .aload_n 0, 1), (48, .getfield 31, 3), (51, .bipush 66, 2), (53, .iload_n 2, 1), (54, .iadd, 1), (55, .iaload, 1), (56, .iconst 1, 1), (57, .iadd, 1), (58, .imul, 1), (59, .istore 4, 2), (61, .iload_n 3, 1), (62, .ifCond .eq 38, 3), (65, .iload_n 1, 1), (66, .ifCond .lt 30, 3), (69, .iload 4, 2), (71, .aload_n 0, 1), (72, .getfield 25, 3), (75, .sipush 1139, 3), (78, .iload_n 1, 1), (79, .iadd, 1), (80, .iaload, 1)]
theorem aX6_easiest_0 : tX6_easiest_0.all (fun q => decide (decode cX6_easiest q.1 = .ok q.2)) = true := by decide +kernel
theorem dX6_easiest_0 : decode cX6_easiest 0 = .ok (.bipush (-4), 2) := dec_row aX6_easiest_0 0 rfl
theorem dX6_easiest_2 : decode cX6_easiest 2 = .ok (.istore_n 1, 1) := dec_row aX6_easiest_0 1 rfl
theorem dX6_easiest_3 : decode cX6_easiest 3 = .ok (.iconst 0, 1) := dec_row aX6_easiest_0 2 rfl
theorem dX6_easiest_4 : decode cX6_easiest 4 = .ok (.istore_n 2, 1) := dec_row aX6_easiest_0 3 rfl
theorem dX6_easiest_5 : decode cX6_easiest 5 = .ok (.iload_n 2, 1) := dec_row aX6_easiest_0 4 rfl
theorem dX6_easiest_6 : decode cX6_easiest 6 = .ok (.aload_n 0, 1) := dec_row aX6_easiest_0 5 rfl
theorem dX6_easiest_7 : decode cX6_easiest 7 = .ok (.getfield 70, 3) := dec_row aX6_easiest_0 6 rfl
theorem dX6_easiest_10 : decode cX6_easiest 10 = .ok (.if_icmp .ge 98, 3) := dec_row aX6_easiest_0 7 rfl
theorem dX6_easiest_13 : decode cX6_easiest 13 = .ok (.aload_n 0, 1) := dec_row aX6_easiest_0 8 rfl
theorem dX6_easiest_14 : decode cX6_easiest 14 = .ok (.getfield 31, 3) := dec_row aX6_easiest_0 9 rfl
theorem dX6_easiest_17 : decode cX6_easiest 17 = .ok (.bipush 66, 2) := dec_row aX6_easiest_0 10 rfl
theorem dX6_easiest_19 : decode cX6_easiest 19 = .ok (.iload_n 2, 1) := dec_row aX6_easiest_0 11 rfl
theorem dX6_easiest_20 : decode cX6_easiest 20 = .ok (.iadd, 1) := dec_row aX6_easiest_0 12 rfl
theorem dX6_easiest_21 : decode cX6_easiest 21 = .ok (.iaload, 1) := dec_row aX6_easiest_0 13 rfl
theorem dX6_easiest_22 : decode cX6_easiest 22 = .ok (.aload_n 0, 1) := dec_row aX6_easiest_0 14 rfl
theorem dX6_easiest_23 : decode cX6_easiest 23 = .ok (.getfield 13, 3) := dec_row aX6_easiest_0 15 rfl
theorem dX6_easiest_26 : decode cX6_easiest 26 = .ok (.iload_n 2, 1) := dec_row aX6_easiest_0 16 rfl
theorem dX6_easiest_27 : decode cX6_easiest 27 = .ok (.iaload, 1) := dec_row aX6_easiest_0 17 rfl
theorem dX6_easiest_28 : decode cX6_easiest 28 = .ok (.if_icmp .ge 7, 3) := dec_row aX6_easiest_0 18 rfl
theorem dX6_easiest_31 : decode cX6_easiest 31 = .ok (.iconst 1, 1) := dec_row aX6_easiest_0 19 rfl
theorem dX6_easiest_32 : decode cX6_easiest 32 = .ok (.goto 4, 3) := dec_row aX6_easiest_0 20 rfl
theorem dX6_easiest_35 : decode cX6_easiest 35 = .ok (.iconst 0, 1) := dec_row aX6_easiest_0 21 rfl
theorem dX6_easiest_36 : decode cX6_easiest 36 = .ok (.istore_n 3, 1) := dec_row aX6_easiest_0 22 rfl
theorem dX6_easiest_37 : decode cX6_easiest 37 = .ok (.aload_n 0, 1) := dec_row aX6_easiest_0 23 rfl
theorem dX6_easiest_38 : decode cX6_easiest 38 = .ok (.getfield 25, 3) := dec_row aX6_easiest_0 24 rfl
theorem dX6_easiest_41 : decode cX6_easiest 41 = .ok (.sipush 1139, 3) := dec_row aX6_easiest_0 25 rfl
theorem dX6_easiest_44 : decode cX6_easiest 44 = .ok (.iload_n 2, 1) := dec_row aX6_easiest_0 26 rfl
theorem dX6_easiest_45 : decode cX6_easiest 45 = .ok (.iadd, 1) := dec_row aX6_easiest_0 27 rfl
theorem dX6_easiest_46 : decode cX6_easiest 46 = .ok (.iaload, 1) := dec_row aX6_easiest_0 28 rfl
theorem dX6_easiest_47 : decode cX6_easiest 47 = .ok (.aload_n 0, 1) := dec_row aX6_easiest_0 29 rfl
theorem dX6_easiest_48 : decode cX6_easiest 48 = .ok (.getfield 31, 3) := dec_row aX6_easiest_0 30 rfl
theorem dX6_easiest_51 : decode cX6_easiest 51 = .ok (.bipush 66, 2) := dec_row aX6_easiest_0 31 rfl
theorem dX6_easiest_53 : decode cX6_easiest 53 = .ok (.iload_n 2, 1) := dec_row aX6_easiest_0 32 rfl
theorem dX6_easiest_54 : decode cX6_easiest 54 = .ok (.iadd, 1) := dec_row aX6_easiest_0 33 rfl
theorem dX6_easiest_55 : decode cX6_easiest 55 = .ok (.iaload, 1) := dec_row aX6_easiest_0 34 rfl
theorem dX6_easiest_56 : decode cX6_easiest 56 = .ok (.iconst 1, 1) := dec_row aX6_easiest_0 35 rfl
theorem dX6_easiest_57 : decode cX6_easiest 57 = .ok (.iadd, 1) := dec_row aX6_easiest_0 36 rfl
theorem dX6_easiest_58 : decode cX6_easiest 58 = .ok (.imul, 1) := dec_row aX6_easiest_0 37 rfl
theorem dX6_easiest_59 : decode cX6_easiest 59 = .ok (.istore 4, 2) := dec_row aX6_easiest_0 38 rfl
theorem dX6_easiest_61 : decode cX6_easiest 61 = .ok (.iload_n 3, 1) := dec_row aX6_easiest_0 39 rfl
theorem dX6_easiest_62 : decode cX6_easiest 62 = .ok (.ifCond .eq 38, 3) := dec_row aX6_easiest_0 40 rfl
theorem dX6_easiest_65 : decode cX6_easiest 65 = .ok (.iload_n 1, 1) := dec_row aX6_easiest_0 41 rfl
theorem dX6_easiest_66 : decode cX6_easiest 66 = .ok (.ifCond .lt 30, 3) := dec_row aX6_easiest_0 42 rfl
theorem dX6_easiest_69 : decode cX6_easiest 69 = .ok (.iload 4, 2) := dec_row aX6_easiest_0 43 rfl
theorem dX6_easiest_71 : decode cX6_easiest 71 = .ok (.aload_n 0, 1) := dec_row aX6_easiest_0 44 rfl
theorem dX6_easiest_72 : decode cX6_easiest 72 = .ok (.getfield 25, 3) := dec_row aX6_easiest_0 45 rfl
theorem dX6_easiest_75 : decode cX6_easiest 75 = .ok (.sipush 1139, 3) := dec_row aX6_easiest_0 46 rfl
theorem dX6_easiest_78 : decode cX6_easiest 78 = .ok (.iload_n 1, 1) := dec_row aX6_easiest_0 47 rfl
theorem dX6_easiest_79 : decode cX6_easiest 79 = .ok (.iadd, 1) := dec_row aX6_easiest_0 48 rfl
theorem dX6_easiest_80 : decode cX6_easiest 80 = .ok (.iaload, 1) := dec_row aX6_easiest_0 49 rfl
def tX6_easiest_1 : List (Nat × Instr × Nat) := [(81, .aload_n 0, 1), (82, .getfield 31, 3), (85, .bipush 66, 2), (87, .iload_n 1, 1), (88, .iadd, 1), (89, .iaload, 1), (90, .iconst 1, 1), (91, .iadd, 1), (92, .imul, 1), (93, .if_icmp .ge 7, 3), (96, .iload_n 2, 1), (97, .goto 4, 3), (100, .iload_n 1, 1), (101, .istore_n 1, 1), (102, .iinc 2 1, 3), (105, .goto (-100), 3), (108, .iload_n 1, 1), (109, .ifCond .lt 5, 3), (112, .iload_n 1, 1), (113, .ireturn, 1), (114, .iconst 0, 1), (115, .istore_n 1, 1), (116, .iconst 1, 1), (117, .istore_n 2, 1), (118, .iload_n 2, 1), (119, .aload_n 0, 1), (120, .getfield 70, 3), (123, .if_icmp .ge 58, 3), (126, .aload_n 0, 1), (127, .getfield 25, 3), (130, .sipush 1139, 3), (133, .iload_n 2, 1), (134, .iadd, 1), (135, .iaload, 1), (136, .aload_n 0, 1), (137, .getfield 31, 3), (140, .bipush 66, 2), (142, .iload_n 2, 1), (143, .iadd, 1), (144, .iaload, 1), (145, .imul, 1), (146, .aload_n 0, 1), (147, .getfield 25, 3), (150, .sipush 1139, 3), (153, .iload_n 1, 1), (154, .iadd, 1), (155, .iaload, 1), (156, .aload_n 0, 1), (157, .getfield 31, 3), (160, .bipush 66, 2)]
theorem aX6_easiest_1 : tX6_easiest_1.all (fun q => decide (decode cX6_easiest q.1 = .ok q.2)) = true := by decide +kernel
theorem dX6_easiest_81 : decode cX6_easiest 81 = .ok (.aload_n 0, 1) := dec_row aX6_easiest_1 0 rfl
theorem dX6_easiest_82 : decode cX6_easiest 82 = .ok (.getfield 31, 3) := dec_row aX6_easiest_1 1 rfl
theorem dX6_easiest_85 : decode cX6_easiest 85 = .ok (.bipush 66, 2) := dec_row aX6_easiest_1 2 rfl
theorem dX6_easiest_87 : decode cX6_easiest 87 = .ok (.iload_n 1, 1) := dec_row aX6_easiest_1 3 rfl
theorem dX6_easiest_88 : decode cX6_easiest 88 = .ok (.iadd, 1) := dec_row aX6_easiest_1 4 rfl
theorem dX6_easiest_89 : decode cX6_easiest 89 = .ok (.iaload, 1) := dec_row aX6_easiest_1 5 rfl
theorem dX6_easiest_90 : decode cX6_easiest 90 = .ok (.iconst 1, 1) := dec_row aX6_easiest_1 6 rfl
theorem dX6_easiest_91 : decode cX6_easiest 91 = .ok (.iadd, 1) := dec_row aX6_easiest_1 7 rfl
theorem dX6_easiest_92 : decode cX6_easiest 92 = .ok (.imul, 1) := dec_row aX6_easiest_1 8 rfl
theorem dX6_easiest_93 : decode cX6_easiest 93 = .ok (.if_icmp .ge 7, 3) := dec_row aX6_easiest_1 9 rfl
theorem dX6_easiest_96 : decode cX6_easiest 96 = .ok (.iload_n 2, 1) := dec_row aX6_easiest_1 10 rfl
theorem dX6_easiest_97 : decode cX6_easiest 97 = .ok (.goto 4, 3) := dec_row aX6_easiest_1 11 rfl
theorem dX6_easiest_100 : decode cX6_easiest 100 = .ok (.iload_n 1, 1) := dec_row aX6_easiest_1 12 rfl
theorem dX6_easiest_101 : decode cX6_easiest 101 = .ok (.istore_n 1, 1) := dec_row aX6_easiest_1 13 rfl
theorem dX6_easiest_102 : decode cX6_easiest 102 = .ok (.iinc 2 1, 3) := dec_row aX6_easiest_1 14 rfl
theorem dX6_easiest_105 : decode cX6_easiest 105 = .ok (.goto (-100), 3) := dec_row aX6_easiest_1 15 rfl
theorem dX6_easiest_108 : decode cX6_easiest 108 = .ok (.iload_n 1, 1) := dec_row aX6_easiest_1 16 rfl
theorem dX6_easiest_109 : decode cX6_easiest 109 = .ok (.ifCond .lt 5, 3) := dec_row aX6_easiest_1 17 rfl
theorem dX6_easiest_112 : decode cX6_easiest 112 = .ok (.iload_n 1, 1) := dec_row aX6_easiest_1 18 rfl
theorem dX6_easiest_113 : decode cX6_easiest 113 = .ok (.ireturn, 1) := dec_row aX6_easiest_1 19 rfl
theorem dX6_easiest_114 : decode cX6_easiest 114 = .ok (.iconst 0, 1) := dec_row aX6_easiest_1 20 rfl
theorem dX6_easiest_115 : decode cX6_easiest 115 = .ok (.istore_n 1, 1) := dec_row aX6_easiest_1 21 rfl
theorem dX6_easiest_116 : decode cX6_easiest 116 = .ok (.iconst 1, 1) := dec_row aX6_easiest_1 22 rfl
theorem dX6_easiest_117 : decode cX6_easiest 117 = .ok (.istore_n 2, 1) := dec_row aX6_easiest_1 23 rfl
theorem dX6_easiest_118 : decode cX6_easiest 118 = .ok (.iload_n 2, 1) := dec_row aX6_easiest_1 24 rfl
theorem dX6_easiest_119 : decode cX6_easiest 119 = .ok (.aload_n 0, 1) := dec_row aX6_easiest_1 25 rfl
theorem dX6_easiest_120 : decode cX6_easiest 120 = .ok (.getfield 70, 3) := dec_row aX6_easiest_1 26 rfl
theorem dX6_easiest_123 : decode cX6_easiest 123 = .ok (.if_icmp .ge 58, 3) := dec_row aX6_easiest_1 27 rfl
theorem dX6_easiest_126 : decode cX6_easiest 126 = .ok (.aload_n 0, 1) := dec_row aX6_easiest_1 28 rfl
theorem dX6_easiest_127 : decode cX6_easiest 127 = .ok (.getfield 25, 3) := dec_row aX6_easiest_1 29 rfl
theorem dX6_easiest_130 : decode cX6_easiest 130 = .ok (.sipush 1139, 3) := dec_row aX6_easiest_1 30 rfl
theorem dX6_easiest_133 : decode cX6_easiest 133 = .ok (.iload_n 2, 1) := dec_row aX6_easiest_1 31 rfl
theorem dX6_easiest_134 : decode cX6_easiest 134 = .ok (.iadd, 1) := dec_row aX6_easiest_1 32 rfl
theorem dX6_easiest_135 : decode cX6_easiest 135 = .ok (.iaload, 1) := dec_row aX6_easiest_1 33 rfl
theorem dX6_easiest_136 : decode cX6_easiest 136 = .ok (.aload_n 0, 1) := dec_row aX6_easiest_1 34 rfl
theorem dX6_easiest_137 : decode cX6_easiest 137 = .ok (.getfield 31, 3) := dec_row aX6_easiest_1 35 rfl
theorem dX6_easiest_140 : decode cX6_easiest 140 = .ok (.bipush 66, 2) := dec_row aX6_easiest_1 36 rfl
theorem dX6_easiest_142 : decode cX6_easiest 142 = .ok (.iload_n 2, 1) := dec_row aX6_easiest_1 37 rfl
theorem dX6_easiest_143 : decode cX6_easiest 143 = .ok (.iadd, 1) := dec_row aX6_easiest_1 38 rfl
theorem dX6_easiest_144 : decode cX6_easiest 144 = .ok (.iaload, 1) := dec_row aX6_easiest_1 39 rfl
theorem dX6_easiest_145 : decode cX6_easiest 145 = .ok (.imul, 1) := dec_row aX6_easiest_1 40 rfl
theorem dX6_easiest_146 : decode cX6_easiest 146 = .ok (.aload_n 0, 1) := dec_row aX6_easiest_1 41 rfl
theorem dX6_easiest_147 : decode cX6_easiest 147 = .ok (.getfield 25, 3) := dec_row aX6_easiest_1 42 rfl
theorem dX6_easiest_150 : decode cX6_easiest 150 = .ok (.sipush 1139, 3) := dec_row aX6_easiest_1 43 rfl
theorem dX6_easiest_153 : decode cX6_easiest 153 = .ok (.iload_n 1, 1) := dec_row aX6_easiest_1 44 rfl
theorem dX6_easiest_154 : decode cX6_easiest 154 = .ok (.iadd, 1) := dec_row aX6_easiest_1 45 rfl
theorem dX6_easiest_155 : decode cX6_easiest 155 = .ok (.iaload, 1) := dec_row aX6_easiest_1 46 rfl
theorem dX6_easiest_156 : decode cX6_easiest 156 = .ok (.aload_n 0, 1) := dec_row aX6_easiest_1 47 rfl
theorem dX6_easiest_157 : decode cX6_easiest 157 = .ok (.getfield 31, 3) := dec_row aX6_easiest_1 48 rfl
theorem dX6_easiest_160 : decode cX6_easiest 160 = .ok (.bipush 66, 2) := dec_row aX6_easiest_1 49 rfl
def tX6_easiest_2 : List (Nat × Instr × Nat) := [(162, .iload_n 1, 1), (163, .iadd, 1), (164, .iaload, 1), (165, .imul, 1), (166, .if_icmp .ge 7, 3), (169, .iload_n 2, 1), (170, .goto 4, 3), (173, .iload_n 1, 1), (174, .istore_n 1, 1), (175, .iinc 2 1, 3), (178, .goto (-60), 3), (181, .iload_n 1, 1), (182, .ireturn, 1)]
theorem aX6_easiest_2 : tX6_easiest_2.all (fun q => decide (decode cX6_easiest q.1 = .ok q.2)) = true := by decide +kernel
theorem dX6_easiest_162 : decode cX6_easiest 162 = .ok (.iload_n 1, 1) := dec_row aX6_easiest_2 0 rfl
theorem dX6_easiest_163 : decode cX6_easiest 163 = .ok (.iadd, 1) := dec_row aX6_easiest_2 1 rfl
theorem dX6_easiest_164 : decode cX6_easiest 164 = .ok (.iaload, 1) := dec_row aX6_easiest_2 2 rfl
theorem dX6_easiest_165 : decode cX6_easiest 165 = .ok (.imul, 1) := dec_row aX6_easiest_2 3 rfl
theorem dX6_easiest_166 : decode cX6_easiest 166 = .ok (.if_icmp .ge 7, 3) := dec_row aX6_easiest_2 4 rfl
theorem dX6_easiest_169 : decode cX6_easiest 169 = .ok (.iload_n 2, 1) := dec_row aX6_easiest_2 5 rfl
theorem dX6_easiest_170 : decode cX6_easiest 170 = .ok (.goto 4, 3) := dec_row aX6_easiest_2 6 rfl
theorem dX6_easiest_173 : decode cX6_easiest 173 = .ok (.iload_n 1, 1) := dec_row aX6_easiest_2 7 rfl
theorem dX6_easiest_174 : decode cX6_easiest 174 = .ok (.istore_n 1, 1) := dec_row aX6_easiest_2 8 rfl
theorem dX6_easiest_175 : decode cX6_easiest 175 = .ok (.iinc 2 1, 3) := dec_row aX6_easiest_2 9 rfl
theorem dX6_easiest_178 : decode cX6_easiest 178 = .ok (.goto (-60), 3) := dec_row aX6_easiest_2 10 rfl
theorem dX6_easiest_181 : decode cX6_easiest 181 = .ok (.iload_n 1, 1) := dec_row aX6_easiest_2 11 rfl
theorem dX6_easiest_182 : decode cX6_easiest 182 = .ok (.ireturn, 1) := dec_row aX6_easiest_2 12 rfl
def tX6_comes_0 : List (Nat × Instr × Nat) := [(0, .aload_n 0, 1), (1, .getfield 31, 3), (4, .bipush 66, 2), (6, .iload_n 1, 1), (7, .iadd, 1), (8, .dup2, 1), (9, .iaload, 1), (10, .iconst 1, 1), (11, .iadd, 1), (12, .iastore, 1), (13, .aload_n 0, 1), (14, .getfield 31, 3), (17, .bipush 78, 2), (19, .iload_n 1, 1), (20, .iadd, 1), (21, .aload_n 0, 1), (22, .getfield 31, 3), (25, .bipush 78, 2), (27, .iload_n 1, 1), (28, .iadd, 1), (29, .iaload, 1), (30, .bipush (-4), 2), (32, .if_icmp .ne 7, 3), (35, .iload_n 2, 1), (36, .goto 12, 3), (39, .aload_n 0, 1), (40, .getfield 31, 3), (43, .bipush 78, 2), (45, .iload_n 1, 1), (46, .iadd, 1), (47, .iaload, 1), (48, .iastore, 1), (49, .aload_n 0, 1), (50, .getfield 31, 3), (53, .bipush 72, 2), (55, .iload_n 1, 1), (56, .iadd, 1), (57, .aload_n 0, 1), (58, .getfield 31, 3), (61, .bipush 66, 2), (63, .iload_n 1, 1), (64, .iadd, 1), (65, .iaload, 1), (66, .aload_n 0, 1), (67, .getfield 13, 3), (70, .iload_n 1, 1), (71, .iaload, 1), (72, .if_icmp .ne 7, 3), (75, .iload_n 2, 1), (76, .goto 12, 3)]
theorem aX6_comes_0 : tX6_comes_0.all (fun q => decide (decode cX6_comes q.1 = .ok q.2)) = true := by decide +kernel
theorem dX6_comes_0 : decode cX6_comes 0 = .ok (.aload_n 0, 1) := dec_row aX6_comes_0 0 rfl
theorem dX6_comes_1 : decode cX6_comes 1 = .ok (.getfield 31, 3) := dec_row aX6_comes_0 1 rfl
theorem dX6_comes_4 : decode cX6_comes 4 = .ok (.bipush 66, 2) := dec_row aX6_comes_0 2 rfl
theorem dX6_comes_6 : decode cX6_comes 6 = .ok (.iload_n 1, 1) := dec_row aX6_comes_0 3 rfl
theorem dX6_comes_7 : decode cX6_comes 7 = .ok (.iadd, 1) := dec_row aX6_comes_0 4 rfl
theorem dX6_comes_8 : decode cX6_comes 8 = .ok (.dup2, 1) := dec_row aX6_comes_0 5 rfl
theorem dX6_comes_9 : decode cX6_comes 9 = .ok (.iaload, 1) := dec_row aX6_comes_0 6 rfl
theorem dX6_comes_10 : decode cX6_comes 10 = .ok (.iconst 1, 1) := dec_row aX6_comes_0 7 rfl
theorem dX6_comes_11 : decode cX6_comes 11 = .ok (.iadd, 1) := dec_row aX6_comes_0 8 rfl
theorem dX6_comes_12 : decode cX6_comes 12 = .ok (.iastore, 1) := dec_row aX6_comes_0 9 rfl
theorem dX6_comes_13 : decode cX6_comes 13 = .ok (.aload_n 0, 1) := dec_row aX6_comes_0 10 rfl
theorem dX6_comes_14 : decode cX6_comes 14 = .ok (.getfield 31, 3) := dec_row aX6_comes_0 11 rfl
theorem dX6_comes_17 : decode cX6_comes 17 = .ok (.bipush 78, 2) := dec_row aX6_comes_0 12 rfl
theorem dX6_comes_19 : decode cX6_comes 19 = .ok (.iload_n 1, 1) := dec_row aX6_comes_0 13 rfl
theorem dX6_comes_20 : decode cX6_comes 20 = .ok (.iadd, 1) := dec_row aX6_comes_0 14 rfl
theorem dX6_comes_21 : decode cX6_comes 21 = .ok (.aload_n 0, 1) := dec_row aX6_comes_0 15 rfl
theorem dX6_comes_22 : decode cX6_comes 22 = .ok (.getfield 31, 3) := dec_row aX6_comes_0 16 rfl
theorem dX6_comes_25 : decode cX6_comes 25 = .ok (.bipush 78, 2) := dec_row aX6_comes_0 17 rfl
theorem dX6_comes_27 : decode cX6_comes 27 = .ok (.iload_n 1, 1) := dec_row aX6_comes_0 18 rfl
theorem dX6_comes_28 : decode cX6_comes 28 = .ok (.iadd, 1) := dec_row aX6_comes_0 19 rfl
theorem dX6_comes_29 : decode cX6_comes 29 = .ok (.iaload, 1) := dec_row aX6_comes_0 20 rfl
theorem dX6_comes_30 : decode cX6_comes 30 = .ok (.bipush (-4), 2) := dec_row aX6_comes_0 21 rfl
theorem dX6_comes_32 : decode cX6_comes 32 = .ok (.if_icmp .ne 7, 3) := dec_row aX6_comes_0 22 rfl
theorem dX6_comes_35 : decode cX6_comes 35 = .ok (.iload_n 2, 1) := dec_row aX6_comes_0 23 rfl
theorem dX6_comes_36 : decode cX6_comes 36 = .ok (.goto 12, 3) := dec_row aX6_comes_0 24 rfl
theorem dX6_comes_39 : decode cX6_comes 39 = .ok (.aload_n 0, 1) := dec_row aX6_comes_0 25 rfl
theorem dX6_comes_40 : decode cX6_comes 40 = .ok (.getfield 31, 3) := dec_row aX6_comes_0 26 rfl
theorem dX6_comes_43 : decode cX6_comes 43 = .ok (.bipush 78, 2) := dec_row aX6_comes_0 27 rfl
theorem dX6_comes_45 : decode cX6_comes 45 = .ok (.iload_n 1, 1) := dec_row aX6_comes_0 28 rfl
theorem dX6_comes_46 : decode cX6_comes 46 = .ok (.iadd, 1) := dec_row aX6_comes_0 29 rfl
theorem dX6_comes_47 : decode cX6_comes 47 = .ok (.iaload, 1) := dec_row aX6_comes_0 30 rfl
theorem dX6_comes_48 : decode cX6_comes 48 = .ok (.iastore, 1) := dec_row aX6_comes_0 31 rfl
theorem dX6_comes_49 : decode cX6_comes 49 = .ok (.aload_n 0, 1) := dec_row aX6_comes_0 32 rfl
theorem dX6_comes_50 : decode cX6_comes 50 = .ok (.getfield 31, 3) := dec_row aX6_comes_0 33 rfl
theorem dX6_comes_53 : decode cX6_comes 53 = .ok (.bipush 72, 2) := dec_row aX6_comes_0 34 rfl
theorem dX6_comes_55 : decode cX6_comes 55 = .ok (.iload_n 1, 1) := dec_row aX6_comes_0 35 rfl
theorem dX6_comes_56 : decode cX6_comes 56 = .ok (.iadd, 1) := dec_row aX6_comes_0 36 rfl
theorem dX6_comes_57 : decode cX6_comes 57 = .ok (.aload_n 0, 1) := dec_row aX6_comes_0 37 rfl
theorem dX6_comes_58 : decode cX6_comes 58 = .ok (.getfield 31, 3) := dec_row aX6_comes_0 38 rfl
theorem dX6_comes_61 : decode cX6_comes 61 = .ok (.bipush 66, 2) := dec_row aX6_comes_0 39 rfl
theorem dX6_comes_63 : decode cX6_comes 63 = .ok (.iload_n 1, 1) := dec_row aX6_comes_0 40 rfl
theorem dX6_comes_64 : decode cX6_comes 64 = .ok (.iadd, 1) := dec_row aX6_comes_0 41 rfl
theorem dX6_comes_65 : decode cX6_comes 65 = .ok (.iaload, 1) := dec_row aX6_comes_0 42 rfl
theorem dX6_comes_66 : decode cX6_comes 66 = .ok (.aload_n 0, 1) := dec_row aX6_comes_0 43 rfl
theorem dX6_comes_67 : decode cX6_comes 67 = .ok (.getfield 13, 3) := dec_row aX6_comes_0 44 rfl
theorem dX6_comes_70 : decode cX6_comes 70 = .ok (.iload_n 1, 1) := dec_row aX6_comes_0 45 rfl
theorem dX6_comes_71 : decode cX6_comes 71 = .ok (.iaload, 1) := dec_row aX6_comes_0 46 rfl
theorem dX6_comes_72 : decode cX6_comes 72 = .ok (.if_icmp .ne 7, 3) := dec_row aX6_comes_0 47 rfl
theorem dX6_comes_75 : decode cX6_comes 75 = .ok (.iload_n 2, 1) := dec_row aX6_comes_0 48 rfl
theorem dX6_comes_76 : decode cX6_comes 76 = .ok (.goto 12, 3) := dec_row aX6_comes_0 49 rfl
def tX6_comes_1 : List (Nat × Instr × Nat) := [(79, .aload_n 0, 1), (80, .getfield 31, 3), (83, .bipush 72, 2), (85, .iload_n 1, 1), (86, .iadd, 1), (87, .iaload, 1), (88, .iastore, 1), (89, .return_, 1)]
theorem aX6_comes_1 : tX6_comes_1.all (fun q => decide (decode cX6_comes q.1 = .ok q.2)) = true := by decide +kernel
theorem dX6_comes_79 : decode cX6_comes 79 = .ok (.aload_n 0, 1) := dec_row aX6_comes_1 0 rfl
theorem dX6_comes_80 : decode cX6_comes 80 = .ok (.getfield 31, 3) := dec_row aX6_comes_1 1 rfl
theorem dX6_comes_83 : decode cX6_comes 83 = .ok (.bipush 72, 2) := dec_row aX6_comes_1 2 rfl
theorem dX6_comes_85 : decode cX6_comes 85 = .ok (.iload_n 1, 1) := dec_row aX6_comes_1 3 rfl
theorem dX6_comes_86 : decode cX6_comes 86 = .ok (.iadd, 1) := dec_row aX6_comes_1 4 rfl
theorem dX6_comes_87 : decode cX6_comes 87 = .ok (.iaload, 1) := dec_row aX6_comes_1 5 rfl
theorem dX6_comes_88 : decode cX6_comes 88 = .ok (.iastore, 1) := dec_row aX6_comes_1 6 rfl
theorem dX6_comes_89 : decode cX6_comes 89 = .ok (.return_, 1) := dec_row aX6_comes_1 7 rfl
def tX6_speedAt : List (Nat × Instr × Nat) := [(0, .iconst 0, 1), (1, .istore_n 2, 1), (2, .iload_n 2, 1), (3, .iconst 1, 1), (4, .iadd, 1), (5, .aload_n 0, 1), (6, .getfield 76, 3), (9, .if_icmp .ge 24, 3), (12, .aload_n 0, 1), (13, .getfield 22, 3), (16, .iload_n 2, 1), (17, .iconst 1, 1), (18, .iadd, 1), (19, .iaload, 1), (20, .aload_n 0, 1), (21, .getfield 136, 3), (24, .if_icmp .gt 9, 3), (27, .iinc 2 1, 3), (30, .goto (-28), 3), (33, .aload_n 0, 1), (34, .getfield 25, 3), (37, .sipush 1145, 3), (40, .iload_n 2, 1), (41, .iadd, 1), (42, .iaload, 1), (43, .iload_n 1, 1), (44, .iadd, 1), (45, .istore_n 3, 1), (46, .iload_n 3, 1), (47, .iconst 1, 1), (48, .if_icmp .ge 7, 3), (51, .iconst 1, 1), (52, .goto 15, 3), (55, .iload_n 3, 1), (56, .bipush 9, 2), (58, .if_icmp .le 8, 3), (61, .bipush 9, 2), (63, .goto 4, 3), (66, .iload_n 3, 1), (67, .ireturn, 1)]
theorem aX6_speedAt : tX6_speedAt.all (fun q => decide (decode cX6_speedAt q.1 = .ok q.2)) = true := by decide +kernel
theorem dX6_speedAt_0 : decode cX6_speedAt 0 = .ok (.iconst 0, 1) := dec_row aX6_speedAt 0 rfl
theorem dX6_speedAt_1 : decode cX6_speedAt 1 = .ok (.istore_n 2, 1) := dec_row aX6_speedAt 1 rfl
theorem dX6_speedAt_2 : decode cX6_speedAt 2 = .ok (.iload_n 2, 1) := dec_row aX6_speedAt 2 rfl
theorem dX6_speedAt_3 : decode cX6_speedAt 3 = .ok (.iconst 1, 1) := dec_row aX6_speedAt 3 rfl
theorem dX6_speedAt_4 : decode cX6_speedAt 4 = .ok (.iadd, 1) := dec_row aX6_speedAt 4 rfl
theorem dX6_speedAt_5 : decode cX6_speedAt 5 = .ok (.aload_n 0, 1) := dec_row aX6_speedAt 5 rfl
theorem dX6_speedAt_6 : decode cX6_speedAt 6 = .ok (.getfield 76, 3) := dec_row aX6_speedAt 6 rfl
theorem dX6_speedAt_9 : decode cX6_speedAt 9 = .ok (.if_icmp .ge 24, 3) := dec_row aX6_speedAt 7 rfl
theorem dX6_speedAt_12 : decode cX6_speedAt 12 = .ok (.aload_n 0, 1) := dec_row aX6_speedAt 8 rfl
theorem dX6_speedAt_13 : decode cX6_speedAt 13 = .ok (.getfield 22, 3) := dec_row aX6_speedAt 9 rfl
theorem dX6_speedAt_16 : decode cX6_speedAt 16 = .ok (.iload_n 2, 1) := dec_row aX6_speedAt 10 rfl
theorem dX6_speedAt_17 : decode cX6_speedAt 17 = .ok (.iconst 1, 1) := dec_row aX6_speedAt 11 rfl
theorem dX6_speedAt_18 : decode cX6_speedAt 18 = .ok (.iadd, 1) := dec_row aX6_speedAt 12 rfl
theorem dX6_speedAt_19 : decode cX6_speedAt 19 = .ok (.iaload, 1) := dec_row aX6_speedAt 13 rfl
theorem dX6_speedAt_20 : decode cX6_speedAt 20 = .ok (.aload_n 0, 1) := dec_row aX6_speedAt 14 rfl
theorem dX6_speedAt_21 : decode cX6_speedAt 21 = .ok (.getfield 136, 3) := dec_row aX6_speedAt 15 rfl
theorem dX6_speedAt_24 : decode cX6_speedAt 24 = .ok (.if_icmp .gt 9, 3) := dec_row aX6_speedAt 16 rfl
theorem dX6_speedAt_27 : decode cX6_speedAt 27 = .ok (.iinc 2 1, 3) := dec_row aX6_speedAt 17 rfl
theorem dX6_speedAt_30 : decode cX6_speedAt 30 = .ok (.goto (-28), 3) := dec_row aX6_speedAt 18 rfl
theorem dX6_speedAt_33 : decode cX6_speedAt 33 = .ok (.aload_n 0, 1) := dec_row aX6_speedAt 19 rfl
theorem dX6_speedAt_34 : decode cX6_speedAt 34 = .ok (.getfield 25, 3) := dec_row aX6_speedAt 20 rfl
theorem dX6_speedAt_37 : decode cX6_speedAt 37 = .ok (.sipush 1145, 3) := dec_row aX6_speedAt 21 rfl
theorem dX6_speedAt_40 : decode cX6_speedAt 40 = .ok (.iload_n 2, 1) := dec_row aX6_speedAt 22 rfl
theorem dX6_speedAt_41 : decode cX6_speedAt 41 = .ok (.iadd, 1) := dec_row aX6_speedAt 23 rfl
theorem dX6_speedAt_42 : decode cX6_speedAt 42 = .ok (.iaload, 1) := dec_row aX6_speedAt 24 rfl
theorem dX6_speedAt_43 : decode cX6_speedAt 43 = .ok (.iload_n 1, 1) := dec_row aX6_speedAt 25 rfl
theorem dX6_speedAt_44 : decode cX6_speedAt 44 = .ok (.iadd, 1) := dec_row aX6_speedAt 26 rfl
theorem dX6_speedAt_45 : decode cX6_speedAt 45 = .ok (.istore_n 3, 1) := dec_row aX6_speedAt 27 rfl
theorem dX6_speedAt_46 : decode cX6_speedAt 46 = .ok (.iload_n 3, 1) := dec_row aX6_speedAt 28 rfl
theorem dX6_speedAt_47 : decode cX6_speedAt 47 = .ok (.iconst 1, 1) := dec_row aX6_speedAt 29 rfl
theorem dX6_speedAt_48 : decode cX6_speedAt 48 = .ok (.if_icmp .ge 7, 3) := dec_row aX6_speedAt 30 rfl
theorem dX6_speedAt_51 : decode cX6_speedAt 51 = .ok (.iconst 1, 1) := dec_row aX6_speedAt 31 rfl
theorem dX6_speedAt_52 : decode cX6_speedAt 52 = .ok (.goto 15, 3) := dec_row aX6_speedAt 32 rfl
theorem dX6_speedAt_55 : decode cX6_speedAt 55 = .ok (.iload_n 3, 1) := dec_row aX6_speedAt 33 rfl
theorem dX6_speedAt_56 : decode cX6_speedAt 56 = .ok (.bipush 9, 2) := dec_row aX6_speedAt 34 rfl
theorem dX6_speedAt_58 : decode cX6_speedAt 58 = .ok (.if_icmp .le 8, 3) := dec_row aX6_speedAt 35 rfl
theorem dX6_speedAt_61 : decode cX6_speedAt 61 = .ok (.bipush 9, 2) := dec_row aX6_speedAt 36 rfl
theorem dX6_speedAt_63 : decode cX6_speedAt 63 = .ok (.goto 4, 3) := dec_row aX6_speedAt 37 rfl
theorem dX6_speedAt_66 : decode cX6_speedAt 66 = .ok (.iload_n 3, 1) := dec_row aX6_speedAt 38 rfl
theorem dX6_speedAt_67 : decode cX6_speedAt 67 = .ok (.ireturn, 1) := dec_row aX6_speedAt 39 rfl
def tX6_fills_0 : List (Nat × Instr × Nat) := [(0, .aload_n 0, 1), (1, .getfield 136, 3), (4, .aload_n 0, 1), (5, .iload_n 2, 1), (6, .invokevirtual 139, 3), (9, .iadd, 1), (10, .istore_n 3, 1), (11, .iconst 0, 1), (12, .istore 4, 2), (14, .aload_n 0, 1), (15, .getfield 136, 3), (18, .iload_n 3, 1), (19, .if_icmp .ge 115, 3), (22, .aload_n 0, 1), (23, .getfield 136, 3), (26, .bipush 99, 2), (28, .if_icmp .ge 106, 3), (31, .aload_n 0, 1), (32, .invokevirtual 142, 3), (35, .istore 5, 2), (37, .aload_n 0, 1), (38, .getfield 31, 3), (41, .bipush 66, 2), (43, .iload 5, 2), (45, .iadd, 1), (46, .iaload, 1), (47, .istore 6, 2), (49, .iload 6, 2), (51, .aload_n 0, 1), (52, .getfield 13, 3), (55, .iload 5, 2), (57, .iaload, 1), (58, .if_icmp .ge 22, 3), (61, .aload_n 0, 1), (62, .getfield 25, 3), (65, .sipush 1139, 3), (68, .iload 5, 2), (70, .iadd, 1), (71, .iaload, 1), (72, .iload 6, 2), (74, .iconst 1, 1), (75, .iadd, 1), (76, .imul, 1), (77, .goto 19, 3), (80, .iconst 3, 1), (81, .aload_n 0, 1), (82, .getfield 25, 3), (85, .sipush 1139, 3), (88, .iload 5, 2), (90, .iadd, 1)]
theorem aX6_fills_0 : tX6_fills_0.all (fun q => decide (decode cX6_fills q.1 = .ok q.2)) = true := by decide +kernel
theorem dX6_fills_0 : decode cX6_fills 0 = .ok (.aload_n 0, 1) := dec_row aX6_fills_0 0 rfl
theorem dX6_fills_1 : decode cX6_fills 1 = .ok (.getfield 136, 3) := dec_row aX6_fills_0 1 rfl
theorem dX6_fills_4 : decode cX6_fills 4 = .ok (.aload_n 0, 1) := dec_row aX6_fills_0 2 rfl
theorem dX6_fills_5 : decode cX6_fills 5 = .ok (.iload_n 2, 1) := dec_row aX6_fills_0 3 rfl
theorem dX6_fills_6 : decode cX6_fills 6 = .ok (.invokevirtual 139, 3) := dec_row aX6_fills_0 4 rfl
theorem dX6_fills_9 : decode cX6_fills 9 = .ok (.iadd, 1) := dec_row aX6_fills_0 5 rfl
theorem dX6_fills_10 : decode cX6_fills 10 = .ok (.istore_n 3, 1) := dec_row aX6_fills_0 6 rfl
theorem dX6_fills_11 : decode cX6_fills 11 = .ok (.iconst 0, 1) := dec_row aX6_fills_0 7 rfl
theorem dX6_fills_12 : decode cX6_fills 12 = .ok (.istore 4, 2) := dec_row aX6_fills_0 8 rfl
theorem dX6_fills_14 : decode cX6_fills 14 = .ok (.aload_n 0, 1) := dec_row aX6_fills_0 9 rfl
theorem dX6_fills_15 : decode cX6_fills 15 = .ok (.getfield 136, 3) := dec_row aX6_fills_0 10 rfl
theorem dX6_fills_18 : decode cX6_fills 18 = .ok (.iload_n 3, 1) := dec_row aX6_fills_0 11 rfl
theorem dX6_fills_19 : decode cX6_fills 19 = .ok (.if_icmp .ge 115, 3) := dec_row aX6_fills_0 12 rfl
theorem dX6_fills_22 : decode cX6_fills 22 = .ok (.aload_n 0, 1) := dec_row aX6_fills_0 13 rfl
theorem dX6_fills_23 : decode cX6_fills 23 = .ok (.getfield 136, 3) := dec_row aX6_fills_0 14 rfl
theorem dX6_fills_26 : decode cX6_fills 26 = .ok (.bipush 99, 2) := dec_row aX6_fills_0 15 rfl
theorem dX6_fills_28 : decode cX6_fills 28 = .ok (.if_icmp .ge 106, 3) := dec_row aX6_fills_0 16 rfl
theorem dX6_fills_31 : decode cX6_fills 31 = .ok (.aload_n 0, 1) := dec_row aX6_fills_0 17 rfl
theorem dX6_fills_32 : decode cX6_fills 32 = .ok (.invokevirtual 142, 3) := dec_row aX6_fills_0 18 rfl
theorem dX6_fills_35 : decode cX6_fills 35 = .ok (.istore 5, 2) := dec_row aX6_fills_0 19 rfl
theorem dX6_fills_37 : decode cX6_fills 37 = .ok (.aload_n 0, 1) := dec_row aX6_fills_0 20 rfl
theorem dX6_fills_38 : decode cX6_fills 38 = .ok (.getfield 31, 3) := dec_row aX6_fills_0 21 rfl
theorem dX6_fills_41 : decode cX6_fills 41 = .ok (.bipush 66, 2) := dec_row aX6_fills_0 22 rfl
theorem dX6_fills_43 : decode cX6_fills 43 = .ok (.iload 5, 2) := dec_row aX6_fills_0 23 rfl
theorem dX6_fills_45 : decode cX6_fills 45 = .ok (.iadd, 1) := dec_row aX6_fills_0 24 rfl
theorem dX6_fills_46 : decode cX6_fills 46 = .ok (.iaload, 1) := dec_row aX6_fills_0 25 rfl
theorem dX6_fills_47 : decode cX6_fills 47 = .ok (.istore 6, 2) := dec_row aX6_fills_0 26 rfl
theorem dX6_fills_49 : decode cX6_fills 49 = .ok (.iload 6, 2) := dec_row aX6_fills_0 27 rfl
theorem dX6_fills_51 : decode cX6_fills 51 = .ok (.aload_n 0, 1) := dec_row aX6_fills_0 28 rfl
theorem dX6_fills_52 : decode cX6_fills 52 = .ok (.getfield 13, 3) := dec_row aX6_fills_0 29 rfl
theorem dX6_fills_55 : decode cX6_fills 55 = .ok (.iload 5, 2) := dec_row aX6_fills_0 30 rfl
theorem dX6_fills_57 : decode cX6_fills 57 = .ok (.iaload, 1) := dec_row aX6_fills_0 31 rfl
theorem dX6_fills_58 : decode cX6_fills 58 = .ok (.if_icmp .ge 22, 3) := dec_row aX6_fills_0 32 rfl
theorem dX6_fills_61 : decode cX6_fills 61 = .ok (.aload_n 0, 1) := dec_row aX6_fills_0 33 rfl
theorem dX6_fills_62 : decode cX6_fills 62 = .ok (.getfield 25, 3) := dec_row aX6_fills_0 34 rfl
theorem dX6_fills_65 : decode cX6_fills 65 = .ok (.sipush 1139, 3) := dec_row aX6_fills_0 35 rfl
theorem dX6_fills_68 : decode cX6_fills 68 = .ok (.iload 5, 2) := dec_row aX6_fills_0 36 rfl
theorem dX6_fills_70 : decode cX6_fills 70 = .ok (.iadd, 1) := dec_row aX6_fills_0 37 rfl
theorem dX6_fills_71 : decode cX6_fills 71 = .ok (.iaload, 1) := dec_row aX6_fills_0 38 rfl
theorem dX6_fills_72 : decode cX6_fills 72 = .ok (.iload 6, 2) := dec_row aX6_fills_0 39 rfl
theorem dX6_fills_74 : decode cX6_fills 74 = .ok (.iconst 1, 1) := dec_row aX6_fills_0 40 rfl
theorem dX6_fills_75 : decode cX6_fills 75 = .ok (.iadd, 1) := dec_row aX6_fills_0 41 rfl
theorem dX6_fills_76 : decode cX6_fills 76 = .ok (.imul, 1) := dec_row aX6_fills_0 42 rfl
theorem dX6_fills_77 : decode cX6_fills 77 = .ok (.goto 19, 3) := dec_row aX6_fills_0 43 rfl
theorem dX6_fills_80 : decode cX6_fills 80 = .ok (.iconst 3, 1) := dec_row aX6_fills_0 44 rfl
theorem dX6_fills_81 : decode cX6_fills 81 = .ok (.aload_n 0, 1) := dec_row aX6_fills_0 45 rfl
theorem dX6_fills_82 : decode cX6_fills 82 = .ok (.getfield 25, 3) := dec_row aX6_fills_0 46 rfl
theorem dX6_fills_85 : decode cX6_fills 85 = .ok (.sipush 1139, 3) := dec_row aX6_fills_0 47 rfl
theorem dX6_fills_88 : decode cX6_fills 88 = .ok (.iload 5, 2) := dec_row aX6_fills_0 48 rfl
theorem dX6_fills_90 : decode cX6_fills 90 = .ok (.iadd, 1) := dec_row aX6_fills_0 49 rfl
def tX6_fills_1 : List (Nat × Instr × Nat) := [(91, .iaload, 1), (92, .imul, 1), (93, .iload 6, 2), (95, .imul, 1), (96, .istore 7, 2), (98, .iload 7, 2), (100, .iload 4, 2), (102, .if_icmp .le 8, 3), (105, .iload 7, 2), (107, .goto 5, 3), (110, .iload 4, 2), (112, .istore 4, 2), (114, .aload_n 0, 1), (115, .iload 5, 2), (117, .iload_n 1, 1), (118, .invokevirtual 145, 3), (121, .aload_n 0, 1), (122, .dup, 1), (123, .getfield 136, 3), (126, .iconst 1, 1), (127, .iadd, 1), (128, .putfield 136, 3), (131, .goto (-117), 3), (134, .iload 4, 2), (136, .bipush 99, 2), (138, .if_icmp .le 8, 3), (141, .bipush 99, 2), (143, .goto 5, 3), (146, .iload 4, 2), (148, .ireturn, 1)]
theorem aX6_fills_1 : tX6_fills_1.all (fun q => decide (decode cX6_fills q.1 = .ok q.2)) = true := by decide +kernel
theorem dX6_fills_91 : decode cX6_fills 91 = .ok (.iaload, 1) := dec_row aX6_fills_1 0 rfl
theorem dX6_fills_92 : decode cX6_fills 92 = .ok (.imul, 1) := dec_row aX6_fills_1 1 rfl
theorem dX6_fills_93 : decode cX6_fills 93 = .ok (.iload 6, 2) := dec_row aX6_fills_1 2 rfl
theorem dX6_fills_95 : decode cX6_fills 95 = .ok (.imul, 1) := dec_row aX6_fills_1 3 rfl
theorem dX6_fills_96 : decode cX6_fills 96 = .ok (.istore 7, 2) := dec_row aX6_fills_1 4 rfl
theorem dX6_fills_98 : decode cX6_fills 98 = .ok (.iload 7, 2) := dec_row aX6_fills_1 5 rfl
theorem dX6_fills_100 : decode cX6_fills 100 = .ok (.iload 4, 2) := dec_row aX6_fills_1 6 rfl
theorem dX6_fills_102 : decode cX6_fills 102 = .ok (.if_icmp .le 8, 3) := dec_row aX6_fills_1 7 rfl
theorem dX6_fills_105 : decode cX6_fills 105 = .ok (.iload 7, 2) := dec_row aX6_fills_1 8 rfl
theorem dX6_fills_107 : decode cX6_fills 107 = .ok (.goto 5, 3) := dec_row aX6_fills_1 9 rfl
theorem dX6_fills_110 : decode cX6_fills 110 = .ok (.iload 4, 2) := dec_row aX6_fills_1 10 rfl
theorem dX6_fills_112 : decode cX6_fills 112 = .ok (.istore 4, 2) := dec_row aX6_fills_1 11 rfl
theorem dX6_fills_114 : decode cX6_fills 114 = .ok (.aload_n 0, 1) := dec_row aX6_fills_1 12 rfl
theorem dX6_fills_115 : decode cX6_fills 115 = .ok (.iload 5, 2) := dec_row aX6_fills_1 13 rfl
theorem dX6_fills_117 : decode cX6_fills 117 = .ok (.iload_n 1, 1) := dec_row aX6_fills_1 14 rfl
theorem dX6_fills_118 : decode cX6_fills 118 = .ok (.invokevirtual 145, 3) := dec_row aX6_fills_1 15 rfl
theorem dX6_fills_121 : decode cX6_fills 121 = .ok (.aload_n 0, 1) := dec_row aX6_fills_1 16 rfl
theorem dX6_fills_122 : decode cX6_fills 122 = .ok (.dup, 1) := dec_row aX6_fills_1 17 rfl
theorem dX6_fills_123 : decode cX6_fills 123 = .ok (.getfield 136, 3) := dec_row aX6_fills_1 18 rfl
theorem dX6_fills_126 : decode cX6_fills 126 = .ok (.iconst 1, 1) := dec_row aX6_fills_1 19 rfl
theorem dX6_fills_127 : decode cX6_fills 127 = .ok (.iadd, 1) := dec_row aX6_fills_1 20 rfl
theorem dX6_fills_128 : decode cX6_fills 128 = .ok (.putfield 136, 3) := dec_row aX6_fills_1 21 rfl
theorem dX6_fills_131 : decode cX6_fills 131 = .ok (.goto (-117), 3) := dec_row aX6_fills_1 22 rfl
theorem dX6_fills_134 : decode cX6_fills 134 = .ok (.iload 4, 2) := dec_row aX6_fills_1 23 rfl
theorem dX6_fills_136 : decode cX6_fills 136 = .ok (.bipush 99, 2) := dec_row aX6_fills_1 24 rfl
theorem dX6_fills_138 : decode cX6_fills 138 = .ok (.if_icmp .le 8, 3) := dec_row aX6_fills_1 25 rfl
theorem dX6_fills_141 : decode cX6_fills 141 = .ok (.bipush 99, 2) := dec_row aX6_fills_1 26 rfl
theorem dX6_fills_143 : decode cX6_fills 143 = .ok (.goto 5, 3) := dec_row aX6_fills_1 27 rfl
theorem dX6_fills_146 : decode cX6_fills 146 = .ok (.iload 4, 2) := dec_row aX6_fills_1 28 rfl
theorem dX6_fills_148 : decode cX6_fills 148 = .ok (.ireturn, 1) := dec_row aX6_fills_1 29 rfl
def tX6_why : List (Nat × Instr × Nat) := [(0, .aload_n 0, 1), (1, .getfield 136, 3), (4, .aload_n 0, 1), (5, .getfield 25, 3), (8, .sipush 1149, 3), (11, .iaload, 1), (12, .if_icmp .lt 7, 3), (15, .iconst 0, 1), (16, .goto 37, 3), (19, .iload_n 2, 1), (20, .aload_n 0, 1), (21, .getfield 25, 3), (24, .sipush 1150, 3), (27, .iaload, 1), (28, .if_icmp .lt 7, 3), (31, .iconst 1, 1), (32, .goto 21, 3), (35, .iload_n 1, 1), (36, .aload_n 0, 1), (37, .getfield 25, 3), (40, .sipush 1151, 3), (43, .iaload, 1), (44, .if_icmp .lt 7, 3), (47, .iconst 2, 1), (48, .goto 5, 3), (51, .bipush (-4), 2), (53, .ireturn, 1)]
theorem aX6_why : tX6_why.all (fun q => decide (decode cX6_why q.1 = .ok q.2)) = true := by decide +kernel
theorem dX6_why_0 : decode cX6_why 0 = .ok (.aload_n 0, 1) := dec_row aX6_why 0 rfl
theorem dX6_why_1 : decode cX6_why 1 = .ok (.getfield 136, 3) := dec_row aX6_why 1 rfl
theorem dX6_why_4 : decode cX6_why 4 = .ok (.aload_n 0, 1) := dec_row aX6_why 2 rfl
theorem dX6_why_5 : decode cX6_why 5 = .ok (.getfield 25, 3) := dec_row aX6_why 3 rfl
theorem dX6_why_8 : decode cX6_why 8 = .ok (.sipush 1149, 3) := dec_row aX6_why 4 rfl
theorem dX6_why_11 : decode cX6_why 11 = .ok (.iaload, 1) := dec_row aX6_why 5 rfl
theorem dX6_why_12 : decode cX6_why 12 = .ok (.if_icmp .lt 7, 3) := dec_row aX6_why 6 rfl
theorem dX6_why_15 : decode cX6_why 15 = .ok (.iconst 0, 1) := dec_row aX6_why 7 rfl
theorem dX6_why_16 : decode cX6_why 16 = .ok (.goto 37, 3) := dec_row aX6_why 8 rfl
theorem dX6_why_19 : decode cX6_why 19 = .ok (.iload_n 2, 1) := dec_row aX6_why 9 rfl
theorem dX6_why_20 : decode cX6_why 20 = .ok (.aload_n 0, 1) := dec_row aX6_why 10 rfl
theorem dX6_why_21 : decode cX6_why 21 = .ok (.getfield 25, 3) := dec_row aX6_why 11 rfl
theorem dX6_why_24 : decode cX6_why 24 = .ok (.sipush 1150, 3) := dec_row aX6_why 12 rfl
theorem dX6_why_27 : decode cX6_why 27 = .ok (.iaload, 1) := dec_row aX6_why 13 rfl
theorem dX6_why_28 : decode cX6_why 28 = .ok (.if_icmp .lt 7, 3) := dec_row aX6_why 14 rfl
theorem dX6_why_31 : decode cX6_why 31 = .ok (.iconst 1, 1) := dec_row aX6_why 15 rfl
theorem dX6_why_32 : decode cX6_why 32 = .ok (.goto 21, 3) := dec_row aX6_why 16 rfl
theorem dX6_why_35 : decode cX6_why 35 = .ok (.iload_n 1, 1) := dec_row aX6_why 17 rfl
theorem dX6_why_36 : decode cX6_why 36 = .ok (.aload_n 0, 1) := dec_row aX6_why 18 rfl
theorem dX6_why_37 : decode cX6_why 37 = .ok (.getfield 25, 3) := dec_row aX6_why 19 rfl
theorem dX6_why_40 : decode cX6_why 40 = .ok (.sipush 1151, 3) := dec_row aX6_why 20 rfl
theorem dX6_why_43 : decode cX6_why 43 = .ok (.iaload, 1) := dec_row aX6_why 21 rfl
theorem dX6_why_44 : decode cX6_why 44 = .ok (.if_icmp .lt 7, 3) := dec_row aX6_why 22 rfl
theorem dX6_why_47 : decode cX6_why 47 = .ok (.iconst 2, 1) := dec_row aX6_why 23 rfl
theorem dX6_why_48 : decode cX6_why 48 = .ok (.goto 5, 3) := dec_row aX6_why 24 rfl
theorem dX6_why_51 : decode cX6_why 51 = .ok (.bipush (-4), 2) := dec_row aX6_why 25 rfl
theorem dX6_why_53 : decode cX6_why 53 = .ok (.ireturn, 1) := dec_row aX6_why 26 rfl
def tX6_holds_0 : List (Nat × Instr × Nat) := [(0, .iconst 0, 1), (1, .istore_n 2, 1), (2, .iload_n 2, 1), (3, .aload_n 0, 1), (4, .getfield 70, 3), (7, .if_icmp .ge 109, 3), (10, .aload_n 0, 1), (11, .getfield 31, 3), (14, .bipush 78, 2), (16, .iload_n 2, 1), (17, .iadd, 1), (18, .iaload, 1), (19, .bipush (-4), 2), (21, .if_icmp .eq 27, 3), (24, .iload_n 1, 1), (25, .aload_n 0, 1), (26, .getfield 31, 3), (29, .bipush 78, 2), (31, .iload_n 2, 1), (32, .iadd, 1), (33, .iaload, 1), (34, .isub, 1), (35, .aload_n 0, 1), (36, .getfield 16, 3), (39, .iload_n 2, 1), (40, .iaload, 1), (41, .if_icmp .lt 7, 3), (44, .iconst 1, 1), (45, .goto 4, 3), (48, .iconst 0, 1), (49, .istore_n 3, 1), (50, .iload_n 3, 1), (51, .ifCond .ne 59, 3), (54, .aload_n 0, 1), (55, .getfield 25, 3), (58, .sipush 1139, 3), (61, .iload_n 2, 1), (62, .iadd, 1), (63, .iaload, 1), (64, .aload_n 0, 1), (65, .getfield 31, 3), (68, .bipush 66, 2), (70, .iload_n 2, 1), (71, .iadd, 1), (72, .iaload, 1), (73, .imul, 1), (74, .aload_n 0, 1), (75, .getfield 25, 3), (78, .sipush 1152, 3), (81, .iaload, 1)]
theorem aX6_holds_0 : tX6_holds_0.all (fun q => decide (decode cX6_holds q.1 = .ok q.2)) = true := by decide +kernel
theorem dX6_holds_0 : decode cX6_holds 0 = .ok (.iconst 0, 1) := dec_row aX6_holds_0 0 rfl
theorem dX6_holds_1 : decode cX6_holds 1 = .ok (.istore_n 2, 1) := dec_row aX6_holds_0 1 rfl
theorem dX6_holds_2 : decode cX6_holds 2 = .ok (.iload_n 2, 1) := dec_row aX6_holds_0 2 rfl
theorem dX6_holds_3 : decode cX6_holds 3 = .ok (.aload_n 0, 1) := dec_row aX6_holds_0 3 rfl
theorem dX6_holds_4 : decode cX6_holds 4 = .ok (.getfield 70, 3) := dec_row aX6_holds_0 4 rfl
theorem dX6_holds_7 : decode cX6_holds 7 = .ok (.if_icmp .ge 109, 3) := dec_row aX6_holds_0 5 rfl
theorem dX6_holds_10 : decode cX6_holds 10 = .ok (.aload_n 0, 1) := dec_row aX6_holds_0 6 rfl
theorem dX6_holds_11 : decode cX6_holds 11 = .ok (.getfield 31, 3) := dec_row aX6_holds_0 7 rfl
theorem dX6_holds_14 : decode cX6_holds 14 = .ok (.bipush 78, 2) := dec_row aX6_holds_0 8 rfl
theorem dX6_holds_16 : decode cX6_holds 16 = .ok (.iload_n 2, 1) := dec_row aX6_holds_0 9 rfl
theorem dX6_holds_17 : decode cX6_holds 17 = .ok (.iadd, 1) := dec_row aX6_holds_0 10 rfl
theorem dX6_holds_18 : decode cX6_holds 18 = .ok (.iaload, 1) := dec_row aX6_holds_0 11 rfl
theorem dX6_holds_19 : decode cX6_holds 19 = .ok (.bipush (-4), 2) := dec_row aX6_holds_0 12 rfl
theorem dX6_holds_21 : decode cX6_holds 21 = .ok (.if_icmp .eq 27, 3) := dec_row aX6_holds_0 13 rfl
theorem dX6_holds_24 : decode cX6_holds 24 = .ok (.iload_n 1, 1) := dec_row aX6_holds_0 14 rfl
theorem dX6_holds_25 : decode cX6_holds 25 = .ok (.aload_n 0, 1) := dec_row aX6_holds_0 15 rfl
theorem dX6_holds_26 : decode cX6_holds 26 = .ok (.getfield 31, 3) := dec_row aX6_holds_0 16 rfl
theorem dX6_holds_29 : decode cX6_holds 29 = .ok (.bipush 78, 2) := dec_row aX6_holds_0 17 rfl
theorem dX6_holds_31 : decode cX6_holds 31 = .ok (.iload_n 2, 1) := dec_row aX6_holds_0 18 rfl
theorem dX6_holds_32 : decode cX6_holds 32 = .ok (.iadd, 1) := dec_row aX6_holds_0 19 rfl
theorem dX6_holds_33 : decode cX6_holds 33 = .ok (.iaload, 1) := dec_row aX6_holds_0 20 rfl
theorem dX6_holds_34 : decode cX6_holds 34 = .ok (.isub, 1) := dec_row aX6_holds_0 21 rfl
theorem dX6_holds_35 : decode cX6_holds 35 = .ok (.aload_n 0, 1) := dec_row aX6_holds_0 22 rfl
theorem dX6_holds_36 : decode cX6_holds 36 = .ok (.getfield 16, 3) := dec_row aX6_holds_0 23 rfl
theorem dX6_holds_39 : decode cX6_holds 39 = .ok (.iload_n 2, 1) := dec_row aX6_holds_0 24 rfl
theorem dX6_holds_40 : decode cX6_holds 40 = .ok (.iaload, 1) := dec_row aX6_holds_0 25 rfl
theorem dX6_holds_41 : decode cX6_holds 41 = .ok (.if_icmp .lt 7, 3) := dec_row aX6_holds_0 26 rfl
theorem dX6_holds_44 : decode cX6_holds 44 = .ok (.iconst 1, 1) := dec_row aX6_holds_0 27 rfl
theorem dX6_holds_45 : decode cX6_holds 45 = .ok (.goto 4, 3) := dec_row aX6_holds_0 28 rfl
theorem dX6_holds_48 : decode cX6_holds 48 = .ok (.iconst 0, 1) := dec_row aX6_holds_0 29 rfl
theorem dX6_holds_49 : decode cX6_holds 49 = .ok (.istore_n 3, 1) := dec_row aX6_holds_0 30 rfl
theorem dX6_holds_50 : decode cX6_holds 50 = .ok (.iload_n 3, 1) := dec_row aX6_holds_0 31 rfl
theorem dX6_holds_51 : decode cX6_holds 51 = .ok (.ifCond .ne 59, 3) := dec_row aX6_holds_0 32 rfl
theorem dX6_holds_54 : decode cX6_holds 54 = .ok (.aload_n 0, 1) := dec_row aX6_holds_0 33 rfl
theorem dX6_holds_55 : decode cX6_holds 55 = .ok (.getfield 25, 3) := dec_row aX6_holds_0 34 rfl
theorem dX6_holds_58 : decode cX6_holds 58 = .ok (.sipush 1139, 3) := dec_row aX6_holds_0 35 rfl
theorem dX6_holds_61 : decode cX6_holds 61 = .ok (.iload_n 2, 1) := dec_row aX6_holds_0 36 rfl
theorem dX6_holds_62 : decode cX6_holds 62 = .ok (.iadd, 1) := dec_row aX6_holds_0 37 rfl
theorem dX6_holds_63 : decode cX6_holds 63 = .ok (.iaload, 1) := dec_row aX6_holds_0 38 rfl
theorem dX6_holds_64 : decode cX6_holds 64 = .ok (.aload_n 0, 1) := dec_row aX6_holds_0 39 rfl
theorem dX6_holds_65 : decode cX6_holds 65 = .ok (.getfield 31, 3) := dec_row aX6_holds_0 40 rfl
theorem dX6_holds_68 : decode cX6_holds 68 = .ok (.bipush 66, 2) := dec_row aX6_holds_0 41 rfl
theorem dX6_holds_70 : decode cX6_holds 70 = .ok (.iload_n 2, 1) := dec_row aX6_holds_0 42 rfl
theorem dX6_holds_71 : decode cX6_holds 71 = .ok (.iadd, 1) := dec_row aX6_holds_0 43 rfl
theorem dX6_holds_72 : decode cX6_holds 72 = .ok (.iaload, 1) := dec_row aX6_holds_0 44 rfl
theorem dX6_holds_73 : decode cX6_holds 73 = .ok (.imul, 1) := dec_row aX6_holds_0 45 rfl
theorem dX6_holds_74 : decode cX6_holds 74 = .ok (.aload_n 0, 1) := dec_row aX6_holds_0 46 rfl
theorem dX6_holds_75 : decode cX6_holds 75 = .ok (.getfield 25, 3) := dec_row aX6_holds_0 47 rfl
theorem dX6_holds_78 : decode cX6_holds 78 = .ok (.sipush 1152, 3) := dec_row aX6_holds_0 48 rfl
theorem dX6_holds_81 : decode cX6_holds 81 = .ok (.iaload, 1) := dec_row aX6_holds_0 49 rfl
def tX6_holds_1 : List (Nat × Instr × Nat) := [(82, .if_icmp .ge 28, 3), (85, .aload_n 0, 1), (86, .getfield 136, 3), (89, .bipush 99, 2), (91, .if_icmp .ge 19, 3), (94, .aload_n 0, 1), (95, .iload_n 2, 1), (96, .iload_n 1, 1), (97, .invokevirtual 145, 3), (100, .aload_n 0, 1), (101, .dup, 1), (102, .getfield 136, 3), (105, .iconst 1, 1), (106, .iadd, 1), (107, .putfield 136, 3), (110, .iinc 2 1, 3), (113, .goto (-111), 3), (116, .return_, 1)]
theorem aX6_holds_1 : tX6_holds_1.all (fun q => decide (decode cX6_holds q.1 = .ok q.2)) = true := by decide +kernel
theorem dX6_holds_82 : decode cX6_holds 82 = .ok (.if_icmp .ge 28, 3) := dec_row aX6_holds_1 0 rfl
theorem dX6_holds_85 : decode cX6_holds 85 = .ok (.aload_n 0, 1) := dec_row aX6_holds_1 1 rfl
theorem dX6_holds_86 : decode cX6_holds 86 = .ok (.getfield 136, 3) := dec_row aX6_holds_1 2 rfl
theorem dX6_holds_89 : decode cX6_holds 89 = .ok (.bipush 99, 2) := dec_row aX6_holds_1 3 rfl
theorem dX6_holds_91 : decode cX6_holds 91 = .ok (.if_icmp .ge 19, 3) := dec_row aX6_holds_1 4 rfl
theorem dX6_holds_94 : decode cX6_holds 94 = .ok (.aload_n 0, 1) := dec_row aX6_holds_1 5 rfl
theorem dX6_holds_95 : decode cX6_holds 95 = .ok (.iload_n 2, 1) := dec_row aX6_holds_1 6 rfl
theorem dX6_holds_96 : decode cX6_holds 96 = .ok (.iload_n 1, 1) := dec_row aX6_holds_1 7 rfl
theorem dX6_holds_97 : decode cX6_holds 97 = .ok (.invokevirtual 145, 3) := dec_row aX6_holds_1 8 rfl
theorem dX6_holds_100 : decode cX6_holds 100 = .ok (.aload_n 0, 1) := dec_row aX6_holds_1 9 rfl
theorem dX6_holds_101 : decode cX6_holds 101 = .ok (.dup, 1) := dec_row aX6_holds_1 10 rfl
theorem dX6_holds_102 : decode cX6_holds 102 = .ok (.getfield 136, 3) := dec_row aX6_holds_1 11 rfl
theorem dX6_holds_105 : decode cX6_holds 105 = .ok (.iconst 1, 1) := dec_row aX6_holds_1 12 rfl
theorem dX6_holds_106 : decode cX6_holds 106 = .ok (.iadd, 1) := dec_row aX6_holds_1 13 rfl
theorem dX6_holds_107 : decode cX6_holds 107 = .ok (.putfield 136, 3) := dec_row aX6_holds_1 14 rfl
theorem dX6_holds_110 : decode cX6_holds 110 = .ok (.iinc 2 1, 3) := dec_row aX6_holds_1 15 rfl
theorem dX6_holds_113 : decode cX6_holds 113 = .ok (.goto (-111), 3) := dec_row aX6_holds_1 16 rfl
theorem dX6_holds_116 : decode cX6_holds 116 = .ok (.return_, 1) := dec_row aX6_holds_1 17 rfl
def tX6_tries_0 : List (Nat × Instr × Nat) := [(0, .iconst 0, 1), (1, .istore_n 2, 1), (2, .iload_n 2, 1), (3, .bipush 84, 2), (5, .if_icmp .ge 27, 3), (8, .aload_n 0, 1), (9, .getfield 31, 3), (12, .iload_n 2, 1), (13, .iload_n 2, 1), (14, .bipush 72, 2), (16, .if_icmp .lt 8, 3), (19, .bipush (-4), 2), (21, .goto 4, 3), (24, .iconst 0, 1), (25, .iastore, 1), (26, .iinc 2 1, 3), (29, .goto (-27), 3), (32, .aload_n 0, 1), (33, .iconst 0, 1), (34, .putfield 136, 3), (37, .iconst 0, 1), (38, .istore_n 2, 1), (39, .bipush (-4), 2), (41, .istore_n 3, 1), (42, .iload_n 3, 1), (43, .ifCond .ge 38, 3), (46, .iinc 2 1, 3), (49, .aload_n 0, 1), (50, .iload_n 2, 1), (51, .iload_n 1, 1), (52, .invokevirtual 148, 3), (55, .istore 4, 2), (57, .aload_n 0, 1), (58, .getfield 31, 3), (61, .bipush 6, 2), (63, .iload_n 2, 1), (64, .iadd, 1), (65, .iconst 1, 1), (66, .isub, 1), (67, .iload 4, 2), (69, .iastore, 1), (70, .aload_n 0, 1), (71, .iload_n 2, 1), (72, .iload 4, 2), (74, .invokevirtual 152, 3), (77, .istore_n 3, 1), (78, .goto (-36), 3), (81, .aload_n 0, 1), (82, .getfield 31, 3), (85, .iconst 0, 1)]
theorem aX6_tries_0 : tX6_tries_0.all (fun q => decide (decode cX6_tries q.1 = .ok q.2)) = true := by decide +kernel
theorem dX6_tries_0 : decode cX6_tries 0 = .ok (.iconst 0, 1) := dec_row aX6_tries_0 0 rfl
theorem dX6_tries_1 : decode cX6_tries 1 = .ok (.istore_n 2, 1) := dec_row aX6_tries_0 1 rfl
theorem dX6_tries_2 : decode cX6_tries 2 = .ok (.iload_n 2, 1) := dec_row aX6_tries_0 2 rfl
theorem dX6_tries_3 : decode cX6_tries 3 = .ok (.bipush 84, 2) := dec_row aX6_tries_0 3 rfl
theorem dX6_tries_5 : decode cX6_tries 5 = .ok (.if_icmp .ge 27, 3) := dec_row aX6_tries_0 4 rfl
theorem dX6_tries_8 : decode cX6_tries 8 = .ok (.aload_n 0, 1) := dec_row aX6_tries_0 5 rfl
theorem dX6_tries_9 : decode cX6_tries 9 = .ok (.getfield 31, 3) := dec_row aX6_tries_0 6 rfl
theorem dX6_tries_12 : decode cX6_tries 12 = .ok (.iload_n 2, 1) := dec_row aX6_tries_0 7 rfl
theorem dX6_tries_13 : decode cX6_tries 13 = .ok (.iload_n 2, 1) := dec_row aX6_tries_0 8 rfl
theorem dX6_tries_14 : decode cX6_tries 14 = .ok (.bipush 72, 2) := dec_row aX6_tries_0 9 rfl
theorem dX6_tries_16 : decode cX6_tries 16 = .ok (.if_icmp .lt 8, 3) := dec_row aX6_tries_0 10 rfl
theorem dX6_tries_19 : decode cX6_tries 19 = .ok (.bipush (-4), 2) := dec_row aX6_tries_0 11 rfl
theorem dX6_tries_21 : decode cX6_tries 21 = .ok (.goto 4, 3) := dec_row aX6_tries_0 12 rfl
theorem dX6_tries_24 : decode cX6_tries 24 = .ok (.iconst 0, 1) := dec_row aX6_tries_0 13 rfl
theorem dX6_tries_25 : decode cX6_tries 25 = .ok (.iastore, 1) := dec_row aX6_tries_0 14 rfl
theorem dX6_tries_26 : decode cX6_tries 26 = .ok (.iinc 2 1, 3) := dec_row aX6_tries_0 15 rfl
theorem dX6_tries_29 : decode cX6_tries 29 = .ok (.goto (-27), 3) := dec_row aX6_tries_0 16 rfl
theorem dX6_tries_32 : decode cX6_tries 32 = .ok (.aload_n 0, 1) := dec_row aX6_tries_0 17 rfl
theorem dX6_tries_33 : decode cX6_tries 33 = .ok (.iconst 0, 1) := dec_row aX6_tries_0 18 rfl
theorem dX6_tries_34 : decode cX6_tries 34 = .ok (.putfield 136, 3) := dec_row aX6_tries_0 19 rfl
theorem dX6_tries_37 : decode cX6_tries 37 = .ok (.iconst 0, 1) := dec_row aX6_tries_0 20 rfl
theorem dX6_tries_38 : decode cX6_tries 38 = .ok (.istore_n 2, 1) := dec_row aX6_tries_0 21 rfl
theorem dX6_tries_39 : decode cX6_tries 39 = .ok (.bipush (-4), 2) := dec_row aX6_tries_0 22 rfl
theorem dX6_tries_41 : decode cX6_tries 41 = .ok (.istore_n 3, 1) := dec_row aX6_tries_0 23 rfl
theorem dX6_tries_42 : decode cX6_tries 42 = .ok (.iload_n 3, 1) := dec_row aX6_tries_0 24 rfl
theorem dX6_tries_43 : decode cX6_tries 43 = .ok (.ifCond .ge 38, 3) := dec_row aX6_tries_0 25 rfl
theorem dX6_tries_46 : decode cX6_tries 46 = .ok (.iinc 2 1, 3) := dec_row aX6_tries_0 26 rfl
theorem dX6_tries_49 : decode cX6_tries 49 = .ok (.aload_n 0, 1) := dec_row aX6_tries_0 27 rfl
theorem dX6_tries_50 : decode cX6_tries 50 = .ok (.iload_n 2, 1) := dec_row aX6_tries_0 28 rfl
theorem dX6_tries_51 : decode cX6_tries 51 = .ok (.iload_n 1, 1) := dec_row aX6_tries_0 29 rfl
theorem dX6_tries_52 : decode cX6_tries 52 = .ok (.invokevirtual 148, 3) := dec_row aX6_tries_0 30 rfl
theorem dX6_tries_55 : decode cX6_tries 55 = .ok (.istore 4, 2) := dec_row aX6_tries_0 31 rfl
theorem dX6_tries_57 : decode cX6_tries 57 = .ok (.aload_n 0, 1) := dec_row aX6_tries_0 32 rfl
theorem dX6_tries_58 : decode cX6_tries 58 = .ok (.getfield 31, 3) := dec_row aX6_tries_0 33 rfl
theorem dX6_tries_61 : decode cX6_tries 61 = .ok (.bipush 6, 2) := dec_row aX6_tries_0 34 rfl
theorem dX6_tries_63 : decode cX6_tries 63 = .ok (.iload_n 2, 1) := dec_row aX6_tries_0 35 rfl
theorem dX6_tries_64 : decode cX6_tries 64 = .ok (.iadd, 1) := dec_row aX6_tries_0 36 rfl
theorem dX6_tries_65 : decode cX6_tries 65 = .ok (.iconst 1, 1) := dec_row aX6_tries_0 37 rfl
theorem dX6_tries_66 : decode cX6_tries 66 = .ok (.isub, 1) := dec_row aX6_tries_0 38 rfl
theorem dX6_tries_67 : decode cX6_tries 67 = .ok (.iload 4, 2) := dec_row aX6_tries_0 39 rfl
theorem dX6_tries_69 : decode cX6_tries 69 = .ok (.iastore, 1) := dec_row aX6_tries_0 40 rfl
theorem dX6_tries_70 : decode cX6_tries 70 = .ok (.aload_n 0, 1) := dec_row aX6_tries_0 41 rfl
theorem dX6_tries_71 : decode cX6_tries 71 = .ok (.iload_n 2, 1) := dec_row aX6_tries_0 42 rfl
theorem dX6_tries_72 : decode cX6_tries 72 = .ok (.iload 4, 2) := dec_row aX6_tries_0 43 rfl
theorem dX6_tries_74 : decode cX6_tries 74 = .ok (.invokevirtual 152, 3) := dec_row aX6_tries_0 44 rfl
theorem dX6_tries_77 : decode cX6_tries 77 = .ok (.istore_n 3, 1) := dec_row aX6_tries_0 45 rfl
theorem dX6_tries_78 : decode cX6_tries 78 = .ok (.goto (-36), 3) := dec_row aX6_tries_0 46 rfl
theorem dX6_tries_81 : decode cX6_tries 81 = .ok (.aload_n 0, 1) := dec_row aX6_tries_0 47 rfl
theorem dX6_tries_82 : decode cX6_tries 82 = .ok (.getfield 31, 3) := dec_row aX6_tries_0 48 rfl
theorem dX6_tries_85 : decode cX6_tries 85 = .ok (.iconst 0, 1) := dec_row aX6_tries_0 49 rfl
def tX6_tries_1 : List (Nat × Instr × Nat) := [(86, .iload_n 2, 1), (87, .iastore, 1), (88, .aload_n 0, 1), (89, .getfield 31, 3), (92, .iconst 2, 1), (93, .iload_n 3, 1), (94, .iastore, 1), (95, .iconst 0, 1), (96, .istore 4, 2), (98, .iload 4, 2), (100, .aload_n 0, 1), (101, .getfield 25, 3), (104, .sipush 1153, 3), (107, .iaload, 1), (108, .if_icmp .ge 36, 3), (111, .iinc 2 1, 3), (114, .aload_n 0, 1), (115, .iload_n 2, 1), (116, .invokevirtual 155, 3), (119, .aload_n 0, 1), (120, .getfield 31, 3), (123, .bipush 6, 2), (125, .iload_n 2, 1), (126, .iadd, 1), (127, .iconst 1, 1), (128, .isub, 1), (129, .aload_n 0, 1), (130, .getfield 25, 3), (133, .sipush 1152, 3), (136, .iaload, 1), (137, .iastore, 1), (138, .iinc 4 1, 3), (141, .goto (-43), 3), (144, .aload_n 0, 1), (145, .getfield 31, 3), (148, .iconst 1, 1), (149, .iload_n 2, 1), (150, .iastore, 1), (151, .aload_n 0, 1), (152, .getfield 31, 3), (155, .iconst 3, 1), (156, .aload_n 0, 1), (157, .getfield 136, 3), (160, .iastore, 1), (161, .aload_n 0, 1), (162, .getfield 31, 3), (165, .iconst 5, 1), (166, .iload_n 2, 1), (167, .aload_n 0, 1), (168, .getfield 25, 3)]
theorem aX6_tries_1 : tX6_tries_1.all (fun q => decide (decode cX6_tries q.1 = .ok q.2)) = true := by decide +kernel
theorem dX6_tries_86 : decode cX6_tries 86 = .ok (.iload_n 2, 1) := dec_row aX6_tries_1 0 rfl
theorem dX6_tries_87 : decode cX6_tries 87 = .ok (.iastore, 1) := dec_row aX6_tries_1 1 rfl
theorem dX6_tries_88 : decode cX6_tries 88 = .ok (.aload_n 0, 1) := dec_row aX6_tries_1 2 rfl
theorem dX6_tries_89 : decode cX6_tries 89 = .ok (.getfield 31, 3) := dec_row aX6_tries_1 3 rfl
theorem dX6_tries_92 : decode cX6_tries 92 = .ok (.iconst 2, 1) := dec_row aX6_tries_1 4 rfl
theorem dX6_tries_93 : decode cX6_tries 93 = .ok (.iload_n 3, 1) := dec_row aX6_tries_1 5 rfl
theorem dX6_tries_94 : decode cX6_tries 94 = .ok (.iastore, 1) := dec_row aX6_tries_1 6 rfl
theorem dX6_tries_95 : decode cX6_tries 95 = .ok (.iconst 0, 1) := dec_row aX6_tries_1 7 rfl
theorem dX6_tries_96 : decode cX6_tries 96 = .ok (.istore 4, 2) := dec_row aX6_tries_1 8 rfl
theorem dX6_tries_98 : decode cX6_tries 98 = .ok (.iload 4, 2) := dec_row aX6_tries_1 9 rfl
theorem dX6_tries_100 : decode cX6_tries 100 = .ok (.aload_n 0, 1) := dec_row aX6_tries_1 10 rfl
theorem dX6_tries_101 : decode cX6_tries 101 = .ok (.getfield 25, 3) := dec_row aX6_tries_1 11 rfl
theorem dX6_tries_104 : decode cX6_tries 104 = .ok (.sipush 1153, 3) := dec_row aX6_tries_1 12 rfl
theorem dX6_tries_107 : decode cX6_tries 107 = .ok (.iaload, 1) := dec_row aX6_tries_1 13 rfl
theorem dX6_tries_108 : decode cX6_tries 108 = .ok (.if_icmp .ge 36, 3) := dec_row aX6_tries_1 14 rfl
theorem dX6_tries_111 : decode cX6_tries 111 = .ok (.iinc 2 1, 3) := dec_row aX6_tries_1 15 rfl
theorem dX6_tries_114 : decode cX6_tries 114 = .ok (.aload_n 0, 1) := dec_row aX6_tries_1 16 rfl
theorem dX6_tries_115 : decode cX6_tries 115 = .ok (.iload_n 2, 1) := dec_row aX6_tries_1 17 rfl
theorem dX6_tries_116 : decode cX6_tries 116 = .ok (.invokevirtual 155, 3) := dec_row aX6_tries_1 18 rfl
theorem dX6_tries_119 : decode cX6_tries 119 = .ok (.aload_n 0, 1) := dec_row aX6_tries_1 19 rfl
theorem dX6_tries_120 : decode cX6_tries 120 = .ok (.getfield 31, 3) := dec_row aX6_tries_1 20 rfl
theorem dX6_tries_123 : decode cX6_tries 123 = .ok (.bipush 6, 2) := dec_row aX6_tries_1 21 rfl
theorem dX6_tries_125 : decode cX6_tries 125 = .ok (.iload_n 2, 1) := dec_row aX6_tries_1 22 rfl
theorem dX6_tries_126 : decode cX6_tries 126 = .ok (.iadd, 1) := dec_row aX6_tries_1 23 rfl
theorem dX6_tries_127 : decode cX6_tries 127 = .ok (.iconst 1, 1) := dec_row aX6_tries_1 24 rfl
theorem dX6_tries_128 : decode cX6_tries 128 = .ok (.isub, 1) := dec_row aX6_tries_1 25 rfl
theorem dX6_tries_129 : decode cX6_tries 129 = .ok (.aload_n 0, 1) := dec_row aX6_tries_1 26 rfl
theorem dX6_tries_130 : decode cX6_tries 130 = .ok (.getfield 25, 3) := dec_row aX6_tries_1 27 rfl
theorem dX6_tries_133 : decode cX6_tries 133 = .ok (.sipush 1152, 3) := dec_row aX6_tries_1 28 rfl
theorem dX6_tries_136 : decode cX6_tries 136 = .ok (.iaload, 1) := dec_row aX6_tries_1 29 rfl
theorem dX6_tries_137 : decode cX6_tries 137 = .ok (.iastore, 1) := dec_row aX6_tries_1 30 rfl
theorem dX6_tries_138 : decode cX6_tries 138 = .ok (.iinc 4 1, 3) := dec_row aX6_tries_1 31 rfl
theorem dX6_tries_141 : decode cX6_tries 141 = .ok (.goto (-43), 3) := dec_row aX6_tries_1 32 rfl
theorem dX6_tries_144 : decode cX6_tries 144 = .ok (.aload_n 0, 1) := dec_row aX6_tries_1 33 rfl
theorem dX6_tries_145 : decode cX6_tries 145 = .ok (.getfield 31, 3) := dec_row aX6_tries_1 34 rfl
theorem dX6_tries_148 : decode cX6_tries 148 = .ok (.iconst 1, 1) := dec_row aX6_tries_1 35 rfl
theorem dX6_tries_149 : decode cX6_tries 149 = .ok (.iload_n 2, 1) := dec_row aX6_tries_1 36 rfl
theorem dX6_tries_150 : decode cX6_tries 150 = .ok (.iastore, 1) := dec_row aX6_tries_1 37 rfl
theorem dX6_tries_151 : decode cX6_tries 151 = .ok (.aload_n 0, 1) := dec_row aX6_tries_1 38 rfl
theorem dX6_tries_152 : decode cX6_tries 152 = .ok (.getfield 31, 3) := dec_row aX6_tries_1 39 rfl
theorem dX6_tries_155 : decode cX6_tries 155 = .ok (.iconst 3, 1) := dec_row aX6_tries_1 40 rfl
theorem dX6_tries_156 : decode cX6_tries 156 = .ok (.aload_n 0, 1) := dec_row aX6_tries_1 41 rfl
theorem dX6_tries_157 : decode cX6_tries 157 = .ok (.getfield 136, 3) := dec_row aX6_tries_1 42 rfl
theorem dX6_tries_160 : decode cX6_tries 160 = .ok (.iastore, 1) := dec_row aX6_tries_1 43 rfl
theorem dX6_tries_161 : decode cX6_tries 161 = .ok (.aload_n 0, 1) := dec_row aX6_tries_1 44 rfl
theorem dX6_tries_162 : decode cX6_tries 162 = .ok (.getfield 31, 3) := dec_row aX6_tries_1 45 rfl
theorem dX6_tries_165 : decode cX6_tries 165 = .ok (.iconst 5, 1) := dec_row aX6_tries_1 46 rfl
theorem dX6_tries_166 : decode cX6_tries 166 = .ok (.iload_n 2, 1) := dec_row aX6_tries_1 47 rfl
theorem dX6_tries_167 : decode cX6_tries 167 = .ok (.aload_n 0, 1) := dec_row aX6_tries_1 48 rfl
theorem dX6_tries_168 : decode cX6_tries 168 = .ok (.getfield 25, 3) := dec_row aX6_tries_1 49 rfl
def tX6_tries_2 : List (Nat × Instr × Nat) := [(171, .sipush 1154, 3), (174, .iaload, 1), (175, .iadd, 1), (176, .iastore, 1), (177, .bipush (-4), 2), (179, .istore 4, 2), (181, .bipush (-4), 2), (183, .istore 5, 2), (185, .iconst 0, 1), (186, .istore 6, 2), (188, .iload 6, 2), (190, .aload_n 0, 1), (191, .getfield 70, 3), (194, .if_icmp .ge 67, 3), (197, .aload_n 0, 1), (198, .getfield 31, 3), (201, .bipush 72, 2), (203, .iload 6, 2), (205, .iadd, 1), (206, .iaload, 1), (207, .istore 7, 2), (209, .iload 7, 2), (211, .bipush (-4), 2), (213, .if_icmp .eq 22, 3), (216, .iload 4, 2), (218, .bipush (-4), 2), (220, .if_icmp .eq 10, 3), (223, .iload 7, 2), (225, .iload 4, 2), (227, .if_icmp .ge 8, 3), (230, .iload 7, 2), (232, .goto 5, 3), (235, .iload 4, 2), (237, .istore 4, 2), (239, .iload 7, 2), (241, .iload 5, 2), (243, .if_icmp .le 8, 3), (246, .iload 7, 2), (248, .goto 5, 3), (251, .iload 5, 2), (253, .istore 5, 2), (255, .iinc 6 1, 3), (258, .goto (-70), 3), (261, .aload_n 0, 1), (262, .getfield 31, 3), (265, .iconst 4, 1), (266, .iload 4, 2), (268, .bipush (-4), 2), (270, .if_icmp .ne 7, 3), (273, .iconst 0, 1)]
theorem aX6_tries_2 : tX6_tries_2.all (fun q => decide (decode cX6_tries q.1 = .ok q.2)) = true := by decide +kernel
theorem dX6_tries_171 : decode cX6_tries 171 = .ok (.sipush 1154, 3) := dec_row aX6_tries_2 0 rfl
theorem dX6_tries_174 : decode cX6_tries 174 = .ok (.iaload, 1) := dec_row aX6_tries_2 1 rfl
theorem dX6_tries_175 : decode cX6_tries 175 = .ok (.iadd, 1) := dec_row aX6_tries_2 2 rfl
theorem dX6_tries_176 : decode cX6_tries 176 = .ok (.iastore, 1) := dec_row aX6_tries_2 3 rfl
theorem dX6_tries_177 : decode cX6_tries 177 = .ok (.bipush (-4), 2) := dec_row aX6_tries_2 4 rfl
theorem dX6_tries_179 : decode cX6_tries 179 = .ok (.istore 4, 2) := dec_row aX6_tries_2 5 rfl
theorem dX6_tries_181 : decode cX6_tries 181 = .ok (.bipush (-4), 2) := dec_row aX6_tries_2 6 rfl
theorem dX6_tries_183 : decode cX6_tries 183 = .ok (.istore 5, 2) := dec_row aX6_tries_2 7 rfl
theorem dX6_tries_185 : decode cX6_tries 185 = .ok (.iconst 0, 1) := dec_row aX6_tries_2 8 rfl
theorem dX6_tries_186 : decode cX6_tries 186 = .ok (.istore 6, 2) := dec_row aX6_tries_2 9 rfl
theorem dX6_tries_188 : decode cX6_tries 188 = .ok (.iload 6, 2) := dec_row aX6_tries_2 10 rfl
theorem dX6_tries_190 : decode cX6_tries 190 = .ok (.aload_n 0, 1) := dec_row aX6_tries_2 11 rfl
theorem dX6_tries_191 : decode cX6_tries 191 = .ok (.getfield 70, 3) := dec_row aX6_tries_2 12 rfl
theorem dX6_tries_194 : decode cX6_tries 194 = .ok (.if_icmp .ge 67, 3) := dec_row aX6_tries_2 13 rfl
theorem dX6_tries_197 : decode cX6_tries 197 = .ok (.aload_n 0, 1) := dec_row aX6_tries_2 14 rfl
theorem dX6_tries_198 : decode cX6_tries 198 = .ok (.getfield 31, 3) := dec_row aX6_tries_2 15 rfl
theorem dX6_tries_201 : decode cX6_tries 201 = .ok (.bipush 72, 2) := dec_row aX6_tries_2 16 rfl
theorem dX6_tries_203 : decode cX6_tries 203 = .ok (.iload 6, 2) := dec_row aX6_tries_2 17 rfl
theorem dX6_tries_205 : decode cX6_tries 205 = .ok (.iadd, 1) := dec_row aX6_tries_2 18 rfl
theorem dX6_tries_206 : decode cX6_tries 206 = .ok (.iaload, 1) := dec_row aX6_tries_2 19 rfl
theorem dX6_tries_207 : decode cX6_tries 207 = .ok (.istore 7, 2) := dec_row aX6_tries_2 20 rfl
theorem dX6_tries_209 : decode cX6_tries 209 = .ok (.iload 7, 2) := dec_row aX6_tries_2 21 rfl
theorem dX6_tries_211 : decode cX6_tries 211 = .ok (.bipush (-4), 2) := dec_row aX6_tries_2 22 rfl
theorem dX6_tries_213 : decode cX6_tries 213 = .ok (.if_icmp .eq 22, 3) := dec_row aX6_tries_2 23 rfl
theorem dX6_tries_216 : decode cX6_tries 216 = .ok (.iload 4, 2) := dec_row aX6_tries_2 24 rfl
theorem dX6_tries_218 : decode cX6_tries 218 = .ok (.bipush (-4), 2) := dec_row aX6_tries_2 25 rfl
theorem dX6_tries_220 : decode cX6_tries 220 = .ok (.if_icmp .eq 10, 3) := dec_row aX6_tries_2 26 rfl
theorem dX6_tries_223 : decode cX6_tries 223 = .ok (.iload 7, 2) := dec_row aX6_tries_2 27 rfl
theorem dX6_tries_225 : decode cX6_tries 225 = .ok (.iload 4, 2) := dec_row aX6_tries_2 28 rfl
theorem dX6_tries_227 : decode cX6_tries 227 = .ok (.if_icmp .ge 8, 3) := dec_row aX6_tries_2 29 rfl
theorem dX6_tries_230 : decode cX6_tries 230 = .ok (.iload 7, 2) := dec_row aX6_tries_2 30 rfl
theorem dX6_tries_232 : decode cX6_tries 232 = .ok (.goto 5, 3) := dec_row aX6_tries_2 31 rfl
theorem dX6_tries_235 : decode cX6_tries 235 = .ok (.iload 4, 2) := dec_row aX6_tries_2 32 rfl
theorem dX6_tries_237 : decode cX6_tries 237 = .ok (.istore 4, 2) := dec_row aX6_tries_2 33 rfl
theorem dX6_tries_239 : decode cX6_tries 239 = .ok (.iload 7, 2) := dec_row aX6_tries_2 34 rfl
theorem dX6_tries_241 : decode cX6_tries 241 = .ok (.iload 5, 2) := dec_row aX6_tries_2 35 rfl
theorem dX6_tries_243 : decode cX6_tries 243 = .ok (.if_icmp .le 8, 3) := dec_row aX6_tries_2 36 rfl
theorem dX6_tries_246 : decode cX6_tries 246 = .ok (.iload 7, 2) := dec_row aX6_tries_2 37 rfl
theorem dX6_tries_248 : decode cX6_tries 248 = .ok (.goto 5, 3) := dec_row aX6_tries_2 38 rfl
theorem dX6_tries_251 : decode cX6_tries 251 = .ok (.iload 5, 2) := dec_row aX6_tries_2 39 rfl
theorem dX6_tries_253 : decode cX6_tries 253 = .ok (.istore 5, 2) := dec_row aX6_tries_2 40 rfl
theorem dX6_tries_255 : decode cX6_tries 255 = .ok (.iinc 6 1, 3) := dec_row aX6_tries_2 41 rfl
theorem dX6_tries_258 : decode cX6_tries 258 = .ok (.goto (-70), 3) := dec_row aX6_tries_2 42 rfl
theorem dX6_tries_261 : decode cX6_tries 261 = .ok (.aload_n 0, 1) := dec_row aX6_tries_2 43 rfl
theorem dX6_tries_262 : decode cX6_tries 262 = .ok (.getfield 31, 3) := dec_row aX6_tries_2 44 rfl
theorem dX6_tries_265 : decode cX6_tries 265 = .ok (.iconst 4, 1) := dec_row aX6_tries_2 45 rfl
theorem dX6_tries_266 : decode cX6_tries 266 = .ok (.iload 4, 2) := dec_row aX6_tries_2 46 rfl
theorem dX6_tries_268 : decode cX6_tries 268 = .ok (.bipush (-4), 2) := dec_row aX6_tries_2 47 rfl
theorem dX6_tries_270 : decode cX6_tries 270 = .ok (.if_icmp .ne 7, 3) := dec_row aX6_tries_2 48 rfl
theorem dX6_tries_273 : decode cX6_tries 273 = .ok (.iconst 0, 1) := dec_row aX6_tries_2 49 rfl
def tX6_tries_3 : List (Nat × Instr × Nat) := [(274, .goto 8, 3), (277, .iload 5, 2), (279, .iload 4, 2), (281, .isub, 1), (282, .iastore, 1), (283, .return_, 1)]
theorem aX6_tries_3 : tX6_tries_3.all (fun q => decide (decode cX6_tries q.1 = .ok q.2)) = true := by decide +kernel
theorem dX6_tries_274 : decode cX6_tries 274 = .ok (.goto 8, 3) := dec_row aX6_tries_3 0 rfl
theorem dX6_tries_277 : decode cX6_tries 277 = .ok (.iload 5, 2) := dec_row aX6_tries_3 1 rfl
theorem dX6_tries_279 : decode cX6_tries 279 = .ok (.iload 4, 2) := dec_row aX6_tries_3 2 rfl
theorem dX6_tries_281 : decode cX6_tries 281 = .ok (.isub, 1) := dec_row aX6_tries_3 3 rfl
theorem dX6_tries_282 : decode cX6_tries 282 = .ok (.iastore, 1) := dec_row aX6_tries_3 4 rfl
theorem dX6_tries_283 : decode cX6_tries 283 = .ok (.return_, 1) := dec_row aX6_tries_3 5 rfl
def tX6_told : List (Nat × Instr × Nat) := [(0, .iload_n 2, 1), (1, .bipush 6, 2), (3, .if_icmp .ne 50, 3), (6, .iconst 0, 1), (7, .istore_n 3, 1), (8, .iconst 0, 1), (9, .istore 4, 2), (11, .iload 4, 2), (13, .bipush 60, 2), (15, .if_icmp .ge 36, 3), (18, .aload_n 0, 1), (19, .iload_n 1, 1), (20, .bipush 6, 2), (22, .iadd, 1), (23, .iload 4, 2), (25, .iadd, 1), (26, .iaload, 1), (27, .iload_n 3, 1), (28, .if_icmp .le 15, 3), (31, .aload_n 0, 1), (32, .iload_n 1, 1), (33, .bipush 6, 2), (35, .iadd, 1), (36, .iload 4, 2), (38, .iadd, 1), (39, .iaload, 1), (40, .goto 4, 3), (43, .iload_n 3, 1), (44, .istore_n 3, 1), (45, .iinc 4 1, 3), (48, .goto (-37), 3), (51, .iload_n 3, 1), (52, .ireturn, 1), (53, .iload_n 2, 1), (54, .iconst 3, 1), (55, .if_icmp .ne 14, 3), (58, .bipush 99, 2), (60, .aload_n 0, 1), (61, .iload_n 1, 1), (62, .iconst 3, 1), (63, .iadd, 1), (64, .iaload, 1), (65, .isub, 1), (66, .goto 8, 3), (69, .aload_n 0, 1), (70, .iload_n 1, 1), (71, .iload_n 2, 1), (72, .iadd, 1), (73, .iaload, 1), (74, .ireturn, 1)]
theorem aX6_told : tX6_told.all (fun q => decide (decode cX6_told q.1 = .ok q.2)) = true := by decide +kernel
theorem dX6_told_0 : decode cX6_told 0 = .ok (.iload_n 2, 1) := dec_row aX6_told 0 rfl
theorem dX6_told_1 : decode cX6_told 1 = .ok (.bipush 6, 2) := dec_row aX6_told 1 rfl
theorem dX6_told_3 : decode cX6_told 3 = .ok (.if_icmp .ne 50, 3) := dec_row aX6_told 2 rfl
theorem dX6_told_6 : decode cX6_told 6 = .ok (.iconst 0, 1) := dec_row aX6_told 3 rfl
theorem dX6_told_7 : decode cX6_told 7 = .ok (.istore_n 3, 1) := dec_row aX6_told 4 rfl
theorem dX6_told_8 : decode cX6_told 8 = .ok (.iconst 0, 1) := dec_row aX6_told 5 rfl
theorem dX6_told_9 : decode cX6_told 9 = .ok (.istore 4, 2) := dec_row aX6_told 6 rfl
theorem dX6_told_11 : decode cX6_told 11 = .ok (.iload 4, 2) := dec_row aX6_told 7 rfl
theorem dX6_told_13 : decode cX6_told 13 = .ok (.bipush 60, 2) := dec_row aX6_told 8 rfl
theorem dX6_told_15 : decode cX6_told 15 = .ok (.if_icmp .ge 36, 3) := dec_row aX6_told 9 rfl
theorem dX6_told_18 : decode cX6_told 18 = .ok (.aload_n 0, 1) := dec_row aX6_told 10 rfl
theorem dX6_told_19 : decode cX6_told 19 = .ok (.iload_n 1, 1) := dec_row aX6_told 11 rfl
theorem dX6_told_20 : decode cX6_told 20 = .ok (.bipush 6, 2) := dec_row aX6_told 12 rfl
theorem dX6_told_22 : decode cX6_told 22 = .ok (.iadd, 1) := dec_row aX6_told 13 rfl
theorem dX6_told_23 : decode cX6_told 23 = .ok (.iload 4, 2) := dec_row aX6_told 14 rfl
theorem dX6_told_25 : decode cX6_told 25 = .ok (.iadd, 1) := dec_row aX6_told 15 rfl
theorem dX6_told_26 : decode cX6_told 26 = .ok (.iaload, 1) := dec_row aX6_told 16 rfl
theorem dX6_told_27 : decode cX6_told 27 = .ok (.iload_n 3, 1) := dec_row aX6_told 17 rfl
theorem dX6_told_28 : decode cX6_told 28 = .ok (.if_icmp .le 15, 3) := dec_row aX6_told 18 rfl
theorem dX6_told_31 : decode cX6_told 31 = .ok (.aload_n 0, 1) := dec_row aX6_told 19 rfl
theorem dX6_told_32 : decode cX6_told 32 = .ok (.iload_n 1, 1) := dec_row aX6_told 20 rfl
theorem dX6_told_33 : decode cX6_told 33 = .ok (.bipush 6, 2) := dec_row aX6_told 21 rfl
theorem dX6_told_35 : decode cX6_told 35 = .ok (.iadd, 1) := dec_row aX6_told 22 rfl
theorem dX6_told_36 : decode cX6_told 36 = .ok (.iload 4, 2) := dec_row aX6_told 23 rfl
theorem dX6_told_38 : decode cX6_told 38 = .ok (.iadd, 1) := dec_row aX6_told 24 rfl
theorem dX6_told_39 : decode cX6_told 39 = .ok (.iaload, 1) := dec_row aX6_told 25 rfl
theorem dX6_told_40 : decode cX6_told 40 = .ok (.goto 4, 3) := dec_row aX6_told 26 rfl
theorem dX6_told_43 : decode cX6_told 43 = .ok (.iload_n 3, 1) := dec_row aX6_told 27 rfl
theorem dX6_told_44 : decode cX6_told 44 = .ok (.istore_n 3, 1) := dec_row aX6_told 28 rfl
theorem dX6_told_45 : decode cX6_told 45 = .ok (.iinc 4 1, 3) := dec_row aX6_told 29 rfl
theorem dX6_told_48 : decode cX6_told 48 = .ok (.goto (-37), 3) := dec_row aX6_told 30 rfl
theorem dX6_told_51 : decode cX6_told 51 = .ok (.iload_n 3, 1) := dec_row aX6_told 31 rfl
theorem dX6_told_52 : decode cX6_told 52 = .ok (.ireturn, 1) := dec_row aX6_told 32 rfl
theorem dX6_told_53 : decode cX6_told 53 = .ok (.iload_n 2, 1) := dec_row aX6_told 33 rfl
theorem dX6_told_54 : decode cX6_told 54 = .ok (.iconst 3, 1) := dec_row aX6_told 34 rfl
theorem dX6_told_55 : decode cX6_told 55 = .ok (.if_icmp .ne 14, 3) := dec_row aX6_told 35 rfl
theorem dX6_told_58 : decode cX6_told 58 = .ok (.bipush 99, 2) := dec_row aX6_told 36 rfl
theorem dX6_told_60 : decode cX6_told 60 = .ok (.aload_n 0, 1) := dec_row aX6_told 37 rfl
theorem dX6_told_61 : decode cX6_told 61 = .ok (.iload_n 1, 1) := dec_row aX6_told 38 rfl
theorem dX6_told_62 : decode cX6_told 62 = .ok (.iconst 3, 1) := dec_row aX6_told 39 rfl
theorem dX6_told_63 : decode cX6_told 63 = .ok (.iadd, 1) := dec_row aX6_told 40 rfl
theorem dX6_told_64 : decode cX6_told 64 = .ok (.iaload, 1) := dec_row aX6_told 41 rfl
theorem dX6_told_65 : decode cX6_told 65 = .ok (.isub, 1) := dec_row aX6_told 42 rfl
theorem dX6_told_66 : decode cX6_told 66 = .ok (.goto 8, 3) := dec_row aX6_told 43 rfl
theorem dX6_told_69 : decode cX6_told 69 = .ok (.aload_n 0, 1) := dec_row aX6_told 44 rfl
theorem dX6_told_70 : decode cX6_told 70 = .ok (.iload_n 1, 1) := dec_row aX6_told 45 rfl
theorem dX6_told_71 : decode cX6_told 71 = .ok (.iload_n 2, 1) := dec_row aX6_told 46 rfl
theorem dX6_told_72 : decode cX6_told 72 = .ok (.iadd, 1) := dec_row aX6_told 47 rfl
theorem dX6_told_73 : decode cX6_told 73 = .ok (.iaload, 1) := dec_row aX6_told 48 rfl
theorem dX6_told_74 : decode cX6_told 74 = .ok (.ireturn, 1) := dec_row aX6_told 49 rfl
def tX6_keeps_0 : List (Nat × Instr × Nat) := [(0, .aload_n 0, 1), (1, .getfield 79, 3), (4, .iconst 4, 1), (5, .if_icmp .ne 44, 3), (8, .iconst 0, 1), (9, .istore_n 1, 1), (10, .iload_n 1, 1), (11, .sipush 3465, 3), (14, .if_icmp .ge 25, 3), (17, .aload_n 0, 1), (18, .getfield 28, 3), (21, .iload_n 1, 1), (22, .aload_n 0, 1), (23, .getfield 28, 3), (26, .iload_n 1, 1), (27, .sipush 1155, 3), (30, .iadd, 1), (31, .iaload, 1), (32, .iastore, 1), (33, .iinc 1 1, 3), (36, .goto (-26), 3), (39, .aload_n 0, 1), (40, .dup, 1), (41, .getfield 79, 3), (44, .iconst 1, 1), (45, .isub, 1), (46, .putfield 79, 3), (49, .iconst 0, 1), (50, .istore_n 1, 1), (51, .iload_n 1, 1), (52, .sipush 1155, 3), (55, .if_icmp .ge 30, 3), (58, .aload_n 0, 1), (59, .getfield 28, 3), (62, .sipush 1155, 3), (65, .aload_n 0, 1), (66, .getfield 79, 3), (69, .imul, 1), (70, .iload_n 1, 1), (71, .iadd, 1), (72, .aload_n 0, 1), (73, .getfield 25, 3), (76, .iload_n 1, 1), (77, .iaload, 1), (78, .iastore, 1), (79, .iinc 1 1, 3), (82, .goto (-31), 3), (85, .aload_n 0, 1), (86, .dup, 1), (87, .getfield 79, 3)]
theorem aX6_keeps_0 : tX6_keeps_0.all (fun q => decide (decode cX6_keeps q.1 = .ok q.2)) = true := by decide +kernel
theorem dX6_keeps_0 : decode cX6_keeps 0 = .ok (.aload_n 0, 1) := dec_row aX6_keeps_0 0 rfl
theorem dX6_keeps_1 : decode cX6_keeps 1 = .ok (.getfield 79, 3) := dec_row aX6_keeps_0 1 rfl
theorem dX6_keeps_4 : decode cX6_keeps 4 = .ok (.iconst 4, 1) := dec_row aX6_keeps_0 2 rfl
theorem dX6_keeps_5 : decode cX6_keeps 5 = .ok (.if_icmp .ne 44, 3) := dec_row aX6_keeps_0 3 rfl
theorem dX6_keeps_8 : decode cX6_keeps 8 = .ok (.iconst 0, 1) := dec_row aX6_keeps_0 4 rfl
theorem dX6_keeps_9 : decode cX6_keeps 9 = .ok (.istore_n 1, 1) := dec_row aX6_keeps_0 5 rfl
theorem dX6_keeps_10 : decode cX6_keeps 10 = .ok (.iload_n 1, 1) := dec_row aX6_keeps_0 6 rfl
theorem dX6_keeps_11 : decode cX6_keeps 11 = .ok (.sipush 3465, 3) := dec_row aX6_keeps_0 7 rfl
theorem dX6_keeps_14 : decode cX6_keeps 14 = .ok (.if_icmp .ge 25, 3) := dec_row aX6_keeps_0 8 rfl
theorem dX6_keeps_17 : decode cX6_keeps 17 = .ok (.aload_n 0, 1) := dec_row aX6_keeps_0 9 rfl
theorem dX6_keeps_18 : decode cX6_keeps 18 = .ok (.getfield 28, 3) := dec_row aX6_keeps_0 10 rfl
theorem dX6_keeps_21 : decode cX6_keeps 21 = .ok (.iload_n 1, 1) := dec_row aX6_keeps_0 11 rfl
theorem dX6_keeps_22 : decode cX6_keeps 22 = .ok (.aload_n 0, 1) := dec_row aX6_keeps_0 12 rfl
theorem dX6_keeps_23 : decode cX6_keeps 23 = .ok (.getfield 28, 3) := dec_row aX6_keeps_0 13 rfl
theorem dX6_keeps_26 : decode cX6_keeps 26 = .ok (.iload_n 1, 1) := dec_row aX6_keeps_0 14 rfl
theorem dX6_keeps_27 : decode cX6_keeps 27 = .ok (.sipush 1155, 3) := dec_row aX6_keeps_0 15 rfl
theorem dX6_keeps_30 : decode cX6_keeps 30 = .ok (.iadd, 1) := dec_row aX6_keeps_0 16 rfl
theorem dX6_keeps_31 : decode cX6_keeps 31 = .ok (.iaload, 1) := dec_row aX6_keeps_0 17 rfl
theorem dX6_keeps_32 : decode cX6_keeps 32 = .ok (.iastore, 1) := dec_row aX6_keeps_0 18 rfl
theorem dX6_keeps_33 : decode cX6_keeps 33 = .ok (.iinc 1 1, 3) := dec_row aX6_keeps_0 19 rfl
theorem dX6_keeps_36 : decode cX6_keeps 36 = .ok (.goto (-26), 3) := dec_row aX6_keeps_0 20 rfl
theorem dX6_keeps_39 : decode cX6_keeps 39 = .ok (.aload_n 0, 1) := dec_row aX6_keeps_0 21 rfl
theorem dX6_keeps_40 : decode cX6_keeps 40 = .ok (.dup, 1) := dec_row aX6_keeps_0 22 rfl
theorem dX6_keeps_41 : decode cX6_keeps 41 = .ok (.getfield 79, 3) := dec_row aX6_keeps_0 23 rfl
theorem dX6_keeps_44 : decode cX6_keeps 44 = .ok (.iconst 1, 1) := dec_row aX6_keeps_0 24 rfl
theorem dX6_keeps_45 : decode cX6_keeps 45 = .ok (.isub, 1) := dec_row aX6_keeps_0 25 rfl
theorem dX6_keeps_46 : decode cX6_keeps 46 = .ok (.putfield 79, 3) := dec_row aX6_keeps_0 26 rfl
theorem dX6_keeps_49 : decode cX6_keeps 49 = .ok (.iconst 0, 1) := dec_row aX6_keeps_0 27 rfl
theorem dX6_keeps_50 : decode cX6_keeps 50 = .ok (.istore_n 1, 1) := dec_row aX6_keeps_0 28 rfl
theorem dX6_keeps_51 : decode cX6_keeps 51 = .ok (.iload_n 1, 1) := dec_row aX6_keeps_0 29 rfl
theorem dX6_keeps_52 : decode cX6_keeps 52 = .ok (.sipush 1155, 3) := dec_row aX6_keeps_0 30 rfl
theorem dX6_keeps_55 : decode cX6_keeps 55 = .ok (.if_icmp .ge 30, 3) := dec_row aX6_keeps_0 31 rfl
theorem dX6_keeps_58 : decode cX6_keeps 58 = .ok (.aload_n 0, 1) := dec_row aX6_keeps_0 32 rfl
theorem dX6_keeps_59 : decode cX6_keeps 59 = .ok (.getfield 28, 3) := dec_row aX6_keeps_0 33 rfl
theorem dX6_keeps_62 : decode cX6_keeps 62 = .ok (.sipush 1155, 3) := dec_row aX6_keeps_0 34 rfl
theorem dX6_keeps_65 : decode cX6_keeps 65 = .ok (.aload_n 0, 1) := dec_row aX6_keeps_0 35 rfl
theorem dX6_keeps_66 : decode cX6_keeps 66 = .ok (.getfield 79, 3) := dec_row aX6_keeps_0 36 rfl
theorem dX6_keeps_69 : decode cX6_keeps 69 = .ok (.imul, 1) := dec_row aX6_keeps_0 37 rfl
theorem dX6_keeps_70 : decode cX6_keeps 70 = .ok (.iload_n 1, 1) := dec_row aX6_keeps_0 38 rfl
theorem dX6_keeps_71 : decode cX6_keeps 71 = .ok (.iadd, 1) := dec_row aX6_keeps_0 39 rfl
theorem dX6_keeps_72 : decode cX6_keeps 72 = .ok (.aload_n 0, 1) := dec_row aX6_keeps_0 40 rfl
theorem dX6_keeps_73 : decode cX6_keeps 73 = .ok (.getfield 25, 3) := dec_row aX6_keeps_0 41 rfl
theorem dX6_keeps_76 : decode cX6_keeps 76 = .ok (.iload_n 1, 1) := dec_row aX6_keeps_0 42 rfl
theorem dX6_keeps_77 : decode cX6_keeps 77 = .ok (.iaload, 1) := dec_row aX6_keeps_0 43 rfl
theorem dX6_keeps_78 : decode cX6_keeps 78 = .ok (.iastore, 1) := dec_row aX6_keeps_0 44 rfl
theorem dX6_keeps_79 : decode cX6_keeps 79 = .ok (.iinc 1 1, 3) := dec_row aX6_keeps_0 45 rfl
theorem dX6_keeps_82 : decode cX6_keeps 82 = .ok (.goto (-31), 3) := dec_row aX6_keeps_0 46 rfl
theorem dX6_keeps_85 : decode cX6_keeps 85 = .ok (.aload_n 0, 1) := dec_row aX6_keeps_0 47 rfl
theorem dX6_keeps_86 : decode cX6_keeps 86 = .ok (.dup, 1) := dec_row aX6_keeps_0 48 rfl
theorem dX6_keeps_87 : decode cX6_keeps 87 = .ok (.getfield 79, 3) := dec_row aX6_keeps_0 49 rfl
def tX6_keeps_1 : List (Nat × Instr × Nat) := [(90, .iconst 1, 1), (91, .iadd, 1), (92, .putfield 79, 3), (95, .return_, 1)]
theorem aX6_keeps_1 : tX6_keeps_1.all (fun q => decide (decode cX6_keeps q.1 = .ok q.2)) = true := by decide +kernel
theorem dX6_keeps_90 : decode cX6_keeps 90 = .ok (.iconst 1, 1) := dec_row aX6_keeps_1 0 rfl
theorem dX6_keeps_91 : decode cX6_keeps 91 = .ok (.iadd, 1) := dec_row aX6_keeps_1 1 rfl
theorem dX6_keeps_92 : decode cX6_keeps 92 = .ok (.putfield 79, 3) := dec_row aX6_keeps_1 2 rfl
theorem dX6_keeps_95 : decode cX6_keeps 95 = .ok (.return_, 1) := dec_row aX6_keeps_1 3 rfl
def tX6_undo : List (Nat × Instr × Nat) := [(0, .aload_n 0, 1), (1, .getfield 79, 3), (4, .ifCond .ne 6, 3), (7, .bipush (-2), 2), (9, .ireturn, 1), (10, .aload_n 0, 1), (11, .dup, 1), (12, .getfield 79, 3), (15, .iconst 1, 1), (16, .isub, 1), (17, .putfield 79, 3), (20, .iconst 0, 1), (21, .istore_n 1, 1), (22, .iload_n 1, 1), (23, .sipush 1155, 3), (26, .if_icmp .ge 30, 3), (29, .aload_n 0, 1), (30, .getfield 25, 3), (33, .iload_n 1, 1), (34, .aload_n 0, 1), (35, .getfield 28, 3), (38, .sipush 1155, 3), (41, .aload_n 0, 1), (42, .getfield 79, 3), (45, .imul, 1), (46, .iload_n 1, 1), (47, .iadd, 1), (48, .iaload, 1), (49, .iastore, 1), (50, .iinc 1 1, 3), (53, .goto (-31), 3), (56, .aload_n 0, 1), (57, .getfield 79, 3), (60, .ireturn, 1)]
theorem aX6_undo : tX6_undo.all (fun q => decide (decode cX6_undo q.1 = .ok q.2)) = true := by decide +kernel
theorem dX6_undo_0 : decode cX6_undo 0 = .ok (.aload_n 0, 1) := dec_row aX6_undo 0 rfl
theorem dX6_undo_1 : decode cX6_undo 1 = .ok (.getfield 79, 3) := dec_row aX6_undo 1 rfl
theorem dX6_undo_4 : decode cX6_undo 4 = .ok (.ifCond .ne 6, 3) := dec_row aX6_undo 2 rfl
theorem dX6_undo_7 : decode cX6_undo 7 = .ok (.bipush (-2), 2) := dec_row aX6_undo 3 rfl
theorem dX6_undo_9 : decode cX6_undo 9 = .ok (.ireturn, 1) := dec_row aX6_undo 4 rfl
theorem dX6_undo_10 : decode cX6_undo 10 = .ok (.aload_n 0, 1) := dec_row aX6_undo 5 rfl
theorem dX6_undo_11 : decode cX6_undo 11 = .ok (.dup, 1) := dec_row aX6_undo 6 rfl
theorem dX6_undo_12 : decode cX6_undo 12 = .ok (.getfield 79, 3) := dec_row aX6_undo 7 rfl
theorem dX6_undo_15 : decode cX6_undo 15 = .ok (.iconst 1, 1) := dec_row aX6_undo 8 rfl
theorem dX6_undo_16 : decode cX6_undo 16 = .ok (.isub, 1) := dec_row aX6_undo 9 rfl
theorem dX6_undo_17 : decode cX6_undo 17 = .ok (.putfield 79, 3) := dec_row aX6_undo 10 rfl
theorem dX6_undo_20 : decode cX6_undo 20 = .ok (.iconst 0, 1) := dec_row aX6_undo 11 rfl
theorem dX6_undo_21 : decode cX6_undo 21 = .ok (.istore_n 1, 1) := dec_row aX6_undo 12 rfl
theorem dX6_undo_22 : decode cX6_undo 22 = .ok (.iload_n 1, 1) := dec_row aX6_undo 13 rfl
theorem dX6_undo_23 : decode cX6_undo 23 = .ok (.sipush 1155, 3) := dec_row aX6_undo 14 rfl
theorem dX6_undo_26 : decode cX6_undo 26 = .ok (.if_icmp .ge 30, 3) := dec_row aX6_undo 15 rfl
theorem dX6_undo_29 : decode cX6_undo 29 = .ok (.aload_n 0, 1) := dec_row aX6_undo 16 rfl
theorem dX6_undo_30 : decode cX6_undo 30 = .ok (.getfield 25, 3) := dec_row aX6_undo 17 rfl
theorem dX6_undo_33 : decode cX6_undo 33 = .ok (.iload_n 1, 1) := dec_row aX6_undo 18 rfl
theorem dX6_undo_34 : decode cX6_undo 34 = .ok (.aload_n 0, 1) := dec_row aX6_undo 19 rfl
theorem dX6_undo_35 : decode cX6_undo 35 = .ok (.getfield 28, 3) := dec_row aX6_undo 20 rfl
theorem dX6_undo_38 : decode cX6_undo 38 = .ok (.sipush 1155, 3) := dec_row aX6_undo 21 rfl
theorem dX6_undo_41 : decode cX6_undo 41 = .ok (.aload_n 0, 1) := dec_row aX6_undo 22 rfl
theorem dX6_undo_42 : decode cX6_undo 42 = .ok (.getfield 79, 3) := dec_row aX6_undo 23 rfl
theorem dX6_undo_45 : decode cX6_undo 45 = .ok (.imul, 1) := dec_row aX6_undo 24 rfl
theorem dX6_undo_46 : decode cX6_undo 46 = .ok (.iload_n 1, 1) := dec_row aX6_undo 25 rfl
theorem dX6_undo_47 : decode cX6_undo 47 = .ok (.iadd, 1) := dec_row aX6_undo 26 rfl
theorem dX6_undo_48 : decode cX6_undo 48 = .ok (.iaload, 1) := dec_row aX6_undo 27 rfl
theorem dX6_undo_49 : decode cX6_undo 49 = .ok (.iastore, 1) := dec_row aX6_undo 28 rfl
theorem dX6_undo_50 : decode cX6_undo 50 = .ok (.iinc 1 1, 3) := dec_row aX6_undo 29 rfl
theorem dX6_undo_53 : decode cX6_undo 53 = .ok (.goto (-31), 3) := dec_row aX6_undo 30 rfl
theorem dX6_undo_56 : decode cX6_undo 56 = .ok (.aload_n 0, 1) := dec_row aX6_undo 31 rfl
theorem dX6_undo_57 : decode cX6_undo 57 = .ok (.getfield 79, 3) := dec_row aX6_undo 32 rfl
theorem dX6_undo_60 : decode cX6_undo 60 = .ok (.ireturn, 1) := dec_row aX6_undo 33 rfl
def tX6_becomes : List (Nat × Instr × Nat) := [(0, .aload_n 0, 1), (1, .getfield 25, 3), (4, .iload_n 1, 1), (5, .iaload, 1), (6, .istore_n 3, 1), (7, .iload_n 3, 1), (8, .iload_n 2, 1), (9, .if_icmp .ne 6, 3), (12, .bipush (-2), 2), (14, .ireturn, 1), (15, .aload_n 0, 1), (16, .invokevirtual 159, 3), (19, .aload_n 0, 1), (20, .getfield 25, 3), (23, .iload_n 1, 1), (24, .iload_n 2, 1), (25, .iastore, 1), (26, .iload_n 3, 1), (27, .ireturn, 1)]
theorem aX6_becomes : tX6_becomes.all (fun q => decide (decode cX6_becomes q.1 = .ok q.2)) = true := by decide +kernel
theorem dX6_becomes_0 : decode cX6_becomes 0 = .ok (.aload_n 0, 1) := dec_row aX6_becomes 0 rfl
theorem dX6_becomes_1 : decode cX6_becomes 1 = .ok (.getfield 25, 3) := dec_row aX6_becomes 1 rfl
theorem dX6_becomes_4 : decode cX6_becomes 4 = .ok (.iload_n 1, 1) := dec_row aX6_becomes 2 rfl
theorem dX6_becomes_5 : decode cX6_becomes 5 = .ok (.iaload, 1) := dec_row aX6_becomes 3 rfl
theorem dX6_becomes_6 : decode cX6_becomes 6 = .ok (.istore_n 3, 1) := dec_row aX6_becomes 4 rfl
theorem dX6_becomes_7 : decode cX6_becomes 7 = .ok (.iload_n 3, 1) := dec_row aX6_becomes 5 rfl
theorem dX6_becomes_8 : decode cX6_becomes 8 = .ok (.iload_n 2, 1) := dec_row aX6_becomes 6 rfl
theorem dX6_becomes_9 : decode cX6_becomes 9 = .ok (.if_icmp .ne 6, 3) := dec_row aX6_becomes 7 rfl
theorem dX6_becomes_12 : decode cX6_becomes 12 = .ok (.bipush (-2), 2) := dec_row aX6_becomes 8 rfl
theorem dX6_becomes_14 : decode cX6_becomes 14 = .ok (.ireturn, 1) := dec_row aX6_becomes 9 rfl
theorem dX6_becomes_15 : decode cX6_becomes 15 = .ok (.aload_n 0, 1) := dec_row aX6_becomes 10 rfl
theorem dX6_becomes_16 : decode cX6_becomes 16 = .ok (.invokevirtual 159, 3) := dec_row aX6_becomes 11 rfl
theorem dX6_becomes_19 : decode cX6_becomes 19 = .ok (.aload_n 0, 1) := dec_row aX6_becomes 12 rfl
theorem dX6_becomes_20 : decode cX6_becomes 20 = .ok (.getfield 25, 3) := dec_row aX6_becomes 13 rfl
theorem dX6_becomes_23 : decode cX6_becomes 23 = .ok (.iload_n 1, 1) := dec_row aX6_becomes 14 rfl
theorem dX6_becomes_24 : decode cX6_becomes 24 = .ok (.iload_n 2, 1) := dec_row aX6_becomes 15 rfl
theorem dX6_becomes_25 : decode cX6_becomes 25 = .ok (.iastore, 1) := dec_row aX6_becomes 16 rfl
theorem dX6_becomes_26 : decode cX6_becomes 26 = .ok (.iload_n 3, 1) := dec_row aX6_becomes 17 rfl
theorem dX6_becomes_27 : decode cX6_becomes 27 = .ok (.ireturn, 1) := dec_row aX6_becomes 18 rfl
def tX6_bits : List (Nat × Instr × Nat) := [(0, .iconst 0, 1), (1, .istore_n 1, 1), (2, .iconst 0, 1), (3, .istore_n 2, 1), (4, .iload_n 2, 1), (5, .iconst 4, 1), (6, .if_icmp .ge 17, 3), (9, .iload_n 1, 1), (10, .iload_n 0, 1), (11, .iload_n 2, 1), (12, .ishr, 1), (13, .iconst 1, 1), (14, .iand, 1), (15, .iadd, 1), (16, .istore_n 1, 1), (17, .iinc 2 1, 3), (20, .goto (-16), 3), (23, .iload_n 1, 1), (24, .ireturn, 1)]
theorem aX6_bits : tX6_bits.all (fun q => decide (decode cX6_bits q.1 = .ok q.2)) = true := by decide +kernel
theorem dX6_bits_0 : decode cX6_bits 0 = .ok (.iconst 0, 1) := dec_row aX6_bits 0 rfl
theorem dX6_bits_1 : decode cX6_bits 1 = .ok (.istore_n 1, 1) := dec_row aX6_bits 1 rfl
theorem dX6_bits_2 : decode cX6_bits 2 = .ok (.iconst 0, 1) := dec_row aX6_bits 2 rfl
theorem dX6_bits_3 : decode cX6_bits 3 = .ok (.istore_n 2, 1) := dec_row aX6_bits 3 rfl
theorem dX6_bits_4 : decode cX6_bits 4 = .ok (.iload_n 2, 1) := dec_row aX6_bits 4 rfl
theorem dX6_bits_5 : decode cX6_bits 5 = .ok (.iconst 4, 1) := dec_row aX6_bits 5 rfl
theorem dX6_bits_6 : decode cX6_bits 6 = .ok (.if_icmp .ge 17, 3) := dec_row aX6_bits 6 rfl
theorem dX6_bits_9 : decode cX6_bits 9 = .ok (.iload_n 1, 1) := dec_row aX6_bits 7 rfl
theorem dX6_bits_10 : decode cX6_bits 10 = .ok (.iload_n 0, 1) := dec_row aX6_bits 8 rfl
theorem dX6_bits_11 : decode cX6_bits 11 = .ok (.iload_n 2, 1) := dec_row aX6_bits 9 rfl
theorem dX6_bits_12 : decode cX6_bits 12 = .ok (.ishr, 1) := dec_row aX6_bits 10 rfl
theorem dX6_bits_13 : decode cX6_bits 13 = .ok (.iconst 1, 1) := dec_row aX6_bits 11 rfl
theorem dX6_bits_14 : decode cX6_bits 14 = .ok (.iand, 1) := dec_row aX6_bits 12 rfl
theorem dX6_bits_15 : decode cX6_bits 15 = .ok (.iadd, 1) := dec_row aX6_bits 13 rfl
theorem dX6_bits_16 : decode cX6_bits 16 = .ok (.istore_n 1, 1) := dec_row aX6_bits 14 rfl
theorem dX6_bits_17 : decode cX6_bits 17 = .ok (.iinc 2 1, 3) := dec_row aX6_bits 15 rfl
theorem dX6_bits_20 : decode cX6_bits 20 = .ok (.goto (-16), 3) := dec_row aX6_bits 16 rfl
theorem dX6_bits_23 : decode cX6_bits 23 = .ok (.iload_n 1, 1) := dec_row aX6_bits 17 rfl
theorem dX6_bits_24 : decode cX6_bits 24 = .ok (.ireturn, 1) := dec_row aX6_bits 18 rfl
def tX6_isCore : List (Nat × Instr × Nat) := [(0, .iload_n 1, 1), (1, .iconst 0, 1), (2, .aload_n 0, 1), (3, .getfield 73, 3), (6, .iconst 1, 1), (7, .isub, 1), (8, .invokestatic 95, 3), (11, .ireturn, 1)]
theorem aX6_isCore : tX6_isCore.all (fun q => decide (decode cX6_isCore q.1 = .ok q.2)) = true := by decide +kernel
theorem dX6_isCore_0 : decode cX6_isCore 0 = .ok (.iload_n 1, 1) := dec_row aX6_isCore 0 rfl
theorem dX6_isCore_1 : decode cX6_isCore 1 = .ok (.iconst 0, 1) := dec_row aX6_isCore 1 rfl
theorem dX6_isCore_2 : decode cX6_isCore 2 = .ok (.aload_n 0, 1) := dec_row aX6_isCore 2 rfl
theorem dX6_isCore_3 : decode cX6_isCore 3 = .ok (.getfield 73, 3) := dec_row aX6_isCore 3 rfl
theorem dX6_isCore_6 : decode cX6_isCore 6 = .ok (.iconst 1, 1) := dec_row aX6_isCore 4 rfl
theorem dX6_isCore_7 : decode cX6_isCore 7 = .ok (.isub, 1) := dec_row aX6_isCore 5 rfl
theorem dX6_isCore_8 : decode cX6_isCore 8 = .ok (.invokestatic 95, 3) := dec_row aX6_isCore 6 rfl
theorem dX6_isCore_11 : decode cX6_isCore 11 = .ok (.ireturn, 1) := dec_row aX6_isCore 7 rfl
def tX6_isCavity : List (Nat × Instr × Nat) := [(0, .iload_n 1, 1), (1, .iconst 0, 1), (2, .aload_n 0, 1), (3, .getfield 70, 3), (6, .iconst 1, 1), (7, .isub, 1), (8, .invokestatic 95, 3), (11, .ireturn, 1)]
theorem aX6_isCavity : tX6_isCavity.all (fun q => decide (decode cX6_isCavity q.1 = .ok q.2)) = true := by decide +kernel
theorem dX6_isCavity_0 : decode cX6_isCavity 0 = .ok (.iload_n 1, 1) := dec_row aX6_isCavity 0 rfl
theorem dX6_isCavity_1 : decode cX6_isCavity 1 = .ok (.iconst 0, 1) := dec_row aX6_isCavity 1 rfl
theorem dX6_isCavity_2 : decode cX6_isCavity 2 = .ok (.aload_n 0, 1) := dec_row aX6_isCavity 2 rfl
theorem dX6_isCavity_3 : decode cX6_isCavity 3 = .ok (.getfield 70, 3) := dec_row aX6_isCavity 3 rfl
theorem dX6_isCavity_6 : decode cX6_isCavity 6 = .ok (.iconst 1, 1) := dec_row aX6_isCavity 4 rfl
theorem dX6_isCavity_7 : decode cX6_isCavity 7 = .ok (.isub, 1) := dec_row aX6_isCavity 5 rfl
theorem dX6_isCavity_8 : decode cX6_isCavity 8 = .ok (.invokestatic 95, 3) := dec_row aX6_isCavity 6 rfl
theorem dX6_isCavity_11 : decode cX6_isCavity 11 = .ok (.ireturn, 1) := dec_row aX6_isCavity 7 rfl
def tX6_isShot : List (Nat × Instr × Nat) := [(0, .iload_n 1, 1), (1, .iconst 0, 1), (2, .aload_n 0, 1), (3, .getfield 25, 3), (6, .sipush 1008, 3), (9, .iaload, 1), (10, .iconst 1, 1), (11, .isub, 1), (12, .invokestatic 95, 3), (15, .ireturn, 1)]
theorem aX6_isShot : tX6_isShot.all (fun q => decide (decode cX6_isShot q.1 = .ok q.2)) = true := by decide +kernel
theorem dX6_isShot_0 : decode cX6_isShot 0 = .ok (.iload_n 1, 1) := dec_row aX6_isShot 0 rfl
theorem dX6_isShot_1 : decode cX6_isShot 1 = .ok (.iconst 0, 1) := dec_row aX6_isShot 1 rfl
theorem dX6_isShot_2 : decode cX6_isShot 2 = .ok (.aload_n 0, 1) := dec_row aX6_isShot 2 rfl
theorem dX6_isShot_3 : decode cX6_isShot 3 = .ok (.getfield 25, 3) := dec_row aX6_isShot 3 rfl
theorem dX6_isShot_6 : decode cX6_isShot 6 = .ok (.sipush 1008, 3) := dec_row aX6_isShot 4 rfl
theorem dX6_isShot_9 : decode cX6_isShot 9 = .ok (.iaload, 1) := dec_row aX6_isShot 5 rfl
theorem dX6_isShot_10 : decode cX6_isShot 10 = .ok (.iconst 1, 1) := dec_row aX6_isShot 6 rfl
theorem dX6_isShot_11 : decode cX6_isShot 11 = .ok (.isub, 1) := dec_row aX6_isShot 7 rfl
theorem dX6_isShot_12 : decode cX6_isShot 12 = .ok (.invokestatic 95, 3) := dec_row aX6_isShot 8 rfl
theorem dX6_isShot_15 : decode cX6_isShot 15 = .ok (.ireturn, 1) := dec_row aX6_isShot 9 rfl
def tX6_mould_0 : List (Nat × Instr × Nat) := [(0, .iload_n 1, 1), (1, .iconst 0, 1), (2, .iconst 1, 1), (3, .invokestatic 95, 3), (6, .ifCond .ne 5, 3), (9, .iconst (-1), 1), (10, .ireturn, 1), (11, .aload_n 0, 1), (12, .getfield 25, 3), (15, .sipush 1010, 3), (18, .iaload, 1), (19, .iload_n 1, 1), (20, .if_icmp .eq 30, 3), (23, .iload_n 1, 1), (24, .ifCond .ne 29, 3), (27, .aload_n 0, 1), (28, .getfield 25, 3), (31, .sipush 1011, 3), (34, .iaload, 1), (35, .ifCond .ne 15, 3), (38, .aload_n 0, 1), (39, .getfield 25, 3), (42, .sipush 1013, 3), (45, .iaload, 1), (46, .iconst 1, 1), (47, .if_icmp .ne 6, 3), (50, .bipush (-2), 2), (52, .ireturn, 1), (53, .aload_n 0, 1), (54, .invokevirtual 159, 3), (57, .aload_n 0, 1), (58, .getfield 25, 3), (61, .sipush 1010, 3), (64, .iload_n 1, 1), (65, .iastore, 1), (66, .iload_n 1, 1), (67, .ifCond .ne 14, 3), (70, .aload_n 0, 1), (71, .getfield 25, 3), (74, .sipush 1012, 3), (77, .iaload, 1), (78, .goto 4, 3), (81, .iconst 0, 1), (82, .istore_n 2, 1), (83, .aload_n 0, 1), (84, .getfield 25, 3), (87, .sipush 1012, 3), (90, .iload_n 1, 1), (91, .ifCond .ne 7, 3), (94, .iconst 0, 1)]
theorem aX6_mould_0 : tX6_mould_0.all (fun q => decide (decode cX6_mould q.1 = .ok q.2)) = true := by decide +kernel
theorem dX6_mould_0 : decode cX6_mould 0 = .ok (.iload_n 1, 1) := dec_row aX6_mould_0 0 rfl
theorem dX6_mould_1 : decode cX6_mould 1 = .ok (.iconst 0, 1) := dec_row aX6_mould_0 1 rfl
theorem dX6_mould_2 : decode cX6_mould 2 = .ok (.iconst 1, 1) := dec_row aX6_mould_0 2 rfl
theorem dX6_mould_3 : decode cX6_mould 3 = .ok (.invokestatic 95, 3) := dec_row aX6_mould_0 3 rfl
theorem dX6_mould_6 : decode cX6_mould 6 = .ok (.ifCond .ne 5, 3) := dec_row aX6_mould_0 4 rfl
theorem dX6_mould_9 : decode cX6_mould 9 = .ok (.iconst (-1), 1) := dec_row aX6_mould_0 5 rfl
theorem dX6_mould_10 : decode cX6_mould 10 = .ok (.ireturn, 1) := dec_row aX6_mould_0 6 rfl
theorem dX6_mould_11 : decode cX6_mould 11 = .ok (.aload_n 0, 1) := dec_row aX6_mould_0 7 rfl
theorem dX6_mould_12 : decode cX6_mould 12 = .ok (.getfield 25, 3) := dec_row aX6_mould_0 8 rfl
theorem dX6_mould_15 : decode cX6_mould 15 = .ok (.sipush 1010, 3) := dec_row aX6_mould_0 9 rfl
theorem dX6_mould_18 : decode cX6_mould 18 = .ok (.iaload, 1) := dec_row aX6_mould_0 10 rfl
theorem dX6_mould_19 : decode cX6_mould 19 = .ok (.iload_n 1, 1) := dec_row aX6_mould_0 11 rfl
theorem dX6_mould_20 : decode cX6_mould 20 = .ok (.if_icmp .eq 30, 3) := dec_row aX6_mould_0 12 rfl
theorem dX6_mould_23 : decode cX6_mould 23 = .ok (.iload_n 1, 1) := dec_row aX6_mould_0 13 rfl
theorem dX6_mould_24 : decode cX6_mould 24 = .ok (.ifCond .ne 29, 3) := dec_row aX6_mould_0 14 rfl
theorem dX6_mould_27 : decode cX6_mould 27 = .ok (.aload_n 0, 1) := dec_row aX6_mould_0 15 rfl
theorem dX6_mould_28 : decode cX6_mould 28 = .ok (.getfield 25, 3) := dec_row aX6_mould_0 16 rfl
theorem dX6_mould_31 : decode cX6_mould 31 = .ok (.sipush 1011, 3) := dec_row aX6_mould_0 17 rfl
theorem dX6_mould_34 : decode cX6_mould 34 = .ok (.iaload, 1) := dec_row aX6_mould_0 18 rfl
theorem dX6_mould_35 : decode cX6_mould 35 = .ok (.ifCond .ne 15, 3) := dec_row aX6_mould_0 19 rfl
theorem dX6_mould_38 : decode cX6_mould 38 = .ok (.aload_n 0, 1) := dec_row aX6_mould_0 20 rfl
theorem dX6_mould_39 : decode cX6_mould 39 = .ok (.getfield 25, 3) := dec_row aX6_mould_0 21 rfl
theorem dX6_mould_42 : decode cX6_mould 42 = .ok (.sipush 1013, 3) := dec_row aX6_mould_0 22 rfl
theorem dX6_mould_45 : decode cX6_mould 45 = .ok (.iaload, 1) := dec_row aX6_mould_0 23 rfl
theorem dX6_mould_46 : decode cX6_mould 46 = .ok (.iconst 1, 1) := dec_row aX6_mould_0 24 rfl
theorem dX6_mould_47 : decode cX6_mould 47 = .ok (.if_icmp .ne 6, 3) := dec_row aX6_mould_0 25 rfl
theorem dX6_mould_50 : decode cX6_mould 50 = .ok (.bipush (-2), 2) := dec_row aX6_mould_0 26 rfl
theorem dX6_mould_52 : decode cX6_mould 52 = .ok (.ireturn, 1) := dec_row aX6_mould_0 27 rfl
theorem dX6_mould_53 : decode cX6_mould 53 = .ok (.aload_n 0, 1) := dec_row aX6_mould_0 28 rfl
theorem dX6_mould_54 : decode cX6_mould 54 = .ok (.invokevirtual 159, 3) := dec_row aX6_mould_0 29 rfl
theorem dX6_mould_57 : decode cX6_mould 57 = .ok (.aload_n 0, 1) := dec_row aX6_mould_0 30 rfl
theorem dX6_mould_58 : decode cX6_mould 58 = .ok (.getfield 25, 3) := dec_row aX6_mould_0 31 rfl
theorem dX6_mould_61 : decode cX6_mould 61 = .ok (.sipush 1010, 3) := dec_row aX6_mould_0 32 rfl
theorem dX6_mould_64 : decode cX6_mould 64 = .ok (.iload_n 1, 1) := dec_row aX6_mould_0 33 rfl
theorem dX6_mould_65 : decode cX6_mould 65 = .ok (.iastore, 1) := dec_row aX6_mould_0 34 rfl
theorem dX6_mould_66 : decode cX6_mould 66 = .ok (.iload_n 1, 1) := dec_row aX6_mould_0 35 rfl
theorem dX6_mould_67 : decode cX6_mould 67 = .ok (.ifCond .ne 14, 3) := dec_row aX6_mould_0 36 rfl
theorem dX6_mould_70 : decode cX6_mould 70 = .ok (.aload_n 0, 1) := dec_row aX6_mould_0 37 rfl
theorem dX6_mould_71 : decode cX6_mould 71 = .ok (.getfield 25, 3) := dec_row aX6_mould_0 38 rfl
theorem dX6_mould_74 : decode cX6_mould 74 = .ok (.sipush 1012, 3) := dec_row aX6_mould_0 39 rfl
theorem dX6_mould_77 : decode cX6_mould 77 = .ok (.iaload, 1) := dec_row aX6_mould_0 40 rfl
theorem dX6_mould_78 : decode cX6_mould 78 = .ok (.goto 4, 3) := dec_row aX6_mould_0 41 rfl
theorem dX6_mould_81 : decode cX6_mould 81 = .ok (.iconst 0, 1) := dec_row aX6_mould_0 42 rfl
theorem dX6_mould_82 : decode cX6_mould 82 = .ok (.istore_n 2, 1) := dec_row aX6_mould_0 43 rfl
theorem dX6_mould_83 : decode cX6_mould 83 = .ok (.aload_n 0, 1) := dec_row aX6_mould_0 44 rfl
theorem dX6_mould_84 : decode cX6_mould 84 = .ok (.getfield 25, 3) := dec_row aX6_mould_0 45 rfl
theorem dX6_mould_87 : decode cX6_mould 87 = .ok (.sipush 1012, 3) := dec_row aX6_mould_0 46 rfl
theorem dX6_mould_90 : decode cX6_mould 90 = .ok (.iload_n 1, 1) := dec_row aX6_mould_0 47 rfl
theorem dX6_mould_91 : decode cX6_mould 91 = .ok (.ifCond .ne 7, 3) := dec_row aX6_mould_0 48 rfl
theorem dX6_mould_94 : decode cX6_mould 94 = .ok (.iconst 0, 1) := dec_row aX6_mould_0 49 rfl
def tX6_mould_1 : List (Nat × Instr × Nat) := [(95, .goto 11, 3), (98, .aload_n 0, 1), (99, .getfield 25, 3), (102, .sipush 1012, 3), (105, .iaload, 1), (106, .iastore, 1), (107, .iload_n 2, 1), (108, .ireturn, 1)]
theorem aX6_mould_1 : tX6_mould_1.all (fun q => decide (decode cX6_mould q.1 = .ok q.2)) = true := by decide +kernel
theorem dX6_mould_95 : decode cX6_mould 95 = .ok (.goto 11, 3) := dec_row aX6_mould_1 0 rfl
theorem dX6_mould_98 : decode cX6_mould 98 = .ok (.aload_n 0, 1) := dec_row aX6_mould_1 1 rfl
theorem dX6_mould_99 : decode cX6_mould 99 = .ok (.getfield 25, 3) := dec_row aX6_mould_1 2 rfl
theorem dX6_mould_102 : decode cX6_mould 102 = .ok (.sipush 1012, 3) := dec_row aX6_mould_1 3 rfl
theorem dX6_mould_105 : decode cX6_mould 105 = .ok (.iaload, 1) := dec_row aX6_mould_1 4 rfl
theorem dX6_mould_106 : decode cX6_mould 106 = .ok (.iastore, 1) := dec_row aX6_mould_1 5 rfl
theorem dX6_mould_107 : decode cX6_mould 107 = .ok (.iload_n 2, 1) := dec_row aX6_mould_1 6 rfl
theorem dX6_mould_108 : decode cX6_mould 108 = .ok (.ireturn, 1) := dec_row aX6_mould_1 7 rfl
def tX6_against1_0 : List (Nat × Instr × Nat) := [(0, .aload_n 0, 1), (1, .getfield 25, 3), (4, .sipush 1011, 3), (7, .iaload, 1), (8, .iload_n 1, 1), (9, .ishr, 1), (10, .iconst 1, 1), (11, .iand, 1), (12, .iload_n 2, 1), (13, .if_icmp .ne 5, 3), (16, .iconst 1, 1), (17, .ireturn, 1), (18, .aload_n 0, 1), (19, .getfield 25, 3), (22, .sipush 1010, 3), (25, .iaload, 1), (26, .ifCond .ne 5, 3), (29, .iconst 2, 1), (30, .ireturn, 1), (31, .iload_n 2, 1), (32, .iconst 1, 1), (33, .if_icmp .ne 18, 3), (36, .aload_n 0, 1), (37, .getfield 25, 3), (40, .sipush 1012, 3), (43, .iaload, 1), (44, .iconst 1, 1), (45, .if_icmp .ne 20, 3), (48, .goto 15, 3), (51, .aload_n 0, 1), (52, .getfield 25, 3), (55, .sipush 1013, 3), (58, .iaload, 1), (59, .iconst 1, 1), (60, .if_icmp .ne 5, 3), (63, .iconst 3, 1), (64, .ireturn, 1), (65, .iload_n 2, 1), (66, .iconst 1, 1), (67, .if_icmp .ne 47, 3), (70, .aload_n 0, 1), (71, .getfield 19, 3), (74, .iload_n 1, 1), (75, .iaload, 1), (76, .bipush (-4), 2), (78, .if_icmp .eq 34, 3), (81, .aload_n 0, 1), (82, .getfield 25, 3), (85, .sipush 1011, 3), (88, .iaload, 1)]
theorem aX6_against1_0 : tX6_against1_0.all (fun q => decide (decode cX6_against1 q.1 = .ok q.2)) = true := by decide +kernel
theorem dX6_against1_0 : decode cX6_against1 0 = .ok (.aload_n 0, 1) := dec_row aX6_against1_0 0 rfl
theorem dX6_against1_1 : decode cX6_against1 1 = .ok (.getfield 25, 3) := dec_row aX6_against1_0 1 rfl
theorem dX6_against1_4 : decode cX6_against1 4 = .ok (.sipush 1011, 3) := dec_row aX6_against1_0 2 rfl
theorem dX6_against1_7 : decode cX6_against1 7 = .ok (.iaload, 1) := dec_row aX6_against1_0 3 rfl
theorem dX6_against1_8 : decode cX6_against1 8 = .ok (.iload_n 1, 1) := dec_row aX6_against1_0 4 rfl
theorem dX6_against1_9 : decode cX6_against1 9 = .ok (.ishr, 1) := dec_row aX6_against1_0 5 rfl
theorem dX6_against1_10 : decode cX6_against1 10 = .ok (.iconst 1, 1) := dec_row aX6_against1_0 6 rfl
theorem dX6_against1_11 : decode cX6_against1 11 = .ok (.iand, 1) := dec_row aX6_against1_0 7 rfl
theorem dX6_against1_12 : decode cX6_against1 12 = .ok (.iload_n 2, 1) := dec_row aX6_against1_0 8 rfl
theorem dX6_against1_13 : decode cX6_against1 13 = .ok (.if_icmp .ne 5, 3) := dec_row aX6_against1_0 9 rfl
theorem dX6_against1_16 : decode cX6_against1 16 = .ok (.iconst 1, 1) := dec_row aX6_against1_0 10 rfl
theorem dX6_against1_17 : decode cX6_against1 17 = .ok (.ireturn, 1) := dec_row aX6_against1_0 11 rfl
theorem dX6_against1_18 : decode cX6_against1 18 = .ok (.aload_n 0, 1) := dec_row aX6_against1_0 12 rfl
theorem dX6_against1_19 : decode cX6_against1 19 = .ok (.getfield 25, 3) := dec_row aX6_against1_0 13 rfl
theorem dX6_against1_22 : decode cX6_against1 22 = .ok (.sipush 1010, 3) := dec_row aX6_against1_0 14 rfl
theorem dX6_against1_25 : decode cX6_against1 25 = .ok (.iaload, 1) := dec_row aX6_against1_0 15 rfl
theorem dX6_against1_26 : decode cX6_against1 26 = .ok (.ifCond .ne 5, 3) := dec_row aX6_against1_0 16 rfl
theorem dX6_against1_29 : decode cX6_against1 29 = .ok (.iconst 2, 1) := dec_row aX6_against1_0 17 rfl
theorem dX6_against1_30 : decode cX6_against1 30 = .ok (.ireturn, 1) := dec_row aX6_against1_0 18 rfl
theorem dX6_against1_31 : decode cX6_against1 31 = .ok (.iload_n 2, 1) := dec_row aX6_against1_0 19 rfl
theorem dX6_against1_32 : decode cX6_against1 32 = .ok (.iconst 1, 1) := dec_row aX6_against1_0 20 rfl
theorem dX6_against1_33 : decode cX6_against1 33 = .ok (.if_icmp .ne 18, 3) := dec_row aX6_against1_0 21 rfl
theorem dX6_against1_36 : decode cX6_against1 36 = .ok (.aload_n 0, 1) := dec_row aX6_against1_0 22 rfl
theorem dX6_against1_37 : decode cX6_against1 37 = .ok (.getfield 25, 3) := dec_row aX6_against1_0 23 rfl
theorem dX6_against1_40 : decode cX6_against1 40 = .ok (.sipush 1012, 3) := dec_row aX6_against1_0 24 rfl
theorem dX6_against1_43 : decode cX6_against1 43 = .ok (.iaload, 1) := dec_row aX6_against1_0 25 rfl
theorem dX6_against1_44 : decode cX6_against1 44 = .ok (.iconst 1, 1) := dec_row aX6_against1_0 26 rfl
theorem dX6_against1_45 : decode cX6_against1 45 = .ok (.if_icmp .ne 20, 3) := dec_row aX6_against1_0 27 rfl
theorem dX6_against1_48 : decode cX6_against1 48 = .ok (.goto 15, 3) := dec_row aX6_against1_0 28 rfl
theorem dX6_against1_51 : decode cX6_against1 51 = .ok (.aload_n 0, 1) := dec_row aX6_against1_0 29 rfl
theorem dX6_against1_52 : decode cX6_against1 52 = .ok (.getfield 25, 3) := dec_row aX6_against1_0 30 rfl
theorem dX6_against1_55 : decode cX6_against1 55 = .ok (.sipush 1013, 3) := dec_row aX6_against1_0 31 rfl
theorem dX6_against1_58 : decode cX6_against1 58 = .ok (.iaload, 1) := dec_row aX6_against1_0 32 rfl
theorem dX6_against1_59 : decode cX6_against1 59 = .ok (.iconst 1, 1) := dec_row aX6_against1_0 33 rfl
theorem dX6_against1_60 : decode cX6_against1 60 = .ok (.if_icmp .ne 5, 3) := dec_row aX6_against1_0 34 rfl
theorem dX6_against1_63 : decode cX6_against1 63 = .ok (.iconst 3, 1) := dec_row aX6_against1_0 35 rfl
theorem dX6_against1_64 : decode cX6_against1 64 = .ok (.ireturn, 1) := dec_row aX6_against1_0 36 rfl
theorem dX6_against1_65 : decode cX6_against1 65 = .ok (.iload_n 2, 1) := dec_row aX6_against1_0 37 rfl
theorem dX6_against1_66 : decode cX6_against1 66 = .ok (.iconst 1, 1) := dec_row aX6_against1_0 38 rfl
theorem dX6_against1_67 : decode cX6_against1 67 = .ok (.if_icmp .ne 47, 3) := dec_row aX6_against1_0 39 rfl
theorem dX6_against1_70 : decode cX6_against1 70 = .ok (.aload_n 0, 1) := dec_row aX6_against1_0 40 rfl
theorem dX6_against1_71 : decode cX6_against1 71 = .ok (.getfield 19, 3) := dec_row aX6_against1_0 41 rfl
theorem dX6_against1_74 : decode cX6_against1 74 = .ok (.iload_n 1, 1) := dec_row aX6_against1_0 42 rfl
theorem dX6_against1_75 : decode cX6_against1 75 = .ok (.iaload, 1) := dec_row aX6_against1_0 43 rfl
theorem dX6_against1_76 : decode cX6_against1 76 = .ok (.bipush (-4), 2) := dec_row aX6_against1_0 44 rfl
theorem dX6_against1_78 : decode cX6_against1 78 = .ok (.if_icmp .eq 34, 3) := dec_row aX6_against1_0 45 rfl
theorem dX6_against1_81 : decode cX6_against1 81 = .ok (.aload_n 0, 1) := dec_row aX6_against1_0 46 rfl
theorem dX6_against1_82 : decode cX6_against1 82 = .ok (.getfield 25, 3) := dec_row aX6_against1_0 47 rfl
theorem dX6_against1_85 : decode cX6_against1 85 = .ok (.sipush 1011, 3) := dec_row aX6_against1_0 48 rfl
theorem dX6_against1_88 : decode cX6_against1 88 = .ok (.iaload, 1) := dec_row aX6_against1_0 49 rfl
def tX6_against1_1 : List (Nat × Instr × Nat) := [(89, .aload_n 0, 1), (90, .getfield 19, 3), (93, .iload_n 1, 1), (94, .iaload, 1), (95, .ishr, 1), (96, .iconst 1, 1), (97, .iand, 1), (98, .ifCond .ne 14, 3), (101, .iconst 4, 1), (102, .aload_n 0, 1), (103, .getfield 19, 3), (106, .iload_n 1, 1), (107, .iaload, 1), (108, .iadd, 1), (109, .goto 4, 3), (112, .iconst 0, 1), (113, .ireturn, 1), (114, .iconst 0, 1), (115, .istore_n 3, 1), (116, .iload_n 3, 1), (117, .aload_n 0, 1), (118, .getfield 73, 3), (121, .if_icmp .ge 39, 3), (124, .aload_n 0, 1), (125, .getfield 19, 3), (128, .iload_n 3, 1), (129, .iaload, 1), (130, .iload_n 1, 1), (131, .if_icmp .ne 23, 3), (134, .aload_n 0, 1), (135, .getfield 25, 3), (138, .sipush 1011, 3), (141, .iaload, 1), (142, .iload_n 3, 1), (143, .ishr, 1), (144, .iconst 1, 1), (145, .iand, 1), (146, .iconst 1, 1), (147, .if_icmp .ne 7, 3), (150, .iconst 4, 1), (151, .iload_n 3, 1), (152, .iadd, 1), (153, .ireturn, 1), (154, .iinc 3 1, 3), (157, .goto (-41), 3), (160, .iconst 0, 1), (161, .ireturn, 1)]
theorem aX6_against1_1 : tX6_against1_1.all (fun q => decide (decode cX6_against1 q.1 = .ok q.2)) = true := by decide +kernel
theorem dX6_against1_89 : decode cX6_against1 89 = .ok (.aload_n 0, 1) := dec_row aX6_against1_1 0 rfl
theorem dX6_against1_90 : decode cX6_against1 90 = .ok (.getfield 19, 3) := dec_row aX6_against1_1 1 rfl
theorem dX6_against1_93 : decode cX6_against1 93 = .ok (.iload_n 1, 1) := dec_row aX6_against1_1 2 rfl
theorem dX6_against1_94 : decode cX6_against1 94 = .ok (.iaload, 1) := dec_row aX6_against1_1 3 rfl
theorem dX6_against1_95 : decode cX6_against1 95 = .ok (.ishr, 1) := dec_row aX6_against1_1 4 rfl
theorem dX6_against1_96 : decode cX6_against1 96 = .ok (.iconst 1, 1) := dec_row aX6_against1_1 5 rfl
theorem dX6_against1_97 : decode cX6_against1 97 = .ok (.iand, 1) := dec_row aX6_against1_1 6 rfl
theorem dX6_against1_98 : decode cX6_against1 98 = .ok (.ifCond .ne 14, 3) := dec_row aX6_against1_1 7 rfl
theorem dX6_against1_101 : decode cX6_against1 101 = .ok (.iconst 4, 1) := dec_row aX6_against1_1 8 rfl
theorem dX6_against1_102 : decode cX6_against1 102 = .ok (.aload_n 0, 1) := dec_row aX6_against1_1 9 rfl
theorem dX6_against1_103 : decode cX6_against1 103 = .ok (.getfield 19, 3) := dec_row aX6_against1_1 10 rfl
theorem dX6_against1_106 : decode cX6_against1 106 = .ok (.iload_n 1, 1) := dec_row aX6_against1_1 11 rfl
theorem dX6_against1_107 : decode cX6_against1 107 = .ok (.iaload, 1) := dec_row aX6_against1_1 12 rfl
theorem dX6_against1_108 : decode cX6_against1 108 = .ok (.iadd, 1) := dec_row aX6_against1_1 13 rfl
theorem dX6_against1_109 : decode cX6_against1 109 = .ok (.goto 4, 3) := dec_row aX6_against1_1 14 rfl
theorem dX6_against1_112 : decode cX6_against1 112 = .ok (.iconst 0, 1) := dec_row aX6_against1_1 15 rfl
theorem dX6_against1_113 : decode cX6_against1 113 = .ok (.ireturn, 1) := dec_row aX6_against1_1 16 rfl
theorem dX6_against1_114 : decode cX6_against1 114 = .ok (.iconst 0, 1) := dec_row aX6_against1_1 17 rfl
theorem dX6_against1_115 : decode cX6_against1 115 = .ok (.istore_n 3, 1) := dec_row aX6_against1_1 18 rfl
theorem dX6_against1_116 : decode cX6_against1 116 = .ok (.iload_n 3, 1) := dec_row aX6_against1_1 19 rfl
theorem dX6_against1_117 : decode cX6_against1 117 = .ok (.aload_n 0, 1) := dec_row aX6_against1_1 20 rfl
theorem dX6_against1_118 : decode cX6_against1 118 = .ok (.getfield 73, 3) := dec_row aX6_against1_1 21 rfl
theorem dX6_against1_121 : decode cX6_against1 121 = .ok (.if_icmp .ge 39, 3) := dec_row aX6_against1_1 22 rfl
theorem dX6_against1_124 : decode cX6_against1 124 = .ok (.aload_n 0, 1) := dec_row aX6_against1_1 23 rfl
theorem dX6_against1_125 : decode cX6_against1 125 = .ok (.getfield 19, 3) := dec_row aX6_against1_1 24 rfl
theorem dX6_against1_128 : decode cX6_against1 128 = .ok (.iload_n 3, 1) := dec_row aX6_against1_1 25 rfl
theorem dX6_against1_129 : decode cX6_against1 129 = .ok (.iaload, 1) := dec_row aX6_against1_1 26 rfl
theorem dX6_against1_130 : decode cX6_against1 130 = .ok (.iload_n 1, 1) := dec_row aX6_against1_1 27 rfl
theorem dX6_against1_131 : decode cX6_against1 131 = .ok (.if_icmp .ne 23, 3) := dec_row aX6_against1_1 28 rfl
theorem dX6_against1_134 : decode cX6_against1 134 = .ok (.aload_n 0, 1) := dec_row aX6_against1_1 29 rfl
theorem dX6_against1_135 : decode cX6_against1 135 = .ok (.getfield 25, 3) := dec_row aX6_against1_1 30 rfl
theorem dX6_against1_138 : decode cX6_against1 138 = .ok (.sipush 1011, 3) := dec_row aX6_against1_1 31 rfl
theorem dX6_against1_141 : decode cX6_against1 141 = .ok (.iaload, 1) := dec_row aX6_against1_1 32 rfl
theorem dX6_against1_142 : decode cX6_against1 142 = .ok (.iload_n 3, 1) := dec_row aX6_against1_1 33 rfl
theorem dX6_against1_143 : decode cX6_against1 143 = .ok (.ishr, 1) := dec_row aX6_against1_1 34 rfl
theorem dX6_against1_144 : decode cX6_against1 144 = .ok (.iconst 1, 1) := dec_row aX6_against1_1 35 rfl
theorem dX6_against1_145 : decode cX6_against1 145 = .ok (.iand, 1) := dec_row aX6_against1_1 36 rfl
theorem dX6_against1_146 : decode cX6_against1 146 = .ok (.iconst 1, 1) := dec_row aX6_against1_1 37 rfl
theorem dX6_against1_147 : decode cX6_against1 147 = .ok (.if_icmp .ne 7, 3) := dec_row aX6_against1_1 38 rfl
theorem dX6_against1_150 : decode cX6_against1 150 = .ok (.iconst 4, 1) := dec_row aX6_against1_1 39 rfl
theorem dX6_against1_151 : decode cX6_against1 151 = .ok (.iload_n 3, 1) := dec_row aX6_against1_1 40 rfl
theorem dX6_against1_152 : decode cX6_against1 152 = .ok (.iadd, 1) := dec_row aX6_against1_1 41 rfl
theorem dX6_against1_153 : decode cX6_against1 153 = .ok (.ireturn, 1) := dec_row aX6_against1_1 42 rfl
theorem dX6_against1_154 : decode cX6_against1 154 = .ok (.iinc 3 1, 3) := dec_row aX6_against1_1 43 rfl
theorem dX6_against1_157 : decode cX6_against1 157 = .ok (.goto (-41), 3) := dec_row aX6_against1_1 44 rfl
theorem dX6_against1_160 : decode cX6_against1 160 = .ok (.iconst 0, 1) := dec_row aX6_against1_1 45 rfl
theorem dX6_against1_161 : decode cX6_against1 161 = .ok (.ireturn, 1) := dec_row aX6_against1_1 46 rfl
def tX6_against : List (Nat × Instr × Nat) := [(0, .aload_n 0, 1), (1, .iload_n 1, 1), (2, .invokevirtual 162, 3), (5, .ifCond .eq 21, 3), (8, .iload_n 2, 1), (9, .iconst 0, 1), (10, .iconst 1, 1), (11, .invokestatic 95, 3), (14, .ifCond .eq 12, 3), (17, .aload_n 0, 1), (18, .iload_n 1, 1), (19, .iload_n 2, 1), (20, .invokevirtual 165, 3), (23, .goto 4, 3), (26, .iconst (-1), 1), (27, .ireturn, 1)]
theorem aX6_against : tX6_against.all (fun q => decide (decode cX6_against q.1 = .ok q.2)) = true := by decide +kernel
theorem dX6_against_0 : decode cX6_against 0 = .ok (.aload_n 0, 1) := dec_row aX6_against 0 rfl
theorem dX6_against_1 : decode cX6_against 1 = .ok (.iload_n 1, 1) := dec_row aX6_against 1 rfl
theorem dX6_against_2 : decode cX6_against 2 = .ok (.invokevirtual 162, 3) := dec_row aX6_against 2 rfl
theorem dX6_against_5 : decode cX6_against 5 = .ok (.ifCond .eq 21, 3) := dec_row aX6_against 3 rfl
theorem dX6_against_8 : decode cX6_against 8 = .ok (.iload_n 2, 1) := dec_row aX6_against 4 rfl
theorem dX6_against_9 : decode cX6_against 9 = .ok (.iconst 0, 1) := dec_row aX6_against 5 rfl
theorem dX6_against_10 : decode cX6_against 10 = .ok (.iconst 1, 1) := dec_row aX6_against 6 rfl
theorem dX6_against_11 : decode cX6_against 11 = .ok (.invokestatic 95, 3) := dec_row aX6_against 7 rfl
theorem dX6_against_14 : decode cX6_against 14 = .ok (.ifCond .eq 12, 3) := dec_row aX6_against 8 rfl
theorem dX6_against_17 : decode cX6_against 17 = .ok (.aload_n 0, 1) := dec_row aX6_against 9 rfl
theorem dX6_against_18 : decode cX6_against 18 = .ok (.iload_n 1, 1) := dec_row aX6_against 10 rfl
theorem dX6_against_19 : decode cX6_against 19 = .ok (.iload_n 2, 1) := dec_row aX6_against 11 rfl
theorem dX6_against_20 : decode cX6_against 20 = .ok (.invokevirtual 165, 3) := dec_row aX6_against 12 rfl
theorem dX6_against_23 : decode cX6_against 23 = .ok (.goto 4, 3) := dec_row aX6_against 13 rfl
theorem dX6_against_26 : decode cX6_against 26 = .ok (.iconst (-1), 1) := dec_row aX6_against 14 rfl
theorem dX6_against_27 : decode cX6_against 27 = .ok (.ireturn, 1) := dec_row aX6_against 15 rfl
def tX6_core : List (Nat × Instr × Nat) := [(0, .aload_n 0, 1), (1, .iload_n 1, 1), (2, .invokevirtual 162, 3), (5, .ifCond .eq 12, 3), (8, .iload_n 2, 1), (9, .iconst 0, 1), (10, .iconst 1, 1), (11, .invokestatic 95, 3), (14, .ifCond .ne 5, 3), (17, .iconst (-1), 1), (18, .ireturn, 1), (19, .aload_n 0, 1), (20, .iload_n 1, 1), (21, .iload_n 2, 1), (22, .invokevirtual 165, 3), (25, .ifCond .eq 6, 3), (28, .bipush (-2), 2), (30, .ireturn, 1), (31, .aload_n 0, 1), (32, .invokevirtual 159, 3), (35, .aload_n 0, 1), (36, .getfield 25, 3), (39, .sipush 1011, 3), (42, .dup2, 1), (43, .iaload, 1), (44, .iconst 1, 1), (45, .iload_n 1, 1), (46, .ishl, 1), (47, .ixor, 1), (48, .iastore, 1), (49, .aload_n 0, 1), (50, .getfield 25, 3), (53, .sipush 1011, 3), (56, .iaload, 1), (57, .invokestatic 168, 3), (60, .ireturn, 1)]
theorem aX6_core : tX6_core.all (fun q => decide (decode cX6_core q.1 = .ok q.2)) = true := by decide +kernel
theorem dX6_core_0 : decode cX6_core 0 = .ok (.aload_n 0, 1) := dec_row aX6_core 0 rfl
theorem dX6_core_1 : decode cX6_core 1 = .ok (.iload_n 1, 1) := dec_row aX6_core 1 rfl
theorem dX6_core_2 : decode cX6_core 2 = .ok (.invokevirtual 162, 3) := dec_row aX6_core 2 rfl
theorem dX6_core_5 : decode cX6_core 5 = .ok (.ifCond .eq 12, 3) := dec_row aX6_core 3 rfl
theorem dX6_core_8 : decode cX6_core 8 = .ok (.iload_n 2, 1) := dec_row aX6_core 4 rfl
theorem dX6_core_9 : decode cX6_core 9 = .ok (.iconst 0, 1) := dec_row aX6_core 5 rfl
theorem dX6_core_10 : decode cX6_core 10 = .ok (.iconst 1, 1) := dec_row aX6_core 6 rfl
theorem dX6_core_11 : decode cX6_core 11 = .ok (.invokestatic 95, 3) := dec_row aX6_core 7 rfl
theorem dX6_core_14 : decode cX6_core 14 = .ok (.ifCond .ne 5, 3) := dec_row aX6_core 8 rfl
theorem dX6_core_17 : decode cX6_core 17 = .ok (.iconst (-1), 1) := dec_row aX6_core 9 rfl
theorem dX6_core_18 : decode cX6_core 18 = .ok (.ireturn, 1) := dec_row aX6_core 10 rfl
theorem dX6_core_19 : decode cX6_core 19 = .ok (.aload_n 0, 1) := dec_row aX6_core 11 rfl
theorem dX6_core_20 : decode cX6_core 20 = .ok (.iload_n 1, 1) := dec_row aX6_core 12 rfl
theorem dX6_core_21 : decode cX6_core 21 = .ok (.iload_n 2, 1) := dec_row aX6_core 13 rfl
theorem dX6_core_22 : decode cX6_core 22 = .ok (.invokevirtual 165, 3) := dec_row aX6_core 14 rfl
theorem dX6_core_25 : decode cX6_core 25 = .ok (.ifCond .eq 6, 3) := dec_row aX6_core 15 rfl
theorem dX6_core_28 : decode cX6_core 28 = .ok (.bipush (-2), 2) := dec_row aX6_core 16 rfl
theorem dX6_core_30 : decode cX6_core 30 = .ok (.ireturn, 1) := dec_row aX6_core 17 rfl
theorem dX6_core_31 : decode cX6_core 31 = .ok (.aload_n 0, 1) := dec_row aX6_core 18 rfl
theorem dX6_core_32 : decode cX6_core 32 = .ok (.invokevirtual 159, 3) := dec_row aX6_core 19 rfl
theorem dX6_core_35 : decode cX6_core 35 = .ok (.aload_n 0, 1) := dec_row aX6_core 20 rfl
theorem dX6_core_36 : decode cX6_core 36 = .ok (.getfield 25, 3) := dec_row aX6_core 21 rfl
theorem dX6_core_39 : decode cX6_core 39 = .ok (.sipush 1011, 3) := dec_row aX6_core 22 rfl
theorem dX6_core_42 : decode cX6_core 42 = .ok (.dup2, 1) := dec_row aX6_core 23 rfl
theorem dX6_core_43 : decode cX6_core 43 = .ok (.iaload, 1) := dec_row aX6_core 24 rfl
theorem dX6_core_44 : decode cX6_core 44 = .ok (.iconst 1, 1) := dec_row aX6_core 25 rfl
theorem dX6_core_45 : decode cX6_core 45 = .ok (.iload_n 1, 1) := dec_row aX6_core 26 rfl
theorem dX6_core_46 : decode cX6_core 46 = .ok (.ishl, 1) := dec_row aX6_core 27 rfl
theorem dX6_core_47 : decode cX6_core 47 = .ok (.ixor, 1) := dec_row aX6_core 28 rfl
theorem dX6_core_48 : decode cX6_core 48 = .ok (.iastore, 1) := dec_row aX6_core 29 rfl
theorem dX6_core_49 : decode cX6_core 49 = .ok (.aload_n 0, 1) := dec_row aX6_core 30 rfl
theorem dX6_core_50 : decode cX6_core 50 = .ok (.getfield 25, 3) := dec_row aX6_core 31 rfl
theorem dX6_core_53 : decode cX6_core 53 = .ok (.sipush 1011, 3) := dec_row aX6_core 32 rfl
theorem dX6_core_56 : decode cX6_core 56 = .ok (.iaload, 1) := dec_row aX6_core 33 rfl
theorem dX6_core_57 : decode cX6_core 57 = .ok (.invokestatic 168, 3) := dec_row aX6_core 34 rfl
theorem dX6_core_60 : decode cX6_core 60 = .ok (.ireturn, 1) := dec_row aX6_core 35 rfl
def tX6_drag : List (Nat × Instr × Nat) := [(0, .aload_n 0, 1), (1, .iload_n 1, 1), (2, .invokevirtual 171, 3), (5, .ifCond .eq 26, 3), (8, .iload_n 2, 1), (9, .iconst 1, 1), (10, .bipush 9, 2), (12, .invokestatic 95, 3), (15, .ifCond .eq 16, 3), (18, .aload_n 0, 1), (19, .sipush 1139, 3), (22, .iload_n 1, 1), (23, .iadd, 1), (24, .iload_n 2, 1), (25, .invokevirtual 174, 3), (28, .goto 4, 3), (31, .iconst (-1), 1), (32, .ireturn, 1)]
theorem aX6_drag : tX6_drag.all (fun q => decide (decode cX6_drag q.1 = .ok q.2)) = true := by decide +kernel
theorem dX6_drag_0 : decode cX6_drag 0 = .ok (.aload_n 0, 1) := dec_row aX6_drag 0 rfl
theorem dX6_drag_1 : decode cX6_drag 1 = .ok (.iload_n 1, 1) := dec_row aX6_drag 1 rfl
theorem dX6_drag_2 : decode cX6_drag 2 = .ok (.invokevirtual 171, 3) := dec_row aX6_drag 2 rfl
theorem dX6_drag_5 : decode cX6_drag 5 = .ok (.ifCond .eq 26, 3) := dec_row aX6_drag 3 rfl
theorem dX6_drag_8 : decode cX6_drag 8 = .ok (.iload_n 2, 1) := dec_row aX6_drag 4 rfl
theorem dX6_drag_9 : decode cX6_drag 9 = .ok (.iconst 1, 1) := dec_row aX6_drag 5 rfl
theorem dX6_drag_10 : decode cX6_drag 10 = .ok (.bipush 9, 2) := dec_row aX6_drag 6 rfl
theorem dX6_drag_12 : decode cX6_drag 12 = .ok (.invokestatic 95, 3) := dec_row aX6_drag 7 rfl
theorem dX6_drag_15 : decode cX6_drag 15 = .ok (.ifCond .eq 16, 3) := dec_row aX6_drag 8 rfl
theorem dX6_drag_18 : decode cX6_drag 18 = .ok (.aload_n 0, 1) := dec_row aX6_drag 9 rfl
theorem dX6_drag_19 : decode cX6_drag 19 = .ok (.sipush 1139, 3) := dec_row aX6_drag 10 rfl
theorem dX6_drag_22 : decode cX6_drag 22 = .ok (.iload_n 1, 1) := dec_row aX6_drag 11 rfl
theorem dX6_drag_23 : decode cX6_drag 23 = .ok (.iadd, 1) := dec_row aX6_drag 12 rfl
theorem dX6_drag_24 : decode cX6_drag 24 = .ok (.iload_n 2, 1) := dec_row aX6_drag 13 rfl
theorem dX6_drag_25 : decode cX6_drag 25 = .ok (.invokevirtual 174, 3) := dec_row aX6_drag 14 rfl
theorem dX6_drag_28 : decode cX6_drag 28 = .ok (.goto 4, 3) := dec_row aX6_drag 15 rfl
theorem dX6_drag_31 : decode cX6_drag 31 = .ok (.iconst (-1), 1) := dec_row aX6_drag 16 rfl
theorem dX6_drag_32 : decode cX6_drag 32 = .ok (.ireturn, 1) := dec_row aX6_drag 17 rfl
def tX6_speed : List (Nat × Instr × Nat) := [(0, .iload_n 1, 1), (1, .iconst 0, 1), (2, .aload_n 0, 1), (3, .getfield 76, 3), (6, .iconst 1, 1), (7, .isub, 1), (8, .invokestatic 95, 3), (11, .ifCond .eq 26, 3), (14, .iload_n 2, 1), (15, .iconst 1, 1), (16, .bipush 9, 2), (18, .invokestatic 95, 3), (21, .ifCond .eq 16, 3), (24, .aload_n 0, 1), (25, .sipush 1145, 3), (28, .iload_n 1, 1), (29, .iadd, 1), (30, .iload_n 2, 1), (31, .invokevirtual 174, 3), (34, .goto 4, 3), (37, .iconst (-1), 1), (38, .ireturn, 1)]
theorem aX6_speed : tX6_speed.all (fun q => decide (decode cX6_speed q.1 = .ok q.2)) = true := by decide +kernel
theorem dX6_speed_0 : decode cX6_speed 0 = .ok (.iload_n 1, 1) := dec_row aX6_speed 0 rfl
theorem dX6_speed_1 : decode cX6_speed 1 = .ok (.iconst 0, 1) := dec_row aX6_speed 1 rfl
theorem dX6_speed_2 : decode cX6_speed 2 = .ok (.aload_n 0, 1) := dec_row aX6_speed 2 rfl
theorem dX6_speed_3 : decode cX6_speed 3 = .ok (.getfield 76, 3) := dec_row aX6_speed 3 rfl
theorem dX6_speed_6 : decode cX6_speed 6 = .ok (.iconst 1, 1) := dec_row aX6_speed 4 rfl
theorem dX6_speed_7 : decode cX6_speed 7 = .ok (.isub, 1) := dec_row aX6_speed 5 rfl
theorem dX6_speed_8 : decode cX6_speed 8 = .ok (.invokestatic 95, 3) := dec_row aX6_speed 6 rfl
theorem dX6_speed_11 : decode cX6_speed 11 = .ok (.ifCond .eq 26, 3) := dec_row aX6_speed 7 rfl
theorem dX6_speed_14 : decode cX6_speed 14 = .ok (.iload_n 2, 1) := dec_row aX6_speed 8 rfl
theorem dX6_speed_15 : decode cX6_speed 15 = .ok (.iconst 1, 1) := dec_row aX6_speed 9 rfl
theorem dX6_speed_16 : decode cX6_speed 16 = .ok (.bipush 9, 2) := dec_row aX6_speed 10 rfl
theorem dX6_speed_18 : decode cX6_speed 18 = .ok (.invokestatic 95, 3) := dec_row aX6_speed 11 rfl
theorem dX6_speed_21 : decode cX6_speed 21 = .ok (.ifCond .eq 16, 3) := dec_row aX6_speed 12 rfl
theorem dX6_speed_24 : decode cX6_speed 24 = .ok (.aload_n 0, 1) := dec_row aX6_speed 13 rfl
theorem dX6_speed_25 : decode cX6_speed 25 = .ok (.sipush 1145, 3) := dec_row aX6_speed 14 rfl
theorem dX6_speed_28 : decode cX6_speed 28 = .ok (.iload_n 1, 1) := dec_row aX6_speed 15 rfl
theorem dX6_speed_29 : decode cX6_speed 29 = .ok (.iadd, 1) := dec_row aX6_speed 16 rfl
theorem dX6_speed_30 : decode cX6_speed 30 = .ok (.iload_n 2, 1) := dec_row aX6_speed 17 rfl
theorem dX6_speed_31 : decode cX6_speed 31 = .ok (.invokevirtual 174, 3) := dec_row aX6_speed 18 rfl
theorem dX6_speed_34 : decode cX6_speed 34 = .ok (.goto 4, 3) := dec_row aX6_speed 19 rfl
theorem dX6_speed_37 : decode cX6_speed 37 = .ok (.iconst (-1), 1) := dec_row aX6_speed 20 rfl
theorem dX6_speed_38 : decode cX6_speed 38 = .ok (.ireturn, 1) := dec_row aX6_speed 21 rfl
def tX6_tell : List (Nat × Instr × Nat) := [(0, .iload_n 1, 1), (1, .iconst 0, 1), (2, .iconst 5, 1), (3, .invokestatic 95, 3), (6, .ifCond .eq 31, 3), (9, .iload_n 2, 1), (10, .iload_n 1, 1), (11, .invokestatic 106, 3), (14, .iload_n 1, 1), (15, .invokestatic 109, 3), (18, .invokestatic 95, 3), (21, .ifCond .eq 16, 3), (24, .aload_n 0, 1), (25, .sipush 1149, 3), (28, .iload_n 1, 1), (29, .iadd, 1), (30, .iload_n 2, 1), (31, .invokevirtual 174, 3), (34, .goto 4, 3), (37, .iconst (-1), 1), (38, .ireturn, 1)]
theorem aX6_tell : tX6_tell.all (fun q => decide (decode cX6_tell q.1 = .ok q.2)) = true := by decide +kernel
theorem dX6_tell_0 : decode cX6_tell 0 = .ok (.iload_n 1, 1) := dec_row aX6_tell 0 rfl
theorem dX6_tell_1 : decode cX6_tell 1 = .ok (.iconst 0, 1) := dec_row aX6_tell 1 rfl
theorem dX6_tell_2 : decode cX6_tell 2 = .ok (.iconst 5, 1) := dec_row aX6_tell 2 rfl
theorem dX6_tell_3 : decode cX6_tell 3 = .ok (.invokestatic 95, 3) := dec_row aX6_tell 3 rfl
theorem dX6_tell_6 : decode cX6_tell 6 = .ok (.ifCond .eq 31, 3) := dec_row aX6_tell 4 rfl
theorem dX6_tell_9 : decode cX6_tell 9 = .ok (.iload_n 2, 1) := dec_row aX6_tell 5 rfl
theorem dX6_tell_10 : decode cX6_tell 10 = .ok (.iload_n 1, 1) := dec_row aX6_tell 6 rfl
theorem dX6_tell_11 : decode cX6_tell 11 = .ok (.invokestatic 106, 3) := dec_row aX6_tell 7 rfl
theorem dX6_tell_14 : decode cX6_tell 14 = .ok (.iload_n 1, 1) := dec_row aX6_tell 8 rfl
theorem dX6_tell_15 : decode cX6_tell 15 = .ok (.invokestatic 109, 3) := dec_row aX6_tell 9 rfl
theorem dX6_tell_18 : decode cX6_tell 18 = .ok (.invokestatic 95, 3) := dec_row aX6_tell 10 rfl
theorem dX6_tell_21 : decode cX6_tell 21 = .ok (.ifCond .eq 16, 3) := dec_row aX6_tell 11 rfl
theorem dX6_tell_24 : decode cX6_tell 24 = .ok (.aload_n 0, 1) := dec_row aX6_tell 12 rfl
theorem dX6_tell_25 : decode cX6_tell 25 = .ok (.sipush 1149, 3) := dec_row aX6_tell 13 rfl
theorem dX6_tell_28 : decode cX6_tell 28 = .ok (.iload_n 1, 1) := dec_row aX6_tell 14 rfl
theorem dX6_tell_29 : decode cX6_tell 29 = .ok (.iadd, 1) := dec_row aX6_tell 15 rfl
theorem dX6_tell_30 : decode cX6_tell 30 = .ok (.iload_n 2, 1) := dec_row aX6_tell 16 rfl
theorem dX6_tell_31 : decode cX6_tell 31 = .ok (.invokevirtual 174, 3) := dec_row aX6_tell 17 rfl
theorem dX6_tell_34 : decode cX6_tell 34 = .ok (.goto 4, 3) := dec_row aX6_tell 18 rfl
theorem dX6_tell_37 : decode cX6_tell 37 = .ok (.iconst (-1), 1) := dec_row aX6_tell 19 rfl
theorem dX6_tell_38 : decode cX6_tell 38 = .ok (.ireturn, 1) := dec_row aX6_tell 20 rfl
def tX6_isReady : List (Nat × Instr × Nat) := [(0, .aload_n 0, 1), (1, .getfield 25, 3), (4, .sipush 1010, 3), (7, .iaload, 1), (8, .iconst 1, 1), (9, .if_icmp .ne 26, 3), (12, .aload_n 0, 1), (13, .getfield 25, 3), (16, .sipush 1011, 3), (19, .iaload, 1), (20, .iconst 1, 1), (21, .aload_n 0, 1), (22, .getfield 73, 3), (25, .ishl, 1), (26, .iconst 1, 1), (27, .isub, 1), (28, .if_icmp .ne 7, 3), (31, .iconst 1, 1), (32, .goto 4, 3), (35, .iconst 0, 1), (36, .ireturn, 1)]
theorem aX6_isReady : tX6_isReady.all (fun q => decide (decode cX6_isReady q.1 = .ok q.2)) = true := by decide +kernel
theorem dX6_isReady_0 : decode cX6_isReady 0 = .ok (.aload_n 0, 1) := dec_row aX6_isReady 0 rfl
theorem dX6_isReady_1 : decode cX6_isReady 1 = .ok (.getfield 25, 3) := dec_row aX6_isReady 1 rfl
theorem dX6_isReady_4 : decode cX6_isReady 4 = .ok (.sipush 1010, 3) := dec_row aX6_isReady 2 rfl
theorem dX6_isReady_7 : decode cX6_isReady 7 = .ok (.iaload, 1) := dec_row aX6_isReady 3 rfl
theorem dX6_isReady_8 : decode cX6_isReady 8 = .ok (.iconst 1, 1) := dec_row aX6_isReady 4 rfl
theorem dX6_isReady_9 : decode cX6_isReady 9 = .ok (.if_icmp .ne 26, 3) := dec_row aX6_isReady 5 rfl
theorem dX6_isReady_12 : decode cX6_isReady 12 = .ok (.aload_n 0, 1) := dec_row aX6_isReady 6 rfl
theorem dX6_isReady_13 : decode cX6_isReady 13 = .ok (.getfield 25, 3) := dec_row aX6_isReady 7 rfl
theorem dX6_isReady_16 : decode cX6_isReady 16 = .ok (.sipush 1011, 3) := dec_row aX6_isReady 8 rfl
theorem dX6_isReady_19 : decode cX6_isReady 19 = .ok (.iaload, 1) := dec_row aX6_isReady 9 rfl
theorem dX6_isReady_20 : decode cX6_isReady 20 = .ok (.iconst 1, 1) := dec_row aX6_isReady 10 rfl
theorem dX6_isReady_21 : decode cX6_isReady 21 = .ok (.aload_n 0, 1) := dec_row aX6_isReady 11 rfl
theorem dX6_isReady_22 : decode cX6_isReady 22 = .ok (.getfield 73, 3) := dec_row aX6_isReady 12 rfl
theorem dX6_isReady_25 : decode cX6_isReady 25 = .ok (.ishl, 1) := dec_row aX6_isReady 13 rfl
theorem dX6_isReady_26 : decode cX6_isReady 26 = .ok (.iconst 1, 1) := dec_row aX6_isReady 14 rfl
theorem dX6_isReady_27 : decode cX6_isReady 27 = .ok (.isub, 1) := dec_row aX6_isReady 15 rfl
theorem dX6_isReady_28 : decode cX6_isReady 28 = .ok (.if_icmp .ne 7, 3) := dec_row aX6_isReady 16 rfl
theorem dX6_isReady_31 : decode cX6_isReady 31 = .ok (.iconst 1, 1) := dec_row aX6_isReady 17 rfl
theorem dX6_isReady_32 : decode cX6_isReady 32 = .ok (.goto 4, 3) := dec_row aX6_isReady 18 rfl
theorem dX6_isReady_35 : decode cX6_isReady 35 = .ok (.iconst 0, 1) := dec_row aX6_isReady 19 rfl
theorem dX6_isReady_36 : decode cX6_isReady 36 = .ok (.ireturn, 1) := dec_row aX6_isReady 20 rfl
def tX6_shoot_0 : List (Nat × Instr × Nat) := [(0, .aload_n 0, 1), (1, .invokevirtual 177, 3), (4, .ifCond .eq 15, 3), (7, .aload_n 0, 1), (8, .getfield 25, 3), (11, .sipush 1012, 3), (14, .iaload, 1), (15, .iconst 1, 1), (16, .if_icmp .ne 6, 3), (19, .bipush (-2), 2), (21, .ireturn, 1), (22, .aload_n 0, 1), (23, .invokevirtual 159, 3), (26, .aload_n 0, 1), (27, .iconst 0, 1), (28, .invokevirtual 180, 3), (31, .aload_n 0, 1), (32, .getfield 25, 3), (35, .sipush 1008, 3), (38, .iaload, 1), (39, .bipush 12, 2), (41, .if_icmp .ne 45, 3), (44, .iconst 0, 1), (45, .istore_n 1, 1), (46, .iload_n 1, 1), (47, .sipush 924, 3), (50, .if_icmp .ge 24, 3), (53, .aload_n 0, 1), (54, .getfield 25, 3), (57, .iload_n 1, 1), (58, .aload_n 0, 1), (59, .getfield 25, 3), (62, .iload_n 1, 1), (63, .bipush 84, 2), (65, .iadd, 1), (66, .iaload, 1), (67, .iastore, 1), (68, .iinc 1 1, 3), (71, .goto (-25), 3), (74, .aload_n 0, 1), (75, .getfield 25, 3), (78, .sipush 1008, 3), (81, .dup2, 1), (82, .iaload, 1), (83, .iconst 1, 1), (84, .isub, 1), (85, .iastore, 1), (86, .iconst 0, 1), (87, .istore_n 1, 1), (88, .iload_n 1, 1)]
theorem aX6_shoot_0 : tX6_shoot_0.all (fun q => decide (decode cX6_shoot q.1 = .ok q.2)) = true := by decide +kernel
theorem dX6_shoot_0 : decode cX6_shoot 0 = .ok (.aload_n 0, 1) := dec_row aX6_shoot_0 0 rfl
theorem dX6_shoot_1 : decode cX6_shoot 1 = .ok (.invokevirtual 177, 3) := dec_row aX6_shoot_0 1 rfl
theorem dX6_shoot_4 : decode cX6_shoot 4 = .ok (.ifCond .eq 15, 3) := dec_row aX6_shoot_0 2 rfl
theorem dX6_shoot_7 : decode cX6_shoot 7 = .ok (.aload_n 0, 1) := dec_row aX6_shoot_0 3 rfl
theorem dX6_shoot_8 : decode cX6_shoot 8 = .ok (.getfield 25, 3) := dec_row aX6_shoot_0 4 rfl
theorem dX6_shoot_11 : decode cX6_shoot 11 = .ok (.sipush 1012, 3) := dec_row aX6_shoot_0 5 rfl
theorem dX6_shoot_14 : decode cX6_shoot 14 = .ok (.iaload, 1) := dec_row aX6_shoot_0 6 rfl
theorem dX6_shoot_15 : decode cX6_shoot 15 = .ok (.iconst 1, 1) := dec_row aX6_shoot_0 7 rfl
theorem dX6_shoot_16 : decode cX6_shoot 16 = .ok (.if_icmp .ne 6, 3) := dec_row aX6_shoot_0 8 rfl
theorem dX6_shoot_19 : decode cX6_shoot 19 = .ok (.bipush (-2), 2) := dec_row aX6_shoot_0 9 rfl
theorem dX6_shoot_21 : decode cX6_shoot 21 = .ok (.ireturn, 1) := dec_row aX6_shoot_0 10 rfl
theorem dX6_shoot_22 : decode cX6_shoot 22 = .ok (.aload_n 0, 1) := dec_row aX6_shoot_0 11 rfl
theorem dX6_shoot_23 : decode cX6_shoot 23 = .ok (.invokevirtual 159, 3) := dec_row aX6_shoot_0 12 rfl
theorem dX6_shoot_26 : decode cX6_shoot 26 = .ok (.aload_n 0, 1) := dec_row aX6_shoot_0 13 rfl
theorem dX6_shoot_27 : decode cX6_shoot 27 = .ok (.iconst 0, 1) := dec_row aX6_shoot_0 14 rfl
theorem dX6_shoot_28 : decode cX6_shoot 28 = .ok (.invokevirtual 180, 3) := dec_row aX6_shoot_0 15 rfl
theorem dX6_shoot_31 : decode cX6_shoot 31 = .ok (.aload_n 0, 1) := dec_row aX6_shoot_0 16 rfl
theorem dX6_shoot_32 : decode cX6_shoot 32 = .ok (.getfield 25, 3) := dec_row aX6_shoot_0 17 rfl
theorem dX6_shoot_35 : decode cX6_shoot 35 = .ok (.sipush 1008, 3) := dec_row aX6_shoot_0 18 rfl
theorem dX6_shoot_38 : decode cX6_shoot 38 = .ok (.iaload, 1) := dec_row aX6_shoot_0 19 rfl
theorem dX6_shoot_39 : decode cX6_shoot 39 = .ok (.bipush 12, 2) := dec_row aX6_shoot_0 20 rfl
theorem dX6_shoot_41 : decode cX6_shoot 41 = .ok (.if_icmp .ne 45, 3) := dec_row aX6_shoot_0 21 rfl
theorem dX6_shoot_44 : decode cX6_shoot 44 = .ok (.iconst 0, 1) := dec_row aX6_shoot_0 22 rfl
theorem dX6_shoot_45 : decode cX6_shoot 45 = .ok (.istore_n 1, 1) := dec_row aX6_shoot_0 23 rfl
theorem dX6_shoot_46 : decode cX6_shoot 46 = .ok (.iload_n 1, 1) := dec_row aX6_shoot_0 24 rfl
theorem dX6_shoot_47 : decode cX6_shoot 47 = .ok (.sipush 924, 3) := dec_row aX6_shoot_0 25 rfl
theorem dX6_shoot_50 : decode cX6_shoot 50 = .ok (.if_icmp .ge 24, 3) := dec_row aX6_shoot_0 26 rfl
theorem dX6_shoot_53 : decode cX6_shoot 53 = .ok (.aload_n 0, 1) := dec_row aX6_shoot_0 27 rfl
theorem dX6_shoot_54 : decode cX6_shoot 54 = .ok (.getfield 25, 3) := dec_row aX6_shoot_0 28 rfl
theorem dX6_shoot_57 : decode cX6_shoot 57 = .ok (.iload_n 1, 1) := dec_row aX6_shoot_0 29 rfl
theorem dX6_shoot_58 : decode cX6_shoot 58 = .ok (.aload_n 0, 1) := dec_row aX6_shoot_0 30 rfl
theorem dX6_shoot_59 : decode cX6_shoot 59 = .ok (.getfield 25, 3) := dec_row aX6_shoot_0 31 rfl
theorem dX6_shoot_62 : decode cX6_shoot 62 = .ok (.iload_n 1, 1) := dec_row aX6_shoot_0 32 rfl
theorem dX6_shoot_63 : decode cX6_shoot 63 = .ok (.bipush 84, 2) := dec_row aX6_shoot_0 33 rfl
theorem dX6_shoot_65 : decode cX6_shoot 65 = .ok (.iadd, 1) := dec_row aX6_shoot_0 34 rfl
theorem dX6_shoot_66 : decode cX6_shoot 66 = .ok (.iaload, 1) := dec_row aX6_shoot_0 35 rfl
theorem dX6_shoot_67 : decode cX6_shoot 67 = .ok (.iastore, 1) := dec_row aX6_shoot_0 36 rfl
theorem dX6_shoot_68 : decode cX6_shoot 68 = .ok (.iinc 1 1, 3) := dec_row aX6_shoot_0 37 rfl
theorem dX6_shoot_71 : decode cX6_shoot 71 = .ok (.goto (-25), 3) := dec_row aX6_shoot_0 38 rfl
theorem dX6_shoot_74 : decode cX6_shoot 74 = .ok (.aload_n 0, 1) := dec_row aX6_shoot_0 39 rfl
theorem dX6_shoot_75 : decode cX6_shoot 75 = .ok (.getfield 25, 3) := dec_row aX6_shoot_0 40 rfl
theorem dX6_shoot_78 : decode cX6_shoot 78 = .ok (.sipush 1008, 3) := dec_row aX6_shoot_0 41 rfl
theorem dX6_shoot_81 : decode cX6_shoot 81 = .ok (.dup2, 1) := dec_row aX6_shoot_0 42 rfl
theorem dX6_shoot_82 : decode cX6_shoot 82 = .ok (.iaload, 1) := dec_row aX6_shoot_0 43 rfl
theorem dX6_shoot_83 : decode cX6_shoot 83 = .ok (.iconst 1, 1) := dec_row aX6_shoot_0 44 rfl
theorem dX6_shoot_84 : decode cX6_shoot 84 = .ok (.isub, 1) := dec_row aX6_shoot_0 45 rfl
theorem dX6_shoot_85 : decode cX6_shoot 85 = .ok (.iastore, 1) := dec_row aX6_shoot_0 46 rfl
theorem dX6_shoot_86 : decode cX6_shoot 86 = .ok (.iconst 0, 1) := dec_row aX6_shoot_0 47 rfl
theorem dX6_shoot_87 : decode cX6_shoot 87 = .ok (.istore_n 1, 1) := dec_row aX6_shoot_0 48 rfl
theorem dX6_shoot_88 : decode cX6_shoot 88 = .ok (.iload_n 1, 1) := dec_row aX6_shoot_0 49 rfl
def tX6_shoot_1 : List (Nat × Instr × Nat) := [(89, .bipush 84, 2), (91, .if_icmp .ge 33, 3), (94, .aload_n 0, 1), (95, .getfield 25, 3), (98, .bipush 84, 2), (100, .aload_n 0, 1), (101, .getfield 25, 3), (104, .sipush 1008, 3), (107, .iaload, 1), (108, .imul, 1), (109, .iload_n 1, 1), (110, .iadd, 1), (111, .aload_n 0, 1), (112, .getfield 31, 3), (115, .iload_n 1, 1), (116, .iaload, 1), (117, .iastore, 1), (118, .iinc 1 1, 3), (121, .goto (-33), 3), (124, .aload_n 0, 1), (125, .getfield 25, 3), (128, .sipush 1008, 3), (131, .dup2, 1), (132, .iaload, 1), (133, .iconst 1, 1), (134, .iadd, 1), (135, .iastore, 1), (136, .aload_n 0, 1), (137, .getfield 25, 3), (140, .sipush 1009, 3), (143, .dup2, 1), (144, .iaload, 1), (145, .iconst 1, 1), (146, .iadd, 1), (147, .iastore, 1), (148, .aload_n 0, 1), (149, .getfield 25, 3), (152, .sipush 1012, 3), (155, .iconst 1, 1), (156, .iastore, 1), (157, .aload_n 0, 1), (158, .getfield 25, 3), (161, .sipush 1013, 3), (164, .iconst 1, 1), (165, .iastore, 1), (166, .aload_n 0, 1), (167, .getfield 25, 3), (170, .sipush 1014, 3), (173, .aload_n 0, 1), (174, .getfield 25, 3)]
theorem aX6_shoot_1 : tX6_shoot_1.all (fun q => decide (decode cX6_shoot q.1 = .ok q.2)) = true := by decide +kernel
theorem dX6_shoot_89 : decode cX6_shoot 89 = .ok (.bipush 84, 2) := dec_row aX6_shoot_1 0 rfl
theorem dX6_shoot_91 : decode cX6_shoot 91 = .ok (.if_icmp .ge 33, 3) := dec_row aX6_shoot_1 1 rfl
theorem dX6_shoot_94 : decode cX6_shoot 94 = .ok (.aload_n 0, 1) := dec_row aX6_shoot_1 2 rfl
theorem dX6_shoot_95 : decode cX6_shoot 95 = .ok (.getfield 25, 3) := dec_row aX6_shoot_1 3 rfl
theorem dX6_shoot_98 : decode cX6_shoot 98 = .ok (.bipush 84, 2) := dec_row aX6_shoot_1 4 rfl
theorem dX6_shoot_100 : decode cX6_shoot 100 = .ok (.aload_n 0, 1) := dec_row aX6_shoot_1 5 rfl
theorem dX6_shoot_101 : decode cX6_shoot 101 = .ok (.getfield 25, 3) := dec_row aX6_shoot_1 6 rfl
theorem dX6_shoot_104 : decode cX6_shoot 104 = .ok (.sipush 1008, 3) := dec_row aX6_shoot_1 7 rfl
theorem dX6_shoot_107 : decode cX6_shoot 107 = .ok (.iaload, 1) := dec_row aX6_shoot_1 8 rfl
theorem dX6_shoot_108 : decode cX6_shoot 108 = .ok (.imul, 1) := dec_row aX6_shoot_1 9 rfl
theorem dX6_shoot_109 : decode cX6_shoot 109 = .ok (.iload_n 1, 1) := dec_row aX6_shoot_1 10 rfl
theorem dX6_shoot_110 : decode cX6_shoot 110 = .ok (.iadd, 1) := dec_row aX6_shoot_1 11 rfl
theorem dX6_shoot_111 : decode cX6_shoot 111 = .ok (.aload_n 0, 1) := dec_row aX6_shoot_1 12 rfl
theorem dX6_shoot_112 : decode cX6_shoot 112 = .ok (.getfield 31, 3) := dec_row aX6_shoot_1 13 rfl
theorem dX6_shoot_115 : decode cX6_shoot 115 = .ok (.iload_n 1, 1) := dec_row aX6_shoot_1 14 rfl
theorem dX6_shoot_116 : decode cX6_shoot 116 = .ok (.iaload, 1) := dec_row aX6_shoot_1 15 rfl
theorem dX6_shoot_117 : decode cX6_shoot 117 = .ok (.iastore, 1) := dec_row aX6_shoot_1 16 rfl
theorem dX6_shoot_118 : decode cX6_shoot 118 = .ok (.iinc 1 1, 3) := dec_row aX6_shoot_1 17 rfl
theorem dX6_shoot_121 : decode cX6_shoot 121 = .ok (.goto (-33), 3) := dec_row aX6_shoot_1 18 rfl
theorem dX6_shoot_124 : decode cX6_shoot 124 = .ok (.aload_n 0, 1) := dec_row aX6_shoot_1 19 rfl
theorem dX6_shoot_125 : decode cX6_shoot 125 = .ok (.getfield 25, 3) := dec_row aX6_shoot_1 20 rfl
theorem dX6_shoot_128 : decode cX6_shoot 128 = .ok (.sipush 1008, 3) := dec_row aX6_shoot_1 21 rfl
theorem dX6_shoot_131 : decode cX6_shoot 131 = .ok (.dup2, 1) := dec_row aX6_shoot_1 22 rfl
theorem dX6_shoot_132 : decode cX6_shoot 132 = .ok (.iaload, 1) := dec_row aX6_shoot_1 23 rfl
theorem dX6_shoot_133 : decode cX6_shoot 133 = .ok (.iconst 1, 1) := dec_row aX6_shoot_1 24 rfl
theorem dX6_shoot_134 : decode cX6_shoot 134 = .ok (.iadd, 1) := dec_row aX6_shoot_1 25 rfl
theorem dX6_shoot_135 : decode cX6_shoot 135 = .ok (.iastore, 1) := dec_row aX6_shoot_1 26 rfl
theorem dX6_shoot_136 : decode cX6_shoot 136 = .ok (.aload_n 0, 1) := dec_row aX6_shoot_1 27 rfl
theorem dX6_shoot_137 : decode cX6_shoot 137 = .ok (.getfield 25, 3) := dec_row aX6_shoot_1 28 rfl
theorem dX6_shoot_140 : decode cX6_shoot 140 = .ok (.sipush 1009, 3) := dec_row aX6_shoot_1 29 rfl
theorem dX6_shoot_143 : decode cX6_shoot 143 = .ok (.dup2, 1) := dec_row aX6_shoot_1 30 rfl
theorem dX6_shoot_144 : decode cX6_shoot 144 = .ok (.iaload, 1) := dec_row aX6_shoot_1 31 rfl
theorem dX6_shoot_145 : decode cX6_shoot 145 = .ok (.iconst 1, 1) := dec_row aX6_shoot_1 32 rfl
theorem dX6_shoot_146 : decode cX6_shoot 146 = .ok (.iadd, 1) := dec_row aX6_shoot_1 33 rfl
theorem dX6_shoot_147 : decode cX6_shoot 147 = .ok (.iastore, 1) := dec_row aX6_shoot_1 34 rfl
theorem dX6_shoot_148 : decode cX6_shoot 148 = .ok (.aload_n 0, 1) := dec_row aX6_shoot_1 35 rfl
theorem dX6_shoot_149 : decode cX6_shoot 149 = .ok (.getfield 25, 3) := dec_row aX6_shoot_1 36 rfl
theorem dX6_shoot_152 : decode cX6_shoot 152 = .ok (.sipush 1012, 3) := dec_row aX6_shoot_1 37 rfl
theorem dX6_shoot_155 : decode cX6_shoot 155 = .ok (.iconst 1, 1) := dec_row aX6_shoot_1 38 rfl
theorem dX6_shoot_156 : decode cX6_shoot 156 = .ok (.iastore, 1) := dec_row aX6_shoot_1 39 rfl
theorem dX6_shoot_157 : decode cX6_shoot 157 = .ok (.aload_n 0, 1) := dec_row aX6_shoot_1 40 rfl
theorem dX6_shoot_158 : decode cX6_shoot 158 = .ok (.getfield 25, 3) := dec_row aX6_shoot_1 41 rfl
theorem dX6_shoot_161 : decode cX6_shoot 161 = .ok (.sipush 1013, 3) := dec_row aX6_shoot_1 42 rfl
theorem dX6_shoot_164 : decode cX6_shoot 164 = .ok (.iconst 1, 1) := dec_row aX6_shoot_1 43 rfl
theorem dX6_shoot_165 : decode cX6_shoot 165 = .ok (.iastore, 1) := dec_row aX6_shoot_1 44 rfl
theorem dX6_shoot_166 : decode cX6_shoot 166 = .ok (.aload_n 0, 1) := dec_row aX6_shoot_1 45 rfl
theorem dX6_shoot_167 : decode cX6_shoot 167 = .ok (.getfield 25, 3) := dec_row aX6_shoot_1 46 rfl
theorem dX6_shoot_170 : decode cX6_shoot 170 = .ok (.sipush 1014, 3) := dec_row aX6_shoot_1 47 rfl
theorem dX6_shoot_173 : decode cX6_shoot 173 = .ok (.aload_n 0, 1) := dec_row aX6_shoot_1 48 rfl
theorem dX6_shoot_174 : decode cX6_shoot 174 = .ok (.getfield 25, 3) := dec_row aX6_shoot_1 49 rfl
def tX6_shoot_2 : List (Nat × Instr × Nat) := [(177, .sipush 1154, 3), (180, .iaload, 1), (181, .iastore, 1), (182, .aload_n 0, 1), (183, .getfield 31, 3), (186, .iconst 5, 1), (187, .iaload, 1), (188, .ireturn, 1)]
theorem aX6_shoot_2 : tX6_shoot_2.all (fun q => decide (decode cX6_shoot q.1 = .ok q.2)) = true := by decide +kernel
theorem dX6_shoot_177 : decode cX6_shoot 177 = .ok (.sipush 1154, 3) := dec_row aX6_shoot_2 0 rfl
theorem dX6_shoot_180 : decode cX6_shoot 180 = .ok (.iaload, 1) := dec_row aX6_shoot_2 1 rfl
theorem dX6_shoot_181 : decode cX6_shoot 181 = .ok (.iastore, 1) := dec_row aX6_shoot_2 2 rfl
theorem dX6_shoot_182 : decode cX6_shoot 182 = .ok (.aload_n 0, 1) := dec_row aX6_shoot_2 3 rfl
theorem dX6_shoot_183 : decode cX6_shoot 183 = .ok (.getfield 31, 3) := dec_row aX6_shoot_2 4 rfl
theorem dX6_shoot_186 : decode cX6_shoot 186 = .ok (.iconst 5, 1) := dec_row aX6_shoot_2 5 rfl
theorem dX6_shoot_187 : decode cX6_shoot 187 = .ok (.iaload, 1) := dec_row aX6_shoot_2 6 rfl
theorem dX6_shoot_188 : decode cX6_shoot 188 = .ok (.ireturn, 1) := dec_row aX6_shoot_2 7 rfl
def tX6_waitCool : List (Nat × Instr × Nat) := [(0, .aload_n 0, 1), (1, .getfield 25, 3), (4, .sipush 1013, 3), (7, .iaload, 1), (8, .ifCond .ne 6, 3), (11, .bipush (-2), 2), (13, .ireturn, 1), (14, .aload_n 0, 1), (15, .invokevirtual 159, 3), (18, .aload_n 0, 1), (19, .getfield 25, 3), (22, .sipush 1013, 3), (25, .iconst 0, 1), (26, .iastore, 1), (27, .aload_n 0, 1), (28, .getfield 25, 3), (31, .sipush 1014, 3), (34, .iaload, 1), (35, .ireturn, 1)]
theorem aX6_waitCool : tX6_waitCool.all (fun q => decide (decode cX6_waitCool q.1 = .ok q.2)) = true := by decide +kernel
theorem dX6_waitCool_0 : decode cX6_waitCool 0 = .ok (.aload_n 0, 1) := dec_row aX6_waitCool 0 rfl
theorem dX6_waitCool_1 : decode cX6_waitCool 1 = .ok (.getfield 25, 3) := dec_row aX6_waitCool 1 rfl
theorem dX6_waitCool_4 : decode cX6_waitCool 4 = .ok (.sipush 1013, 3) := dec_row aX6_waitCool 2 rfl
theorem dX6_waitCool_7 : decode cX6_waitCool 7 = .ok (.iaload, 1) := dec_row aX6_waitCool 3 rfl
theorem dX6_waitCool_8 : decode cX6_waitCool 8 = .ok (.ifCond .ne 6, 3) := dec_row aX6_waitCool 4 rfl
theorem dX6_waitCool_11 : decode cX6_waitCool 11 = .ok (.bipush (-2), 2) := dec_row aX6_waitCool 5 rfl
theorem dX6_waitCool_13 : decode cX6_waitCool 13 = .ok (.ireturn, 1) := dec_row aX6_waitCool 6 rfl
theorem dX6_waitCool_14 : decode cX6_waitCool 14 = .ok (.aload_n 0, 1) := dec_row aX6_waitCool 7 rfl
theorem dX6_waitCool_15 : decode cX6_waitCool 15 = .ok (.invokevirtual 159, 3) := dec_row aX6_waitCool 8 rfl
theorem dX6_waitCool_18 : decode cX6_waitCool 18 = .ok (.aload_n 0, 1) := dec_row aX6_waitCool 9 rfl
theorem dX6_waitCool_19 : decode cX6_waitCool 19 = .ok (.getfield 25, 3) := dec_row aX6_waitCool 10 rfl
theorem dX6_waitCool_22 : decode cX6_waitCool 22 = .ok (.sipush 1013, 3) := dec_row aX6_waitCool 11 rfl
theorem dX6_waitCool_25 : decode cX6_waitCool 25 = .ok (.iconst 0, 1) := dec_row aX6_waitCool 12 rfl
theorem dX6_waitCool_26 : decode cX6_waitCool 26 = .ok (.iastore, 1) := dec_row aX6_waitCool 13 rfl
theorem dX6_waitCool_27 : decode cX6_waitCool 27 = .ok (.aload_n 0, 1) := dec_row aX6_waitCool 14 rfl
theorem dX6_waitCool_28 : decode cX6_waitCool 28 = .ok (.getfield 25, 3) := dec_row aX6_waitCool 15 rfl
theorem dX6_waitCool_31 : decode cX6_waitCool 31 = .ok (.sipush 1014, 3) := dec_row aX6_waitCool 16 rfl
theorem dX6_waitCool_34 : decode cX6_waitCool 34 = .ok (.iaload, 1) := dec_row aX6_waitCool 17 rfl
theorem dX6_waitCool_35 : decode cX6_waitCool 35 = .ok (.ireturn, 1) := dec_row aX6_waitCool 18 rfl
def tX6_shortBy : List (Nat × Instr × Nat) := [(0, .aload_n 0, 1), (1, .getfield 13, 3), (4, .iload_n 2, 1), (5, .iaload, 1), (6, .aload_n 0, 1), (7, .getfield 25, 3), (10, .bipush 84, 2), (12, .iload_n 1, 1), (13, .imul, 1), (14, .bipush 66, 2), (16, .iadd, 1), (17, .iload_n 2, 1), (18, .iadd, 1), (19, .iaload, 1), (20, .isub, 1), (21, .istore_n 3, 1), (22, .iload_n 3, 1), (23, .ifCond .le 7, 3), (26, .iload_n 3, 1), (27, .goto 4, 3), (30, .iconst 0, 1), (31, .ireturn, 1)]
theorem aX6_shortBy : tX6_shortBy.all (fun q => decide (decode cX6_shortBy q.1 = .ok q.2)) = true := by decide +kernel
theorem dX6_shortBy_0 : decode cX6_shortBy 0 = .ok (.aload_n 0, 1) := dec_row aX6_shortBy 0 rfl
theorem dX6_shortBy_1 : decode cX6_shortBy 1 = .ok (.getfield 13, 3) := dec_row aX6_shortBy 1 rfl
theorem dX6_shortBy_4 : decode cX6_shortBy 4 = .ok (.iload_n 2, 1) := dec_row aX6_shortBy 2 rfl
theorem dX6_shortBy_5 : decode cX6_shortBy 5 = .ok (.iaload, 1) := dec_row aX6_shortBy 3 rfl
theorem dX6_shortBy_6 : decode cX6_shortBy 6 = .ok (.aload_n 0, 1) := dec_row aX6_shortBy 4 rfl
theorem dX6_shortBy_7 : decode cX6_shortBy 7 = .ok (.getfield 25, 3) := dec_row aX6_shortBy 5 rfl
theorem dX6_shortBy_10 : decode cX6_shortBy 10 = .ok (.bipush 84, 2) := dec_row aX6_shortBy 6 rfl
theorem dX6_shortBy_12 : decode cX6_shortBy 12 = .ok (.iload_n 1, 1) := dec_row aX6_shortBy 7 rfl
theorem dX6_shortBy_13 : decode cX6_shortBy 13 = .ok (.imul, 1) := dec_row aX6_shortBy 8 rfl
theorem dX6_shortBy_14 : decode cX6_shortBy 14 = .ok (.bipush 66, 2) := dec_row aX6_shortBy 9 rfl
theorem dX6_shortBy_16 : decode cX6_shortBy 16 = .ok (.iadd, 1) := dec_row aX6_shortBy 10 rfl
theorem dX6_shortBy_17 : decode cX6_shortBy 17 = .ok (.iload_n 2, 1) := dec_row aX6_shortBy 11 rfl
theorem dX6_shortBy_18 : decode cX6_shortBy 18 = .ok (.iadd, 1) := dec_row aX6_shortBy 12 rfl
theorem dX6_shortBy_19 : decode cX6_shortBy 19 = .ok (.iaload, 1) := dec_row aX6_shortBy 13 rfl
theorem dX6_shortBy_20 : decode cX6_shortBy 20 = .ok (.isub, 1) := dec_row aX6_shortBy 14 rfl
theorem dX6_shortBy_21 : decode cX6_shortBy 21 = .ok (.istore_n 3, 1) := dec_row aX6_shortBy 15 rfl
theorem dX6_shortBy_22 : decode cX6_shortBy 22 = .ok (.iload_n 3, 1) := dec_row aX6_shortBy 16 rfl
theorem dX6_shortBy_23 : decode cX6_shortBy 23 = .ok (.ifCond .le 7, 3) := dec_row aX6_shortBy 17 rfl
theorem dX6_shortBy_26 : decode cX6_shortBy 26 = .ok (.iload_n 3, 1) := dec_row aX6_shortBy 18 rfl
theorem dX6_shortBy_27 : decode cX6_shortBy 27 = .ok (.goto 4, 3) := dec_row aX6_shortBy 19 rfl
theorem dX6_shortBy_30 : decode cX6_shortBy 30 = .ok (.iconst 0, 1) := dec_row aX6_shortBy 20 rfl
theorem dX6_shortBy_31 : decode cX6_shortBy 31 = .ok (.ireturn, 1) := dec_row aX6_shortBy 21 rfl
def tX6_overBy : List (Nat × Instr × Nat) := [(0, .aload_n 0, 1), (1, .getfield 25, 3), (4, .bipush 84, 2), (6, .iload_n 1, 1), (7, .imul, 1), (8, .bipush 66, 2), (10, .iadd, 1), (11, .iload_n 2, 1), (12, .iadd, 1), (13, .iaload, 1), (14, .aload_n 0, 1), (15, .getfield 13, 3), (18, .iload_n 2, 1), (19, .iaload, 1), (20, .isub, 1), (21, .istore_n 3, 1), (22, .iload_n 3, 1), (23, .ifCond .le 7, 3), (26, .iload_n 3, 1), (27, .goto 4, 3), (30, .iconst 0, 1), (31, .ireturn, 1)]
theorem aX6_overBy : tX6_overBy.all (fun q => decide (decode cX6_overBy q.1 = .ok q.2)) = true := by decide +kernel
theorem dX6_overBy_0 : decode cX6_overBy 0 = .ok (.aload_n 0, 1) := dec_row aX6_overBy 0 rfl
theorem dX6_overBy_1 : decode cX6_overBy 1 = .ok (.getfield 25, 3) := dec_row aX6_overBy 1 rfl
theorem dX6_overBy_4 : decode cX6_overBy 4 = .ok (.bipush 84, 2) := dec_row aX6_overBy 2 rfl
theorem dX6_overBy_6 : decode cX6_overBy 6 = .ok (.iload_n 1, 1) := dec_row aX6_overBy 3 rfl
theorem dX6_overBy_7 : decode cX6_overBy 7 = .ok (.imul, 1) := dec_row aX6_overBy 4 rfl
theorem dX6_overBy_8 : decode cX6_overBy 8 = .ok (.bipush 66, 2) := dec_row aX6_overBy 5 rfl
theorem dX6_overBy_10 : decode cX6_overBy 10 = .ok (.iadd, 1) := dec_row aX6_overBy 6 rfl
theorem dX6_overBy_11 : decode cX6_overBy 11 = .ok (.iload_n 2, 1) := dec_row aX6_overBy 7 rfl
theorem dX6_overBy_12 : decode cX6_overBy 12 = .ok (.iadd, 1) := dec_row aX6_overBy 8 rfl
theorem dX6_overBy_13 : decode cX6_overBy 13 = .ok (.iaload, 1) := dec_row aX6_overBy 9 rfl
theorem dX6_overBy_14 : decode cX6_overBy 14 = .ok (.aload_n 0, 1) := dec_row aX6_overBy 10 rfl
theorem dX6_overBy_15 : decode cX6_overBy 15 = .ok (.getfield 13, 3) := dec_row aX6_overBy 11 rfl
theorem dX6_overBy_18 : decode cX6_overBy 18 = .ok (.iload_n 2, 1) := dec_row aX6_overBy 12 rfl
theorem dX6_overBy_19 : decode cX6_overBy 19 = .ok (.iaload, 1) := dec_row aX6_overBy 13 rfl
theorem dX6_overBy_20 : decode cX6_overBy 20 = .ok (.isub, 1) := dec_row aX6_overBy 14 rfl
theorem dX6_overBy_21 : decode cX6_overBy 21 = .ok (.istore_n 3, 1) := dec_row aX6_overBy 15 rfl
theorem dX6_overBy_22 : decode cX6_overBy 22 = .ok (.iload_n 3, 1) := dec_row aX6_overBy 16 rfl
theorem dX6_overBy_23 : decode cX6_overBy 23 = .ok (.ifCond .le 7, 3) := dec_row aX6_overBy 17 rfl
theorem dX6_overBy_26 : decode cX6_overBy 26 = .ok (.iload_n 3, 1) := dec_row aX6_overBy 18 rfl
theorem dX6_overBy_27 : decode cX6_overBy 27 = .ok (.goto 4, 3) := dec_row aX6_overBy 19 rfl
theorem dX6_overBy_30 : decode cX6_overBy 30 = .ok (.iconst 0, 1) := dec_row aX6_overBy 20 rfl
theorem dX6_overBy_31 : decode cX6_overBy 31 = .ok (.ireturn, 1) := dec_row aX6_overBy 21 rfl
def tX6_isShort : List (Nat × Instr × Nat) := [(0, .iconst 0, 1), (1, .istore_n 2, 1), (2, .iconst 0, 1), (3, .istore_n 3, 1), (4, .iload_n 3, 1), (5, .aload_n 0, 1), (6, .getfield 70, 3), (9, .if_icmp .ge 28, 3), (12, .iload_n 2, 1), (13, .ifCond .ne 12, 3), (16, .aload_n 0, 1), (17, .iload_n 1, 1), (18, .iload_n 3, 1), (19, .invokevirtual 183, 3), (22, .ifCond .le 7, 3), (25, .iconst 1, 1), (26, .goto 4, 3), (29, .iconst 0, 1), (30, .istore_n 2, 1), (31, .iinc 3 1, 3), (34, .goto (-30), 3), (37, .iload_n 2, 1), (38, .ireturn, 1)]
theorem aX6_isShort : tX6_isShort.all (fun q => decide (decode cX6_isShort q.1 = .ok q.2)) = true := by decide +kernel
theorem dX6_isShort_0 : decode cX6_isShort 0 = .ok (.iconst 0, 1) := dec_row aX6_isShort 0 rfl
theorem dX6_isShort_1 : decode cX6_isShort 1 = .ok (.istore_n 2, 1) := dec_row aX6_isShort 1 rfl
theorem dX6_isShort_2 : decode cX6_isShort 2 = .ok (.iconst 0, 1) := dec_row aX6_isShort 2 rfl
theorem dX6_isShort_3 : decode cX6_isShort 3 = .ok (.istore_n 3, 1) := dec_row aX6_isShort 3 rfl
theorem dX6_isShort_4 : decode cX6_isShort 4 = .ok (.iload_n 3, 1) := dec_row aX6_isShort 4 rfl
theorem dX6_isShort_5 : decode cX6_isShort 5 = .ok (.aload_n 0, 1) := dec_row aX6_isShort 5 rfl
theorem dX6_isShort_6 : decode cX6_isShort 6 = .ok (.getfield 70, 3) := dec_row aX6_isShort 6 rfl
theorem dX6_isShort_9 : decode cX6_isShort 9 = .ok (.if_icmp .ge 28, 3) := dec_row aX6_isShort 7 rfl
theorem dX6_isShort_12 : decode cX6_isShort 12 = .ok (.iload_n 2, 1) := dec_row aX6_isShort 8 rfl
theorem dX6_isShort_13 : decode cX6_isShort 13 = .ok (.ifCond .ne 12, 3) := dec_row aX6_isShort 9 rfl
theorem dX6_isShort_16 : decode cX6_isShort 16 = .ok (.aload_n 0, 1) := dec_row aX6_isShort 10 rfl
theorem dX6_isShort_17 : decode cX6_isShort 17 = .ok (.iload_n 1, 1) := dec_row aX6_isShort 11 rfl
theorem dX6_isShort_18 : decode cX6_isShort 18 = .ok (.iload_n 3, 1) := dec_row aX6_isShort 12 rfl
theorem dX6_isShort_19 : decode cX6_isShort 19 = .ok (.invokevirtual 183, 3) := dec_row aX6_isShort 13 rfl
theorem dX6_isShort_22 : decode cX6_isShort 22 = .ok (.ifCond .le 7, 3) := dec_row aX6_isShort 14 rfl
theorem dX6_isShort_25 : decode cX6_isShort 25 = .ok (.iconst 1, 1) := dec_row aX6_isShort 15 rfl
theorem dX6_isShort_26 : decode cX6_isShort 26 = .ok (.goto 4, 3) := dec_row aX6_isShort 16 rfl
theorem dX6_isShort_29 : decode cX6_isShort 29 = .ok (.iconst 0, 1) := dec_row aX6_isShort 17 rfl
theorem dX6_isShort_30 : decode cX6_isShort 30 = .ok (.istore_n 2, 1) := dec_row aX6_isShort 18 rfl
theorem dX6_isShort_31 : decode cX6_isShort 31 = .ok (.iinc 3 1, 3) := dec_row aX6_isShort 19 rfl
theorem dX6_isShort_34 : decode cX6_isShort 34 = .ok (.goto (-30), 3) := dec_row aX6_isShort 20 rfl
theorem dX6_isShort_37 : decode cX6_isShort 37 = .ok (.iload_n 2, 1) := dec_row aX6_isShort 21 rfl
theorem dX6_isShort_38 : decode cX6_isShort 38 = .ok (.ireturn, 1) := dec_row aX6_isShort 22 rfl
def tX6_teach_0 : List (Nat × Instr × Nat) := [(0, .aload_n 0, 1), (1, .iload_n 1, 1), (2, .invokevirtual 186, 3), (5, .ifCond .ne 5, 3), (8, .iconst (-1), 1), (9, .ireturn, 1), (10, .aload_n 0, 1), (11, .iload_n 1, 1), (12, .invokevirtual 189, 3), (15, .ifCond .eq 6, 3), (18, .bipush (-2), 2), (20, .ireturn, 1), (21, .aload_n 0, 1), (22, .invokevirtual 159, 3), (25, .aload_n 0, 1), (26, .getfield 25, 3), (29, .sipush 1015, 3), (32, .iaload, 1), (33, .ifCond .ne 7, 3), (36, .iconst 1, 1), (37, .goto 4, 3), (40, .iconst 0, 1), (41, .istore_n 2, 1), (42, .iconst 0, 1), (43, .istore_n 3, 1), (44, .iload_n 3, 1), (45, .bipush 60, 2), (47, .if_icmp .ge 113, 3), (50, .aload_n 0, 1), (51, .getfield 25, 3), (54, .bipush 84, 2), (56, .iload_n 1, 1), (57, .imul, 1), (58, .bipush 6, 2), (60, .iadd, 1), (61, .iload_n 3, 1), (62, .iadd, 1), (63, .iaload, 1), (64, .istore 4, 2), (66, .aload_n 0, 1), (67, .getfield 25, 3), (70, .sipush 1019, 3), (73, .iload_n 3, 1), (74, .iadd, 1), (75, .iload_n 2, 1), (76, .ifCond .ne 18, 3), (79, .iload 4, 2), (81, .aload_n 0, 1), (82, .getfield 25, 3), (85, .sipush 1019, 3)]
theorem aX6_teach_0 : tX6_teach_0.all (fun q => decide (decode cX6_teach q.1 = .ok q.2)) = true := by decide +kernel
theorem dX6_teach_0 : decode cX6_teach 0 = .ok (.aload_n 0, 1) := dec_row aX6_teach_0 0 rfl
theorem dX6_teach_1 : decode cX6_teach 1 = .ok (.iload_n 1, 1) := dec_row aX6_teach_0 1 rfl
theorem dX6_teach_2 : decode cX6_teach 2 = .ok (.invokevirtual 186, 3) := dec_row aX6_teach_0 2 rfl
theorem dX6_teach_5 : decode cX6_teach 5 = .ok (.ifCond .ne 5, 3) := dec_row aX6_teach_0 3 rfl
theorem dX6_teach_8 : decode cX6_teach 8 = .ok (.iconst (-1), 1) := dec_row aX6_teach_0 4 rfl
theorem dX6_teach_9 : decode cX6_teach 9 = .ok (.ireturn, 1) := dec_row aX6_teach_0 5 rfl
theorem dX6_teach_10 : decode cX6_teach 10 = .ok (.aload_n 0, 1) := dec_row aX6_teach_0 6 rfl
theorem dX6_teach_11 : decode cX6_teach 11 = .ok (.iload_n 1, 1) := dec_row aX6_teach_0 7 rfl
theorem dX6_teach_12 : decode cX6_teach 12 = .ok (.invokevirtual 189, 3) := dec_row aX6_teach_0 8 rfl
theorem dX6_teach_15 : decode cX6_teach 15 = .ok (.ifCond .eq 6, 3) := dec_row aX6_teach_0 9 rfl
theorem dX6_teach_18 : decode cX6_teach 18 = .ok (.bipush (-2), 2) := dec_row aX6_teach_0 10 rfl
theorem dX6_teach_20 : decode cX6_teach 20 = .ok (.ireturn, 1) := dec_row aX6_teach_0 11 rfl
theorem dX6_teach_21 : decode cX6_teach 21 = .ok (.aload_n 0, 1) := dec_row aX6_teach_0 12 rfl
theorem dX6_teach_22 : decode cX6_teach 22 = .ok (.invokevirtual 159, 3) := dec_row aX6_teach_0 13 rfl
theorem dX6_teach_25 : decode cX6_teach 25 = .ok (.aload_n 0, 1) := dec_row aX6_teach_0 14 rfl
theorem dX6_teach_26 : decode cX6_teach 26 = .ok (.getfield 25, 3) := dec_row aX6_teach_0 15 rfl
theorem dX6_teach_29 : decode cX6_teach 29 = .ok (.sipush 1015, 3) := dec_row aX6_teach_0 16 rfl
theorem dX6_teach_32 : decode cX6_teach 32 = .ok (.iaload, 1) := dec_row aX6_teach_0 17 rfl
theorem dX6_teach_33 : decode cX6_teach 33 = .ok (.ifCond .ne 7, 3) := dec_row aX6_teach_0 18 rfl
theorem dX6_teach_36 : decode cX6_teach 36 = .ok (.iconst 1, 1) := dec_row aX6_teach_0 19 rfl
theorem dX6_teach_37 : decode cX6_teach 37 = .ok (.goto 4, 3) := dec_row aX6_teach_0 20 rfl
theorem dX6_teach_40 : decode cX6_teach 40 = .ok (.iconst 0, 1) := dec_row aX6_teach_0 21 rfl
theorem dX6_teach_41 : decode cX6_teach 41 = .ok (.istore_n 2, 1) := dec_row aX6_teach_0 22 rfl
theorem dX6_teach_42 : decode cX6_teach 42 = .ok (.iconst 0, 1) := dec_row aX6_teach_0 23 rfl
theorem dX6_teach_43 : decode cX6_teach 43 = .ok (.istore_n 3, 1) := dec_row aX6_teach_0 24 rfl
theorem dX6_teach_44 : decode cX6_teach 44 = .ok (.iload_n 3, 1) := dec_row aX6_teach_0 25 rfl
theorem dX6_teach_45 : decode cX6_teach 45 = .ok (.bipush 60, 2) := dec_row aX6_teach_0 26 rfl
theorem dX6_teach_47 : decode cX6_teach 47 = .ok (.if_icmp .ge 113, 3) := dec_row aX6_teach_0 27 rfl
theorem dX6_teach_50 : decode cX6_teach 50 = .ok (.aload_n 0, 1) := dec_row aX6_teach_0 28 rfl
theorem dX6_teach_51 : decode cX6_teach 51 = .ok (.getfield 25, 3) := dec_row aX6_teach_0 29 rfl
theorem dX6_teach_54 : decode cX6_teach 54 = .ok (.bipush 84, 2) := dec_row aX6_teach_0 30 rfl
theorem dX6_teach_56 : decode cX6_teach 56 = .ok (.iload_n 1, 1) := dec_row aX6_teach_0 31 rfl
theorem dX6_teach_57 : decode cX6_teach 57 = .ok (.imul, 1) := dec_row aX6_teach_0 32 rfl
theorem dX6_teach_58 : decode cX6_teach 58 = .ok (.bipush 6, 2) := dec_row aX6_teach_0 33 rfl
theorem dX6_teach_60 : decode cX6_teach 60 = .ok (.iadd, 1) := dec_row aX6_teach_0 34 rfl
theorem dX6_teach_61 : decode cX6_teach 61 = .ok (.iload_n 3, 1) := dec_row aX6_teach_0 35 rfl
theorem dX6_teach_62 : decode cX6_teach 62 = .ok (.iadd, 1) := dec_row aX6_teach_0 36 rfl
theorem dX6_teach_63 : decode cX6_teach 63 = .ok (.iaload, 1) := dec_row aX6_teach_0 37 rfl
theorem dX6_teach_64 : decode cX6_teach 64 = .ok (.istore 4, 2) := dec_row aX6_teach_0 38 rfl
theorem dX6_teach_66 : decode cX6_teach 66 = .ok (.aload_n 0, 1) := dec_row aX6_teach_0 39 rfl
theorem dX6_teach_67 : decode cX6_teach 67 = .ok (.getfield 25, 3) := dec_row aX6_teach_0 40 rfl
theorem dX6_teach_70 : decode cX6_teach 70 = .ok (.sipush 1019, 3) := dec_row aX6_teach_0 41 rfl
theorem dX6_teach_73 : decode cX6_teach 73 = .ok (.iload_n 3, 1) := dec_row aX6_teach_0 42 rfl
theorem dX6_teach_74 : decode cX6_teach 74 = .ok (.iadd, 1) := dec_row aX6_teach_0 43 rfl
theorem dX6_teach_75 : decode cX6_teach 75 = .ok (.iload_n 2, 1) := dec_row aX6_teach_0 44 rfl
theorem dX6_teach_76 : decode cX6_teach 76 = .ok (.ifCond .ne 18, 3) := dec_row aX6_teach_0 45 rfl
theorem dX6_teach_79 : decode cX6_teach 79 = .ok (.iload 4, 2) := dec_row aX6_teach_0 46 rfl
theorem dX6_teach_81 : decode cX6_teach 81 = .ok (.aload_n 0, 1) := dec_row aX6_teach_0 47 rfl
theorem dX6_teach_82 : decode cX6_teach 82 = .ok (.getfield 25, 3) := dec_row aX6_teach_0 48 rfl
theorem dX6_teach_85 : decode cX6_teach 85 = .ok (.sipush 1019, 3) := dec_row aX6_teach_0 49 rfl
def tX6_teach_1 : List (Nat × Instr × Nat) := [(88, .iload_n 3, 1), (89, .iadd, 1), (90, .iaload, 1), (91, .if_icmp .ge 8, 3), (94, .iload 4, 2), (96, .goto 13, 3), (99, .aload_n 0, 1), (100, .getfield 25, 3), (103, .sipush 1019, 3), (106, .iload_n 3, 1), (107, .iadd, 1), (108, .iaload, 1), (109, .iastore, 1), (110, .aload_n 0, 1), (111, .getfield 25, 3), (114, .sipush 1079, 3), (117, .iload_n 3, 1), (118, .iadd, 1), (119, .iload_n 2, 1), (120, .ifCond .ne 18, 3), (123, .iload 4, 2), (125, .aload_n 0, 1), (126, .getfield 25, 3), (129, .sipush 1079, 3), (132, .iload_n 3, 1), (133, .iadd, 1), (134, .iaload, 1), (135, .if_icmp .le 8, 3), (138, .iload 4, 2), (140, .goto 13, 3), (143, .aload_n 0, 1), (144, .getfield 25, 3), (147, .sipush 1079, 3), (150, .iload_n 3, 1), (151, .iadd, 1), (152, .iaload, 1), (153, .iastore, 1), (154, .iinc 3 1, 3), (157, .goto (-113), 3), (160, .aload_n 0, 1), (161, .getfield 25, 3), (164, .bipush 84, 2), (166, .iload_n 1, 1), (167, .imul, 1), (168, .iconst 1, 1), (169, .iadd, 1), (170, .iaload, 1), (171, .istore_n 3, 1), (172, .aload_n 0, 1), (173, .getfield 25, 3)]
theorem aX6_teach_1 : tX6_teach_1.all (fun q => decide (decode cX6_teach q.1 = .ok q.2)) = true := by decide +kernel
theorem dX6_teach_88 : decode cX6_teach 88 = .ok (.iload_n 3, 1) := dec_row aX6_teach_1 0 rfl
theorem dX6_teach_89 : decode cX6_teach 89 = .ok (.iadd, 1) := dec_row aX6_teach_1 1 rfl
theorem dX6_teach_90 : decode cX6_teach 90 = .ok (.iaload, 1) := dec_row aX6_teach_1 2 rfl
theorem dX6_teach_91 : decode cX6_teach 91 = .ok (.if_icmp .ge 8, 3) := dec_row aX6_teach_1 3 rfl
theorem dX6_teach_94 : decode cX6_teach 94 = .ok (.iload 4, 2) := dec_row aX6_teach_1 4 rfl
theorem dX6_teach_96 : decode cX6_teach 96 = .ok (.goto 13, 3) := dec_row aX6_teach_1 5 rfl
theorem dX6_teach_99 : decode cX6_teach 99 = .ok (.aload_n 0, 1) := dec_row aX6_teach_1 6 rfl
theorem dX6_teach_100 : decode cX6_teach 100 = .ok (.getfield 25, 3) := dec_row aX6_teach_1 7 rfl
theorem dX6_teach_103 : decode cX6_teach 103 = .ok (.sipush 1019, 3) := dec_row aX6_teach_1 8 rfl
theorem dX6_teach_106 : decode cX6_teach 106 = .ok (.iload_n 3, 1) := dec_row aX6_teach_1 9 rfl
theorem dX6_teach_107 : decode cX6_teach 107 = .ok (.iadd, 1) := dec_row aX6_teach_1 10 rfl
theorem dX6_teach_108 : decode cX6_teach 108 = .ok (.iaload, 1) := dec_row aX6_teach_1 11 rfl
theorem dX6_teach_109 : decode cX6_teach 109 = .ok (.iastore, 1) := dec_row aX6_teach_1 12 rfl
theorem dX6_teach_110 : decode cX6_teach 110 = .ok (.aload_n 0, 1) := dec_row aX6_teach_1 13 rfl
theorem dX6_teach_111 : decode cX6_teach 111 = .ok (.getfield 25, 3) := dec_row aX6_teach_1 14 rfl
theorem dX6_teach_114 : decode cX6_teach 114 = .ok (.sipush 1079, 3) := dec_row aX6_teach_1 15 rfl
theorem dX6_teach_117 : decode cX6_teach 117 = .ok (.iload_n 3, 1) := dec_row aX6_teach_1 16 rfl
theorem dX6_teach_118 : decode cX6_teach 118 = .ok (.iadd, 1) := dec_row aX6_teach_1 17 rfl
theorem dX6_teach_119 : decode cX6_teach 119 = .ok (.iload_n 2, 1) := dec_row aX6_teach_1 18 rfl
theorem dX6_teach_120 : decode cX6_teach 120 = .ok (.ifCond .ne 18, 3) := dec_row aX6_teach_1 19 rfl
theorem dX6_teach_123 : decode cX6_teach 123 = .ok (.iload 4, 2) := dec_row aX6_teach_1 20 rfl
theorem dX6_teach_125 : decode cX6_teach 125 = .ok (.aload_n 0, 1) := dec_row aX6_teach_1 21 rfl
theorem dX6_teach_126 : decode cX6_teach 126 = .ok (.getfield 25, 3) := dec_row aX6_teach_1 22 rfl
theorem dX6_teach_129 : decode cX6_teach 129 = .ok (.sipush 1079, 3) := dec_row aX6_teach_1 23 rfl
theorem dX6_teach_132 : decode cX6_teach 132 = .ok (.iload_n 3, 1) := dec_row aX6_teach_1 24 rfl
theorem dX6_teach_133 : decode cX6_teach 133 = .ok (.iadd, 1) := dec_row aX6_teach_1 25 rfl
theorem dX6_teach_134 : decode cX6_teach 134 = .ok (.iaload, 1) := dec_row aX6_teach_1 26 rfl
theorem dX6_teach_135 : decode cX6_teach 135 = .ok (.if_icmp .le 8, 3) := dec_row aX6_teach_1 27 rfl
theorem dX6_teach_138 : decode cX6_teach 138 = .ok (.iload 4, 2) := dec_row aX6_teach_1 28 rfl
theorem dX6_teach_140 : decode cX6_teach 140 = .ok (.goto 13, 3) := dec_row aX6_teach_1 29 rfl
theorem dX6_teach_143 : decode cX6_teach 143 = .ok (.aload_n 0, 1) := dec_row aX6_teach_1 30 rfl
theorem dX6_teach_144 : decode cX6_teach 144 = .ok (.getfield 25, 3) := dec_row aX6_teach_1 31 rfl
theorem dX6_teach_147 : decode cX6_teach 147 = .ok (.sipush 1079, 3) := dec_row aX6_teach_1 32 rfl
theorem dX6_teach_150 : decode cX6_teach 150 = .ok (.iload_n 3, 1) := dec_row aX6_teach_1 33 rfl
theorem dX6_teach_151 : decode cX6_teach 151 = .ok (.iadd, 1) := dec_row aX6_teach_1 34 rfl
theorem dX6_teach_152 : decode cX6_teach 152 = .ok (.iaload, 1) := dec_row aX6_teach_1 35 rfl
theorem dX6_teach_153 : decode cX6_teach 153 = .ok (.iastore, 1) := dec_row aX6_teach_1 36 rfl
theorem dX6_teach_154 : decode cX6_teach 154 = .ok (.iinc 3 1, 3) := dec_row aX6_teach_1 37 rfl
theorem dX6_teach_157 : decode cX6_teach 157 = .ok (.goto (-113), 3) := dec_row aX6_teach_1 38 rfl
theorem dX6_teach_160 : decode cX6_teach 160 = .ok (.aload_n 0, 1) := dec_row aX6_teach_1 39 rfl
theorem dX6_teach_161 : decode cX6_teach 161 = .ok (.getfield 25, 3) := dec_row aX6_teach_1 40 rfl
theorem dX6_teach_164 : decode cX6_teach 164 = .ok (.bipush 84, 2) := dec_row aX6_teach_1 41 rfl
theorem dX6_teach_166 : decode cX6_teach 166 = .ok (.iload_n 1, 1) := dec_row aX6_teach_1 42 rfl
theorem dX6_teach_167 : decode cX6_teach 167 = .ok (.imul, 1) := dec_row aX6_teach_1 43 rfl
theorem dX6_teach_168 : decode cX6_teach 168 = .ok (.iconst 1, 1) := dec_row aX6_teach_1 44 rfl
theorem dX6_teach_169 : decode cX6_teach 169 = .ok (.iadd, 1) := dec_row aX6_teach_1 45 rfl
theorem dX6_teach_170 : decode cX6_teach 170 = .ok (.iaload, 1) := dec_row aX6_teach_1 46 rfl
theorem dX6_teach_171 : decode cX6_teach 171 = .ok (.istore_n 3, 1) := dec_row aX6_teach_1 47 rfl
theorem dX6_teach_172 : decode cX6_teach 172 = .ok (.aload_n 0, 1) := dec_row aX6_teach_1 48 rfl
theorem dX6_teach_173 : decode cX6_teach 173 = .ok (.getfield 25, 3) := dec_row aX6_teach_1 49 rfl
def tX6_teach_2 : List (Nat × Instr × Nat) := [(176, .sipush 1016, 3), (179, .iload_n 2, 1), (180, .ifCond .ne 15, 3), (183, .iload_n 3, 1), (184, .aload_n 0, 1), (185, .getfield 25, 3), (188, .sipush 1016, 3), (191, .iaload, 1), (192, .if_icmp .ge 7, 3), (195, .iload_n 3, 1), (196, .goto 11, 3), (199, .aload_n 0, 1), (200, .getfield 25, 3), (203, .sipush 1016, 3), (206, .iaload, 1), (207, .iastore, 1), (208, .aload_n 0, 1), (209, .getfield 25, 3), (212, .sipush 1017, 3), (215, .iload_n 2, 1), (216, .ifCond .ne 15, 3), (219, .iload_n 3, 1), (220, .aload_n 0, 1), (221, .getfield 25, 3), (224, .sipush 1017, 3), (227, .iaload, 1), (228, .if_icmp .le 7, 3), (231, .iload_n 3, 1), (232, .goto 11, 3), (235, .aload_n 0, 1), (236, .getfield 25, 3), (239, .sipush 1017, 3), (242, .iaload, 1), (243, .iastore, 1), (244, .aload_n 0, 1), (245, .getfield 25, 3), (248, .sipush 1015, 3), (251, .dup2, 1), (252, .iaload, 1), (253, .iconst 1, 1), (254, .iadd, 1), (255, .iastore, 1), (256, .aload_n 0, 1), (257, .getfield 25, 3), (260, .sipush 1015, 3), (263, .iaload, 1), (264, .ireturn, 1)]
theorem aX6_teach_2 : tX6_teach_2.all (fun q => decide (decode cX6_teach q.1 = .ok q.2)) = true := by decide +kernel
theorem dX6_teach_176 : decode cX6_teach 176 = .ok (.sipush 1016, 3) := dec_row aX6_teach_2 0 rfl
theorem dX6_teach_179 : decode cX6_teach 179 = .ok (.iload_n 2, 1) := dec_row aX6_teach_2 1 rfl
theorem dX6_teach_180 : decode cX6_teach 180 = .ok (.ifCond .ne 15, 3) := dec_row aX6_teach_2 2 rfl
theorem dX6_teach_183 : decode cX6_teach 183 = .ok (.iload_n 3, 1) := dec_row aX6_teach_2 3 rfl
theorem dX6_teach_184 : decode cX6_teach 184 = .ok (.aload_n 0, 1) := dec_row aX6_teach_2 4 rfl
theorem dX6_teach_185 : decode cX6_teach 185 = .ok (.getfield 25, 3) := dec_row aX6_teach_2 5 rfl
theorem dX6_teach_188 : decode cX6_teach 188 = .ok (.sipush 1016, 3) := dec_row aX6_teach_2 6 rfl
theorem dX6_teach_191 : decode cX6_teach 191 = .ok (.iaload, 1) := dec_row aX6_teach_2 7 rfl
theorem dX6_teach_192 : decode cX6_teach 192 = .ok (.if_icmp .ge 7, 3) := dec_row aX6_teach_2 8 rfl
theorem dX6_teach_195 : decode cX6_teach 195 = .ok (.iload_n 3, 1) := dec_row aX6_teach_2 9 rfl
theorem dX6_teach_196 : decode cX6_teach 196 = .ok (.goto 11, 3) := dec_row aX6_teach_2 10 rfl
theorem dX6_teach_199 : decode cX6_teach 199 = .ok (.aload_n 0, 1) := dec_row aX6_teach_2 11 rfl
theorem dX6_teach_200 : decode cX6_teach 200 = .ok (.getfield 25, 3) := dec_row aX6_teach_2 12 rfl
theorem dX6_teach_203 : decode cX6_teach 203 = .ok (.sipush 1016, 3) := dec_row aX6_teach_2 13 rfl
theorem dX6_teach_206 : decode cX6_teach 206 = .ok (.iaload, 1) := dec_row aX6_teach_2 14 rfl
theorem dX6_teach_207 : decode cX6_teach 207 = .ok (.iastore, 1) := dec_row aX6_teach_2 15 rfl
theorem dX6_teach_208 : decode cX6_teach 208 = .ok (.aload_n 0, 1) := dec_row aX6_teach_2 16 rfl
theorem dX6_teach_209 : decode cX6_teach 209 = .ok (.getfield 25, 3) := dec_row aX6_teach_2 17 rfl
theorem dX6_teach_212 : decode cX6_teach 212 = .ok (.sipush 1017, 3) := dec_row aX6_teach_2 18 rfl
theorem dX6_teach_215 : decode cX6_teach 215 = .ok (.iload_n 2, 1) := dec_row aX6_teach_2 19 rfl
theorem dX6_teach_216 : decode cX6_teach 216 = .ok (.ifCond .ne 15, 3) := dec_row aX6_teach_2 20 rfl
theorem dX6_teach_219 : decode cX6_teach 219 = .ok (.iload_n 3, 1) := dec_row aX6_teach_2 21 rfl
theorem dX6_teach_220 : decode cX6_teach 220 = .ok (.aload_n 0, 1) := dec_row aX6_teach_2 22 rfl
theorem dX6_teach_221 : decode cX6_teach 221 = .ok (.getfield 25, 3) := dec_row aX6_teach_2 23 rfl
theorem dX6_teach_224 : decode cX6_teach 224 = .ok (.sipush 1017, 3) := dec_row aX6_teach_2 24 rfl
theorem dX6_teach_227 : decode cX6_teach 227 = .ok (.iaload, 1) := dec_row aX6_teach_2 25 rfl
theorem dX6_teach_228 : decode cX6_teach 228 = .ok (.if_icmp .le 7, 3) := dec_row aX6_teach_2 26 rfl
theorem dX6_teach_231 : decode cX6_teach 231 = .ok (.iload_n 3, 1) := dec_row aX6_teach_2 27 rfl
theorem dX6_teach_232 : decode cX6_teach 232 = .ok (.goto 11, 3) := dec_row aX6_teach_2 28 rfl
theorem dX6_teach_235 : decode cX6_teach 235 = .ok (.aload_n 0, 1) := dec_row aX6_teach_2 29 rfl
theorem dX6_teach_236 : decode cX6_teach 236 = .ok (.getfield 25, 3) := dec_row aX6_teach_2 30 rfl
theorem dX6_teach_239 : decode cX6_teach 239 = .ok (.sipush 1017, 3) := dec_row aX6_teach_2 31 rfl
theorem dX6_teach_242 : decode cX6_teach 242 = .ok (.iaload, 1) := dec_row aX6_teach_2 32 rfl
theorem dX6_teach_243 : decode cX6_teach 243 = .ok (.iastore, 1) := dec_row aX6_teach_2 33 rfl
theorem dX6_teach_244 : decode cX6_teach 244 = .ok (.aload_n 0, 1) := dec_row aX6_teach_2 34 rfl
theorem dX6_teach_245 : decode cX6_teach 245 = .ok (.getfield 25, 3) := dec_row aX6_teach_2 35 rfl
theorem dX6_teach_248 : decode cX6_teach 248 = .ok (.sipush 1015, 3) := dec_row aX6_teach_2 36 rfl
theorem dX6_teach_251 : decode cX6_teach 251 = .ok (.dup2, 1) := dec_row aX6_teach_2 37 rfl
theorem dX6_teach_252 : decode cX6_teach 252 = .ok (.iaload, 1) := dec_row aX6_teach_2 38 rfl
theorem dX6_teach_253 : decode cX6_teach 253 = .ok (.iconst 1, 1) := dec_row aX6_teach_2 39 rfl
theorem dX6_teach_254 : decode cX6_teach 254 = .ok (.iadd, 1) := dec_row aX6_teach_2 40 rfl
theorem dX6_teach_255 : decode cX6_teach 255 = .ok (.iastore, 1) := dec_row aX6_teach_2 41 rfl
theorem dX6_teach_256 : decode cX6_teach 256 = .ok (.aload_n 0, 1) := dec_row aX6_teach_2 42 rfl
theorem dX6_teach_257 : decode cX6_teach 257 = .ok (.getfield 25, 3) := dec_row aX6_teach_2 43 rfl
theorem dX6_teach_260 : decode cX6_teach 260 = .ok (.sipush 1015, 3) := dec_row aX6_teach_2 44 rfl
theorem dX6_teach_263 : decode cX6_teach 263 = .ok (.iaload, 1) := dec_row aX6_teach_2 45 rfl
theorem dX6_teach_264 : decode cX6_teach 264 = .ok (.ireturn, 1) := dec_row aX6_teach_2 46 rfl
def tX6_forget : List (Nat × Instr × Nat) := [(0, .aload_n 0, 1), (1, .getfield 25, 3), (4, .sipush 1015, 3), (7, .iaload, 1), (8, .istore_n 1, 1), (9, .iload_n 1, 1), (10, .ifCond .ne 6, 3), (13, .bipush (-2), 2), (15, .ireturn, 1), (16, .aload_n 0, 1), (17, .invokevirtual 159, 3), (20, .aload_n 0, 1), (21, .getfield 25, 3), (24, .sipush 1015, 3), (27, .iconst 0, 1), (28, .iastore, 1), (29, .iload_n 1, 1), (30, .ireturn, 1)]
theorem aX6_forget : tX6_forget.all (fun q => decide (decode cX6_forget q.1 = .ok q.2)) = true := by decide +kernel
theorem dX6_forget_0 : decode cX6_forget 0 = .ok (.aload_n 0, 1) := dec_row aX6_forget 0 rfl
theorem dX6_forget_1 : decode cX6_forget 1 = .ok (.getfield 25, 3) := dec_row aX6_forget 1 rfl
theorem dX6_forget_4 : decode cX6_forget 4 = .ok (.sipush 1015, 3) := dec_row aX6_forget 2 rfl
theorem dX6_forget_7 : decode cX6_forget 7 = .ok (.iaload, 1) := dec_row aX6_forget 3 rfl
theorem dX6_forget_8 : decode cX6_forget 8 = .ok (.istore_n 1, 1) := dec_row aX6_forget 4 rfl
theorem dX6_forget_9 : decode cX6_forget 9 = .ok (.iload_n 1, 1) := dec_row aX6_forget 5 rfl
theorem dX6_forget_10 : decode cX6_forget 10 = .ok (.ifCond .ne 6, 3) := dec_row aX6_forget 6 rfl
theorem dX6_forget_13 : decode cX6_forget 13 = .ok (.bipush (-2), 2) := dec_row aX6_forget 7 rfl
theorem dX6_forget_15 : decode cX6_forget 15 = .ok (.ireturn, 1) := dec_row aX6_forget 8 rfl
theorem dX6_forget_16 : decode cX6_forget 16 = .ok (.aload_n 0, 1) := dec_row aX6_forget 9 rfl
theorem dX6_forget_17 : decode cX6_forget 17 = .ok (.invokevirtual 159, 3) := dec_row aX6_forget 10 rfl
theorem dX6_forget_20 : decode cX6_forget 20 = .ok (.aload_n 0, 1) := dec_row aX6_forget 11 rfl
theorem dX6_forget_21 : decode cX6_forget 21 = .ok (.getfield 25, 3) := dec_row aX6_forget 12 rfl
theorem dX6_forget_24 : decode cX6_forget 24 = .ok (.sipush 1015, 3) := dec_row aX6_forget 13 rfl
theorem dX6_forget_27 : decode cX6_forget 27 = .ok (.iconst 0, 1) := dec_row aX6_forget 14 rfl
theorem dX6_forget_28 : decode cX6_forget 28 = .ok (.iastore, 1) := dec_row aX6_forget 15 rfl
theorem dX6_forget_29 : decode cX6_forget 29 = .ok (.iload_n 1, 1) := dec_row aX6_forget 16 rfl
theorem dX6_forget_30 : decode cX6_forget 30 = .ok (.ireturn, 1) := dec_row aX6_forget 17 rfl
def tX6_wide : List (Nat × Instr × Nat) := [(0, .iload_n 1, 1), (1, .iconst 0, 1), (2, .bipush 20, 2), (4, .invokestatic 95, 3), (7, .ifCond .eq 14, 3), (10, .aload_n 0, 1), (11, .sipush 1018, 3), (14, .iload_n 1, 1), (15, .invokevirtual 174, 3), (18, .goto 4, 3), (21, .iconst (-1), 1), (22, .ireturn, 1)]
theorem aX6_wide : tX6_wide.all (fun q => decide (decode cX6_wide q.1 = .ok q.2)) = true := by decide +kernel
theorem dX6_wide_0 : decode cX6_wide 0 = .ok (.iload_n 1, 1) := dec_row aX6_wide 0 rfl
theorem dX6_wide_1 : decode cX6_wide 1 = .ok (.iconst 0, 1) := dec_row aX6_wide 1 rfl
theorem dX6_wide_2 : decode cX6_wide 2 = .ok (.bipush 20, 2) := dec_row aX6_wide 2 rfl
theorem dX6_wide_4 : decode cX6_wide 4 = .ok (.invokestatic 95, 3) := dec_row aX6_wide 3 rfl
theorem dX6_wide_7 : decode cX6_wide 7 = .ok (.ifCond .eq 14, 3) := dec_row aX6_wide 4 rfl
theorem dX6_wide_10 : decode cX6_wide 10 = .ok (.aload_n 0, 1) := dec_row aX6_wide 5 rfl
theorem dX6_wide_11 : decode cX6_wide 11 = .ok (.sipush 1018, 3) := dec_row aX6_wide 6 rfl
theorem dX6_wide_14 : decode cX6_wide 14 = .ok (.iload_n 1, 1) := dec_row aX6_wide 7 rfl
theorem dX6_wide_15 : decode cX6_wide 15 = .ok (.invokevirtual 174, 3) := dec_row aX6_wide 8 rfl
theorem dX6_wide_18 : decode cX6_wide 18 = .ok (.goto 4, 3) := dec_row aX6_wide 9 rfl
theorem dX6_wide_21 : decode cX6_wide 21 = .ok (.iconst (-1), 1) := dec_row aX6_wide 10 rfl
theorem dX6_wide_22 : decode cX6_wide 22 = .ok (.ireturn, 1) := dec_row aX6_wide 11 rfl
def tX6_band : List (Nat × Instr × Nat) := [(0, .iload_n 1, 1), (1, .iconst 1, 1), (2, .bipush 60, 2), (4, .invokestatic 95, 3), (7, .ifCond .eq 12, 3), (10, .iload_n 2, 1), (11, .iconst 0, 1), (12, .iconst 1, 1), (13, .invokestatic 95, 3), (16, .ifCond .ne 5, 3), (19, .iconst (-1), 1), (20, .ireturn, 1), (21, .aload_n 0, 1), (22, .getfield 25, 3), (25, .sipush 1015, 3), (28, .iaload, 1), (29, .ifCond .eq 15, 3), (32, .iload_n 1, 1), (33, .aload_n 0, 1), (34, .getfield 25, 3), (37, .sipush 1017, 3), (40, .iaload, 1), (41, .if_icmp .le 6, 3), (44, .bipush (-4), 2), (46, .ireturn, 1), (47, .aload_n 0, 1), (48, .getfield 25, 3), (51, .iload_n 2, 1), (52, .ifCond .ne 9, 3), (55, .sipush 1019, 3), (58, .goto 6, 3), (61, .sipush 1079, 3), (64, .iload_n 1, 1), (65, .iadd, 1), (66, .iconst 1, 1), (67, .isub, 1), (68, .iaload, 1), (69, .ireturn, 1)]
theorem aX6_band : tX6_band.all (fun q => decide (decode cX6_band q.1 = .ok q.2)) = true := by decide +kernel
theorem dX6_band_0 : decode cX6_band 0 = .ok (.iload_n 1, 1) := dec_row aX6_band 0 rfl
theorem dX6_band_1 : decode cX6_band 1 = .ok (.iconst 1, 1) := dec_row aX6_band 1 rfl
theorem dX6_band_2 : decode cX6_band 2 = .ok (.bipush 60, 2) := dec_row aX6_band 2 rfl
theorem dX6_band_4 : decode cX6_band 4 = .ok (.invokestatic 95, 3) := dec_row aX6_band 3 rfl
theorem dX6_band_7 : decode cX6_band 7 = .ok (.ifCond .eq 12, 3) := dec_row aX6_band 4 rfl
theorem dX6_band_10 : decode cX6_band 10 = .ok (.iload_n 2, 1) := dec_row aX6_band 5 rfl
theorem dX6_band_11 : decode cX6_band 11 = .ok (.iconst 0, 1) := dec_row aX6_band 6 rfl
theorem dX6_band_12 : decode cX6_band 12 = .ok (.iconst 1, 1) := dec_row aX6_band 7 rfl
theorem dX6_band_13 : decode cX6_band 13 = .ok (.invokestatic 95, 3) := dec_row aX6_band 8 rfl
theorem dX6_band_16 : decode cX6_band 16 = .ok (.ifCond .ne 5, 3) := dec_row aX6_band 9 rfl
theorem dX6_band_19 : decode cX6_band 19 = .ok (.iconst (-1), 1) := dec_row aX6_band 10 rfl
theorem dX6_band_20 : decode cX6_band 20 = .ok (.ireturn, 1) := dec_row aX6_band 11 rfl
theorem dX6_band_21 : decode cX6_band 21 = .ok (.aload_n 0, 1) := dec_row aX6_band 12 rfl
theorem dX6_band_22 : decode cX6_band 22 = .ok (.getfield 25, 3) := dec_row aX6_band 13 rfl
theorem dX6_band_25 : decode cX6_band 25 = .ok (.sipush 1015, 3) := dec_row aX6_band 14 rfl
theorem dX6_band_28 : decode cX6_band 28 = .ok (.iaload, 1) := dec_row aX6_band 15 rfl
theorem dX6_band_29 : decode cX6_band 29 = .ok (.ifCond .eq 15, 3) := dec_row aX6_band 16 rfl
theorem dX6_band_32 : decode cX6_band 32 = .ok (.iload_n 1, 1) := dec_row aX6_band 17 rfl
theorem dX6_band_33 : decode cX6_band 33 = .ok (.aload_n 0, 1) := dec_row aX6_band 18 rfl
theorem dX6_band_34 : decode cX6_band 34 = .ok (.getfield 25, 3) := dec_row aX6_band 19 rfl
theorem dX6_band_37 : decode cX6_band 37 = .ok (.sipush 1017, 3) := dec_row aX6_band 20 rfl
theorem dX6_band_40 : decode cX6_band 40 = .ok (.iaload, 1) := dec_row aX6_band 21 rfl
theorem dX6_band_41 : decode cX6_band 41 = .ok (.if_icmp .le 6, 3) := dec_row aX6_band 22 rfl
theorem dX6_band_44 : decode cX6_band 44 = .ok (.bipush (-4), 2) := dec_row aX6_band 23 rfl
theorem dX6_band_46 : decode cX6_band 46 = .ok (.ireturn, 1) := dec_row aX6_band 24 rfl
theorem dX6_band_47 : decode cX6_band 47 = .ok (.aload_n 0, 1) := dec_row aX6_band 25 rfl
theorem dX6_band_48 : decode cX6_band 48 = .ok (.getfield 25, 3) := dec_row aX6_band 26 rfl
theorem dX6_band_51 : decode cX6_band 51 = .ok (.iload_n 2, 1) := dec_row aX6_band 27 rfl
theorem dX6_band_52 : decode cX6_band 52 = .ok (.ifCond .ne 9, 3) := dec_row aX6_band 28 rfl
theorem dX6_band_55 : decode cX6_band 55 = .ok (.sipush 1019, 3) := dec_row aX6_band 29 rfl
theorem dX6_band_58 : decode cX6_band 58 = .ok (.goto 6, 3) := dec_row aX6_band 30 rfl
theorem dX6_band_61 : decode cX6_band 61 = .ok (.sipush 1079, 3) := dec_row aX6_band 31 rfl
theorem dX6_band_64 : decode cX6_band 64 = .ok (.iload_n 1, 1) := dec_row aX6_band 32 rfl
theorem dX6_band_65 : decode cX6_band 65 = .ok (.iadd, 1) := dec_row aX6_band 33 rfl
theorem dX6_band_66 : decode cX6_band 66 = .ok (.iconst 1, 1) := dec_row aX6_band 34 rfl
theorem dX6_band_67 : decode cX6_band 67 = .ok (.isub, 1) := dec_row aX6_band 35 rfl
theorem dX6_band_68 : decode cX6_band 68 = .ok (.iaload, 1) := dec_row aX6_band 36 rfl
theorem dX6_band_69 : decode cX6_band 69 = .ok (.ireturn, 1) := dec_row aX6_band 37 rfl
def tX6_amiss_0 : List (Nat × Instr × Nat) := [(0, .iconst 0, 1), (1, .istore_n 2, 1), (2, .iconst 0, 1), (3, .istore_n 3, 1), (4, .iload_n 3, 1), (5, .bipush 60, 2), (7, .if_icmp .ge 81, 3), (10, .aload_n 0, 1), (11, .getfield 25, 3), (14, .bipush 84, 2), (16, .iload_n 1, 1), (17, .imul, 1), (18, .bipush 6, 2), (20, .iadd, 1), (21, .iload_n 3, 1), (22, .iadd, 1), (23, .iaload, 1), (24, .istore 4, 2), (26, .iload_n 2, 1), (27, .iload 4, 2), (29, .aload_n 0, 1), (30, .getfield 25, 3), (33, .sipush 1019, 3), (36, .iload_n 3, 1), (37, .iadd, 1), (38, .iaload, 1), (39, .aload_n 0, 1), (40, .getfield 25, 3), (43, .sipush 1018, 3), (46, .iaload, 1), (47, .isub, 1), (48, .if_icmp .lt 27, 3), (51, .iload 4, 2), (53, .aload_n 0, 1), (54, .getfield 25, 3), (57, .sipush 1079, 3), (60, .iload_n 3, 1), (61, .iadd, 1), (62, .iaload, 1), (63, .aload_n 0, 1), (64, .getfield 25, 3), (67, .sipush 1018, 3), (70, .iaload, 1), (71, .iadd, 1), (72, .if_icmp .le 7, 3), (75, .iconst 1, 1), (76, .goto 4, 3), (79, .iconst 0, 1), (80, .iadd, 1), (81, .istore_n 2, 1)]
theorem aX6_amiss_0 : tX6_amiss_0.all (fun q => decide (decode cX6_amiss q.1 = .ok q.2)) = true := by decide +kernel
theorem dX6_amiss_0 : decode cX6_amiss 0 = .ok (.iconst 0, 1) := dec_row aX6_amiss_0 0 rfl
theorem dX6_amiss_1 : decode cX6_amiss 1 = .ok (.istore_n 2, 1) := dec_row aX6_amiss_0 1 rfl
theorem dX6_amiss_2 : decode cX6_amiss 2 = .ok (.iconst 0, 1) := dec_row aX6_amiss_0 2 rfl
theorem dX6_amiss_3 : decode cX6_amiss 3 = .ok (.istore_n 3, 1) := dec_row aX6_amiss_0 3 rfl
theorem dX6_amiss_4 : decode cX6_amiss 4 = .ok (.iload_n 3, 1) := dec_row aX6_amiss_0 4 rfl
theorem dX6_amiss_5 : decode cX6_amiss 5 = .ok (.bipush 60, 2) := dec_row aX6_amiss_0 5 rfl
theorem dX6_amiss_7 : decode cX6_amiss 7 = .ok (.if_icmp .ge 81, 3) := dec_row aX6_amiss_0 6 rfl
theorem dX6_amiss_10 : decode cX6_amiss 10 = .ok (.aload_n 0, 1) := dec_row aX6_amiss_0 7 rfl
theorem dX6_amiss_11 : decode cX6_amiss 11 = .ok (.getfield 25, 3) := dec_row aX6_amiss_0 8 rfl
theorem dX6_amiss_14 : decode cX6_amiss 14 = .ok (.bipush 84, 2) := dec_row aX6_amiss_0 9 rfl
theorem dX6_amiss_16 : decode cX6_amiss 16 = .ok (.iload_n 1, 1) := dec_row aX6_amiss_0 10 rfl
theorem dX6_amiss_17 : decode cX6_amiss 17 = .ok (.imul, 1) := dec_row aX6_amiss_0 11 rfl
theorem dX6_amiss_18 : decode cX6_amiss 18 = .ok (.bipush 6, 2) := dec_row aX6_amiss_0 12 rfl
theorem dX6_amiss_20 : decode cX6_amiss 20 = .ok (.iadd, 1) := dec_row aX6_amiss_0 13 rfl
theorem dX6_amiss_21 : decode cX6_amiss 21 = .ok (.iload_n 3, 1) := dec_row aX6_amiss_0 14 rfl
theorem dX6_amiss_22 : decode cX6_amiss 22 = .ok (.iadd, 1) := dec_row aX6_amiss_0 15 rfl
theorem dX6_amiss_23 : decode cX6_amiss 23 = .ok (.iaload, 1) := dec_row aX6_amiss_0 16 rfl
theorem dX6_amiss_24 : decode cX6_amiss 24 = .ok (.istore 4, 2) := dec_row aX6_amiss_0 17 rfl
theorem dX6_amiss_26 : decode cX6_amiss 26 = .ok (.iload_n 2, 1) := dec_row aX6_amiss_0 18 rfl
theorem dX6_amiss_27 : decode cX6_amiss 27 = .ok (.iload 4, 2) := dec_row aX6_amiss_0 19 rfl
theorem dX6_amiss_29 : decode cX6_amiss 29 = .ok (.aload_n 0, 1) := dec_row aX6_amiss_0 20 rfl
theorem dX6_amiss_30 : decode cX6_amiss 30 = .ok (.getfield 25, 3) := dec_row aX6_amiss_0 21 rfl
theorem dX6_amiss_33 : decode cX6_amiss 33 = .ok (.sipush 1019, 3) := dec_row aX6_amiss_0 22 rfl
theorem dX6_amiss_36 : decode cX6_amiss 36 = .ok (.iload_n 3, 1) := dec_row aX6_amiss_0 23 rfl
theorem dX6_amiss_37 : decode cX6_amiss 37 = .ok (.iadd, 1) := dec_row aX6_amiss_0 24 rfl
theorem dX6_amiss_38 : decode cX6_amiss 38 = .ok (.iaload, 1) := dec_row aX6_amiss_0 25 rfl
theorem dX6_amiss_39 : decode cX6_amiss 39 = .ok (.aload_n 0, 1) := dec_row aX6_amiss_0 26 rfl
theorem dX6_amiss_40 : decode cX6_amiss 40 = .ok (.getfield 25, 3) := dec_row aX6_amiss_0 27 rfl
theorem dX6_amiss_43 : decode cX6_amiss 43 = .ok (.sipush 1018, 3) := dec_row aX6_amiss_0 28 rfl
theorem dX6_amiss_46 : decode cX6_amiss 46 = .ok (.iaload, 1) := dec_row aX6_amiss_0 29 rfl
theorem dX6_amiss_47 : decode cX6_amiss 47 = .ok (.isub, 1) := dec_row aX6_amiss_0 30 rfl
theorem dX6_amiss_48 : decode cX6_amiss 48 = .ok (.if_icmp .lt 27, 3) := dec_row aX6_amiss_0 31 rfl
theorem dX6_amiss_51 : decode cX6_amiss 51 = .ok (.iload 4, 2) := dec_row aX6_amiss_0 32 rfl
theorem dX6_amiss_53 : decode cX6_amiss 53 = .ok (.aload_n 0, 1) := dec_row aX6_amiss_0 33 rfl
theorem dX6_amiss_54 : decode cX6_amiss 54 = .ok (.getfield 25, 3) := dec_row aX6_amiss_0 34 rfl
theorem dX6_amiss_57 : decode cX6_amiss 57 = .ok (.sipush 1079, 3) := dec_row aX6_amiss_0 35 rfl
theorem dX6_amiss_60 : decode cX6_amiss 60 = .ok (.iload_n 3, 1) := dec_row aX6_amiss_0 36 rfl
theorem dX6_amiss_61 : decode cX6_amiss 61 = .ok (.iadd, 1) := dec_row aX6_amiss_0 37 rfl
theorem dX6_amiss_62 : decode cX6_amiss 62 = .ok (.iaload, 1) := dec_row aX6_amiss_0 38 rfl
theorem dX6_amiss_63 : decode cX6_amiss 63 = .ok (.aload_n 0, 1) := dec_row aX6_amiss_0 39 rfl
theorem dX6_amiss_64 : decode cX6_amiss 64 = .ok (.getfield 25, 3) := dec_row aX6_amiss_0 40 rfl
theorem dX6_amiss_67 : decode cX6_amiss 67 = .ok (.sipush 1018, 3) := dec_row aX6_amiss_0 41 rfl
theorem dX6_amiss_70 : decode cX6_amiss 70 = .ok (.iaload, 1) := dec_row aX6_amiss_0 42 rfl
theorem dX6_amiss_71 : decode cX6_amiss 71 = .ok (.iadd, 1) := dec_row aX6_amiss_0 43 rfl
theorem dX6_amiss_72 : decode cX6_amiss 72 = .ok (.if_icmp .le 7, 3) := dec_row aX6_amiss_0 44 rfl
theorem dX6_amiss_75 : decode cX6_amiss 75 = .ok (.iconst 1, 1) := dec_row aX6_amiss_0 45 rfl
theorem dX6_amiss_76 : decode cX6_amiss 76 = .ok (.goto 4, 3) := dec_row aX6_amiss_0 46 rfl
theorem dX6_amiss_79 : decode cX6_amiss 79 = .ok (.iconst 0, 1) := dec_row aX6_amiss_0 47 rfl
theorem dX6_amiss_80 : decode cX6_amiss 80 = .ok (.iadd, 1) := dec_row aX6_amiss_0 48 rfl
theorem dX6_amiss_81 : decode cX6_amiss 81 = .ok (.istore_n 2, 1) := dec_row aX6_amiss_0 49 rfl
def tX6_amiss_1 : List (Nat × Instr × Nat) := [(82, .iinc 3 1, 3), (85, .goto (-81), 3), (88, .iload_n 2, 1), (89, .ireturn, 1)]
theorem aX6_amiss_1 : tX6_amiss_1.all (fun q => decide (decode cX6_amiss q.1 = .ok q.2)) = true := by decide +kernel
theorem dX6_amiss_82 : decode cX6_amiss 82 = .ok (.iinc 3 1, 3) := dec_row aX6_amiss_1 0 rfl
theorem dX6_amiss_85 : decode cX6_amiss 85 = .ok (.goto (-81), 3) := dec_row aX6_amiss_1 1 rfl
theorem dX6_amiss_88 : decode cX6_amiss 88 = .ok (.iload_n 2, 1) := dec_row aX6_amiss_1 2 rfl
theorem dX6_amiss_89 : decode cX6_amiss 89 = .ok (.ireturn, 1) := dec_row aX6_amiss_1 3 rfl
def tX6_isBad_0 : List (Nat × Instr × Nat) := [(0, .iconst 0, 1), (1, .istore_n 2, 1), (2, .iconst 0, 1), (3, .istore_n 3, 1), (4, .iload_n 3, 1), (5, .aload_n 0, 1), (6, .getfield 70, 3), (9, .if_icmp .ge 39, 3), (12, .iload_n 2, 1), (13, .ifCond .ne 23, 3), (16, .aload_n 0, 1), (17, .iload_n 1, 1), (18, .iload_n 3, 1), (19, .invokevirtual 192, 3), (22, .iconst 1, 1), (23, .if_icmp .gt 13, 3), (26, .aload_n 0, 1), (27, .iload_n 1, 1), (28, .iload_n 3, 1), (29, .invokevirtual 183, 3), (32, .iconst 1, 1), (33, .if_icmp .le 7, 3), (36, .iconst 1, 1), (37, .goto 4, 3), (40, .iconst 0, 1), (41, .istore_n 2, 1), (42, .iinc 3 1, 3), (45, .goto (-41), 3), (48, .aload_n 0, 1), (49, .getfield 25, 3), (52, .bipush 84, 2), (54, .iload_n 1, 1), (55, .imul, 1), (56, .iconst 1, 1), (57, .iadd, 1), (58, .iaload, 1), (59, .istore_n 3, 1), (60, .iload_n 2, 1), (61, .ifCond .ne 51, 3), (64, .aload_n 0, 1), (65, .getfield 25, 3), (68, .sipush 1015, 3), (71, .iaload, 1), (72, .ifCond .le 44, 3), (75, .aload_n 0, 1), (76, .iload_n 1, 1), (77, .invokevirtual 195, 3), (80, .iconst 1, 1), (81, .if_icmp .gt 31, 3), (84, .iload_n 3, 1)]
theorem aX6_isBad_0 : tX6_isBad_0.all (fun q => decide (decode cX6_isBad q.1 = .ok q.2)) = true := by decide +kernel
theorem dX6_isBad_0 : decode cX6_isBad 0 = .ok (.iconst 0, 1) := dec_row aX6_isBad_0 0 rfl
theorem dX6_isBad_1 : decode cX6_isBad 1 = .ok (.istore_n 2, 1) := dec_row aX6_isBad_0 1 rfl
theorem dX6_isBad_2 : decode cX6_isBad 2 = .ok (.iconst 0, 1) := dec_row aX6_isBad_0 2 rfl
theorem dX6_isBad_3 : decode cX6_isBad 3 = .ok (.istore_n 3, 1) := dec_row aX6_isBad_0 3 rfl
theorem dX6_isBad_4 : decode cX6_isBad 4 = .ok (.iload_n 3, 1) := dec_row aX6_isBad_0 4 rfl
theorem dX6_isBad_5 : decode cX6_isBad 5 = .ok (.aload_n 0, 1) := dec_row aX6_isBad_0 5 rfl
theorem dX6_isBad_6 : decode cX6_isBad 6 = .ok (.getfield 70, 3) := dec_row aX6_isBad_0 6 rfl
theorem dX6_isBad_9 : decode cX6_isBad 9 = .ok (.if_icmp .ge 39, 3) := dec_row aX6_isBad_0 7 rfl
theorem dX6_isBad_12 : decode cX6_isBad 12 = .ok (.iload_n 2, 1) := dec_row aX6_isBad_0 8 rfl
theorem dX6_isBad_13 : decode cX6_isBad 13 = .ok (.ifCond .ne 23, 3) := dec_row aX6_isBad_0 9 rfl
theorem dX6_isBad_16 : decode cX6_isBad 16 = .ok (.aload_n 0, 1) := dec_row aX6_isBad_0 10 rfl
theorem dX6_isBad_17 : decode cX6_isBad 17 = .ok (.iload_n 1, 1) := dec_row aX6_isBad_0 11 rfl
theorem dX6_isBad_18 : decode cX6_isBad 18 = .ok (.iload_n 3, 1) := dec_row aX6_isBad_0 12 rfl
theorem dX6_isBad_19 : decode cX6_isBad 19 = .ok (.invokevirtual 192, 3) := dec_row aX6_isBad_0 13 rfl
theorem dX6_isBad_22 : decode cX6_isBad 22 = .ok (.iconst 1, 1) := dec_row aX6_isBad_0 14 rfl
theorem dX6_isBad_23 : decode cX6_isBad 23 = .ok (.if_icmp .gt 13, 3) := dec_row aX6_isBad_0 15 rfl
theorem dX6_isBad_26 : decode cX6_isBad 26 = .ok (.aload_n 0, 1) := dec_row aX6_isBad_0 16 rfl
theorem dX6_isBad_27 : decode cX6_isBad 27 = .ok (.iload_n 1, 1) := dec_row aX6_isBad_0 17 rfl
theorem dX6_isBad_28 : decode cX6_isBad 28 = .ok (.iload_n 3, 1) := dec_row aX6_isBad_0 18 rfl
theorem dX6_isBad_29 : decode cX6_isBad 29 = .ok (.invokevirtual 183, 3) := dec_row aX6_isBad_0 19 rfl
theorem dX6_isBad_32 : decode cX6_isBad 32 = .ok (.iconst 1, 1) := dec_row aX6_isBad_0 20 rfl
theorem dX6_isBad_33 : decode cX6_isBad 33 = .ok (.if_icmp .le 7, 3) := dec_row aX6_isBad_0 21 rfl
theorem dX6_isBad_36 : decode cX6_isBad 36 = .ok (.iconst 1, 1) := dec_row aX6_isBad_0 22 rfl
theorem dX6_isBad_37 : decode cX6_isBad 37 = .ok (.goto 4, 3) := dec_row aX6_isBad_0 23 rfl
theorem dX6_isBad_40 : decode cX6_isBad 40 = .ok (.iconst 0, 1) := dec_row aX6_isBad_0 24 rfl
theorem dX6_isBad_41 : decode cX6_isBad 41 = .ok (.istore_n 2, 1) := dec_row aX6_isBad_0 25 rfl
theorem dX6_isBad_42 : decode cX6_isBad 42 = .ok (.iinc 3 1, 3) := dec_row aX6_isBad_0 26 rfl
theorem dX6_isBad_45 : decode cX6_isBad 45 = .ok (.goto (-41), 3) := dec_row aX6_isBad_0 27 rfl
theorem dX6_isBad_48 : decode cX6_isBad 48 = .ok (.aload_n 0, 1) := dec_row aX6_isBad_0 28 rfl
theorem dX6_isBad_49 : decode cX6_isBad 49 = .ok (.getfield 25, 3) := dec_row aX6_isBad_0 29 rfl
theorem dX6_isBad_52 : decode cX6_isBad 52 = .ok (.bipush 84, 2) := dec_row aX6_isBad_0 30 rfl
theorem dX6_isBad_54 : decode cX6_isBad 54 = .ok (.iload_n 1, 1) := dec_row aX6_isBad_0 31 rfl
theorem dX6_isBad_55 : decode cX6_isBad 55 = .ok (.imul, 1) := dec_row aX6_isBad_0 32 rfl
theorem dX6_isBad_56 : decode cX6_isBad 56 = .ok (.iconst 1, 1) := dec_row aX6_isBad_0 33 rfl
theorem dX6_isBad_57 : decode cX6_isBad 57 = .ok (.iadd, 1) := dec_row aX6_isBad_0 34 rfl
theorem dX6_isBad_58 : decode cX6_isBad 58 = .ok (.iaload, 1) := dec_row aX6_isBad_0 35 rfl
theorem dX6_isBad_59 : decode cX6_isBad 59 = .ok (.istore_n 3, 1) := dec_row aX6_isBad_0 36 rfl
theorem dX6_isBad_60 : decode cX6_isBad 60 = .ok (.iload_n 2, 1) := dec_row aX6_isBad_0 37 rfl
theorem dX6_isBad_61 : decode cX6_isBad 61 = .ok (.ifCond .ne 51, 3) := dec_row aX6_isBad_0 38 rfl
theorem dX6_isBad_64 : decode cX6_isBad 64 = .ok (.aload_n 0, 1) := dec_row aX6_isBad_0 39 rfl
theorem dX6_isBad_65 : decode cX6_isBad 65 = .ok (.getfield 25, 3) := dec_row aX6_isBad_0 40 rfl
theorem dX6_isBad_68 : decode cX6_isBad 68 = .ok (.sipush 1015, 3) := dec_row aX6_isBad_0 41 rfl
theorem dX6_isBad_71 : decode cX6_isBad 71 = .ok (.iaload, 1) := dec_row aX6_isBad_0 42 rfl
theorem dX6_isBad_72 : decode cX6_isBad 72 = .ok (.ifCond .le 44, 3) := dec_row aX6_isBad_0 43 rfl
theorem dX6_isBad_75 : decode cX6_isBad 75 = .ok (.aload_n 0, 1) := dec_row aX6_isBad_0 44 rfl
theorem dX6_isBad_76 : decode cX6_isBad 76 = .ok (.iload_n 1, 1) := dec_row aX6_isBad_0 45 rfl
theorem dX6_isBad_77 : decode cX6_isBad 77 = .ok (.invokevirtual 195, 3) := dec_row aX6_isBad_0 46 rfl
theorem dX6_isBad_80 : decode cX6_isBad 80 = .ok (.iconst 1, 1) := dec_row aX6_isBad_0 47 rfl
theorem dX6_isBad_81 : decode cX6_isBad 81 = .ok (.if_icmp .gt 31, 3) := dec_row aX6_isBad_0 48 rfl
theorem dX6_isBad_84 : decode cX6_isBad 84 = .ok (.iload_n 3, 1) := dec_row aX6_isBad_0 49 rfl
def tX6_isBad_1 : List (Nat × Instr × Nat) := [(85, .aload_n 0, 1), (86, .getfield 25, 3), (89, .sipush 1016, 3), (92, .iaload, 1), (93, .iconst 1, 1), (94, .isub, 1), (95, .if_icmp .lt 17, 3), (98, .iload_n 3, 1), (99, .aload_n 0, 1), (100, .getfield 25, 3), (103, .sipush 1017, 3), (106, .iaload, 1), (107, .iconst 1, 1), (108, .iadd, 1), (109, .if_icmp .le 7, 3), (112, .iconst 1, 1), (113, .goto 4, 3), (116, .iconst 0, 1), (117, .ireturn, 1)]
theorem aX6_isBad_1 : tX6_isBad_1.all (fun q => decide (decode cX6_isBad q.1 = .ok q.2)) = true := by decide +kernel
theorem dX6_isBad_85 : decode cX6_isBad 85 = .ok (.aload_n 0, 1) := dec_row aX6_isBad_1 0 rfl
theorem dX6_isBad_86 : decode cX6_isBad 86 = .ok (.getfield 25, 3) := dec_row aX6_isBad_1 1 rfl
theorem dX6_isBad_89 : decode cX6_isBad 89 = .ok (.sipush 1016, 3) := dec_row aX6_isBad_1 2 rfl
theorem dX6_isBad_92 : decode cX6_isBad 92 = .ok (.iaload, 1) := dec_row aX6_isBad_1 3 rfl
theorem dX6_isBad_93 : decode cX6_isBad 93 = .ok (.iconst 1, 1) := dec_row aX6_isBad_1 4 rfl
theorem dX6_isBad_94 : decode cX6_isBad 94 = .ok (.isub, 1) := dec_row aX6_isBad_1 5 rfl
theorem dX6_isBad_95 : decode cX6_isBad 95 = .ok (.if_icmp .lt 17, 3) := dec_row aX6_isBad_1 6 rfl
theorem dX6_isBad_98 : decode cX6_isBad 98 = .ok (.iload_n 3, 1) := dec_row aX6_isBad_1 7 rfl
theorem dX6_isBad_99 : decode cX6_isBad 99 = .ok (.aload_n 0, 1) := dec_row aX6_isBad_1 8 rfl
theorem dX6_isBad_100 : decode cX6_isBad 100 = .ok (.getfield 25, 3) := dec_row aX6_isBad_1 9 rfl
theorem dX6_isBad_103 : decode cX6_isBad 103 = .ok (.sipush 1017, 3) := dec_row aX6_isBad_1 10 rfl
theorem dX6_isBad_106 : decode cX6_isBad 106 = .ok (.iaload, 1) := dec_row aX6_isBad_1 11 rfl
theorem dX6_isBad_107 : decode cX6_isBad 107 = .ok (.iconst 1, 1) := dec_row aX6_isBad_1 12 rfl
theorem dX6_isBad_108 : decode cX6_isBad 108 = .ok (.iadd, 1) := dec_row aX6_isBad_1 13 rfl
theorem dX6_isBad_109 : decode cX6_isBad 109 = .ok (.if_icmp .le 7, 3) := dec_row aX6_isBad_1 14 rfl
theorem dX6_isBad_112 : decode cX6_isBad 112 = .ok (.iconst 1, 1) := dec_row aX6_isBad_1 15 rfl
theorem dX6_isBad_113 : decode cX6_isBad 113 = .ok (.goto 4, 3) := dec_row aX6_isBad_1 16 rfl
theorem dX6_isBad_116 : decode cX6_isBad 116 = .ok (.iconst 0, 1) := dec_row aX6_isBad_1 17 rfl
theorem dX6_isBad_117 : decode cX6_isBad 117 = .ok (.ireturn, 1) := dec_row aX6_isBad_1 18 rfl
def tX6_shot : List (Nat × Instr × Nat) := [(0, .aload_n 0, 1), (1, .iload_n 1, 1), (2, .invokevirtual 186, 3), (5, .ifCond .eq 13, 3), (8, .iload_n 2, 1), (9, .iconst 0, 1), (10, .bipush 8, 2), (12, .invokestatic 95, 3), (15, .ifCond .ne 5, 3), (18, .iconst (-1), 1), (19, .ireturn, 1), (20, .iload_n 2, 1), (21, .bipush 7, 2), (23, .if_icmp .ge 16, 3), (26, .aload_n 0, 1), (27, .getfield 25, 3), (30, .bipush 84, 2), (32, .iload_n 1, 1), (33, .imul, 1), (34, .iload_n 2, 1), (35, .invokestatic 198, 3), (38, .ireturn, 1), (39, .iload_n 2, 1), (40, .bipush 8, 2), (42, .if_icmp .ne 19, 3), (45, .aload_n 0, 1), (46, .iload_n 1, 1), (47, .invokevirtual 202, 3), (50, .ifCond .eq 7, 3), (53, .iconst 1, 1), (54, .goto 28, 3), (57, .iconst 0, 1), (58, .goto 24, 3), (61, .aload_n 0, 1), (62, .getfield 25, 3), (65, .sipush 1015, 3), (68, .iaload, 1), (69, .ifCond .ne 8, 3), (72, .bipush (-4), 2), (74, .goto 8, 3), (77, .aload_n 0, 1), (78, .iload_n 1, 1), (79, .invokevirtual 195, 3), (82, .ireturn, 1)]
theorem aX6_shot : tX6_shot.all (fun q => decide (decode cX6_shot q.1 = .ok q.2)) = true := by decide +kernel
theorem dX6_shot_0 : decode cX6_shot 0 = .ok (.aload_n 0, 1) := dec_row aX6_shot 0 rfl
theorem dX6_shot_1 : decode cX6_shot 1 = .ok (.iload_n 1, 1) := dec_row aX6_shot 1 rfl
theorem dX6_shot_2 : decode cX6_shot 2 = .ok (.invokevirtual 186, 3) := dec_row aX6_shot 2 rfl
theorem dX6_shot_5 : decode cX6_shot 5 = .ok (.ifCond .eq 13, 3) := dec_row aX6_shot 3 rfl
theorem dX6_shot_8 : decode cX6_shot 8 = .ok (.iload_n 2, 1) := dec_row aX6_shot 4 rfl
theorem dX6_shot_9 : decode cX6_shot 9 = .ok (.iconst 0, 1) := dec_row aX6_shot 5 rfl
theorem dX6_shot_10 : decode cX6_shot 10 = .ok (.bipush 8, 2) := dec_row aX6_shot 6 rfl
theorem dX6_shot_12 : decode cX6_shot 12 = .ok (.invokestatic 95, 3) := dec_row aX6_shot 7 rfl
theorem dX6_shot_15 : decode cX6_shot 15 = .ok (.ifCond .ne 5, 3) := dec_row aX6_shot 8 rfl
theorem dX6_shot_18 : decode cX6_shot 18 = .ok (.iconst (-1), 1) := dec_row aX6_shot 9 rfl
theorem dX6_shot_19 : decode cX6_shot 19 = .ok (.ireturn, 1) := dec_row aX6_shot 10 rfl
theorem dX6_shot_20 : decode cX6_shot 20 = .ok (.iload_n 2, 1) := dec_row aX6_shot 11 rfl
theorem dX6_shot_21 : decode cX6_shot 21 = .ok (.bipush 7, 2) := dec_row aX6_shot 12 rfl
theorem dX6_shot_23 : decode cX6_shot 23 = .ok (.if_icmp .ge 16, 3) := dec_row aX6_shot 13 rfl
theorem dX6_shot_26 : decode cX6_shot 26 = .ok (.aload_n 0, 1) := dec_row aX6_shot 14 rfl
theorem dX6_shot_27 : decode cX6_shot 27 = .ok (.getfield 25, 3) := dec_row aX6_shot 15 rfl
theorem dX6_shot_30 : decode cX6_shot 30 = .ok (.bipush 84, 2) := dec_row aX6_shot 16 rfl
theorem dX6_shot_32 : decode cX6_shot 32 = .ok (.iload_n 1, 1) := dec_row aX6_shot 17 rfl
theorem dX6_shot_33 : decode cX6_shot 33 = .ok (.imul, 1) := dec_row aX6_shot 18 rfl
theorem dX6_shot_34 : decode cX6_shot 34 = .ok (.iload_n 2, 1) := dec_row aX6_shot 19 rfl
theorem dX6_shot_35 : decode cX6_shot 35 = .ok (.invokestatic 198, 3) := dec_row aX6_shot 20 rfl
theorem dX6_shot_38 : decode cX6_shot 38 = .ok (.ireturn, 1) := dec_row aX6_shot 21 rfl
theorem dX6_shot_39 : decode cX6_shot 39 = .ok (.iload_n 2, 1) := dec_row aX6_shot 22 rfl
theorem dX6_shot_40 : decode cX6_shot 40 = .ok (.bipush 8, 2) := dec_row aX6_shot 23 rfl
theorem dX6_shot_42 : decode cX6_shot 42 = .ok (.if_icmp .ne 19, 3) := dec_row aX6_shot 24 rfl
theorem dX6_shot_45 : decode cX6_shot 45 = .ok (.aload_n 0, 1) := dec_row aX6_shot 25 rfl
theorem dX6_shot_46 : decode cX6_shot 46 = .ok (.iload_n 1, 1) := dec_row aX6_shot 26 rfl
theorem dX6_shot_47 : decode cX6_shot 47 = .ok (.invokevirtual 202, 3) := dec_row aX6_shot 27 rfl
theorem dX6_shot_50 : decode cX6_shot 50 = .ok (.ifCond .eq 7, 3) := dec_row aX6_shot 28 rfl
theorem dX6_shot_53 : decode cX6_shot 53 = .ok (.iconst 1, 1) := dec_row aX6_shot 29 rfl
theorem dX6_shot_54 : decode cX6_shot 54 = .ok (.goto 28, 3) := dec_row aX6_shot 30 rfl
theorem dX6_shot_57 : decode cX6_shot 57 = .ok (.iconst 0, 1) := dec_row aX6_shot 31 rfl
theorem dX6_shot_58 : decode cX6_shot 58 = .ok (.goto 24, 3) := dec_row aX6_shot 32 rfl
theorem dX6_shot_61 : decode cX6_shot 61 = .ok (.aload_n 0, 1) := dec_row aX6_shot 33 rfl
theorem dX6_shot_62 : decode cX6_shot 62 = .ok (.getfield 25, 3) := dec_row aX6_shot 34 rfl
theorem dX6_shot_65 : decode cX6_shot 65 = .ok (.sipush 1015, 3) := dec_row aX6_shot 35 rfl
theorem dX6_shot_68 : decode cX6_shot 68 = .ok (.iaload, 1) := dec_row aX6_shot 36 rfl
theorem dX6_shot_69 : decode cX6_shot 69 = .ok (.ifCond .ne 8, 3) := dec_row aX6_shot 37 rfl
theorem dX6_shot_72 : decode cX6_shot 72 = .ok (.bipush (-4), 2) := dec_row aX6_shot 38 rfl
theorem dX6_shot_74 : decode cX6_shot 74 = .ok (.goto 8, 3) := dec_row aX6_shot 39 rfl
theorem dX6_shot_77 : decode cX6_shot 77 = .ok (.aload_n 0, 1) := dec_row aX6_shot 40 rfl
theorem dX6_shot_78 : decode cX6_shot 78 = .ok (.iload_n 1, 1) := dec_row aX6_shot 41 rfl
theorem dX6_shot_79 : decode cX6_shot 79 = .ok (.invokevirtual 195, 3) := dec_row aX6_shot 42 rfl
theorem dX6_shot_82 : decode cX6_shot 82 = .ok (.ireturn, 1) := dec_row aX6_shot 43 rfl
def tX6_curve : List (Nat × Instr × Nat) := [(0, .aload_n 0, 1), (1, .iload_n 1, 1), (2, .invokevirtual 186, 3), (5, .ifCond .eq 13, 3), (8, .iload_n 2, 1), (9, .iconst 1, 1), (10, .bipush 60, 2), (12, .invokestatic 95, 3), (15, .ifCond .ne 5, 3), (18, .iconst (-1), 1), (19, .ireturn, 1), (20, .iload_n 2, 1), (21, .aload_n 0, 1), (22, .getfield 25, 3), (25, .bipush 84, 2), (27, .iload_n 1, 1), (28, .imul, 1), (29, .iconst 1, 1), (30, .iadd, 1), (31, .iaload, 1), (32, .if_icmp .gt 22, 3), (35, .aload_n 0, 1), (36, .getfield 25, 3), (39, .bipush 84, 2), (41, .iload_n 1, 1), (42, .imul, 1), (43, .bipush 6, 2), (45, .iadd, 1), (46, .iload_n 2, 1), (47, .iadd, 1), (48, .iconst 1, 1), (49, .isub, 1), (50, .iaload, 1), (51, .goto 5, 3), (54, .bipush (-4), 2), (56, .ireturn, 1)]
theorem aX6_curve : tX6_curve.all (fun q => decide (decode cX6_curve q.1 = .ok q.2)) = true := by decide +kernel
theorem dX6_curve_0 : decode cX6_curve 0 = .ok (.aload_n 0, 1) := dec_row aX6_curve 0 rfl
theorem dX6_curve_1 : decode cX6_curve 1 = .ok (.iload_n 1, 1) := dec_row aX6_curve 1 rfl
theorem dX6_curve_2 : decode cX6_curve 2 = .ok (.invokevirtual 186, 3) := dec_row aX6_curve 2 rfl
theorem dX6_curve_5 : decode cX6_curve 5 = .ok (.ifCond .eq 13, 3) := dec_row aX6_curve 3 rfl
theorem dX6_curve_8 : decode cX6_curve 8 = .ok (.iload_n 2, 1) := dec_row aX6_curve 4 rfl
theorem dX6_curve_9 : decode cX6_curve 9 = .ok (.iconst 1, 1) := dec_row aX6_curve 5 rfl
theorem dX6_curve_10 : decode cX6_curve 10 = .ok (.bipush 60, 2) := dec_row aX6_curve 6 rfl
theorem dX6_curve_12 : decode cX6_curve 12 = .ok (.invokestatic 95, 3) := dec_row aX6_curve 7 rfl
theorem dX6_curve_15 : decode cX6_curve 15 = .ok (.ifCond .ne 5, 3) := dec_row aX6_curve 8 rfl
theorem dX6_curve_18 : decode cX6_curve 18 = .ok (.iconst (-1), 1) := dec_row aX6_curve 9 rfl
theorem dX6_curve_19 : decode cX6_curve 19 = .ok (.ireturn, 1) := dec_row aX6_curve 10 rfl
theorem dX6_curve_20 : decode cX6_curve 20 = .ok (.iload_n 2, 1) := dec_row aX6_curve 11 rfl
theorem dX6_curve_21 : decode cX6_curve 21 = .ok (.aload_n 0, 1) := dec_row aX6_curve 12 rfl
theorem dX6_curve_22 : decode cX6_curve 22 = .ok (.getfield 25, 3) := dec_row aX6_curve 13 rfl
theorem dX6_curve_25 : decode cX6_curve 25 = .ok (.bipush 84, 2) := dec_row aX6_curve 14 rfl
theorem dX6_curve_27 : decode cX6_curve 27 = .ok (.iload_n 1, 1) := dec_row aX6_curve 15 rfl
theorem dX6_curve_28 : decode cX6_curve 28 = .ok (.imul, 1) := dec_row aX6_curve 16 rfl
theorem dX6_curve_29 : decode cX6_curve 29 = .ok (.iconst 1, 1) := dec_row aX6_curve 17 rfl
theorem dX6_curve_30 : decode cX6_curve 30 = .ok (.iadd, 1) := dec_row aX6_curve 18 rfl
theorem dX6_curve_31 : decode cX6_curve 31 = .ok (.iaload, 1) := dec_row aX6_curve 19 rfl
theorem dX6_curve_32 : decode cX6_curve 32 = .ok (.if_icmp .gt 22, 3) := dec_row aX6_curve 20 rfl
theorem dX6_curve_35 : decode cX6_curve 35 = .ok (.aload_n 0, 1) := dec_row aX6_curve 21 rfl
theorem dX6_curve_36 : decode cX6_curve 36 = .ok (.getfield 25, 3) := dec_row aX6_curve 22 rfl
theorem dX6_curve_39 : decode cX6_curve 39 = .ok (.bipush 84, 2) := dec_row aX6_curve 23 rfl
theorem dX6_curve_41 : decode cX6_curve 41 = .ok (.iload_n 1, 1) := dec_row aX6_curve 24 rfl
theorem dX6_curve_42 : decode cX6_curve 42 = .ok (.imul, 1) := dec_row aX6_curve 25 rfl
theorem dX6_curve_43 : decode cX6_curve 43 = .ok (.bipush 6, 2) := dec_row aX6_curve 26 rfl
theorem dX6_curve_45 : decode cX6_curve 45 = .ok (.iadd, 1) := dec_row aX6_curve 27 rfl
theorem dX6_curve_46 : decode cX6_curve 46 = .ok (.iload_n 2, 1) := dec_row aX6_curve 28 rfl
theorem dX6_curve_47 : decode cX6_curve 47 = .ok (.iadd, 1) := dec_row aX6_curve 29 rfl
theorem dX6_curve_48 : decode cX6_curve 48 = .ok (.iconst 1, 1) := dec_row aX6_curve 30 rfl
theorem dX6_curve_49 : decode cX6_curve 49 = .ok (.isub, 1) := dec_row aX6_curve 31 rfl
theorem dX6_curve_50 : decode cX6_curve 50 = .ok (.iaload, 1) := dec_row aX6_curve 32 rfl
theorem dX6_curve_51 : decode cX6_curve 51 = .ok (.goto 5, 3) := dec_row aX6_curve 33 rfl
theorem dX6_curve_54 : decode cX6_curve 54 = .ok (.bipush (-4), 2) := dec_row aX6_curve 34 rfl
theorem dX6_curve_56 : decode cX6_curve 56 = .ok (.ireturn, 1) := dec_row aX6_curve 35 rfl
def tX6_cavity : List (Nat × Instr × Nat) := [(0, .aload_n 0, 1), (1, .iload_n 1, 1), (2, .invokevirtual 171, 3), (5, .ifCond .eq 12, 3), (8, .iload_n 2, 1), (9, .iconst 0, 1), (10, .iconst 2, 1), (11, .invokestatic 95, 3), (14, .ifCond .ne 5, 3), (17, .iconst (-1), 1), (18, .ireturn, 1), (19, .iload_n 2, 1), (20, .ifCond .ne 12, 3), (23, .aload_n 0, 1), (24, .getfield 13, 3), (27, .iload_n 1, 1), (28, .iaload, 1), (29, .goto 27, 3), (32, .iload_n 2, 1), (33, .iconst 1, 1), (34, .if_icmp .ne 16, 3), (37, .aload_n 0, 1), (38, .getfield 25, 3), (41, .sipush 1139, 3), (44, .iload_n 1, 1), (45, .iadd, 1), (46, .iaload, 1), (47, .goto 9, 3), (50, .aload_n 0, 1), (51, .getfield 16, 3), (54, .iload_n 1, 1), (55, .iaload, 1), (56, .ireturn, 1)]
theorem aX6_cavity : tX6_cavity.all (fun q => decide (decode cX6_cavity q.1 = .ok q.2)) = true := by decide +kernel
theorem dX6_cavity_0 : decode cX6_cavity 0 = .ok (.aload_n 0, 1) := dec_row aX6_cavity 0 rfl
theorem dX6_cavity_1 : decode cX6_cavity 1 = .ok (.iload_n 1, 1) := dec_row aX6_cavity 1 rfl
theorem dX6_cavity_2 : decode cX6_cavity 2 = .ok (.invokevirtual 171, 3) := dec_row aX6_cavity 2 rfl
theorem dX6_cavity_5 : decode cX6_cavity 5 = .ok (.ifCond .eq 12, 3) := dec_row aX6_cavity 3 rfl
theorem dX6_cavity_8 : decode cX6_cavity 8 = .ok (.iload_n 2, 1) := dec_row aX6_cavity 4 rfl
theorem dX6_cavity_9 : decode cX6_cavity 9 = .ok (.iconst 0, 1) := dec_row aX6_cavity 5 rfl
theorem dX6_cavity_10 : decode cX6_cavity 10 = .ok (.iconst 2, 1) := dec_row aX6_cavity 6 rfl
theorem dX6_cavity_11 : decode cX6_cavity 11 = .ok (.invokestatic 95, 3) := dec_row aX6_cavity 7 rfl
theorem dX6_cavity_14 : decode cX6_cavity 14 = .ok (.ifCond .ne 5, 3) := dec_row aX6_cavity 8 rfl
theorem dX6_cavity_17 : decode cX6_cavity 17 = .ok (.iconst (-1), 1) := dec_row aX6_cavity 9 rfl
theorem dX6_cavity_18 : decode cX6_cavity 18 = .ok (.ireturn, 1) := dec_row aX6_cavity 10 rfl
theorem dX6_cavity_19 : decode cX6_cavity 19 = .ok (.iload_n 2, 1) := dec_row aX6_cavity 11 rfl
theorem dX6_cavity_20 : decode cX6_cavity 20 = .ok (.ifCond .ne 12, 3) := dec_row aX6_cavity 12 rfl
theorem dX6_cavity_23 : decode cX6_cavity 23 = .ok (.aload_n 0, 1) := dec_row aX6_cavity 13 rfl
theorem dX6_cavity_24 : decode cX6_cavity 24 = .ok (.getfield 13, 3) := dec_row aX6_cavity 14 rfl
theorem dX6_cavity_27 : decode cX6_cavity 27 = .ok (.iload_n 1, 1) := dec_row aX6_cavity 15 rfl
theorem dX6_cavity_28 : decode cX6_cavity 28 = .ok (.iaload, 1) := dec_row aX6_cavity 16 rfl
theorem dX6_cavity_29 : decode cX6_cavity 29 = .ok (.goto 27, 3) := dec_row aX6_cavity 17 rfl
theorem dX6_cavity_32 : decode cX6_cavity 32 = .ok (.iload_n 2, 1) := dec_row aX6_cavity 18 rfl
theorem dX6_cavity_33 : decode cX6_cavity 33 = .ok (.iconst 1, 1) := dec_row aX6_cavity 19 rfl
theorem dX6_cavity_34 : decode cX6_cavity 34 = .ok (.if_icmp .ne 16, 3) := dec_row aX6_cavity 20 rfl
theorem dX6_cavity_37 : decode cX6_cavity 37 = .ok (.aload_n 0, 1) := dec_row aX6_cavity 21 rfl
theorem dX6_cavity_38 : decode cX6_cavity 38 = .ok (.getfield 25, 3) := dec_row aX6_cavity 22 rfl
theorem dX6_cavity_41 : decode cX6_cavity 41 = .ok (.sipush 1139, 3) := dec_row aX6_cavity 23 rfl
theorem dX6_cavity_44 : decode cX6_cavity 44 = .ok (.iload_n 1, 1) := dec_row aX6_cavity 24 rfl
theorem dX6_cavity_45 : decode cX6_cavity 45 = .ok (.iadd, 1) := dec_row aX6_cavity 25 rfl
theorem dX6_cavity_46 : decode cX6_cavity 46 = .ok (.iaload, 1) := dec_row aX6_cavity 26 rfl
theorem dX6_cavity_47 : decode cX6_cavity 47 = .ok (.goto 9, 3) := dec_row aX6_cavity 27 rfl
theorem dX6_cavity_50 : decode cX6_cavity 50 = .ok (.aload_n 0, 1) := dec_row aX6_cavity 28 rfl
theorem dX6_cavity_51 : decode cX6_cavity 51 = .ok (.getfield 16, 3) := dec_row aX6_cavity 29 rfl
theorem dX6_cavity_54 : decode cX6_cavity 54 = .ok (.iload_n 1, 1) := dec_row aX6_cavity 30 rfl
theorem dX6_cavity_55 : decode cX6_cavity 55 = .ok (.iaload, 1) := dec_row aX6_cavity 31 rfl
theorem dX6_cavity_56 : decode cX6_cavity 56 = .ok (.ireturn, 1) := dec_row aX6_cavity 32 rfl
def tX6_filled_0 : List (Nat × Instr × Nat) := [(0, .aload_n 0, 1), (1, .iload_n 1, 1), (2, .invokevirtual 186, 3), (5, .ifCond .eq 20, 3), (8, .aload_n 0, 1), (9, .iload_n 2, 1), (10, .invokevirtual 171, 3), (13, .ifCond .eq 12, 3), (16, .iload_n 3, 1), (17, .iconst 0, 1), (18, .iconst 4, 1), (19, .invokestatic 95, 3), (22, .ifCond .ne 5, 3), (25, .iconst (-1), 1), (26, .ireturn, 1), (27, .iload_n 3, 1), (28, .tableswitch 76 0 3 #[32, 47, 54, 61], 32), (60, .aload_n 0, 1), (61, .getfield 25, 3), (64, .bipush 84, 2), (66, .iload_n 1, 1), (67, .imul, 1), (68, .bipush 66, 2), (70, .iadd, 1), (71, .iload_n 2, 1), (72, .iadd, 1), (73, .iaload, 1), (74, .ireturn, 1), (75, .aload_n 0, 1), (76, .iload_n 1, 1), (77, .iload_n 2, 1), (78, .invokevirtual 183, 3), (81, .ireturn, 1), (82, .aload_n 0, 1), (83, .iload_n 1, 1), (84, .iload_n 2, 1), (85, .invokevirtual 192, 3), (88, .ireturn, 1), (89, .aload_n 0, 1), (90, .getfield 25, 3), (93, .bipush 84, 2), (95, .iload_n 1, 1), (96, .imul, 1), (97, .bipush 72, 2), (99, .iadd, 1), (100, .iload_n 2, 1), (101, .iadd, 1), (102, .iaload, 1), (103, .ireturn, 1), (104, .aload_n 0, 1)]
theorem aX6_filled_0 : tX6_filled_0.all (fun q => decide (decode cX6_filled q.1 = .ok q.2)) = true := by decide +kernel
theorem dX6_filled_0 : decode cX6_filled 0 = .ok (.aload_n 0, 1) := dec_row aX6_filled_0 0 rfl
theorem dX6_filled_1 : decode cX6_filled 1 = .ok (.iload_n 1, 1) := dec_row aX6_filled_0 1 rfl
theorem dX6_filled_2 : decode cX6_filled 2 = .ok (.invokevirtual 186, 3) := dec_row aX6_filled_0 2 rfl
theorem dX6_filled_5 : decode cX6_filled 5 = .ok (.ifCond .eq 20, 3) := dec_row aX6_filled_0 3 rfl
theorem dX6_filled_8 : decode cX6_filled 8 = .ok (.aload_n 0, 1) := dec_row aX6_filled_0 4 rfl
theorem dX6_filled_9 : decode cX6_filled 9 = .ok (.iload_n 2, 1) := dec_row aX6_filled_0 5 rfl
theorem dX6_filled_10 : decode cX6_filled 10 = .ok (.invokevirtual 171, 3) := dec_row aX6_filled_0 6 rfl
theorem dX6_filled_13 : decode cX6_filled 13 = .ok (.ifCond .eq 12, 3) := dec_row aX6_filled_0 7 rfl
theorem dX6_filled_16 : decode cX6_filled 16 = .ok (.iload_n 3, 1) := dec_row aX6_filled_0 8 rfl
theorem dX6_filled_17 : decode cX6_filled 17 = .ok (.iconst 0, 1) := dec_row aX6_filled_0 9 rfl
theorem dX6_filled_18 : decode cX6_filled 18 = .ok (.iconst 4, 1) := dec_row aX6_filled_0 10 rfl
theorem dX6_filled_19 : decode cX6_filled 19 = .ok (.invokestatic 95, 3) := dec_row aX6_filled_0 11 rfl
theorem dX6_filled_22 : decode cX6_filled 22 = .ok (.ifCond .ne 5, 3) := dec_row aX6_filled_0 12 rfl
theorem dX6_filled_25 : decode cX6_filled 25 = .ok (.iconst (-1), 1) := dec_row aX6_filled_0 13 rfl
theorem dX6_filled_26 : decode cX6_filled 26 = .ok (.ireturn, 1) := dec_row aX6_filled_0 14 rfl
theorem dX6_filled_27 : decode cX6_filled 27 = .ok (.iload_n 3, 1) := dec_row aX6_filled_0 15 rfl
theorem dX6_filled_28 : decode cX6_filled 28 = .ok (.tableswitch 76 0 3 #[32, 47, 54, 61], 32) := dec_row aX6_filled_0 16 rfl
theorem dX6_filled_60 : decode cX6_filled 60 = .ok (.aload_n 0, 1) := dec_row aX6_filled_0 17 rfl
theorem dX6_filled_61 : decode cX6_filled 61 = .ok (.getfield 25, 3) := dec_row aX6_filled_0 18 rfl
theorem dX6_filled_64 : decode cX6_filled 64 = .ok (.bipush 84, 2) := dec_row aX6_filled_0 19 rfl
theorem dX6_filled_66 : decode cX6_filled 66 = .ok (.iload_n 1, 1) := dec_row aX6_filled_0 20 rfl
theorem dX6_filled_67 : decode cX6_filled 67 = .ok (.imul, 1) := dec_row aX6_filled_0 21 rfl
theorem dX6_filled_68 : decode cX6_filled 68 = .ok (.bipush 66, 2) := dec_row aX6_filled_0 22 rfl
theorem dX6_filled_70 : decode cX6_filled 70 = .ok (.iadd, 1) := dec_row aX6_filled_0 23 rfl
theorem dX6_filled_71 : decode cX6_filled 71 = .ok (.iload_n 2, 1) := dec_row aX6_filled_0 24 rfl
theorem dX6_filled_72 : decode cX6_filled 72 = .ok (.iadd, 1) := dec_row aX6_filled_0 25 rfl
theorem dX6_filled_73 : decode cX6_filled 73 = .ok (.iaload, 1) := dec_row aX6_filled_0 26 rfl
theorem dX6_filled_74 : decode cX6_filled 74 = .ok (.ireturn, 1) := dec_row aX6_filled_0 27 rfl
theorem dX6_filled_75 : decode cX6_filled 75 = .ok (.aload_n 0, 1) := dec_row aX6_filled_0 28 rfl
theorem dX6_filled_76 : decode cX6_filled 76 = .ok (.iload_n 1, 1) := dec_row aX6_filled_0 29 rfl
theorem dX6_filled_77 : decode cX6_filled 77 = .ok (.iload_n 2, 1) := dec_row aX6_filled_0 30 rfl
theorem dX6_filled_78 : decode cX6_filled 78 = .ok (.invokevirtual 183, 3) := dec_row aX6_filled_0 31 rfl
theorem dX6_filled_81 : decode cX6_filled 81 = .ok (.ireturn, 1) := dec_row aX6_filled_0 32 rfl
theorem dX6_filled_82 : decode cX6_filled 82 = .ok (.aload_n 0, 1) := dec_row aX6_filled_0 33 rfl
theorem dX6_filled_83 : decode cX6_filled 83 = .ok (.iload_n 1, 1) := dec_row aX6_filled_0 34 rfl
theorem dX6_filled_84 : decode cX6_filled 84 = .ok (.iload_n 2, 1) := dec_row aX6_filled_0 35 rfl
theorem dX6_filled_85 : decode cX6_filled 85 = .ok (.invokevirtual 192, 3) := dec_row aX6_filled_0 36 rfl
theorem dX6_filled_88 : decode cX6_filled 88 = .ok (.ireturn, 1) := dec_row aX6_filled_0 37 rfl
theorem dX6_filled_89 : decode cX6_filled 89 = .ok (.aload_n 0, 1) := dec_row aX6_filled_0 38 rfl
theorem dX6_filled_90 : decode cX6_filled 90 = .ok (.getfield 25, 3) := dec_row aX6_filled_0 39 rfl
theorem dX6_filled_93 : decode cX6_filled 93 = .ok (.bipush 84, 2) := dec_row aX6_filled_0 40 rfl
theorem dX6_filled_95 : decode cX6_filled 95 = .ok (.iload_n 1, 1) := dec_row aX6_filled_0 41 rfl
theorem dX6_filled_96 : decode cX6_filled 96 = .ok (.imul, 1) := dec_row aX6_filled_0 42 rfl
theorem dX6_filled_97 : decode cX6_filled 97 = .ok (.bipush 72, 2) := dec_row aX6_filled_0 43 rfl
theorem dX6_filled_99 : decode cX6_filled 99 = .ok (.iadd, 1) := dec_row aX6_filled_0 44 rfl
theorem dX6_filled_100 : decode cX6_filled 100 = .ok (.iload_n 2, 1) := dec_row aX6_filled_0 45 rfl
theorem dX6_filled_101 : decode cX6_filled 101 = .ok (.iadd, 1) := dec_row aX6_filled_0 46 rfl
theorem dX6_filled_102 : decode cX6_filled 102 = .ok (.iaload, 1) := dec_row aX6_filled_0 47 rfl
theorem dX6_filled_103 : decode cX6_filled 103 = .ok (.ireturn, 1) := dec_row aX6_filled_0 48 rfl
theorem dX6_filled_104 : decode cX6_filled 104 = .ok (.aload_n 0, 1) := dec_row aX6_filled_0 49 rfl
def tX6_filled_1 : List (Nat × Instr × Nat) := [(105, .getfield 25, 3), (108, .bipush 84, 2), (110, .iload_n 1, 1), (111, .imul, 1), (112, .bipush 78, 2), (114, .iadd, 1), (115, .iload_n 2, 1), (116, .iadd, 1), (117, .iaload, 1), (118, .ireturn, 1)]
theorem aX6_filled_1 : tX6_filled_1.all (fun q => decide (decode cX6_filled q.1 = .ok q.2)) = true := by decide +kernel
theorem dX6_filled_105 : decode cX6_filled 105 = .ok (.getfield 25, 3) := dec_row aX6_filled_1 0 rfl
theorem dX6_filled_108 : decode cX6_filled 108 = .ok (.bipush 84, 2) := dec_row aX6_filled_1 1 rfl
theorem dX6_filled_110 : decode cX6_filled 110 = .ok (.iload_n 1, 1) := dec_row aX6_filled_1 2 rfl
theorem dX6_filled_111 : decode cX6_filled 111 = .ok (.imul, 1) := dec_row aX6_filled_1 3 rfl
theorem dX6_filled_112 : decode cX6_filled 112 = .ok (.bipush 78, 2) := dec_row aX6_filled_1 4 rfl
theorem dX6_filled_114 : decode cX6_filled 114 = .ok (.iadd, 1) := dec_row aX6_filled_1 5 rfl
theorem dX6_filled_115 : decode cX6_filled 115 = .ok (.iload_n 2, 1) := dec_row aX6_filled_1 6 rfl
theorem dX6_filled_116 : decode cX6_filled 116 = .ok (.iadd, 1) := dec_row aX6_filled_1 7 rfl
theorem dX6_filled_117 : decode cX6_filled 117 = .ok (.iaload, 1) := dec_row aX6_filled_1 8 rfl
theorem dX6_filled_118 : decode cX6_filled 118 = .ok (.ireturn, 1) := dec_row aX6_filled_1 9 rfl
def tX6_tried : List (Nat × Instr × Nat) := [(0, .iload_n 1, 1), (1, .bipush (-8), 2), (3, .bipush 8, 2), (5, .invokestatic 95, 3), (8, .ifCond .eq 13, 3), (11, .iload_n 2, 1), (12, .iconst 0, 1), (13, .bipush 6, 2), (15, .invokestatic 95, 3), (18, .ifCond .ne 5, 3), (21, .iconst (-1), 1), (22, .ireturn, 1), (23, .aload_n 0, 1), (24, .iload_n 1, 1), (25, .invokevirtual 180, 3), (28, .aload_n 0, 1), (29, .getfield 31, 3), (32, .iconst 0, 1), (33, .iload_n 2, 1), (34, .invokestatic 198, 3), (37, .ireturn, 1)]
theorem aX6_tried : tX6_tried.all (fun q => decide (decode cX6_tried q.1 = .ok q.2)) = true := by decide +kernel
theorem dX6_tried_0 : decode cX6_tried 0 = .ok (.iload_n 1, 1) := dec_row aX6_tried 0 rfl
theorem dX6_tried_1 : decode cX6_tried 1 = .ok (.bipush (-8), 2) := dec_row aX6_tried 1 rfl
theorem dX6_tried_3 : decode cX6_tried 3 = .ok (.bipush 8, 2) := dec_row aX6_tried 2 rfl
theorem dX6_tried_5 : decode cX6_tried 5 = .ok (.invokestatic 95, 3) := dec_row aX6_tried 3 rfl
theorem dX6_tried_8 : decode cX6_tried 8 = .ok (.ifCond .eq 13, 3) := dec_row aX6_tried 4 rfl
theorem dX6_tried_11 : decode cX6_tried 11 = .ok (.iload_n 2, 1) := dec_row aX6_tried 5 rfl
theorem dX6_tried_12 : decode cX6_tried 12 = .ok (.iconst 0, 1) := dec_row aX6_tried 6 rfl
theorem dX6_tried_13 : decode cX6_tried 13 = .ok (.bipush 6, 2) := dec_row aX6_tried 7 rfl
theorem dX6_tried_15 : decode cX6_tried 15 = .ok (.invokestatic 95, 3) := dec_row aX6_tried 8 rfl
theorem dX6_tried_18 : decode cX6_tried 18 = .ok (.ifCond .ne 5, 3) := dec_row aX6_tried 9 rfl
theorem dX6_tried_21 : decode cX6_tried 21 = .ok (.iconst (-1), 1) := dec_row aX6_tried 10 rfl
theorem dX6_tried_22 : decode cX6_tried 22 = .ok (.ireturn, 1) := dec_row aX6_tried 11 rfl
theorem dX6_tried_23 : decode cX6_tried 23 = .ok (.aload_n 0, 1) := dec_row aX6_tried 12 rfl
theorem dX6_tried_24 : decode cX6_tried 24 = .ok (.iload_n 1, 1) := dec_row aX6_tried 13 rfl
theorem dX6_tried_25 : decode cX6_tried 25 = .ok (.invokevirtual 180, 3) := dec_row aX6_tried 14 rfl
theorem dX6_tried_28 : decode cX6_tried 28 = .ok (.aload_n 0, 1) := dec_row aX6_tried 15 rfl
theorem dX6_tried_29 : decode cX6_tried 29 = .ok (.getfield 31, 3) := dec_row aX6_tried 16 rfl
theorem dX6_tried_32 : decode cX6_tried 32 = .ok (.iconst 0, 1) := dec_row aX6_tried 17 rfl
theorem dX6_tried_33 : decode cX6_tried 33 = .ok (.iload_n 2, 1) := dec_row aX6_tried 18 rfl
theorem dX6_tried_34 : decode cX6_tried 34 = .ok (.invokestatic 198, 3) := dec_row aX6_tried 19 rfl
theorem dX6_tried_37 : decode cX6_tried 37 = .ok (.ireturn, 1) := dec_row aX6_tried 20 rfl
def tX6_even_0 : List (Nat × Instr × Nat) := [(0, .iload_n 1, 1), (1, .iconst 0, 1), (2, .iconst 1, 1), (3, .invokestatic 95, 3), (6, .ifCond .ne 5, 3), (9, .iconst (-1), 1), (10, .ireturn, 1), (11, .iconst 0, 1), (12, .istore_n 2, 1), (13, .iconst (-1), 1), (14, .istore_n 3, 1), (15, .iconst 0, 1), (16, .istore 4, 2), (18, .iload 4, 2), (20, .bipush 8, 2), (22, .if_icmp .gt 60, 3), (25, .iconst (-1), 1), (26, .istore 5, 2), (28, .iload 5, 2), (30, .iconst 2, 1), (31, .if_icmp .ge 45, 3), (34, .aload_n 0, 1), (35, .iload 5, 2), (37, .iload 4, 2), (39, .imul, 1), (40, .invokevirtual 180, 3), (43, .iload_n 3, 1), (44, .ifCond .lt 13, 3), (47, .aload_n 0, 1), (48, .getfield 31, 3), (51, .iconst 4, 1), (52, .iaload, 1), (53, .iload_n 3, 1), (54, .if_icmp .ge 16, 3), (57, .aload_n 0, 1), (58, .getfield 31, 3), (61, .iconst 4, 1), (62, .iaload, 1), (63, .istore_n 3, 1), (64, .iload 5, 2), (66, .iload 4, 2), (68, .imul, 1), (69, .istore_n 2, 1), (70, .iinc 5 2, 3), (73, .goto (-45), 3), (76, .iinc 4 1, 3), (79, .goto (-61), 3), (82, .iload_n 1, 1), (83, .ifCond .ne 10, 3), (86, .iload_n 2, 1)]
theorem aX6_even_0 : tX6_even_0.all (fun q => decide (decode cX6_even q.1 = .ok q.2)) = true := by decide +kernel
theorem dX6_even_0 : decode cX6_even 0 = .ok (.iload_n 1, 1) := dec_row aX6_even_0 0 rfl
theorem dX6_even_1 : decode cX6_even 1 = .ok (.iconst 0, 1) := dec_row aX6_even_0 1 rfl
theorem dX6_even_2 : decode cX6_even 2 = .ok (.iconst 1, 1) := dec_row aX6_even_0 2 rfl
theorem dX6_even_3 : decode cX6_even 3 = .ok (.invokestatic 95, 3) := dec_row aX6_even_0 3 rfl
theorem dX6_even_6 : decode cX6_even 6 = .ok (.ifCond .ne 5, 3) := dec_row aX6_even_0 4 rfl
theorem dX6_even_9 : decode cX6_even 9 = .ok (.iconst (-1), 1) := dec_row aX6_even_0 5 rfl
theorem dX6_even_10 : decode cX6_even 10 = .ok (.ireturn, 1) := dec_row aX6_even_0 6 rfl
theorem dX6_even_11 : decode cX6_even 11 = .ok (.iconst 0, 1) := dec_row aX6_even_0 7 rfl
theorem dX6_even_12 : decode cX6_even 12 = .ok (.istore_n 2, 1) := dec_row aX6_even_0 8 rfl
theorem dX6_even_13 : decode cX6_even 13 = .ok (.iconst (-1), 1) := dec_row aX6_even_0 9 rfl
theorem dX6_even_14 : decode cX6_even 14 = .ok (.istore_n 3, 1) := dec_row aX6_even_0 10 rfl
theorem dX6_even_15 : decode cX6_even 15 = .ok (.iconst 0, 1) := dec_row aX6_even_0 11 rfl
theorem dX6_even_16 : decode cX6_even 16 = .ok (.istore 4, 2) := dec_row aX6_even_0 12 rfl
theorem dX6_even_18 : decode cX6_even 18 = .ok (.iload 4, 2) := dec_row aX6_even_0 13 rfl
theorem dX6_even_20 : decode cX6_even 20 = .ok (.bipush 8, 2) := dec_row aX6_even_0 14 rfl
theorem dX6_even_22 : decode cX6_even 22 = .ok (.if_icmp .gt 60, 3) := dec_row aX6_even_0 15 rfl
theorem dX6_even_25 : decode cX6_even 25 = .ok (.iconst (-1), 1) := dec_row aX6_even_0 16 rfl
theorem dX6_even_26 : decode cX6_even 26 = .ok (.istore 5, 2) := dec_row aX6_even_0 17 rfl
theorem dX6_even_28 : decode cX6_even 28 = .ok (.iload 5, 2) := dec_row aX6_even_0 18 rfl
theorem dX6_even_30 : decode cX6_even 30 = .ok (.iconst 2, 1) := dec_row aX6_even_0 19 rfl
theorem dX6_even_31 : decode cX6_even 31 = .ok (.if_icmp .ge 45, 3) := dec_row aX6_even_0 20 rfl
theorem dX6_even_34 : decode cX6_even 34 = .ok (.aload_n 0, 1) := dec_row aX6_even_0 21 rfl
theorem dX6_even_35 : decode cX6_even 35 = .ok (.iload 5, 2) := dec_row aX6_even_0 22 rfl
theorem dX6_even_37 : decode cX6_even 37 = .ok (.iload 4, 2) := dec_row aX6_even_0 23 rfl
theorem dX6_even_39 : decode cX6_even 39 = .ok (.imul, 1) := dec_row aX6_even_0 24 rfl
theorem dX6_even_40 : decode cX6_even 40 = .ok (.invokevirtual 180, 3) := dec_row aX6_even_0 25 rfl
theorem dX6_even_43 : decode cX6_even 43 = .ok (.iload_n 3, 1) := dec_row aX6_even_0 26 rfl
theorem dX6_even_44 : decode cX6_even 44 = .ok (.ifCond .lt 13, 3) := dec_row aX6_even_0 27 rfl
theorem dX6_even_47 : decode cX6_even 47 = .ok (.aload_n 0, 1) := dec_row aX6_even_0 28 rfl
theorem dX6_even_48 : decode cX6_even 48 = .ok (.getfield 31, 3) := dec_row aX6_even_0 29 rfl
theorem dX6_even_51 : decode cX6_even 51 = .ok (.iconst 4, 1) := dec_row aX6_even_0 30 rfl
theorem dX6_even_52 : decode cX6_even 52 = .ok (.iaload, 1) := dec_row aX6_even_0 31 rfl
theorem dX6_even_53 : decode cX6_even 53 = .ok (.iload_n 3, 1) := dec_row aX6_even_0 32 rfl
theorem dX6_even_54 : decode cX6_even 54 = .ok (.if_icmp .ge 16, 3) := dec_row aX6_even_0 33 rfl
theorem dX6_even_57 : decode cX6_even 57 = .ok (.aload_n 0, 1) := dec_row aX6_even_0 34 rfl
theorem dX6_even_58 : decode cX6_even 58 = .ok (.getfield 31, 3) := dec_row aX6_even_0 35 rfl
theorem dX6_even_61 : decode cX6_even 61 = .ok (.iconst 4, 1) := dec_row aX6_even_0 36 rfl
theorem dX6_even_62 : decode cX6_even 62 = .ok (.iaload, 1) := dec_row aX6_even_0 37 rfl
theorem dX6_even_63 : decode cX6_even 63 = .ok (.istore_n 3, 1) := dec_row aX6_even_0 38 rfl
theorem dX6_even_64 : decode cX6_even 64 = .ok (.iload 5, 2) := dec_row aX6_even_0 39 rfl
theorem dX6_even_66 : decode cX6_even 66 = .ok (.iload 4, 2) := dec_row aX6_even_0 40 rfl
theorem dX6_even_68 : decode cX6_even 68 = .ok (.imul, 1) := dec_row aX6_even_0 41 rfl
theorem dX6_even_69 : decode cX6_even 69 = .ok (.istore_n 2, 1) := dec_row aX6_even_0 42 rfl
theorem dX6_even_70 : decode cX6_even 70 = .ok (.iinc 5 2, 3) := dec_row aX6_even_0 43 rfl
theorem dX6_even_73 : decode cX6_even 73 = .ok (.goto (-45), 3) := dec_row aX6_even_0 44 rfl
theorem dX6_even_76 : decode cX6_even 76 = .ok (.iinc 4 1, 3) := dec_row aX6_even_0 45 rfl
theorem dX6_even_79 : decode cX6_even 79 = .ok (.goto (-61), 3) := dec_row aX6_even_0 46 rfl
theorem dX6_even_82 : decode cX6_even 82 = .ok (.iload_n 1, 1) := dec_row aX6_even_0 47 rfl
theorem dX6_even_83 : decode cX6_even 83 = .ok (.ifCond .ne 10, 3) := dec_row aX6_even_0 48 rfl
theorem dX6_even_86 : decode cX6_even 86 = .ok (.iload_n 2, 1) := dec_row aX6_even_0 49 rfl
def tX6_even_1 : List (Nat × Instr × Nat) := [(87, .bipush 8, 2), (89, .iadd, 1), (90, .goto 4, 3), (93, .iload_n 3, 1), (94, .ireturn, 1)]
theorem aX6_even_1 : tX6_even_1.all (fun q => decide (decode cX6_even q.1 = .ok q.2)) = true := by decide +kernel
theorem dX6_even_87 : decode cX6_even 87 = .ok (.bipush 8, 2) := dec_row aX6_even_1 0 rfl
theorem dX6_even_89 : decode cX6_even 89 = .ok (.iadd, 1) := dec_row aX6_even_1 1 rfl
theorem dX6_even_90 : decode cX6_even 90 = .ok (.goto 4, 3) := dec_row aX6_even_1 2 rfl
theorem dX6_even_93 : decode cX6_even 93 = .ok (.iload_n 3, 1) := dec_row aX6_even_1 3 rfl
theorem dX6_even_94 : decode cX6_even 94 = .ok (.ireturn, 1) := dec_row aX6_even_1 4 rfl
def tX6_earlier : List (Nat × Instr × Nat) := [(0, .aload_n 0, 1), (1, .iload_n 1, 1), (2, .invokevirtual 162, 3), (5, .ifCond .eq 12, 3), (8, .aload_n 0, 1), (9, .getfield 19, 3), (12, .iload_n 1, 1), (13, .iaload, 1), (14, .goto 4, 3), (17, .iconst (-1), 1), (18, .ireturn, 1)]
theorem aX6_earlier : tX6_earlier.all (fun q => decide (decode cX6_earlier q.1 = .ok q.2)) = true := by decide +kernel
theorem dX6_earlier_0 : decode cX6_earlier 0 = .ok (.aload_n 0, 1) := dec_row aX6_earlier 0 rfl
theorem dX6_earlier_1 : decode cX6_earlier 1 = .ok (.iload_n 1, 1) := dec_row aX6_earlier 1 rfl
theorem dX6_earlier_2 : decode cX6_earlier 2 = .ok (.invokevirtual 162, 3) := dec_row aX6_earlier 2 rfl
theorem dX6_earlier_5 : decode cX6_earlier 5 = .ok (.ifCond .eq 12, 3) := dec_row aX6_earlier 3 rfl
theorem dX6_earlier_8 : decode cX6_earlier 8 = .ok (.aload_n 0, 1) := dec_row aX6_earlier 4 rfl
theorem dX6_earlier_9 : decode cX6_earlier 9 = .ok (.getfield 19, 3) := dec_row aX6_earlier 5 rfl
theorem dX6_earlier_12 : decode cX6_earlier 12 = .ok (.iload_n 1, 1) := dec_row aX6_earlier 6 rfl
theorem dX6_earlier_13 : decode cX6_earlier 13 = .ok (.iaload, 1) := dec_row aX6_earlier 7 rfl
theorem dX6_earlier_14 : decode cX6_earlier 14 = .ok (.goto 4, 3) := dec_row aX6_earlier 8 rfl
theorem dX6_earlier_17 : decode cX6_earlier 17 = .ok (.iconst (-1), 1) := dec_row aX6_earlier 9 rfl
theorem dX6_earlier_18 : decode cX6_earlier 18 = .ok (.ireturn, 1) := dec_row aX6_earlier 10 rfl
def tX6_order_0 : List (Nat × Instr × Nat) := [(0, .iload_n 1, 1), (1, .ifCond .ge 5, 3), (4, .iconst (-1), 1), (5, .ireturn, 1), (6, .iload_n 1, 1), (7, .aload_n 0, 1), (8, .getfield 73, 3), (11, .if_icmp .lt 6, 3), (14, .bipush (-4), 2), (16, .ireturn, 1), (17, .iconst 0, 1), (18, .istore_n 2, 1), (19, .bipush (-4), 2), (21, .istore_n 3, 1), (22, .iconst 0, 1), (23, .istore 4, 2), (25, .iload 4, 2), (27, .iload_n 1, 1), (28, .if_icmp .gt 64, 3), (31, .iconst 0, 1), (32, .istore 5, 2), (34, .iload_n 2, 1), (35, .iload 5, 2), (37, .ishr, 1), (38, .iconst 1, 1), (39, .iand, 1), (40, .iconst 1, 1), (41, .if_icmp .eq 29, 3), (44, .aload_n 0, 1), (45, .getfield 19, 3), (48, .iload 5, 2), (50, .iaload, 1), (51, .bipush (-4), 2), (53, .if_icmp .eq 23, 3), (56, .iload_n 2, 1), (57, .aload_n 0, 1), (58, .getfield 19, 3), (61, .iload 5, 2), (63, .iaload, 1), (64, .ishr, 1), (65, .iconst 1, 1), (66, .iand, 1), (67, .ifCond .ne 9, 3), (70, .iinc 5 1, 3), (73, .goto (-39), 3), (76, .iload_n 2, 1), (77, .iconst 1, 1), (78, .iload 5, 2), (80, .ishl, 1), (81, .ior, 1)]
theorem aX6_order_0 : tX6_order_0.all (fun q => decide (decode cX6_order q.1 = .ok q.2)) = true := by decide +kernel
theorem dX6_order_0 : decode cX6_order 0 = .ok (.iload_n 1, 1) := dec_row aX6_order_0 0 rfl
theorem dX6_order_1 : decode cX6_order 1 = .ok (.ifCond .ge 5, 3) := dec_row aX6_order_0 1 rfl
theorem dX6_order_4 : decode cX6_order 4 = .ok (.iconst (-1), 1) := dec_row aX6_order_0 2 rfl
theorem dX6_order_5 : decode cX6_order 5 = .ok (.ireturn, 1) := dec_row aX6_order_0 3 rfl
theorem dX6_order_6 : decode cX6_order 6 = .ok (.iload_n 1, 1) := dec_row aX6_order_0 4 rfl
theorem dX6_order_7 : decode cX6_order 7 = .ok (.aload_n 0, 1) := dec_row aX6_order_0 5 rfl
theorem dX6_order_8 : decode cX6_order 8 = .ok (.getfield 73, 3) := dec_row aX6_order_0 6 rfl
theorem dX6_order_11 : decode cX6_order 11 = .ok (.if_icmp .lt 6, 3) := dec_row aX6_order_0 7 rfl
theorem dX6_order_14 : decode cX6_order 14 = .ok (.bipush (-4), 2) := dec_row aX6_order_0 8 rfl
theorem dX6_order_16 : decode cX6_order 16 = .ok (.ireturn, 1) := dec_row aX6_order_0 9 rfl
theorem dX6_order_17 : decode cX6_order 17 = .ok (.iconst 0, 1) := dec_row aX6_order_0 10 rfl
theorem dX6_order_18 : decode cX6_order 18 = .ok (.istore_n 2, 1) := dec_row aX6_order_0 11 rfl
theorem dX6_order_19 : decode cX6_order 19 = .ok (.bipush (-4), 2) := dec_row aX6_order_0 12 rfl
theorem dX6_order_21 : decode cX6_order 21 = .ok (.istore_n 3, 1) := dec_row aX6_order_0 13 rfl
theorem dX6_order_22 : decode cX6_order 22 = .ok (.iconst 0, 1) := dec_row aX6_order_0 14 rfl
theorem dX6_order_23 : decode cX6_order 23 = .ok (.istore 4, 2) := dec_row aX6_order_0 15 rfl
theorem dX6_order_25 : decode cX6_order 25 = .ok (.iload 4, 2) := dec_row aX6_order_0 16 rfl
theorem dX6_order_27 : decode cX6_order 27 = .ok (.iload_n 1, 1) := dec_row aX6_order_0 17 rfl
theorem dX6_order_28 : decode cX6_order 28 = .ok (.if_icmp .gt 64, 3) := dec_row aX6_order_0 18 rfl
theorem dX6_order_31 : decode cX6_order 31 = .ok (.iconst 0, 1) := dec_row aX6_order_0 19 rfl
theorem dX6_order_32 : decode cX6_order 32 = .ok (.istore 5, 2) := dec_row aX6_order_0 20 rfl
theorem dX6_order_34 : decode cX6_order 34 = .ok (.iload_n 2, 1) := dec_row aX6_order_0 21 rfl
theorem dX6_order_35 : decode cX6_order 35 = .ok (.iload 5, 2) := dec_row aX6_order_0 22 rfl
theorem dX6_order_37 : decode cX6_order 37 = .ok (.ishr, 1) := dec_row aX6_order_0 23 rfl
theorem dX6_order_38 : decode cX6_order 38 = .ok (.iconst 1, 1) := dec_row aX6_order_0 24 rfl
theorem dX6_order_39 : decode cX6_order 39 = .ok (.iand, 1) := dec_row aX6_order_0 25 rfl
theorem dX6_order_40 : decode cX6_order 40 = .ok (.iconst 1, 1) := dec_row aX6_order_0 26 rfl
theorem dX6_order_41 : decode cX6_order 41 = .ok (.if_icmp .eq 29, 3) := dec_row aX6_order_0 27 rfl
theorem dX6_order_44 : decode cX6_order 44 = .ok (.aload_n 0, 1) := dec_row aX6_order_0 28 rfl
theorem dX6_order_45 : decode cX6_order 45 = .ok (.getfield 19, 3) := dec_row aX6_order_0 29 rfl
theorem dX6_order_48 : decode cX6_order 48 = .ok (.iload 5, 2) := dec_row aX6_order_0 30 rfl
theorem dX6_order_50 : decode cX6_order 50 = .ok (.iaload, 1) := dec_row aX6_order_0 31 rfl
theorem dX6_order_51 : decode cX6_order 51 = .ok (.bipush (-4), 2) := dec_row aX6_order_0 32 rfl
theorem dX6_order_53 : decode cX6_order 53 = .ok (.if_icmp .eq 23, 3) := dec_row aX6_order_0 33 rfl
theorem dX6_order_56 : decode cX6_order 56 = .ok (.iload_n 2, 1) := dec_row aX6_order_0 34 rfl
theorem dX6_order_57 : decode cX6_order 57 = .ok (.aload_n 0, 1) := dec_row aX6_order_0 35 rfl
theorem dX6_order_58 : decode cX6_order 58 = .ok (.getfield 19, 3) := dec_row aX6_order_0 36 rfl
theorem dX6_order_61 : decode cX6_order 61 = .ok (.iload 5, 2) := dec_row aX6_order_0 37 rfl
theorem dX6_order_63 : decode cX6_order 63 = .ok (.iaload, 1) := dec_row aX6_order_0 38 rfl
theorem dX6_order_64 : decode cX6_order 64 = .ok (.ishr, 1) := dec_row aX6_order_0 39 rfl
theorem dX6_order_65 : decode cX6_order 65 = .ok (.iconst 1, 1) := dec_row aX6_order_0 40 rfl
theorem dX6_order_66 : decode cX6_order 66 = .ok (.iand, 1) := dec_row aX6_order_0 41 rfl
theorem dX6_order_67 : decode cX6_order 67 = .ok (.ifCond .ne 9, 3) := dec_row aX6_order_0 42 rfl
theorem dX6_order_70 : decode cX6_order 70 = .ok (.iinc 5 1, 3) := dec_row aX6_order_0 43 rfl
theorem dX6_order_73 : decode cX6_order 73 = .ok (.goto (-39), 3) := dec_row aX6_order_0 44 rfl
theorem dX6_order_76 : decode cX6_order 76 = .ok (.iload_n 2, 1) := dec_row aX6_order_0 45 rfl
theorem dX6_order_77 : decode cX6_order 77 = .ok (.iconst 1, 1) := dec_row aX6_order_0 46 rfl
theorem dX6_order_78 : decode cX6_order 78 = .ok (.iload 5, 2) := dec_row aX6_order_0 47 rfl
theorem dX6_order_80 : decode cX6_order 80 = .ok (.ishl, 1) := dec_row aX6_order_0 48 rfl
theorem dX6_order_81 : decode cX6_order 81 = .ok (.ior, 1) := dec_row aX6_order_0 49 rfl
def tX6_order_1 : List (Nat × Instr × Nat) := [(82, .istore_n 2, 1), (83, .iload 5, 2), (85, .istore_n 3, 1), (86, .iinc 4 1, 3), (89, .goto (-64), 3), (92, .iload_n 3, 1), (93, .ireturn, 1)]
theorem aX6_order_1 : tX6_order_1.all (fun q => decide (decode cX6_order q.1 = .ok q.2)) = true := by decide +kernel
theorem dX6_order_82 : decode cX6_order 82 = .ok (.istore_n 2, 1) := dec_row aX6_order_1 0 rfl
theorem dX6_order_83 : decode cX6_order 83 = .ok (.iload 5, 2) := dec_row aX6_order_1 1 rfl
theorem dX6_order_85 : decode cX6_order 85 = .ok (.istore_n 3, 1) := dec_row aX6_order_1 2 rfl
theorem dX6_order_86 : decode cX6_order 86 = .ok (.iinc 4 1, 3) := dec_row aX6_order_1 3 rfl
theorem dX6_order_89 : decode cX6_order 89 = .ok (.goto (-64), 3) := dec_row aX6_order_1 4 rfl
theorem dX6_order_92 : decode cX6_order 92 = .ok (.iload_n 3, 1) := dec_row aX6_order_1 5 rfl
theorem dX6_order_93 : decode cX6_order 93 = .ok (.ireturn, 1) := dec_row aX6_order_1 6 rfl
def tX6_count_0 : List (Nat × Instr × Nat) := [(0, .iload_n 1, 1), (1, .tableswitch 228 0 14 #[75, 80, 85, 90, 99, 111, 120, 129, 138, 147, 156, 196, 209, 214, 219], 75), (76, .aload_n 0, 1), (77, .getfield 70, 3), (80, .ireturn, 1), (81, .aload_n 0, 1), (82, .getfield 73, 3), (85, .ireturn, 1), (86, .aload_n 0, 1), (87, .getfield 76, 3), (90, .ireturn, 1), (91, .aload_n 0, 1), (92, .getfield 25, 3), (95, .sipush 1010, 3), (98, .iaload, 1), (99, .ireturn, 1), (100, .aload_n 0, 1), (101, .getfield 25, 3), (104, .sipush 1011, 3), (107, .iaload, 1), (108, .invokestatic 168, 3), (111, .ireturn, 1), (112, .aload_n 0, 1), (113, .getfield 25, 3), (116, .sipush 1012, 3), (119, .iaload, 1), (120, .ireturn, 1), (121, .aload_n 0, 1), (122, .getfield 25, 3), (125, .sipush 1008, 3), (128, .iaload, 1), (129, .ireturn, 1), (130, .aload_n 0, 1), (131, .getfield 25, 3), (134, .sipush 1009, 3), (137, .iaload, 1), (138, .ireturn, 1), (139, .aload_n 0, 1), (140, .getfield 25, 3), (143, .sipush 1015, 3), (146, .iaload, 1), (147, .ireturn, 1), (148, .aload_n 0, 1), (149, .getfield 25, 3), (152, .sipush 1018, 3), (155, .iaload, 1), (156, .ireturn, 1), (157, .iconst 0, 1), (158, .istore_n 2, 1), (159, .iconst 0, 1)]
theorem aX6_count_0 : tX6_count_0.all (fun q => decide (decode cX6_count q.1 = .ok q.2)) = true := by decide +kernel
theorem dX6_count_0 : decode cX6_count 0 = .ok (.iload_n 1, 1) := dec_row aX6_count_0 0 rfl
theorem dX6_count_1 : decode cX6_count 1 = .ok (.tableswitch 228 0 14 #[75, 80, 85, 90, 99, 111, 120, 129, 138, 147, 156, 196, 209, 214, 219], 75) := dec_row aX6_count_0 1 rfl
theorem dX6_count_76 : decode cX6_count 76 = .ok (.aload_n 0, 1) := dec_row aX6_count_0 2 rfl
theorem dX6_count_77 : decode cX6_count 77 = .ok (.getfield 70, 3) := dec_row aX6_count_0 3 rfl
theorem dX6_count_80 : decode cX6_count 80 = .ok (.ireturn, 1) := dec_row aX6_count_0 4 rfl
theorem dX6_count_81 : decode cX6_count 81 = .ok (.aload_n 0, 1) := dec_row aX6_count_0 5 rfl
theorem dX6_count_82 : decode cX6_count 82 = .ok (.getfield 73, 3) := dec_row aX6_count_0 6 rfl
theorem dX6_count_85 : decode cX6_count 85 = .ok (.ireturn, 1) := dec_row aX6_count_0 7 rfl
theorem dX6_count_86 : decode cX6_count 86 = .ok (.aload_n 0, 1) := dec_row aX6_count_0 8 rfl
theorem dX6_count_87 : decode cX6_count 87 = .ok (.getfield 76, 3) := dec_row aX6_count_0 9 rfl
theorem dX6_count_90 : decode cX6_count 90 = .ok (.ireturn, 1) := dec_row aX6_count_0 10 rfl
theorem dX6_count_91 : decode cX6_count 91 = .ok (.aload_n 0, 1) := dec_row aX6_count_0 11 rfl
theorem dX6_count_92 : decode cX6_count 92 = .ok (.getfield 25, 3) := dec_row aX6_count_0 12 rfl
theorem dX6_count_95 : decode cX6_count 95 = .ok (.sipush 1010, 3) := dec_row aX6_count_0 13 rfl
theorem dX6_count_98 : decode cX6_count 98 = .ok (.iaload, 1) := dec_row aX6_count_0 14 rfl
theorem dX6_count_99 : decode cX6_count 99 = .ok (.ireturn, 1) := dec_row aX6_count_0 15 rfl
theorem dX6_count_100 : decode cX6_count 100 = .ok (.aload_n 0, 1) := dec_row aX6_count_0 16 rfl
theorem dX6_count_101 : decode cX6_count 101 = .ok (.getfield 25, 3) := dec_row aX6_count_0 17 rfl
theorem dX6_count_104 : decode cX6_count 104 = .ok (.sipush 1011, 3) := dec_row aX6_count_0 18 rfl
theorem dX6_count_107 : decode cX6_count 107 = .ok (.iaload, 1) := dec_row aX6_count_0 19 rfl
theorem dX6_count_108 : decode cX6_count 108 = .ok (.invokestatic 168, 3) := dec_row aX6_count_0 20 rfl
theorem dX6_count_111 : decode cX6_count 111 = .ok (.ireturn, 1) := dec_row aX6_count_0 21 rfl
theorem dX6_count_112 : decode cX6_count 112 = .ok (.aload_n 0, 1) := dec_row aX6_count_0 22 rfl
theorem dX6_count_113 : decode cX6_count 113 = .ok (.getfield 25, 3) := dec_row aX6_count_0 23 rfl
theorem dX6_count_116 : decode cX6_count 116 = .ok (.sipush 1012, 3) := dec_row aX6_count_0 24 rfl
theorem dX6_count_119 : decode cX6_count 119 = .ok (.iaload, 1) := dec_row aX6_count_0 25 rfl
theorem dX6_count_120 : decode cX6_count 120 = .ok (.ireturn, 1) := dec_row aX6_count_0 26 rfl
theorem dX6_count_121 : decode cX6_count 121 = .ok (.aload_n 0, 1) := dec_row aX6_count_0 27 rfl
theorem dX6_count_122 : decode cX6_count 122 = .ok (.getfield 25, 3) := dec_row aX6_count_0 28 rfl
theorem dX6_count_125 : decode cX6_count 125 = .ok (.sipush 1008, 3) := dec_row aX6_count_0 29 rfl
theorem dX6_count_128 : decode cX6_count 128 = .ok (.iaload, 1) := dec_row aX6_count_0 30 rfl
theorem dX6_count_129 : decode cX6_count 129 = .ok (.ireturn, 1) := dec_row aX6_count_0 31 rfl
theorem dX6_count_130 : decode cX6_count 130 = .ok (.aload_n 0, 1) := dec_row aX6_count_0 32 rfl
theorem dX6_count_131 : decode cX6_count 131 = .ok (.getfield 25, 3) := dec_row aX6_count_0 33 rfl
theorem dX6_count_134 : decode cX6_count 134 = .ok (.sipush 1009, 3) := dec_row aX6_count_0 34 rfl
theorem dX6_count_137 : decode cX6_count 137 = .ok (.iaload, 1) := dec_row aX6_count_0 35 rfl
theorem dX6_count_138 : decode cX6_count 138 = .ok (.ireturn, 1) := dec_row aX6_count_0 36 rfl
theorem dX6_count_139 : decode cX6_count 139 = .ok (.aload_n 0, 1) := dec_row aX6_count_0 37 rfl
theorem dX6_count_140 : decode cX6_count 140 = .ok (.getfield 25, 3) := dec_row aX6_count_0 38 rfl
theorem dX6_count_143 : decode cX6_count 143 = .ok (.sipush 1015, 3) := dec_row aX6_count_0 39 rfl
theorem dX6_count_146 : decode cX6_count 146 = .ok (.iaload, 1) := dec_row aX6_count_0 40 rfl
theorem dX6_count_147 : decode cX6_count 147 = .ok (.ireturn, 1) := dec_row aX6_count_0 41 rfl
theorem dX6_count_148 : decode cX6_count 148 = .ok (.aload_n 0, 1) := dec_row aX6_count_0 42 rfl
theorem dX6_count_149 : decode cX6_count 149 = .ok (.getfield 25, 3) := dec_row aX6_count_0 43 rfl
theorem dX6_count_152 : decode cX6_count 152 = .ok (.sipush 1018, 3) := dec_row aX6_count_0 44 rfl
theorem dX6_count_155 : decode cX6_count 155 = .ok (.iaload, 1) := dec_row aX6_count_0 45 rfl
theorem dX6_count_156 : decode cX6_count 156 = .ok (.ireturn, 1) := dec_row aX6_count_0 46 rfl
theorem dX6_count_157 : decode cX6_count 157 = .ok (.iconst 0, 1) := dec_row aX6_count_0 47 rfl
theorem dX6_count_158 : decode cX6_count 158 = .ok (.istore_n 2, 1) := dec_row aX6_count_0 48 rfl
theorem dX6_count_159 : decode cX6_count 159 = .ok (.iconst 0, 1) := dec_row aX6_count_0 49 rfl
def tX6_count_1 : List (Nat × Instr × Nat) := [(160, .istore_n 3, 1), (161, .iload_n 3, 1), (162, .aload_n 0, 1), (163, .getfield 25, 3), (166, .sipush 1008, 3), (169, .iaload, 1), (170, .if_icmp .ge 25, 3), (173, .iload_n 2, 1), (174, .aload_n 0, 1), (175, .iload_n 3, 1), (176, .invokevirtual 202, 3), (179, .ifCond .eq 7, 3), (182, .iconst 1, 1), (183, .goto 4, 3), (186, .iconst 0, 1), (187, .iadd, 1), (188, .istore_n 2, 1), (189, .iinc 3 1, 3), (192, .goto (-31), 3), (195, .iload_n 2, 1), (196, .ireturn, 1), (197, .aload_n 0, 1), (198, .invokevirtual 177, 3), (201, .ifCond .eq 7, 3), (204, .iconst 1, 1), (205, .goto 4, 3), (208, .iconst 0, 1), (209, .ireturn, 1), (210, .aload_n 0, 1), (211, .getfield 79, 3), (214, .ireturn, 1), (215, .aload_n 0, 1), (216, .getfield 82, 3), (219, .ireturn, 1), (220, .aload_n 0, 1), (221, .getfield 25, 3), (224, .sipush 1013, 3), (227, .iaload, 1), (228, .ireturn, 1), (229, .iconst (-1), 1), (230, .ireturn, 1)]
theorem aX6_count_1 : tX6_count_1.all (fun q => decide (decode cX6_count q.1 = .ok q.2)) = true := by decide +kernel
theorem dX6_count_160 : decode cX6_count 160 = .ok (.istore_n 3, 1) := dec_row aX6_count_1 0 rfl
theorem dX6_count_161 : decode cX6_count 161 = .ok (.iload_n 3, 1) := dec_row aX6_count_1 1 rfl
theorem dX6_count_162 : decode cX6_count 162 = .ok (.aload_n 0, 1) := dec_row aX6_count_1 2 rfl
theorem dX6_count_163 : decode cX6_count 163 = .ok (.getfield 25, 3) := dec_row aX6_count_1 3 rfl
theorem dX6_count_166 : decode cX6_count 166 = .ok (.sipush 1008, 3) := dec_row aX6_count_1 4 rfl
theorem dX6_count_169 : decode cX6_count 169 = .ok (.iaload, 1) := dec_row aX6_count_1 5 rfl
theorem dX6_count_170 : decode cX6_count 170 = .ok (.if_icmp .ge 25, 3) := dec_row aX6_count_1 6 rfl
theorem dX6_count_173 : decode cX6_count 173 = .ok (.iload_n 2, 1) := dec_row aX6_count_1 7 rfl
theorem dX6_count_174 : decode cX6_count 174 = .ok (.aload_n 0, 1) := dec_row aX6_count_1 8 rfl
theorem dX6_count_175 : decode cX6_count 175 = .ok (.iload_n 3, 1) := dec_row aX6_count_1 9 rfl
theorem dX6_count_176 : decode cX6_count 176 = .ok (.invokevirtual 202, 3) := dec_row aX6_count_1 10 rfl
theorem dX6_count_179 : decode cX6_count 179 = .ok (.ifCond .eq 7, 3) := dec_row aX6_count_1 11 rfl
theorem dX6_count_182 : decode cX6_count 182 = .ok (.iconst 1, 1) := dec_row aX6_count_1 12 rfl
theorem dX6_count_183 : decode cX6_count 183 = .ok (.goto 4, 3) := dec_row aX6_count_1 13 rfl
theorem dX6_count_186 : decode cX6_count 186 = .ok (.iconst 0, 1) := dec_row aX6_count_1 14 rfl
theorem dX6_count_187 : decode cX6_count 187 = .ok (.iadd, 1) := dec_row aX6_count_1 15 rfl
theorem dX6_count_188 : decode cX6_count 188 = .ok (.istore_n 2, 1) := dec_row aX6_count_1 16 rfl
theorem dX6_count_189 : decode cX6_count 189 = .ok (.iinc 3 1, 3) := dec_row aX6_count_1 17 rfl
theorem dX6_count_192 : decode cX6_count 192 = .ok (.goto (-31), 3) := dec_row aX6_count_1 18 rfl
theorem dX6_count_195 : decode cX6_count 195 = .ok (.iload_n 2, 1) := dec_row aX6_count_1 19 rfl
theorem dX6_count_196 : decode cX6_count 196 = .ok (.ireturn, 1) := dec_row aX6_count_1 20 rfl
theorem dX6_count_197 : decode cX6_count 197 = .ok (.aload_n 0, 1) := dec_row aX6_count_1 21 rfl
theorem dX6_count_198 : decode cX6_count 198 = .ok (.invokevirtual 177, 3) := dec_row aX6_count_1 22 rfl
theorem dX6_count_201 : decode cX6_count 201 = .ok (.ifCond .eq 7, 3) := dec_row aX6_count_1 23 rfl
theorem dX6_count_204 : decode cX6_count 204 = .ok (.iconst 1, 1) := dec_row aX6_count_1 24 rfl
theorem dX6_count_205 : decode cX6_count 205 = .ok (.goto 4, 3) := dec_row aX6_count_1 25 rfl
theorem dX6_count_208 : decode cX6_count 208 = .ok (.iconst 0, 1) := dec_row aX6_count_1 26 rfl
theorem dX6_count_209 : decode cX6_count 209 = .ok (.ireturn, 1) := dec_row aX6_count_1 27 rfl
theorem dX6_count_210 : decode cX6_count 210 = .ok (.aload_n 0, 1) := dec_row aX6_count_1 28 rfl
theorem dX6_count_211 : decode cX6_count 211 = .ok (.getfield 79, 3) := dec_row aX6_count_1 29 rfl
theorem dX6_count_214 : decode cX6_count 214 = .ok (.ireturn, 1) := dec_row aX6_count_1 30 rfl
theorem dX6_count_215 : decode cX6_count 215 = .ok (.aload_n 0, 1) := dec_row aX6_count_1 31 rfl
theorem dX6_count_216 : decode cX6_count 216 = .ok (.getfield 82, 3) := dec_row aX6_count_1 32 rfl
theorem dX6_count_219 : decode cX6_count 219 = .ok (.ireturn, 1) := dec_row aX6_count_1 33 rfl
theorem dX6_count_220 : decode cX6_count 220 = .ok (.aload_n 0, 1) := dec_row aX6_count_1 34 rfl
theorem dX6_count_221 : decode cX6_count 221 = .ok (.getfield 25, 3) := dec_row aX6_count_1 35 rfl
theorem dX6_count_224 : decode cX6_count 224 = .ok (.sipush 1013, 3) := dec_row aX6_count_1 36 rfl
theorem dX6_count_227 : decode cX6_count 227 = .ok (.iaload, 1) := dec_row aX6_count_1 37 rfl
theorem dX6_count_228 : decode cX6_count 228 = .ok (.ireturn, 1) := dec_row aX6_count_1 38 rfl
theorem dX6_count_229 : decode cX6_count 229 = .ok (.iconst (-1), 1) := dec_row aX6_count_1 39 rfl
theorem dX6_count_230 : decode cX6_count 230 = .ok (.ireturn, 1) := dec_row aX6_count_1 40 rfl
def tJ6_bitCount_0f7a4 : List (Nat × Instr × Nat) := [(0, .iload_n 0, 1), (1, .iload_n 0, 1), (2, .iconst 1, 1), (3, .iushr, 1), (4, .ldc_w 265, 3), (7, .iand, 1), (8, .isub, 1), (9, .istore_n 0, 1), (10, .iload_n 0, 1), (11, .ldc_w 266, 3), (14, .iand, 1), (15, .iload_n 0, 1), (16, .iconst 2, 1), (17, .iushr, 1), (18, .ldc_w 266, 3), (21, .iand, 1), (22, .iadd, 1), (23, .istore_n 0, 1), (24, .iload_n 0, 1), (25, .iload_n 0, 1), (26, .iconst 4, 1), (27, .iushr, 1), (28, .iadd, 1), (29, .ldc_w 267, 3), (32, .iand, 1), (33, .istore_n 0, 1), (34, .iload_n 0, 1), (35, .iload_n 0, 1), (36, .bipush 8, 2), (38, .iushr, 1), (39, .iadd, 1), (40, .istore_n 0, 1), (41, .iload_n 0, 1), (42, .iload_n 0, 1), (43, .bipush 16, 2), (45, .iushr, 1), (46, .iadd, 1), (47, .istore_n 0, 1), (48, .iload_n 0, 1), (49, .bipush 63, 2), (51, .iand, 1), (52, .ireturn, 1)]
theorem aJ6_bitCount_0f7a4 : tJ6_bitCount_0f7a4.all (fun q => decide (decode cJ6_bitCount_0f7a4 q.1 = .ok q.2)) = true := by decide +kernel
theorem dJ6_bitCount_0f7a4_0 : decode cJ6_bitCount_0f7a4 0 = .ok (.iload_n 0, 1) := dec_row aJ6_bitCount_0f7a4 0 rfl
theorem dJ6_bitCount_0f7a4_1 : decode cJ6_bitCount_0f7a4 1 = .ok (.iload_n 0, 1) := dec_row aJ6_bitCount_0f7a4 1 rfl
theorem dJ6_bitCount_0f7a4_2 : decode cJ6_bitCount_0f7a4 2 = .ok (.iconst 1, 1) := dec_row aJ6_bitCount_0f7a4 2 rfl
theorem dJ6_bitCount_0f7a4_3 : decode cJ6_bitCount_0f7a4 3 = .ok (.iushr, 1) := dec_row aJ6_bitCount_0f7a4 3 rfl
theorem dJ6_bitCount_0f7a4_4 : decode cJ6_bitCount_0f7a4 4 = .ok (.ldc_w 265, 3) := dec_row aJ6_bitCount_0f7a4 4 rfl
theorem dJ6_bitCount_0f7a4_7 : decode cJ6_bitCount_0f7a4 7 = .ok (.iand, 1) := dec_row aJ6_bitCount_0f7a4 5 rfl
theorem dJ6_bitCount_0f7a4_8 : decode cJ6_bitCount_0f7a4 8 = .ok (.isub, 1) := dec_row aJ6_bitCount_0f7a4 6 rfl
theorem dJ6_bitCount_0f7a4_9 : decode cJ6_bitCount_0f7a4 9 = .ok (.istore_n 0, 1) := dec_row aJ6_bitCount_0f7a4 7 rfl
theorem dJ6_bitCount_0f7a4_10 : decode cJ6_bitCount_0f7a4 10 = .ok (.iload_n 0, 1) := dec_row aJ6_bitCount_0f7a4 8 rfl
theorem dJ6_bitCount_0f7a4_11 : decode cJ6_bitCount_0f7a4 11 = .ok (.ldc_w 266, 3) := dec_row aJ6_bitCount_0f7a4 9 rfl
theorem dJ6_bitCount_0f7a4_14 : decode cJ6_bitCount_0f7a4 14 = .ok (.iand, 1) := dec_row aJ6_bitCount_0f7a4 10 rfl
theorem dJ6_bitCount_0f7a4_15 : decode cJ6_bitCount_0f7a4 15 = .ok (.iload_n 0, 1) := dec_row aJ6_bitCount_0f7a4 11 rfl
theorem dJ6_bitCount_0f7a4_16 : decode cJ6_bitCount_0f7a4 16 = .ok (.iconst 2, 1) := dec_row aJ6_bitCount_0f7a4 12 rfl
theorem dJ6_bitCount_0f7a4_17 : decode cJ6_bitCount_0f7a4 17 = .ok (.iushr, 1) := dec_row aJ6_bitCount_0f7a4 13 rfl
theorem dJ6_bitCount_0f7a4_18 : decode cJ6_bitCount_0f7a4 18 = .ok (.ldc_w 266, 3) := dec_row aJ6_bitCount_0f7a4 14 rfl
theorem dJ6_bitCount_0f7a4_21 : decode cJ6_bitCount_0f7a4 21 = .ok (.iand, 1) := dec_row aJ6_bitCount_0f7a4 15 rfl
theorem dJ6_bitCount_0f7a4_22 : decode cJ6_bitCount_0f7a4 22 = .ok (.iadd, 1) := dec_row aJ6_bitCount_0f7a4 16 rfl
theorem dJ6_bitCount_0f7a4_23 : decode cJ6_bitCount_0f7a4 23 = .ok (.istore_n 0, 1) := dec_row aJ6_bitCount_0f7a4 17 rfl
theorem dJ6_bitCount_0f7a4_24 : decode cJ6_bitCount_0f7a4 24 = .ok (.iload_n 0, 1) := dec_row aJ6_bitCount_0f7a4 18 rfl
theorem dJ6_bitCount_0f7a4_25 : decode cJ6_bitCount_0f7a4 25 = .ok (.iload_n 0, 1) := dec_row aJ6_bitCount_0f7a4 19 rfl
theorem dJ6_bitCount_0f7a4_26 : decode cJ6_bitCount_0f7a4 26 = .ok (.iconst 4, 1) := dec_row aJ6_bitCount_0f7a4 20 rfl
theorem dJ6_bitCount_0f7a4_27 : decode cJ6_bitCount_0f7a4 27 = .ok (.iushr, 1) := dec_row aJ6_bitCount_0f7a4 21 rfl
theorem dJ6_bitCount_0f7a4_28 : decode cJ6_bitCount_0f7a4 28 = .ok (.iadd, 1) := dec_row aJ6_bitCount_0f7a4 22 rfl
theorem dJ6_bitCount_0f7a4_29 : decode cJ6_bitCount_0f7a4 29 = .ok (.ldc_w 267, 3) := dec_row aJ6_bitCount_0f7a4 23 rfl
theorem dJ6_bitCount_0f7a4_32 : decode cJ6_bitCount_0f7a4 32 = .ok (.iand, 1) := dec_row aJ6_bitCount_0f7a4 24 rfl
theorem dJ6_bitCount_0f7a4_33 : decode cJ6_bitCount_0f7a4 33 = .ok (.istore_n 0, 1) := dec_row aJ6_bitCount_0f7a4 25 rfl
theorem dJ6_bitCount_0f7a4_34 : decode cJ6_bitCount_0f7a4 34 = .ok (.iload_n 0, 1) := dec_row aJ6_bitCount_0f7a4 26 rfl
theorem dJ6_bitCount_0f7a4_35 : decode cJ6_bitCount_0f7a4 35 = .ok (.iload_n 0, 1) := dec_row aJ6_bitCount_0f7a4 27 rfl
theorem dJ6_bitCount_0f7a4_36 : decode cJ6_bitCount_0f7a4 36 = .ok (.bipush 8, 2) := dec_row aJ6_bitCount_0f7a4 28 rfl
theorem dJ6_bitCount_0f7a4_38 : decode cJ6_bitCount_0f7a4 38 = .ok (.iushr, 1) := dec_row aJ6_bitCount_0f7a4 29 rfl
theorem dJ6_bitCount_0f7a4_39 : decode cJ6_bitCount_0f7a4 39 = .ok (.iadd, 1) := dec_row aJ6_bitCount_0f7a4 30 rfl
theorem dJ6_bitCount_0f7a4_40 : decode cJ6_bitCount_0f7a4 40 = .ok (.istore_n 0, 1) := dec_row aJ6_bitCount_0f7a4 31 rfl
theorem dJ6_bitCount_0f7a4_41 : decode cJ6_bitCount_0f7a4 41 = .ok (.iload_n 0, 1) := dec_row aJ6_bitCount_0f7a4 32 rfl
theorem dJ6_bitCount_0f7a4_42 : decode cJ6_bitCount_0f7a4 42 = .ok (.iload_n 0, 1) := dec_row aJ6_bitCount_0f7a4 33 rfl
theorem dJ6_bitCount_0f7a4_43 : decode cJ6_bitCount_0f7a4 43 = .ok (.bipush 16, 2) := dec_row aJ6_bitCount_0f7a4 34 rfl
theorem dJ6_bitCount_0f7a4_45 : decode cJ6_bitCount_0f7a4 45 = .ok (.iushr, 1) := dec_row aJ6_bitCount_0f7a4 35 rfl
theorem dJ6_bitCount_0f7a4_46 : decode cJ6_bitCount_0f7a4 46 = .ok (.iadd, 1) := dec_row aJ6_bitCount_0f7a4 36 rfl
theorem dJ6_bitCount_0f7a4_47 : decode cJ6_bitCount_0f7a4 47 = .ok (.istore_n 0, 1) := dec_row aJ6_bitCount_0f7a4 37 rfl
theorem dJ6_bitCount_0f7a4_48 : decode cJ6_bitCount_0f7a4 48 = .ok (.iload_n 0, 1) := dec_row aJ6_bitCount_0f7a4 38 rfl
theorem dJ6_bitCount_0f7a4_49 : decode cJ6_bitCount_0f7a4 49 = .ok (.bipush 63, 2) := dec_row aJ6_bitCount_0f7a4 39 rfl
theorem dJ6_bitCount_0f7a4_51 : decode cJ6_bitCount_0f7a4 51 = .ok (.iand, 1) := dec_row aJ6_bitCount_0f7a4 40 rfl
theorem dJ6_bitCount_0f7a4_52 : decode cJ6_bitCount_0f7a4 52 = .ok (.ireturn, 1) := dec_row aJ6_bitCount_0f7a4 41 rfl
def tJ9_floorMod_7cf53 : List (Nat × Instr × Nat) := [(0, .iload_n 0, 1), (1, .iload_n 1, 1), (2, .irem, 1), (3, .istore_n 2, 1), (4, .iload_n 0, 1), (5, .iload_n 1, 1), (6, .ixor, 1), (7, .ifCond .ge 11, 3), (10, .iload_n 2, 1), (11, .ifCond .eq 7, 3), (14, .iload_n 2, 1), (15, .iload_n 1, 1), (16, .iadd, 1), (17, .ireturn, 1), (18, .iload_n 2, 1), (19, .ireturn, 1)]
theorem aJ9_floorMod_7cf53 : tJ9_floorMod_7cf53.all (fun q => decide (decode cJ9_floorMod_7cf53 q.1 = .ok q.2)) = true := by decide +kernel
theorem dJ9_floorMod_7cf53_0 : decode cJ9_floorMod_7cf53 0 = .ok (.iload_n 0, 1) := dec_row aJ9_floorMod_7cf53 0 rfl
theorem dJ9_floorMod_7cf53_1 : decode cJ9_floorMod_7cf53 1 = .ok (.iload_n 1, 1) := dec_row aJ9_floorMod_7cf53 1 rfl
theorem dJ9_floorMod_7cf53_2 : decode cJ9_floorMod_7cf53 2 = .ok (.irem, 1) := dec_row aJ9_floorMod_7cf53 2 rfl
theorem dJ9_floorMod_7cf53_3 : decode cJ9_floorMod_7cf53 3 = .ok (.istore_n 2, 1) := dec_row aJ9_floorMod_7cf53 3 rfl
theorem dJ9_floorMod_7cf53_4 : decode cJ9_floorMod_7cf53 4 = .ok (.iload_n 0, 1) := dec_row aJ9_floorMod_7cf53 4 rfl
theorem dJ9_floorMod_7cf53_5 : decode cJ9_floorMod_7cf53 5 = .ok (.iload_n 1, 1) := dec_row aJ9_floorMod_7cf53 5 rfl
theorem dJ9_floorMod_7cf53_6 : decode cJ9_floorMod_7cf53 6 = .ok (.ixor, 1) := dec_row aJ9_floorMod_7cf53 6 rfl
theorem dJ9_floorMod_7cf53_7 : decode cJ9_floorMod_7cf53 7 = .ok (.ifCond .ge 11, 3) := dec_row aJ9_floorMod_7cf53 7 rfl
theorem dJ9_floorMod_7cf53_10 : decode cJ9_floorMod_7cf53 10 = .ok (.iload_n 2, 1) := dec_row aJ9_floorMod_7cf53 8 rfl
theorem dJ9_floorMod_7cf53_11 : decode cJ9_floorMod_7cf53 11 = .ok (.ifCond .eq 7, 3) := dec_row aJ9_floorMod_7cf53 9 rfl
theorem dJ9_floorMod_7cf53_14 : decode cJ9_floorMod_7cf53 14 = .ok (.iload_n 2, 1) := dec_row aJ9_floorMod_7cf53 10 rfl
theorem dJ9_floorMod_7cf53_15 : decode cJ9_floorMod_7cf53 15 = .ok (.iload_n 1, 1) := dec_row aJ9_floorMod_7cf53 11 rfl
theorem dJ9_floorMod_7cf53_16 : decode cJ9_floorMod_7cf53 16 = .ok (.iadd, 1) := dec_row aJ9_floorMod_7cf53 12 rfl
theorem dJ9_floorMod_7cf53_17 : decode cJ9_floorMod_7cf53 17 = .ok (.ireturn, 1) := dec_row aJ9_floorMod_7cf53 13 rfl
theorem dJ9_floorMod_7cf53_18 : decode cJ9_floorMod_7cf53 18 = .ok (.iload_n 2, 1) := dec_row aJ9_floorMod_7cf53 14 rfl
theorem dJ9_floorMod_7cf53_19 : decode cJ9_floorMod_7cf53 19 = .ok (.ireturn, 1) := dec_row aJ9_floorMod_7cf53 15 rfl
def tJ9_abs_0f7a4 : List (Nat × Instr × Nat) := [(0, .iload_n 0, 1), (1, .ifCond .ge 8, 3), (4, .iload_n 0, 1), (5, .ineg, 1), (6, .goto 4, 3), (9, .iload_n 0, 1), (10, .ireturn, 1)]
theorem aJ9_abs_0f7a4 : tJ9_abs_0f7a4.all (fun q => decide (decode cJ9_abs_0f7a4 q.1 = .ok q.2)) = true := by decide +kernel
theorem dJ9_abs_0f7a4_0 : decode cJ9_abs_0f7a4 0 = .ok (.iload_n 0, 1) := dec_row aJ9_abs_0f7a4 0 rfl
theorem dJ9_abs_0f7a4_1 : decode cJ9_abs_0f7a4 1 = .ok (.ifCond .ge 8, 3) := dec_row aJ9_abs_0f7a4 1 rfl
theorem dJ9_abs_0f7a4_4 : decode cJ9_abs_0f7a4 4 = .ok (.iload_n 0, 1) := dec_row aJ9_abs_0f7a4 2 rfl
theorem dJ9_abs_0f7a4_5 : decode cJ9_abs_0f7a4 5 = .ok (.ineg, 1) := dec_row aJ9_abs_0f7a4 3 rfl
theorem dJ9_abs_0f7a4_6 : decode cJ9_abs_0f7a4 6 = .ok (.goto 4, 3) := dec_row aJ9_abs_0f7a4 4 rfl
theorem dJ9_abs_0f7a4_9 : decode cJ9_abs_0f7a4 9 = .ok (.iload_n 0, 1) := dec_row aJ9_abs_0f7a4 5 rfl
theorem dJ9_abs_0f7a4_10 : decode cJ9_abs_0f7a4 10 = .ok (.ireturn, 1) := dec_row aJ9_abs_0f7a4 6 rfl
def tJ9_max_7cf53 : List (Nat × Instr × Nat) := [(0, .iload_n 0, 1), (1, .iload_n 1, 1), (2, .if_icmp .lt 7, 3), (5, .iload_n 0, 1), (6, .goto 4, 3), (9, .iload_n 1, 1), (10, .ireturn, 1)]
theorem aJ9_max_7cf53 : tJ9_max_7cf53.all (fun q => decide (decode cJ9_max_7cf53 q.1 = .ok q.2)) = true := by decide +kernel
theorem dJ9_max_7cf53_0 : decode cJ9_max_7cf53 0 = .ok (.iload_n 0, 1) := dec_row aJ9_max_7cf53 0 rfl
theorem dJ9_max_7cf53_1 : decode cJ9_max_7cf53 1 = .ok (.iload_n 1, 1) := dec_row aJ9_max_7cf53 1 rfl
theorem dJ9_max_7cf53_2 : decode cJ9_max_7cf53 2 = .ok (.if_icmp .lt 7, 3) := dec_row aJ9_max_7cf53 2 rfl
theorem dJ9_max_7cf53_5 : decode cJ9_max_7cf53 5 = .ok (.iload_n 0, 1) := dec_row aJ9_max_7cf53 3 rfl
theorem dJ9_max_7cf53_6 : decode cJ9_max_7cf53 6 = .ok (.goto 4, 3) := dec_row aJ9_max_7cf53 4 rfl
theorem dJ9_max_7cf53_9 : decode cJ9_max_7cf53 9 = .ok (.iload_n 1, 1) := dec_row aJ9_max_7cf53 5 rfl
theorem dJ9_max_7cf53_10 : decode cJ9_max_7cf53 10 = .ok (.ireturn, 1) := dec_row aJ9_max_7cf53 6 rfl
def tJ9_min_7cf53 : List (Nat × Instr × Nat) := [(0, .iload_n 0, 1), (1, .iload_n 1, 1), (2, .if_icmp .gt 7, 3), (5, .iload_n 0, 1), (6, .goto 4, 3), (9, .iload_n 1, 1), (10, .ireturn, 1)]
theorem aJ9_min_7cf53 : tJ9_min_7cf53.all (fun q => decide (decode cJ9_min_7cf53 q.1 = .ok q.2)) = true := by decide +kernel
theorem dJ9_min_7cf53_0 : decode cJ9_min_7cf53 0 = .ok (.iload_n 0, 1) := dec_row aJ9_min_7cf53 0 rfl
theorem dJ9_min_7cf53_1 : decode cJ9_min_7cf53 1 = .ok (.iload_n 1, 1) := dec_row aJ9_min_7cf53 1 rfl
theorem dJ9_min_7cf53_2 : decode cJ9_min_7cf53 2 = .ok (.if_icmp .gt 7, 3) := dec_row aJ9_min_7cf53 2 rfl
theorem dJ9_min_7cf53_5 : decode cJ9_min_7cf53 5 = .ok (.iload_n 0, 1) := dec_row aJ9_min_7cf53 3 rfl
theorem dJ9_min_7cf53_6 : decode cJ9_min_7cf53 6 = .ok (.goto 4, 3) := dec_row aJ9_min_7cf53 4 rfl
theorem dJ9_min_7cf53_9 : decode cJ9_min_7cf53 9 = .ok (.iload_n 1, 1) := dec_row aJ9_min_7cf53 5 rfl
theorem dJ9_min_7cf53_10 : decode cJ9_min_7cf53 10 = .ok (.ireturn, 1) := dec_row aJ9_min_7cf53 6 rfl
def tJ0_length_8abf5 : List (Nat × Instr × Nat) := [(0, .aload_n 0, 1), (1, .getfield 9, 3), (4, .arraylength, 1), (5, .aload_n 0, 1), (6, .invokevirtual 335, 3), (9, .ishr, 1), (10, .ireturn, 1)]
theorem aJ0_length_8abf5 : tJ0_length_8abf5.all (fun q => decide (decode cJ0_length_8abf5 q.1 = .ok q.2)) = true := by decide +kernel
theorem dJ0_length_8abf5_0 : decode cJ0_length_8abf5 0 = .ok (.aload_n 0, 1) := dec_row aJ0_length_8abf5 0 rfl
theorem dJ0_length_8abf5_1 : decode cJ0_length_8abf5 1 = .ok (.getfield 9, 3) := dec_row aJ0_length_8abf5 1 rfl
theorem dJ0_length_8abf5_4 : decode cJ0_length_8abf5 4 = .ok (.arraylength, 1) := dec_row aJ0_length_8abf5 2 rfl
theorem dJ0_length_8abf5_5 : decode cJ0_length_8abf5 5 = .ok (.aload_n 0, 1) := dec_row aJ0_length_8abf5 3 rfl
theorem dJ0_length_8abf5_6 : decode cJ0_length_8abf5 6 = .ok (.invokevirtual 335, 3) := dec_row aJ0_length_8abf5 4 rfl
theorem dJ0_length_8abf5_9 : decode cJ0_length_8abf5 9 = .ok (.ishr, 1) := dec_row aJ0_length_8abf5 5 rfl
theorem dJ0_length_8abf5_10 : decode cJ0_length_8abf5 10 = .ok (.ireturn, 1) := dec_row aJ0_length_8abf5 6 rfl
def tJ0_charAt_5068e : List (Nat × Instr × Nat) := [(0, .aload_n 0, 1), (1, .invokevirtual 492, 3), (4, .ifCond .eq 12, 3), (7, .aload_n 0, 1), (8, .getfield 9, 3), (11, .iload_n 1, 1), (12, .invokestatic 495, 3), (15, .ireturn, 1), (16, .aload_n 0, 1), (17, .getfield 9, 3), (20, .iload_n 1, 1), (21, .invokestatic 498, 3), (24, .ireturn, 1)]
theorem aJ0_charAt_5068e : tJ0_charAt_5068e.all (fun q => decide (decode cJ0_charAt_5068e q.1 = .ok q.2)) = true := by decide +kernel
theorem dJ0_charAt_5068e_0 : decode cJ0_charAt_5068e 0 = .ok (.aload_n 0, 1) := dec_row aJ0_charAt_5068e 0 rfl
theorem dJ0_charAt_5068e_1 : decode cJ0_charAt_5068e 1 = .ok (.invokevirtual 492, 3) := dec_row aJ0_charAt_5068e 1 rfl
theorem dJ0_charAt_5068e_4 : decode cJ0_charAt_5068e 4 = .ok (.ifCond .eq 12, 3) := dec_row aJ0_charAt_5068e 2 rfl
theorem dJ0_charAt_5068e_7 : decode cJ0_charAt_5068e 7 = .ok (.aload_n 0, 1) := dec_row aJ0_charAt_5068e 3 rfl
theorem dJ0_charAt_5068e_8 : decode cJ0_charAt_5068e 8 = .ok (.getfield 9, 3) := dec_row aJ0_charAt_5068e 4 rfl
theorem dJ0_charAt_5068e_11 : decode cJ0_charAt_5068e 11 = .ok (.iload_n 1, 1) := dec_row aJ0_charAt_5068e 5 rfl
theorem dJ0_charAt_5068e_12 : decode cJ0_charAt_5068e 12 = .ok (.invokestatic 495, 3) := dec_row aJ0_charAt_5068e 6 rfl
theorem dJ0_charAt_5068e_15 : decode cJ0_charAt_5068e 15 = .ok (.ireturn, 1) := dec_row aJ0_charAt_5068e 7 rfl
theorem dJ0_charAt_5068e_16 : decode cJ0_charAt_5068e 16 = .ok (.aload_n 0, 1) := dec_row aJ0_charAt_5068e 8 rfl
theorem dJ0_charAt_5068e_17 : decode cJ0_charAt_5068e 17 = .ok (.getfield 9, 3) := dec_row aJ0_charAt_5068e 9 rfl
theorem dJ0_charAt_5068e_20 : decode cJ0_charAt_5068e 20 = .ok (.iload_n 1, 1) := dec_row aJ0_charAt_5068e 10 rfl
theorem dJ0_charAt_5068e_21 : decode cJ0_charAt_5068e 21 = .ok (.invokestatic 498, 3) := dec_row aJ0_charAt_5068e 11 rfl
theorem dJ0_charAt_5068e_24 : decode cJ0_charAt_5068e 24 = .ok (.ireturn, 1) := dec_row aJ0_charAt_5068e 12 rfl
def tJ0_coder_7d493 : List (Nat × Instr × Nat) := [(0, .getstatic 38, 3), (3, .ifCond .eq 10, 3), (6, .aload_n 0, 1), (7, .getfield 15, 3), (10, .goto 4, 3), (13, .iconst 1, 1), (14, .ireturn, 1)]
theorem aJ0_coder_7d493 : tJ0_coder_7d493.all (fun q => decide (decode cJ0_coder_7d493 q.1 = .ok q.2)) = true := by decide +kernel
theorem dJ0_coder_7d493_0 : decode cJ0_coder_7d493 0 = .ok (.getstatic 38, 3) := dec_row aJ0_coder_7d493 0 rfl
theorem dJ0_coder_7d493_3 : decode cJ0_coder_7d493 3 = .ok (.ifCond .eq 10, 3) := dec_row aJ0_coder_7d493 1 rfl
theorem dJ0_coder_7d493_6 : decode cJ0_coder_7d493 6 = .ok (.aload_n 0, 1) := dec_row aJ0_coder_7d493 2 rfl
theorem dJ0_coder_7d493_7 : decode cJ0_coder_7d493 7 = .ok (.getfield 15, 3) := dec_row aJ0_coder_7d493 3 rfl
theorem dJ0_coder_7d493_10 : decode cJ0_coder_7d493 10 = .ok (.goto 4, 3) := dec_row aJ0_coder_7d493 4 rfl
theorem dJ0_coder_7d493_13 : decode cJ0_coder_7d493 13 = .ok (.iconst 1, 1) := dec_row aJ0_coder_7d493 5 rfl
theorem dJ0_coder_7d493_14 : decode cJ0_coder_7d493 14 = .ok (.ireturn, 1) := dec_row aJ0_coder_7d493 6 rfl
def tJ0_isLatin1_aae02 : List (Nat × Instr × Nat) := [(0, .getstatic 38, 3), (3, .ifCond .eq 14, 3), (6, .aload_n 0, 1), (7, .getfield 15, 3), (10, .ifCond .ne 7, 3), (13, .iconst 1, 1), (14, .goto 4, 3), (17, .iconst 0, 1), (18, .ireturn, 1)]
theorem aJ0_isLatin1_aae02 : tJ0_isLatin1_aae02.all (fun q => decide (decode cJ0_isLatin1_aae02 q.1 = .ok q.2)) = true := by decide +kernel
theorem dJ0_isLatin1_aae02_0 : decode cJ0_isLatin1_aae02 0 = .ok (.getstatic 38, 3) := dec_row aJ0_isLatin1_aae02 0 rfl
theorem dJ0_isLatin1_aae02_3 : decode cJ0_isLatin1_aae02 3 = .ok (.ifCond .eq 14, 3) := dec_row aJ0_isLatin1_aae02 1 rfl
theorem dJ0_isLatin1_aae02_6 : decode cJ0_isLatin1_aae02 6 = .ok (.aload_n 0, 1) := dec_row aJ0_isLatin1_aae02 2 rfl
theorem dJ0_isLatin1_aae02_7 : decode cJ0_isLatin1_aae02 7 = .ok (.getfield 15, 3) := dec_row aJ0_isLatin1_aae02 3 rfl
theorem dJ0_isLatin1_aae02_10 : decode cJ0_isLatin1_aae02 10 = .ok (.ifCond .ne 7, 3) := dec_row aJ0_isLatin1_aae02 4 rfl
theorem dJ0_isLatin1_aae02_13 : decode cJ0_isLatin1_aae02 13 = .ok (.iconst 1, 1) := dec_row aJ0_isLatin1_aae02 5 rfl
theorem dJ0_isLatin1_aae02_14 : decode cJ0_isLatin1_aae02 14 = .ok (.goto 4, 3) := dec_row aJ0_isLatin1_aae02 6 rfl
theorem dJ0_isLatin1_aae02_17 : decode cJ0_isLatin1_aae02 17 = .ok (.iconst 0, 1) := dec_row aJ0_isLatin1_aae02 7 rfl
theorem dJ0_isLatin1_aae02_18 : decode cJ0_isLatin1_aae02 18 = .ok (.ireturn, 1) := dec_row aJ0_isLatin1_aae02 8 rfl
def tJ0_checkIndex_df160 : List (Nat × Instr × Nat) := [(0, .iload_n 0, 1), (1, .iload_n 1, 1), (2, .getstatic 1053, 3), (5, .invokestatic 1059, 3), (8, .pop, 1), (9, .return_, 1)]
theorem aJ0_checkIndex_df160 : tJ0_checkIndex_df160.all (fun q => decide (decode cJ0_checkIndex_df160 q.1 = .ok q.2)) = true := by decide +kernel
theorem dJ0_checkIndex_df160_0 : decode cJ0_checkIndex_df160 0 = .ok (.iload_n 0, 1) := dec_row aJ0_checkIndex_df160 0 rfl
theorem dJ0_checkIndex_df160_1 : decode cJ0_checkIndex_df160 1 = .ok (.iload_n 1, 1) := dec_row aJ0_checkIndex_df160 1 rfl
theorem dJ0_checkIndex_df160_2 : decode cJ0_checkIndex_df160 2 = .ok (.getstatic 1053, 3) := dec_row aJ0_checkIndex_df160 2 rfl
theorem dJ0_checkIndex_df160_5 : decode cJ0_checkIndex_df160 5 = .ok (.invokestatic 1059, 3) := dec_row aJ0_checkIndex_df160 3 rfl
theorem dJ0_checkIndex_df160_8 : decode cJ0_checkIndex_df160 8 = .ok (.pop, 1) := dec_row aJ0_checkIndex_df160 4 rfl
theorem dJ0_checkIndex_df160_9 : decode cJ0_checkIndex_df160 9 = .ok (.return_, 1) := dec_row aJ0_checkIndex_df160 5 rfl
def tJ1_charAt_3b067 : List (Nat × Instr × Nat) := [(0, .iload_n 1, 1), (1, .aload_n 0, 1), (2, .arraylength, 1), (3, .invokestatic 9, 3), (6, .aload_n 0, 1), (7, .iload_n 1, 1), (8, .baload, 1), (9, .sipush 255, 3), (12, .iand, 1), (13, .i2c, 1), (14, .ireturn, 1)]
theorem aJ1_charAt_3b067 : tJ1_charAt_3b067.all (fun q => decide (decode cJ1_charAt_3b067 q.1 = .ok q.2)) = true := by decide +kernel
theorem dJ1_charAt_3b067_0 : decode cJ1_charAt_3b067 0 = .ok (.iload_n 1, 1) := dec_row aJ1_charAt_3b067 0 rfl
theorem dJ1_charAt_3b067_1 : decode cJ1_charAt_3b067 1 = .ok (.aload_n 0, 1) := dec_row aJ1_charAt_3b067 1 rfl
theorem dJ1_charAt_3b067_2 : decode cJ1_charAt_3b067 2 = .ok (.arraylength, 1) := dec_row aJ1_charAt_3b067 2 rfl
theorem dJ1_charAt_3b067_3 : decode cJ1_charAt_3b067 3 = .ok (.invokestatic 9, 3) := dec_row aJ1_charAt_3b067 3 rfl
theorem dJ1_charAt_3b067_6 : decode cJ1_charAt_3b067 6 = .ok (.aload_n 0, 1) := dec_row aJ1_charAt_3b067 4 rfl
theorem dJ1_charAt_3b067_7 : decode cJ1_charAt_3b067 7 = .ok (.iload_n 1, 1) := dec_row aJ1_charAt_3b067 5 rfl
theorem dJ1_charAt_3b067_8 : decode cJ1_charAt_3b067 8 = .ok (.baload, 1) := dec_row aJ1_charAt_3b067 6 rfl
theorem dJ1_charAt_3b067_9 : decode cJ1_charAt_3b067 9 = .ok (.sipush 255, 3) := dec_row aJ1_charAt_3b067 7 rfl
theorem dJ1_charAt_3b067_12 : decode cJ1_charAt_3b067 12 = .ok (.iand, 1) := dec_row aJ1_charAt_3b067 8 rfl
theorem dJ1_charAt_3b067_13 : decode cJ1_charAt_3b067 13 = .ok (.i2c, 1) := dec_row aJ1_charAt_3b067 9 rfl
theorem dJ1_charAt_3b067_14 : decode cJ1_charAt_3b067 14 = .ok (.ireturn, 1) := dec_row aJ1_charAt_3b067 10 rfl
def tJ2_getChar_3b067 : List (Nat × Instr × Nat) := [(0, .getstatic 44, 3), (3, .ifCond .ne 25, 3), (6, .iload_n 1, 1), (7, .ifCond .lt 11, 3), (10, .iload_n 1, 1), (11, .aload_n 0, 1), (12, .invokestatic 48, 3), (15, .if_icmp .lt 13, 3), (18, .new 52, 3), (21, .dup, 1), (22, .ldc 54, 2), (24, .invokespecial 56, 3), (27, .athrow, 1), (28, .iload_n 1, 1), (29, .iconst 1, 1), (30, .ishl, 1), (31, .istore_n 1, 1), (32, .aload_n 0, 1), (33, .iload_n 1, 1), (34, .iinc 1 1, 3), (37, .baload, 1), (38, .sipush 255, 3), (41, .iand, 1), (42, .getstatic 59, 3), (45, .ishl, 1), (46, .aload_n 0, 1), (47, .iload_n 1, 1), (48, .baload, 1), (49, .sipush 255, 3), (52, .iand, 1), (53, .getstatic 63, 3), (56, .ishl, 1), (57, .ior, 1), (58, .i2c, 1), (59, .ireturn, 1)]
theorem aJ2_getChar_3b067 : tJ2_getChar_3b067.all (fun q => decide (decode cJ2_getChar_3b067 q.1 = .ok q.2)) = true := by decide +kernel
theorem dJ2_getChar_3b067_0 : decode cJ2_getChar_3b067 0 = .ok (.getstatic 44, 3) := dec_row aJ2_getChar_3b067 0 rfl
theorem dJ2_getChar_3b067_3 : decode cJ2_getChar_3b067 3 = .ok (.ifCond .ne 25, 3) := dec_row aJ2_getChar_3b067 1 rfl
theorem dJ2_getChar_3b067_6 : decode cJ2_getChar_3b067 6 = .ok (.iload_n 1, 1) := dec_row aJ2_getChar_3b067 2 rfl
theorem dJ2_getChar_3b067_7 : decode cJ2_getChar_3b067 7 = .ok (.ifCond .lt 11, 3) := dec_row aJ2_getChar_3b067 3 rfl
theorem dJ2_getChar_3b067_10 : decode cJ2_getChar_3b067 10 = .ok (.iload_n 1, 1) := dec_row aJ2_getChar_3b067 4 rfl
theorem dJ2_getChar_3b067_11 : decode cJ2_getChar_3b067 11 = .ok (.aload_n 0, 1) := dec_row aJ2_getChar_3b067 5 rfl
theorem dJ2_getChar_3b067_12 : decode cJ2_getChar_3b067 12 = .ok (.invokestatic 48, 3) := dec_row aJ2_getChar_3b067 6 rfl
theorem dJ2_getChar_3b067_15 : decode cJ2_getChar_3b067 15 = .ok (.if_icmp .lt 13, 3) := dec_row aJ2_getChar_3b067 7 rfl
theorem dJ2_getChar_3b067_18 : decode cJ2_getChar_3b067 18 = .ok (.new 52, 3) := dec_row aJ2_getChar_3b067 8 rfl
theorem dJ2_getChar_3b067_21 : decode cJ2_getChar_3b067 21 = .ok (.dup, 1) := dec_row aJ2_getChar_3b067 9 rfl
theorem dJ2_getChar_3b067_22 : decode cJ2_getChar_3b067 22 = .ok (.ldc 54, 2) := dec_row aJ2_getChar_3b067 10 rfl
theorem dJ2_getChar_3b067_24 : decode cJ2_getChar_3b067 24 = .ok (.invokespecial 56, 3) := dec_row aJ2_getChar_3b067 11 rfl
theorem dJ2_getChar_3b067_27 : decode cJ2_getChar_3b067 27 = .ok (.athrow, 1) := dec_row aJ2_getChar_3b067 12 rfl
theorem dJ2_getChar_3b067_28 : decode cJ2_getChar_3b067 28 = .ok (.iload_n 1, 1) := dec_row aJ2_getChar_3b067 13 rfl
theorem dJ2_getChar_3b067_29 : decode cJ2_getChar_3b067 29 = .ok (.iconst 1, 1) := dec_row aJ2_getChar_3b067 14 rfl
theorem dJ2_getChar_3b067_30 : decode cJ2_getChar_3b067 30 = .ok (.ishl, 1) := dec_row aJ2_getChar_3b067 15 rfl
theorem dJ2_getChar_3b067_31 : decode cJ2_getChar_3b067 31 = .ok (.istore_n 1, 1) := dec_row aJ2_getChar_3b067 16 rfl
theorem dJ2_getChar_3b067_32 : decode cJ2_getChar_3b067 32 = .ok (.aload_n 0, 1) := dec_row aJ2_getChar_3b067 17 rfl
theorem dJ2_getChar_3b067_33 : decode cJ2_getChar_3b067 33 = .ok (.iload_n 1, 1) := dec_row aJ2_getChar_3b067 18 rfl
theorem dJ2_getChar_3b067_34 : decode cJ2_getChar_3b067 34 = .ok (.iinc 1 1, 3) := dec_row aJ2_getChar_3b067 19 rfl
theorem dJ2_getChar_3b067_37 : decode cJ2_getChar_3b067 37 = .ok (.baload, 1) := dec_row aJ2_getChar_3b067 20 rfl
theorem dJ2_getChar_3b067_38 : decode cJ2_getChar_3b067 38 = .ok (.sipush 255, 3) := dec_row aJ2_getChar_3b067 21 rfl
theorem dJ2_getChar_3b067_41 : decode cJ2_getChar_3b067 41 = .ok (.iand, 1) := dec_row aJ2_getChar_3b067 22 rfl
theorem dJ2_getChar_3b067_42 : decode cJ2_getChar_3b067 42 = .ok (.getstatic 59, 3) := dec_row aJ2_getChar_3b067 23 rfl
theorem dJ2_getChar_3b067_45 : decode cJ2_getChar_3b067 45 = .ok (.ishl, 1) := dec_row aJ2_getChar_3b067 24 rfl
theorem dJ2_getChar_3b067_46 : decode cJ2_getChar_3b067 46 = .ok (.aload_n 0, 1) := dec_row aJ2_getChar_3b067 25 rfl
theorem dJ2_getChar_3b067_47 : decode cJ2_getChar_3b067 47 = .ok (.iload_n 1, 1) := dec_row aJ2_getChar_3b067 26 rfl
theorem dJ2_getChar_3b067_48 : decode cJ2_getChar_3b067 48 = .ok (.baload, 1) := dec_row aJ2_getChar_3b067 27 rfl
theorem dJ2_getChar_3b067_49 : decode cJ2_getChar_3b067 49 = .ok (.sipush 255, 3) := dec_row aJ2_getChar_3b067 28 rfl
theorem dJ2_getChar_3b067_52 : decode cJ2_getChar_3b067 52 = .ok (.iand, 1) := dec_row aJ2_getChar_3b067 29 rfl
theorem dJ2_getChar_3b067_53 : decode cJ2_getChar_3b067 53 = .ok (.getstatic 63, 3) := dec_row aJ2_getChar_3b067 30 rfl
theorem dJ2_getChar_3b067_56 : decode cJ2_getChar_3b067 56 = .ok (.ishl, 1) := dec_row aJ2_getChar_3b067 31 rfl
theorem dJ2_getChar_3b067_57 : decode cJ2_getChar_3b067 57 = .ok (.ior, 1) := dec_row aJ2_getChar_3b067 32 rfl
theorem dJ2_getChar_3b067_58 : decode cJ2_getChar_3b067 58 = .ok (.i2c, 1) := dec_row aJ2_getChar_3b067 33 rfl
theorem dJ2_getChar_3b067_59 : decode cJ2_getChar_3b067 59 = .ok (.ireturn, 1) := dec_row aJ2_getChar_3b067 34 rfl
def tJ2_length_9d52b : List (Nat × Instr × Nat) := [(0, .aload_n 0, 1), (1, .arraylength, 1), (2, .iconst 1, 1), (3, .ishr, 1), (4, .ireturn, 1)]
theorem aJ2_length_9d52b : tJ2_length_9d52b.all (fun q => decide (decode cJ2_length_9d52b q.1 = .ok q.2)) = true := by decide +kernel
theorem dJ2_length_9d52b_0 : decode cJ2_length_9d52b 0 = .ok (.aload_n 0, 1) := dec_row aJ2_length_9d52b 0 rfl
theorem dJ2_length_9d52b_1 : decode cJ2_length_9d52b 1 = .ok (.arraylength, 1) := dec_row aJ2_length_9d52b 1 rfl
theorem dJ2_length_9d52b_2 : decode cJ2_length_9d52b 2 = .ok (.iconst 1, 1) := dec_row aJ2_length_9d52b 2 rfl
theorem dJ2_length_9d52b_3 : decode cJ2_length_9d52b 3 = .ok (.ishr, 1) := dec_row aJ2_length_9d52b 3 rfl
theorem dJ2_length_9d52b_4 : decode cJ2_length_9d52b 4 = .ok (.ireturn, 1) := dec_row aJ2_length_9d52b 4 rfl
def tJ2_charAt_3b067 : List (Nat × Instr × Nat) := [(0, .iload_n 1, 1), (1, .aload_n 0, 1), (2, .invokestatic 67, 3), (5, .aload_n 0, 1), (6, .iload_n 1, 1), (7, .invokestatic 71, 3), (10, .ireturn, 1)]
theorem aJ2_charAt_3b067 : tJ2_charAt_3b067.all (fun q => decide (decode cJ2_charAt_3b067 q.1 = .ok q.2)) = true := by decide +kernel
theorem dJ2_charAt_3b067_0 : decode cJ2_charAt_3b067 0 = .ok (.iload_n 1, 1) := dec_row aJ2_charAt_3b067 0 rfl
theorem dJ2_charAt_3b067_1 : decode cJ2_charAt_3b067 1 = .ok (.aload_n 0, 1) := dec_row aJ2_charAt_3b067 1 rfl
theorem dJ2_charAt_3b067_2 : decode cJ2_charAt_3b067 2 = .ok (.invokestatic 67, 3) := dec_row aJ2_charAt_3b067 2 rfl
theorem dJ2_charAt_3b067_5 : decode cJ2_charAt_3b067 5 = .ok (.aload_n 0, 1) := dec_row aJ2_charAt_3b067 3 rfl
theorem dJ2_charAt_3b067_6 : decode cJ2_charAt_3b067 6 = .ok (.iload_n 1, 1) := dec_row aJ2_charAt_3b067 4 rfl
theorem dJ2_charAt_3b067_7 : decode cJ2_charAt_3b067 7 = .ok (.invokestatic 71, 3) := dec_row aJ2_charAt_3b067 5 rfl
theorem dJ2_charAt_3b067_10 : decode cJ2_charAt_3b067 10 = .ok (.ireturn, 1) := dec_row aJ2_charAt_3b067 6 rfl
def tJ2_checkIndex_2214a : List (Nat × Instr × Nat) := [(0, .iload_n 0, 1), (1, .aload_n 1, 1), (2, .invokestatic 48, 3), (5, .invokestatic 414, 3), (8, .return_, 1)]
theorem aJ2_checkIndex_2214a : tJ2_checkIndex_2214a.all (fun q => decide (decode cJ2_checkIndex_2214a q.1 = .ok q.2)) = true := by decide +kernel
theorem dJ2_checkIndex_2214a_0 : decode cJ2_checkIndex_2214a 0 = .ok (.iload_n 0, 1) := dec_row aJ2_checkIndex_2214a 0 rfl
theorem dJ2_checkIndex_2214a_1 : decode cJ2_checkIndex_2214a 1 = .ok (.aload_n 1, 1) := dec_row aJ2_checkIndex_2214a 1 rfl
theorem dJ2_checkIndex_2214a_2 : decode cJ2_checkIndex_2214a 2 = .ok (.invokestatic 48, 3) := dec_row aJ2_checkIndex_2214a 2 rfl
theorem dJ2_checkIndex_2214a_5 : decode cJ2_checkIndex_2214a 5 = .ok (.invokestatic 414, 3) := dec_row aJ2_checkIndex_2214a 3 rfl
theorem dJ2_checkIndex_2214a_8 : decode cJ2_checkIndex_2214a 8 = .ok (.return_, 1) := dec_row aJ2_checkIndex_2214a 4 rfl
def tJ3_checkIndex_8e157 : List (Nat × Instr × Nat) := [(0, .iload_n 0, 1), (1, .ifCond .lt 8, 3), (4, .iload_n 0, 1), (5, .iload_n 1, 1), (6, .if_icmp .lt 10, 3), (9, .aload_n 2, 1), (10, .iload_n 0, 1), (11, .iload_n 1, 1), (12, .invokestatic 95, 3), (15, .athrow, 1), (16, .iload_n 0, 1), (17, .ireturn, 1)]
theorem aJ3_checkIndex_8e157 : tJ3_checkIndex_8e157.all (fun q => decide (decode cJ3_checkIndex_8e157 q.1 = .ok q.2)) = true := by decide +kernel
theorem dJ3_checkIndex_8e157_0 : decode cJ3_checkIndex_8e157 0 = .ok (.iload_n 0, 1) := dec_row aJ3_checkIndex_8e157 0 rfl
theorem dJ3_checkIndex_8e157_1 : decode cJ3_checkIndex_8e157 1 = .ok (.ifCond .lt 8, 3) := dec_row aJ3_checkIndex_8e157 1 rfl
theorem dJ3_checkIndex_8e157_4 : decode cJ3_checkIndex_8e157 4 = .ok (.iload_n 0, 1) := dec_row aJ3_checkIndex_8e157 2 rfl
theorem dJ3_checkIndex_8e157_5 : decode cJ3_checkIndex_8e157 5 = .ok (.iload_n 1, 1) := dec_row aJ3_checkIndex_8e157 3 rfl
theorem dJ3_checkIndex_8e157_6 : decode cJ3_checkIndex_8e157 6 = .ok (.if_icmp .lt 10, 3) := dec_row aJ3_checkIndex_8e157 4 rfl
theorem dJ3_checkIndex_8e157_9 : decode cJ3_checkIndex_8e157 9 = .ok (.aload_n 2, 1) := dec_row aJ3_checkIndex_8e157 5 rfl
theorem dJ3_checkIndex_8e157_10 : decode cJ3_checkIndex_8e157 10 = .ok (.iload_n 0, 1) := dec_row aJ3_checkIndex_8e157 6 rfl
theorem dJ3_checkIndex_8e157_11 : decode cJ3_checkIndex_8e157 11 = .ok (.iload_n 1, 1) := dec_row aJ3_checkIndex_8e157 7 rfl
theorem dJ3_checkIndex_8e157_12 : decode cJ3_checkIndex_8e157 12 = .ok (.invokestatic 95, 3) := dec_row aJ3_checkIndex_8e157 8 rfl
theorem dJ3_checkIndex_8e157_15 : decode cJ3_checkIndex_8e157 15 = .ok (.athrow, 1) := dec_row aJ3_checkIndex_8e157 9 rfl
theorem dJ3_checkIndex_8e157_16 : decode cJ3_checkIndex_8e157 16 = .ok (.iload_n 0, 1) := dec_row aJ3_checkIndex_8e157 10 rfl
theorem dJ3_checkIndex_8e157_17 : decode cJ3_checkIndex_8e157 17 = .ok (.ireturn, 1) := dec_row aJ3_checkIndex_8e157 11 rfl
def tL_law_0 : List (Nat × Instr × Nat) := [(0, .new 7, 3), (3, .dup, 1), (4, .invokespecial 9, 3), (7, .astore_n 1, 1), (8, .new 10, 3), (11, .dup, 1), (12, .invokespecial 12, 3), (15, .astore_n 2, 1), (16, .iconst 0, 1), (17, .istore_n 3, 1), (18, .iload_n 3, 1), (19, .aload_n 0, 1), (20, .arraylength, 1), (21, .iconst 4, 1), (22, .isub, 1), (23, .if_icmp .gt 783, 3), (26, .aload_n 0, 1), (27, .iload_n 3, 1), (28, .iaload, 1), (29, .bipush 31, 2), (31, .iand, 1), (32, .tableswitch 768 0 25 #[120, 143, 156, 169, 182, 205, 238, 271, 304, 337, 370, 383, 396, 409, 432, 445, 468, 501, 534, 567, 600, 643, 676, 699, 722, 745], 120), (152, .aload_n 1, 1), (153, .aload_n 0, 1), (154, .iload_n 3, 1), (155, .iconst 1, 1), (156, .iadd, 1), (157, .iaload, 1), (158, .invokevirtual 13, 3), (161, .aload_n 2, 1), (162, .aload_n 0, 1), (163, .iload_n 3, 1), (164, .iconst 1, 1), (165, .iadd, 1), (166, .iaload, 1), (167, .invokevirtual 17, 3), (170, .if_icmp .eq 630, 3), (173, .iconst 0, 1), (174, .ireturn, 1), (175, .aload_n 1, 1), (176, .invokevirtual 18, 3), (179, .aload_n 2, 1), (180, .invokevirtual 22, 3), (183, .if_icmp .eq 617, 3), (186, .iconst 0, 1), (187, .ireturn, 1), (188, .aload_n 1, 1), (189, .invokevirtual 23, 3), (192, .aload_n 2, 1), (193, .invokevirtual 26, 3)]
theorem aL_law_0 : tL_law_0.all (fun q => decide (decode cL_law q.1 = .ok q.2)) = true := by decide +kernel
theorem dL_law_0 : decode cL_law 0 = .ok (.new 7, 3) := dec_row aL_law_0 0 rfl
theorem dL_law_3 : decode cL_law 3 = .ok (.dup, 1) := dec_row aL_law_0 1 rfl
theorem dL_law_4 : decode cL_law 4 = .ok (.invokespecial 9, 3) := dec_row aL_law_0 2 rfl
theorem dL_law_7 : decode cL_law 7 = .ok (.astore_n 1, 1) := dec_row aL_law_0 3 rfl
theorem dL_law_8 : decode cL_law 8 = .ok (.new 10, 3) := dec_row aL_law_0 4 rfl
theorem dL_law_11 : decode cL_law 11 = .ok (.dup, 1) := dec_row aL_law_0 5 rfl
theorem dL_law_12 : decode cL_law 12 = .ok (.invokespecial 12, 3) := dec_row aL_law_0 6 rfl
theorem dL_law_15 : decode cL_law 15 = .ok (.astore_n 2, 1) := dec_row aL_law_0 7 rfl
theorem dL_law_16 : decode cL_law 16 = .ok (.iconst 0, 1) := dec_row aL_law_0 8 rfl
theorem dL_law_17 : decode cL_law 17 = .ok (.istore_n 3, 1) := dec_row aL_law_0 9 rfl
theorem dL_law_18 : decode cL_law 18 = .ok (.iload_n 3, 1) := dec_row aL_law_0 10 rfl
theorem dL_law_19 : decode cL_law 19 = .ok (.aload_n 0, 1) := dec_row aL_law_0 11 rfl
theorem dL_law_20 : decode cL_law 20 = .ok (.arraylength, 1) := dec_row aL_law_0 12 rfl
theorem dL_law_21 : decode cL_law 21 = .ok (.iconst 4, 1) := dec_row aL_law_0 13 rfl
theorem dL_law_22 : decode cL_law 22 = .ok (.isub, 1) := dec_row aL_law_0 14 rfl
theorem dL_law_23 : decode cL_law 23 = .ok (.if_icmp .gt 783, 3) := dec_row aL_law_0 15 rfl
theorem dL_law_26 : decode cL_law 26 = .ok (.aload_n 0, 1) := dec_row aL_law_0 16 rfl
theorem dL_law_27 : decode cL_law 27 = .ok (.iload_n 3, 1) := dec_row aL_law_0 17 rfl
theorem dL_law_28 : decode cL_law 28 = .ok (.iaload, 1) := dec_row aL_law_0 18 rfl
theorem dL_law_29 : decode cL_law 29 = .ok (.bipush 31, 2) := dec_row aL_law_0 19 rfl
theorem dL_law_31 : decode cL_law 31 = .ok (.iand, 1) := dec_row aL_law_0 20 rfl
theorem dL_law_32 : decode cL_law 32 = .ok (.tableswitch 768 0 25 #[120, 143, 156, 169, 182, 205, 238, 271, 304, 337, 370, 383, 396, 409, 432, 445, 468, 501, 534, 567, 600, 643, 676, 699, 722, 745], 120) := dec_row aL_law_0 21 rfl
theorem dL_law_152 : decode cL_law 152 = .ok (.aload_n 1, 1) := dec_row aL_law_0 22 rfl
theorem dL_law_153 : decode cL_law 153 = .ok (.aload_n 0, 1) := dec_row aL_law_0 23 rfl
theorem dL_law_154 : decode cL_law 154 = .ok (.iload_n 3, 1) := dec_row aL_law_0 24 rfl
theorem dL_law_155 : decode cL_law 155 = .ok (.iconst 1, 1) := dec_row aL_law_0 25 rfl
theorem dL_law_156 : decode cL_law 156 = .ok (.iadd, 1) := dec_row aL_law_0 26 rfl
theorem dL_law_157 : decode cL_law 157 = .ok (.iaload, 1) := dec_row aL_law_0 27 rfl
theorem dL_law_158 : decode cL_law 158 = .ok (.invokevirtual 13, 3) := dec_row aL_law_0 28 rfl
theorem dL_law_161 : decode cL_law 161 = .ok (.aload_n 2, 1) := dec_row aL_law_0 29 rfl
theorem dL_law_162 : decode cL_law 162 = .ok (.aload_n 0, 1) := dec_row aL_law_0 30 rfl
theorem dL_law_163 : decode cL_law 163 = .ok (.iload_n 3, 1) := dec_row aL_law_0 31 rfl
theorem dL_law_164 : decode cL_law 164 = .ok (.iconst 1, 1) := dec_row aL_law_0 32 rfl
theorem dL_law_165 : decode cL_law 165 = .ok (.iadd, 1) := dec_row aL_law_0 33 rfl
theorem dL_law_166 : decode cL_law 166 = .ok (.iaload, 1) := dec_row aL_law_0 34 rfl
theorem dL_law_167 : decode cL_law 167 = .ok (.invokevirtual 17, 3) := dec_row aL_law_0 35 rfl
theorem dL_law_170 : decode cL_law 170 = .ok (.if_icmp .eq 630, 3) := dec_row aL_law_0 36 rfl
theorem dL_law_173 : decode cL_law 173 = .ok (.iconst 0, 1) := dec_row aL_law_0 37 rfl
theorem dL_law_174 : decode cL_law 174 = .ok (.ireturn, 1) := dec_row aL_law_0 38 rfl
theorem dL_law_175 : decode cL_law 175 = .ok (.aload_n 1, 1) := dec_row aL_law_0 39 rfl
theorem dL_law_176 : decode cL_law 176 = .ok (.invokevirtual 18, 3) := dec_row aL_law_0 40 rfl
theorem dL_law_179 : decode cL_law 179 = .ok (.aload_n 2, 1) := dec_row aL_law_0 41 rfl
theorem dL_law_180 : decode cL_law 180 = .ok (.invokevirtual 22, 3) := dec_row aL_law_0 42 rfl
theorem dL_law_183 : decode cL_law 183 = .ok (.if_icmp .eq 617, 3) := dec_row aL_law_0 43 rfl
theorem dL_law_186 : decode cL_law 186 = .ok (.iconst 0, 1) := dec_row aL_law_0 44 rfl
theorem dL_law_187 : decode cL_law 187 = .ok (.ireturn, 1) := dec_row aL_law_0 45 rfl
theorem dL_law_188 : decode cL_law 188 = .ok (.aload_n 1, 1) := dec_row aL_law_0 46 rfl
theorem dL_law_189 : decode cL_law 189 = .ok (.invokevirtual 23, 3) := dec_row aL_law_0 47 rfl
theorem dL_law_192 : decode cL_law 192 = .ok (.aload_n 2, 1) := dec_row aL_law_0 48 rfl
theorem dL_law_193 : decode cL_law 193 = .ok (.invokevirtual 26, 3) := dec_row aL_law_0 49 rfl
def tL_law_1 : List (Nat × Instr × Nat) := [(196, .if_icmp .eq 604, 3), (199, .iconst 0, 1), (200, .ireturn, 1), (201, .aload_n 1, 1), (202, .invokevirtual 27, 3), (205, .aload_n 2, 1), (206, .invokevirtual 30, 3), (209, .if_icmp .eq 591, 3), (212, .iconst 0, 1), (213, .ireturn, 1), (214, .aload_n 1, 1), (215, .aload_n 0, 1), (216, .iload_n 3, 1), (217, .iconst 1, 1), (218, .iadd, 1), (219, .iaload, 1), (220, .invokevirtual 31, 3), (223, .aload_n 2, 1), (224, .aload_n 0, 1), (225, .iload_n 3, 1), (226, .iconst 1, 1), (227, .iadd, 1), (228, .iaload, 1), (229, .invokevirtual 34, 3), (232, .if_icmp .eq 568, 3), (235, .iconst 0, 1), (236, .ireturn, 1), (237, .aload_n 1, 1), (238, .aload_n 0, 1), (239, .iload_n 3, 1), (240, .iconst 1, 1), (241, .iadd, 1), (242, .iaload, 1), (243, .aload_n 0, 1), (244, .iload_n 3, 1), (245, .iconst 2, 1), (246, .iadd, 1), (247, .iaload, 1), (248, .invokevirtual 35, 3), (251, .aload_n 2, 1), (252, .aload_n 0, 1), (253, .iload_n 3, 1), (254, .iconst 1, 1), (255, .iadd, 1), (256, .iaload, 1), (257, .aload_n 0, 1), (258, .iload_n 3, 1), (259, .iconst 2, 1), (260, .iadd, 1), (261, .iaload, 1)]
theorem aL_law_1 : tL_law_1.all (fun q => decide (decode cL_law q.1 = .ok q.2)) = true := by decide +kernel
theorem dL_law_196 : decode cL_law 196 = .ok (.if_icmp .eq 604, 3) := dec_row aL_law_1 0 rfl
theorem dL_law_199 : decode cL_law 199 = .ok (.iconst 0, 1) := dec_row aL_law_1 1 rfl
theorem dL_law_200 : decode cL_law 200 = .ok (.ireturn, 1) := dec_row aL_law_1 2 rfl
theorem dL_law_201 : decode cL_law 201 = .ok (.aload_n 1, 1) := dec_row aL_law_1 3 rfl
theorem dL_law_202 : decode cL_law 202 = .ok (.invokevirtual 27, 3) := dec_row aL_law_1 4 rfl
theorem dL_law_205 : decode cL_law 205 = .ok (.aload_n 2, 1) := dec_row aL_law_1 5 rfl
theorem dL_law_206 : decode cL_law 206 = .ok (.invokevirtual 30, 3) := dec_row aL_law_1 6 rfl
theorem dL_law_209 : decode cL_law 209 = .ok (.if_icmp .eq 591, 3) := dec_row aL_law_1 7 rfl
theorem dL_law_212 : decode cL_law 212 = .ok (.iconst 0, 1) := dec_row aL_law_1 8 rfl
theorem dL_law_213 : decode cL_law 213 = .ok (.ireturn, 1) := dec_row aL_law_1 9 rfl
theorem dL_law_214 : decode cL_law 214 = .ok (.aload_n 1, 1) := dec_row aL_law_1 10 rfl
theorem dL_law_215 : decode cL_law 215 = .ok (.aload_n 0, 1) := dec_row aL_law_1 11 rfl
theorem dL_law_216 : decode cL_law 216 = .ok (.iload_n 3, 1) := dec_row aL_law_1 12 rfl
theorem dL_law_217 : decode cL_law 217 = .ok (.iconst 1, 1) := dec_row aL_law_1 13 rfl
theorem dL_law_218 : decode cL_law 218 = .ok (.iadd, 1) := dec_row aL_law_1 14 rfl
theorem dL_law_219 : decode cL_law 219 = .ok (.iaload, 1) := dec_row aL_law_1 15 rfl
theorem dL_law_220 : decode cL_law 220 = .ok (.invokevirtual 31, 3) := dec_row aL_law_1 16 rfl
theorem dL_law_223 : decode cL_law 223 = .ok (.aload_n 2, 1) := dec_row aL_law_1 17 rfl
theorem dL_law_224 : decode cL_law 224 = .ok (.aload_n 0, 1) := dec_row aL_law_1 18 rfl
theorem dL_law_225 : decode cL_law 225 = .ok (.iload_n 3, 1) := dec_row aL_law_1 19 rfl
theorem dL_law_226 : decode cL_law 226 = .ok (.iconst 1, 1) := dec_row aL_law_1 20 rfl
theorem dL_law_227 : decode cL_law 227 = .ok (.iadd, 1) := dec_row aL_law_1 21 rfl
theorem dL_law_228 : decode cL_law 228 = .ok (.iaload, 1) := dec_row aL_law_1 22 rfl
theorem dL_law_229 : decode cL_law 229 = .ok (.invokevirtual 34, 3) := dec_row aL_law_1 23 rfl
theorem dL_law_232 : decode cL_law 232 = .ok (.if_icmp .eq 568, 3) := dec_row aL_law_1 24 rfl
theorem dL_law_235 : decode cL_law 235 = .ok (.iconst 0, 1) := dec_row aL_law_1 25 rfl
theorem dL_law_236 : decode cL_law 236 = .ok (.ireturn, 1) := dec_row aL_law_1 26 rfl
theorem dL_law_237 : decode cL_law 237 = .ok (.aload_n 1, 1) := dec_row aL_law_1 27 rfl
theorem dL_law_238 : decode cL_law 238 = .ok (.aload_n 0, 1) := dec_row aL_law_1 28 rfl
theorem dL_law_239 : decode cL_law 239 = .ok (.iload_n 3, 1) := dec_row aL_law_1 29 rfl
theorem dL_law_240 : decode cL_law 240 = .ok (.iconst 1, 1) := dec_row aL_law_1 30 rfl
theorem dL_law_241 : decode cL_law 241 = .ok (.iadd, 1) := dec_row aL_law_1 31 rfl
theorem dL_law_242 : decode cL_law 242 = .ok (.iaload, 1) := dec_row aL_law_1 32 rfl
theorem dL_law_243 : decode cL_law 243 = .ok (.aload_n 0, 1) := dec_row aL_law_1 33 rfl
theorem dL_law_244 : decode cL_law 244 = .ok (.iload_n 3, 1) := dec_row aL_law_1 34 rfl
theorem dL_law_245 : decode cL_law 245 = .ok (.iconst 2, 1) := dec_row aL_law_1 35 rfl
theorem dL_law_246 : decode cL_law 246 = .ok (.iadd, 1) := dec_row aL_law_1 36 rfl
theorem dL_law_247 : decode cL_law 247 = .ok (.iaload, 1) := dec_row aL_law_1 37 rfl
theorem dL_law_248 : decode cL_law 248 = .ok (.invokevirtual 35, 3) := dec_row aL_law_1 38 rfl
theorem dL_law_251 : decode cL_law 251 = .ok (.aload_n 2, 1) := dec_row aL_law_1 39 rfl
theorem dL_law_252 : decode cL_law 252 = .ok (.aload_n 0, 1) := dec_row aL_law_1 40 rfl
theorem dL_law_253 : decode cL_law 253 = .ok (.iload_n 3, 1) := dec_row aL_law_1 41 rfl
theorem dL_law_254 : decode cL_law 254 = .ok (.iconst 1, 1) := dec_row aL_law_1 42 rfl
theorem dL_law_255 : decode cL_law 255 = .ok (.iadd, 1) := dec_row aL_law_1 43 rfl
theorem dL_law_256 : decode cL_law 256 = .ok (.iaload, 1) := dec_row aL_law_1 44 rfl
theorem dL_law_257 : decode cL_law 257 = .ok (.aload_n 0, 1) := dec_row aL_law_1 45 rfl
theorem dL_law_258 : decode cL_law 258 = .ok (.iload_n 3, 1) := dec_row aL_law_1 46 rfl
theorem dL_law_259 : decode cL_law 259 = .ok (.iconst 2, 1) := dec_row aL_law_1 47 rfl
theorem dL_law_260 : decode cL_law 260 = .ok (.iadd, 1) := dec_row aL_law_1 48 rfl
theorem dL_law_261 : decode cL_law 261 = .ok (.iaload, 1) := dec_row aL_law_1 49 rfl
def tL_law_2 : List (Nat × Instr × Nat) := [(262, .invokevirtual 39, 3), (265, .if_icmp .eq 535, 3), (268, .iconst 0, 1), (269, .ireturn, 1), (270, .aload_n 1, 1), (271, .aload_n 0, 1), (272, .iload_n 3, 1), (273, .iconst 1, 1), (274, .iadd, 1), (275, .iaload, 1), (276, .aload_n 0, 1), (277, .iload_n 3, 1), (278, .iconst 2, 1), (279, .iadd, 1), (280, .iaload, 1), (281, .invokevirtual 40, 3), (284, .aload_n 2, 1), (285, .aload_n 0, 1), (286, .iload_n 3, 1), (287, .iconst 1, 1), (288, .iadd, 1), (289, .iaload, 1), (290, .aload_n 0, 1), (291, .iload_n 3, 1), (292, .iconst 2, 1), (293, .iadd, 1), (294, .iaload, 1), (295, .invokevirtual 43, 3), (298, .if_icmp .eq 502, 3), (301, .iconst 0, 1), (302, .ireturn, 1), (303, .aload_n 1, 1), (304, .aload_n 0, 1), (305, .iload_n 3, 1), (306, .iconst 1, 1), (307, .iadd, 1), (308, .iaload, 1), (309, .aload_n 0, 1), (310, .iload_n 3, 1), (311, .iconst 2, 1), (312, .iadd, 1), (313, .iaload, 1), (314, .invokevirtual 44, 3), (317, .aload_n 2, 1), (318, .aload_n 0, 1), (319, .iload_n 3, 1), (320, .iconst 1, 1), (321, .iadd, 1), (322, .iaload, 1), (323, .aload_n 0, 1)]
theorem aL_law_2 : tL_law_2.all (fun q => decide (decode cL_law q.1 = .ok q.2)) = true := by decide +kernel
theorem dL_law_262 : decode cL_law 262 = .ok (.invokevirtual 39, 3) := dec_row aL_law_2 0 rfl
theorem dL_law_265 : decode cL_law 265 = .ok (.if_icmp .eq 535, 3) := dec_row aL_law_2 1 rfl
theorem dL_law_268 : decode cL_law 268 = .ok (.iconst 0, 1) := dec_row aL_law_2 2 rfl
theorem dL_law_269 : decode cL_law 269 = .ok (.ireturn, 1) := dec_row aL_law_2 3 rfl
theorem dL_law_270 : decode cL_law 270 = .ok (.aload_n 1, 1) := dec_row aL_law_2 4 rfl
theorem dL_law_271 : decode cL_law 271 = .ok (.aload_n 0, 1) := dec_row aL_law_2 5 rfl
theorem dL_law_272 : decode cL_law 272 = .ok (.iload_n 3, 1) := dec_row aL_law_2 6 rfl
theorem dL_law_273 : decode cL_law 273 = .ok (.iconst 1, 1) := dec_row aL_law_2 7 rfl
theorem dL_law_274 : decode cL_law 274 = .ok (.iadd, 1) := dec_row aL_law_2 8 rfl
theorem dL_law_275 : decode cL_law 275 = .ok (.iaload, 1) := dec_row aL_law_2 9 rfl
theorem dL_law_276 : decode cL_law 276 = .ok (.aload_n 0, 1) := dec_row aL_law_2 10 rfl
theorem dL_law_277 : decode cL_law 277 = .ok (.iload_n 3, 1) := dec_row aL_law_2 11 rfl
theorem dL_law_278 : decode cL_law 278 = .ok (.iconst 2, 1) := dec_row aL_law_2 12 rfl
theorem dL_law_279 : decode cL_law 279 = .ok (.iadd, 1) := dec_row aL_law_2 13 rfl
theorem dL_law_280 : decode cL_law 280 = .ok (.iaload, 1) := dec_row aL_law_2 14 rfl
theorem dL_law_281 : decode cL_law 281 = .ok (.invokevirtual 40, 3) := dec_row aL_law_2 15 rfl
theorem dL_law_284 : decode cL_law 284 = .ok (.aload_n 2, 1) := dec_row aL_law_2 16 rfl
theorem dL_law_285 : decode cL_law 285 = .ok (.aload_n 0, 1) := dec_row aL_law_2 17 rfl
theorem dL_law_286 : decode cL_law 286 = .ok (.iload_n 3, 1) := dec_row aL_law_2 18 rfl
theorem dL_law_287 : decode cL_law 287 = .ok (.iconst 1, 1) := dec_row aL_law_2 19 rfl
theorem dL_law_288 : decode cL_law 288 = .ok (.iadd, 1) := dec_row aL_law_2 20 rfl
theorem dL_law_289 : decode cL_law 289 = .ok (.iaload, 1) := dec_row aL_law_2 21 rfl
theorem dL_law_290 : decode cL_law 290 = .ok (.aload_n 0, 1) := dec_row aL_law_2 22 rfl
theorem dL_law_291 : decode cL_law 291 = .ok (.iload_n 3, 1) := dec_row aL_law_2 23 rfl
theorem dL_law_292 : decode cL_law 292 = .ok (.iconst 2, 1) := dec_row aL_law_2 24 rfl
theorem dL_law_293 : decode cL_law 293 = .ok (.iadd, 1) := dec_row aL_law_2 25 rfl
theorem dL_law_294 : decode cL_law 294 = .ok (.iaload, 1) := dec_row aL_law_2 26 rfl
theorem dL_law_295 : decode cL_law 295 = .ok (.invokevirtual 43, 3) := dec_row aL_law_2 27 rfl
theorem dL_law_298 : decode cL_law 298 = .ok (.if_icmp .eq 502, 3) := dec_row aL_law_2 28 rfl
theorem dL_law_301 : decode cL_law 301 = .ok (.iconst 0, 1) := dec_row aL_law_2 29 rfl
theorem dL_law_302 : decode cL_law 302 = .ok (.ireturn, 1) := dec_row aL_law_2 30 rfl
theorem dL_law_303 : decode cL_law 303 = .ok (.aload_n 1, 1) := dec_row aL_law_2 31 rfl
theorem dL_law_304 : decode cL_law 304 = .ok (.aload_n 0, 1) := dec_row aL_law_2 32 rfl
theorem dL_law_305 : decode cL_law 305 = .ok (.iload_n 3, 1) := dec_row aL_law_2 33 rfl
theorem dL_law_306 : decode cL_law 306 = .ok (.iconst 1, 1) := dec_row aL_law_2 34 rfl
theorem dL_law_307 : decode cL_law 307 = .ok (.iadd, 1) := dec_row aL_law_2 35 rfl
theorem dL_law_308 : decode cL_law 308 = .ok (.iaload, 1) := dec_row aL_law_2 36 rfl
theorem dL_law_309 : decode cL_law 309 = .ok (.aload_n 0, 1) := dec_row aL_law_2 37 rfl
theorem dL_law_310 : decode cL_law 310 = .ok (.iload_n 3, 1) := dec_row aL_law_2 38 rfl
theorem dL_law_311 : decode cL_law 311 = .ok (.iconst 2, 1) := dec_row aL_law_2 39 rfl
theorem dL_law_312 : decode cL_law 312 = .ok (.iadd, 1) := dec_row aL_law_2 40 rfl
theorem dL_law_313 : decode cL_law 313 = .ok (.iaload, 1) := dec_row aL_law_2 41 rfl
theorem dL_law_314 : decode cL_law 314 = .ok (.invokevirtual 44, 3) := dec_row aL_law_2 42 rfl
theorem dL_law_317 : decode cL_law 317 = .ok (.aload_n 2, 1) := dec_row aL_law_2 43 rfl
theorem dL_law_318 : decode cL_law 318 = .ok (.aload_n 0, 1) := dec_row aL_law_2 44 rfl
theorem dL_law_319 : decode cL_law 319 = .ok (.iload_n 3, 1) := dec_row aL_law_2 45 rfl
theorem dL_law_320 : decode cL_law 320 = .ok (.iconst 1, 1) := dec_row aL_law_2 46 rfl
theorem dL_law_321 : decode cL_law 321 = .ok (.iadd, 1) := dec_row aL_law_2 47 rfl
theorem dL_law_322 : decode cL_law 322 = .ok (.iaload, 1) := dec_row aL_law_2 48 rfl
theorem dL_law_323 : decode cL_law 323 = .ok (.aload_n 0, 1) := dec_row aL_law_2 49 rfl
def tL_law_3 : List (Nat × Instr × Nat) := [(324, .iload_n 3, 1), (325, .iconst 2, 1), (326, .iadd, 1), (327, .iaload, 1), (328, .invokevirtual 47, 3), (331, .if_icmp .eq 469, 3), (334, .iconst 0, 1), (335, .ireturn, 1), (336, .aload_n 1, 1), (337, .aload_n 0, 1), (338, .iload_n 3, 1), (339, .iconst 1, 1), (340, .iadd, 1), (341, .iaload, 1), (342, .aload_n 0, 1), (343, .iload_n 3, 1), (344, .iconst 2, 1), (345, .iadd, 1), (346, .iaload, 1), (347, .invokevirtual 48, 3), (350, .aload_n 2, 1), (351, .aload_n 0, 1), (352, .iload_n 3, 1), (353, .iconst 1, 1), (354, .iadd, 1), (355, .iaload, 1), (356, .aload_n 0, 1), (357, .iload_n 3, 1), (358, .iconst 2, 1), (359, .iadd, 1), (360, .iaload, 1), (361, .invokevirtual 51, 3), (364, .if_icmp .eq 436, 3), (367, .iconst 0, 1), (368, .ireturn, 1), (369, .aload_n 1, 1), (370, .aload_n 0, 1), (371, .iload_n 3, 1), (372, .iconst 1, 1), (373, .iadd, 1), (374, .iaload, 1), (375, .aload_n 0, 1), (376, .iload_n 3, 1), (377, .iconst 2, 1), (378, .iadd, 1), (379, .iaload, 1), (380, .invokevirtual 52, 3), (383, .aload_n 2, 1), (384, .aload_n 0, 1), (385, .iload_n 3, 1)]
theorem aL_law_3 : tL_law_3.all (fun q => decide (decode cL_law q.1 = .ok q.2)) = true := by decide +kernel
theorem dL_law_324 : decode cL_law 324 = .ok (.iload_n 3, 1) := dec_row aL_law_3 0 rfl
theorem dL_law_325 : decode cL_law 325 = .ok (.iconst 2, 1) := dec_row aL_law_3 1 rfl
theorem dL_law_326 : decode cL_law 326 = .ok (.iadd, 1) := dec_row aL_law_3 2 rfl
theorem dL_law_327 : decode cL_law 327 = .ok (.iaload, 1) := dec_row aL_law_3 3 rfl
theorem dL_law_328 : decode cL_law 328 = .ok (.invokevirtual 47, 3) := dec_row aL_law_3 4 rfl
theorem dL_law_331 : decode cL_law 331 = .ok (.if_icmp .eq 469, 3) := dec_row aL_law_3 5 rfl
theorem dL_law_334 : decode cL_law 334 = .ok (.iconst 0, 1) := dec_row aL_law_3 6 rfl
theorem dL_law_335 : decode cL_law 335 = .ok (.ireturn, 1) := dec_row aL_law_3 7 rfl
theorem dL_law_336 : decode cL_law 336 = .ok (.aload_n 1, 1) := dec_row aL_law_3 8 rfl
theorem dL_law_337 : decode cL_law 337 = .ok (.aload_n 0, 1) := dec_row aL_law_3 9 rfl
theorem dL_law_338 : decode cL_law 338 = .ok (.iload_n 3, 1) := dec_row aL_law_3 10 rfl
theorem dL_law_339 : decode cL_law 339 = .ok (.iconst 1, 1) := dec_row aL_law_3 11 rfl
theorem dL_law_340 : decode cL_law 340 = .ok (.iadd, 1) := dec_row aL_law_3 12 rfl
theorem dL_law_341 : decode cL_law 341 = .ok (.iaload, 1) := dec_row aL_law_3 13 rfl
theorem dL_law_342 : decode cL_law 342 = .ok (.aload_n 0, 1) := dec_row aL_law_3 14 rfl
theorem dL_law_343 : decode cL_law 343 = .ok (.iload_n 3, 1) := dec_row aL_law_3 15 rfl
theorem dL_law_344 : decode cL_law 344 = .ok (.iconst 2, 1) := dec_row aL_law_3 16 rfl
theorem dL_law_345 : decode cL_law 345 = .ok (.iadd, 1) := dec_row aL_law_3 17 rfl
theorem dL_law_346 : decode cL_law 346 = .ok (.iaload, 1) := dec_row aL_law_3 18 rfl
theorem dL_law_347 : decode cL_law 347 = .ok (.invokevirtual 48, 3) := dec_row aL_law_3 19 rfl
theorem dL_law_350 : decode cL_law 350 = .ok (.aload_n 2, 1) := dec_row aL_law_3 20 rfl
theorem dL_law_351 : decode cL_law 351 = .ok (.aload_n 0, 1) := dec_row aL_law_3 21 rfl
theorem dL_law_352 : decode cL_law 352 = .ok (.iload_n 3, 1) := dec_row aL_law_3 22 rfl
theorem dL_law_353 : decode cL_law 353 = .ok (.iconst 1, 1) := dec_row aL_law_3 23 rfl
theorem dL_law_354 : decode cL_law 354 = .ok (.iadd, 1) := dec_row aL_law_3 24 rfl
theorem dL_law_355 : decode cL_law 355 = .ok (.iaload, 1) := dec_row aL_law_3 25 rfl
theorem dL_law_356 : decode cL_law 356 = .ok (.aload_n 0, 1) := dec_row aL_law_3 26 rfl
theorem dL_law_357 : decode cL_law 357 = .ok (.iload_n 3, 1) := dec_row aL_law_3 27 rfl
theorem dL_law_358 : decode cL_law 358 = .ok (.iconst 2, 1) := dec_row aL_law_3 28 rfl
theorem dL_law_359 : decode cL_law 359 = .ok (.iadd, 1) := dec_row aL_law_3 29 rfl
theorem dL_law_360 : decode cL_law 360 = .ok (.iaload, 1) := dec_row aL_law_3 30 rfl
theorem dL_law_361 : decode cL_law 361 = .ok (.invokevirtual 51, 3) := dec_row aL_law_3 31 rfl
theorem dL_law_364 : decode cL_law 364 = .ok (.if_icmp .eq 436, 3) := dec_row aL_law_3 32 rfl
theorem dL_law_367 : decode cL_law 367 = .ok (.iconst 0, 1) := dec_row aL_law_3 33 rfl
theorem dL_law_368 : decode cL_law 368 = .ok (.ireturn, 1) := dec_row aL_law_3 34 rfl
theorem dL_law_369 : decode cL_law 369 = .ok (.aload_n 1, 1) := dec_row aL_law_3 35 rfl
theorem dL_law_370 : decode cL_law 370 = .ok (.aload_n 0, 1) := dec_row aL_law_3 36 rfl
theorem dL_law_371 : decode cL_law 371 = .ok (.iload_n 3, 1) := dec_row aL_law_3 37 rfl
theorem dL_law_372 : decode cL_law 372 = .ok (.iconst 1, 1) := dec_row aL_law_3 38 rfl
theorem dL_law_373 : decode cL_law 373 = .ok (.iadd, 1) := dec_row aL_law_3 39 rfl
theorem dL_law_374 : decode cL_law 374 = .ok (.iaload, 1) := dec_row aL_law_3 40 rfl
theorem dL_law_375 : decode cL_law 375 = .ok (.aload_n 0, 1) := dec_row aL_law_3 41 rfl
theorem dL_law_376 : decode cL_law 376 = .ok (.iload_n 3, 1) := dec_row aL_law_3 42 rfl
theorem dL_law_377 : decode cL_law 377 = .ok (.iconst 2, 1) := dec_row aL_law_3 43 rfl
theorem dL_law_378 : decode cL_law 378 = .ok (.iadd, 1) := dec_row aL_law_3 44 rfl
theorem dL_law_379 : decode cL_law 379 = .ok (.iaload, 1) := dec_row aL_law_3 45 rfl
theorem dL_law_380 : decode cL_law 380 = .ok (.invokevirtual 52, 3) := dec_row aL_law_3 46 rfl
theorem dL_law_383 : decode cL_law 383 = .ok (.aload_n 2, 1) := dec_row aL_law_3 47 rfl
theorem dL_law_384 : decode cL_law 384 = .ok (.aload_n 0, 1) := dec_row aL_law_3 48 rfl
theorem dL_law_385 : decode cL_law 385 = .ok (.iload_n 3, 1) := dec_row aL_law_3 49 rfl
def tL_law_4 : List (Nat × Instr × Nat) := [(386, .iconst 1, 1), (387, .iadd, 1), (388, .iaload, 1), (389, .aload_n 0, 1), (390, .iload_n 3, 1), (391, .iconst 2, 1), (392, .iadd, 1), (393, .iaload, 1), (394, .invokevirtual 55, 3), (397, .if_icmp .eq 403, 3), (400, .iconst 0, 1), (401, .ireturn, 1), (402, .aload_n 1, 1), (403, .invokevirtual 56, 3), (406, .aload_n 2, 1), (407, .invokevirtual 59, 3), (410, .if_icmp .eq 390, 3), (413, .iconst 0, 1), (414, .ireturn, 1), (415, .aload_n 1, 1), (416, .invokevirtual 60, 3), (419, .aload_n 2, 1), (420, .invokevirtual 63, 3), (423, .if_icmp .eq 377, 3), (426, .iconst 0, 1), (427, .ireturn, 1), (428, .aload_n 1, 1), (429, .invokevirtual 64, 3), (432, .aload_n 2, 1), (433, .invokevirtual 67, 3), (436, .if_icmp .eq 364, 3), (439, .iconst 0, 1), (440, .ireturn, 1), (441, .aload_n 1, 1), (442, .aload_n 0, 1), (443, .iload_n 3, 1), (444, .iconst 1, 1), (445, .iadd, 1), (446, .iaload, 1), (447, .invokevirtual 68, 3), (450, .aload_n 2, 1), (451, .aload_n 0, 1), (452, .iload_n 3, 1), (453, .iconst 1, 1), (454, .iadd, 1), (455, .iaload, 1), (456, .invokevirtual 71, 3), (459, .if_icmp .eq 341, 3), (462, .iconst 0, 1), (463, .ireturn, 1)]
theorem aL_law_4 : tL_law_4.all (fun q => decide (decode cL_law q.1 = .ok q.2)) = true := by decide +kernel
theorem dL_law_386 : decode cL_law 386 = .ok (.iconst 1, 1) := dec_row aL_law_4 0 rfl
theorem dL_law_387 : decode cL_law 387 = .ok (.iadd, 1) := dec_row aL_law_4 1 rfl
theorem dL_law_388 : decode cL_law 388 = .ok (.iaload, 1) := dec_row aL_law_4 2 rfl
theorem dL_law_389 : decode cL_law 389 = .ok (.aload_n 0, 1) := dec_row aL_law_4 3 rfl
theorem dL_law_390 : decode cL_law 390 = .ok (.iload_n 3, 1) := dec_row aL_law_4 4 rfl
theorem dL_law_391 : decode cL_law 391 = .ok (.iconst 2, 1) := dec_row aL_law_4 5 rfl
theorem dL_law_392 : decode cL_law 392 = .ok (.iadd, 1) := dec_row aL_law_4 6 rfl
theorem dL_law_393 : decode cL_law 393 = .ok (.iaload, 1) := dec_row aL_law_4 7 rfl
theorem dL_law_394 : decode cL_law 394 = .ok (.invokevirtual 55, 3) := dec_row aL_law_4 8 rfl
theorem dL_law_397 : decode cL_law 397 = .ok (.if_icmp .eq 403, 3) := dec_row aL_law_4 9 rfl
theorem dL_law_400 : decode cL_law 400 = .ok (.iconst 0, 1) := dec_row aL_law_4 10 rfl
theorem dL_law_401 : decode cL_law 401 = .ok (.ireturn, 1) := dec_row aL_law_4 11 rfl
theorem dL_law_402 : decode cL_law 402 = .ok (.aload_n 1, 1) := dec_row aL_law_4 12 rfl
theorem dL_law_403 : decode cL_law 403 = .ok (.invokevirtual 56, 3) := dec_row aL_law_4 13 rfl
theorem dL_law_406 : decode cL_law 406 = .ok (.aload_n 2, 1) := dec_row aL_law_4 14 rfl
theorem dL_law_407 : decode cL_law 407 = .ok (.invokevirtual 59, 3) := dec_row aL_law_4 15 rfl
theorem dL_law_410 : decode cL_law 410 = .ok (.if_icmp .eq 390, 3) := dec_row aL_law_4 16 rfl
theorem dL_law_413 : decode cL_law 413 = .ok (.iconst 0, 1) := dec_row aL_law_4 17 rfl
theorem dL_law_414 : decode cL_law 414 = .ok (.ireturn, 1) := dec_row aL_law_4 18 rfl
theorem dL_law_415 : decode cL_law 415 = .ok (.aload_n 1, 1) := dec_row aL_law_4 19 rfl
theorem dL_law_416 : decode cL_law 416 = .ok (.invokevirtual 60, 3) := dec_row aL_law_4 20 rfl
theorem dL_law_419 : decode cL_law 419 = .ok (.aload_n 2, 1) := dec_row aL_law_4 21 rfl
theorem dL_law_420 : decode cL_law 420 = .ok (.invokevirtual 63, 3) := dec_row aL_law_4 22 rfl
theorem dL_law_423 : decode cL_law 423 = .ok (.if_icmp .eq 377, 3) := dec_row aL_law_4 23 rfl
theorem dL_law_426 : decode cL_law 426 = .ok (.iconst 0, 1) := dec_row aL_law_4 24 rfl
theorem dL_law_427 : decode cL_law 427 = .ok (.ireturn, 1) := dec_row aL_law_4 25 rfl
theorem dL_law_428 : decode cL_law 428 = .ok (.aload_n 1, 1) := dec_row aL_law_4 26 rfl
theorem dL_law_429 : decode cL_law 429 = .ok (.invokevirtual 64, 3) := dec_row aL_law_4 27 rfl
theorem dL_law_432 : decode cL_law 432 = .ok (.aload_n 2, 1) := dec_row aL_law_4 28 rfl
theorem dL_law_433 : decode cL_law 433 = .ok (.invokevirtual 67, 3) := dec_row aL_law_4 29 rfl
theorem dL_law_436 : decode cL_law 436 = .ok (.if_icmp .eq 364, 3) := dec_row aL_law_4 30 rfl
theorem dL_law_439 : decode cL_law 439 = .ok (.iconst 0, 1) := dec_row aL_law_4 31 rfl
theorem dL_law_440 : decode cL_law 440 = .ok (.ireturn, 1) := dec_row aL_law_4 32 rfl
theorem dL_law_441 : decode cL_law 441 = .ok (.aload_n 1, 1) := dec_row aL_law_4 33 rfl
theorem dL_law_442 : decode cL_law 442 = .ok (.aload_n 0, 1) := dec_row aL_law_4 34 rfl
theorem dL_law_443 : decode cL_law 443 = .ok (.iload_n 3, 1) := dec_row aL_law_4 35 rfl
theorem dL_law_444 : decode cL_law 444 = .ok (.iconst 1, 1) := dec_row aL_law_4 36 rfl
theorem dL_law_445 : decode cL_law 445 = .ok (.iadd, 1) := dec_row aL_law_4 37 rfl
theorem dL_law_446 : decode cL_law 446 = .ok (.iaload, 1) := dec_row aL_law_4 38 rfl
theorem dL_law_447 : decode cL_law 447 = .ok (.invokevirtual 68, 3) := dec_row aL_law_4 39 rfl
theorem dL_law_450 : decode cL_law 450 = .ok (.aload_n 2, 1) := dec_row aL_law_4 40 rfl
theorem dL_law_451 : decode cL_law 451 = .ok (.aload_n 0, 1) := dec_row aL_law_4 41 rfl
theorem dL_law_452 : decode cL_law 452 = .ok (.iload_n 3, 1) := dec_row aL_law_4 42 rfl
theorem dL_law_453 : decode cL_law 453 = .ok (.iconst 1, 1) := dec_row aL_law_4 43 rfl
theorem dL_law_454 : decode cL_law 454 = .ok (.iadd, 1) := dec_row aL_law_4 44 rfl
theorem dL_law_455 : decode cL_law 455 = .ok (.iaload, 1) := dec_row aL_law_4 45 rfl
theorem dL_law_456 : decode cL_law 456 = .ok (.invokevirtual 71, 3) := dec_row aL_law_4 46 rfl
theorem dL_law_459 : decode cL_law 459 = .ok (.if_icmp .eq 341, 3) := dec_row aL_law_4 47 rfl
theorem dL_law_462 : decode cL_law 462 = .ok (.iconst 0, 1) := dec_row aL_law_4 48 rfl
theorem dL_law_463 : decode cL_law 463 = .ok (.ireturn, 1) := dec_row aL_law_4 49 rfl
def tL_law_5 : List (Nat × Instr × Nat) := [(464, .aload_n 1, 1), (465, .invokevirtual 72, 3), (468, .aload_n 2, 1), (469, .invokevirtual 75, 3), (472, .if_icmp .eq 328, 3), (475, .iconst 0, 1), (476, .ireturn, 1), (477, .aload_n 1, 1), (478, .aload_n 0, 1), (479, .iload_n 3, 1), (480, .iconst 1, 1), (481, .iadd, 1), (482, .iaload, 1), (483, .invokevirtual 76, 3), (486, .aload_n 2, 1), (487, .aload_n 0, 1), (488, .iload_n 3, 1), (489, .iconst 1, 1), (490, .iadd, 1), (491, .iaload, 1), (492, .invokevirtual 79, 3), (495, .if_icmp .eq 305, 3), (498, .iconst 0, 1), (499, .ireturn, 1), (500, .aload_n 1, 1), (501, .aload_n 0, 1), (502, .iload_n 3, 1), (503, .iconst 1, 1), (504, .iadd, 1), (505, .iaload, 1), (506, .aload_n 0, 1), (507, .iload_n 3, 1), (508, .iconst 2, 1), (509, .iadd, 1), (510, .iaload, 1), (511, .invokevirtual 80, 3), (514, .aload_n 2, 1), (515, .aload_n 0, 1), (516, .iload_n 3, 1), (517, .iconst 1, 1), (518, .iadd, 1), (519, .iaload, 1), (520, .aload_n 0, 1), (521, .iload_n 3, 1), (522, .iconst 2, 1), (523, .iadd, 1), (524, .iaload, 1), (525, .invokevirtual 83, 3), (528, .if_icmp .eq 272, 3), (531, .iconst 0, 1)]
theorem aL_law_5 : tL_law_5.all (fun q => decide (decode cL_law q.1 = .ok q.2)) = true := by decide +kernel
theorem dL_law_464 : decode cL_law 464 = .ok (.aload_n 1, 1) := dec_row aL_law_5 0 rfl
theorem dL_law_465 : decode cL_law 465 = .ok (.invokevirtual 72, 3) := dec_row aL_law_5 1 rfl
theorem dL_law_468 : decode cL_law 468 = .ok (.aload_n 2, 1) := dec_row aL_law_5 2 rfl
theorem dL_law_469 : decode cL_law 469 = .ok (.invokevirtual 75, 3) := dec_row aL_law_5 3 rfl
theorem dL_law_472 : decode cL_law 472 = .ok (.if_icmp .eq 328, 3) := dec_row aL_law_5 4 rfl
theorem dL_law_475 : decode cL_law 475 = .ok (.iconst 0, 1) := dec_row aL_law_5 5 rfl
theorem dL_law_476 : decode cL_law 476 = .ok (.ireturn, 1) := dec_row aL_law_5 6 rfl
theorem dL_law_477 : decode cL_law 477 = .ok (.aload_n 1, 1) := dec_row aL_law_5 7 rfl
theorem dL_law_478 : decode cL_law 478 = .ok (.aload_n 0, 1) := dec_row aL_law_5 8 rfl
theorem dL_law_479 : decode cL_law 479 = .ok (.iload_n 3, 1) := dec_row aL_law_5 9 rfl
theorem dL_law_480 : decode cL_law 480 = .ok (.iconst 1, 1) := dec_row aL_law_5 10 rfl
theorem dL_law_481 : decode cL_law 481 = .ok (.iadd, 1) := dec_row aL_law_5 11 rfl
theorem dL_law_482 : decode cL_law 482 = .ok (.iaload, 1) := dec_row aL_law_5 12 rfl
theorem dL_law_483 : decode cL_law 483 = .ok (.invokevirtual 76, 3) := dec_row aL_law_5 13 rfl
theorem dL_law_486 : decode cL_law 486 = .ok (.aload_n 2, 1) := dec_row aL_law_5 14 rfl
theorem dL_law_487 : decode cL_law 487 = .ok (.aload_n 0, 1) := dec_row aL_law_5 15 rfl
theorem dL_law_488 : decode cL_law 488 = .ok (.iload_n 3, 1) := dec_row aL_law_5 16 rfl
theorem dL_law_489 : decode cL_law 489 = .ok (.iconst 1, 1) := dec_row aL_law_5 17 rfl
theorem dL_law_490 : decode cL_law 490 = .ok (.iadd, 1) := dec_row aL_law_5 18 rfl
theorem dL_law_491 : decode cL_law 491 = .ok (.iaload, 1) := dec_row aL_law_5 19 rfl
theorem dL_law_492 : decode cL_law 492 = .ok (.invokevirtual 79, 3) := dec_row aL_law_5 20 rfl
theorem dL_law_495 : decode cL_law 495 = .ok (.if_icmp .eq 305, 3) := dec_row aL_law_5 21 rfl
theorem dL_law_498 : decode cL_law 498 = .ok (.iconst 0, 1) := dec_row aL_law_5 22 rfl
theorem dL_law_499 : decode cL_law 499 = .ok (.ireturn, 1) := dec_row aL_law_5 23 rfl
theorem dL_law_500 : decode cL_law 500 = .ok (.aload_n 1, 1) := dec_row aL_law_5 24 rfl
theorem dL_law_501 : decode cL_law 501 = .ok (.aload_n 0, 1) := dec_row aL_law_5 25 rfl
theorem dL_law_502 : decode cL_law 502 = .ok (.iload_n 3, 1) := dec_row aL_law_5 26 rfl
theorem dL_law_503 : decode cL_law 503 = .ok (.iconst 1, 1) := dec_row aL_law_5 27 rfl
theorem dL_law_504 : decode cL_law 504 = .ok (.iadd, 1) := dec_row aL_law_5 28 rfl
theorem dL_law_505 : decode cL_law 505 = .ok (.iaload, 1) := dec_row aL_law_5 29 rfl
theorem dL_law_506 : decode cL_law 506 = .ok (.aload_n 0, 1) := dec_row aL_law_5 30 rfl
theorem dL_law_507 : decode cL_law 507 = .ok (.iload_n 3, 1) := dec_row aL_law_5 31 rfl
theorem dL_law_508 : decode cL_law 508 = .ok (.iconst 2, 1) := dec_row aL_law_5 32 rfl
theorem dL_law_509 : decode cL_law 509 = .ok (.iadd, 1) := dec_row aL_law_5 33 rfl
theorem dL_law_510 : decode cL_law 510 = .ok (.iaload, 1) := dec_row aL_law_5 34 rfl
theorem dL_law_511 : decode cL_law 511 = .ok (.invokevirtual 80, 3) := dec_row aL_law_5 35 rfl
theorem dL_law_514 : decode cL_law 514 = .ok (.aload_n 2, 1) := dec_row aL_law_5 36 rfl
theorem dL_law_515 : decode cL_law 515 = .ok (.aload_n 0, 1) := dec_row aL_law_5 37 rfl
theorem dL_law_516 : decode cL_law 516 = .ok (.iload_n 3, 1) := dec_row aL_law_5 38 rfl
theorem dL_law_517 : decode cL_law 517 = .ok (.iconst 1, 1) := dec_row aL_law_5 39 rfl
theorem dL_law_518 : decode cL_law 518 = .ok (.iadd, 1) := dec_row aL_law_5 40 rfl
theorem dL_law_519 : decode cL_law 519 = .ok (.iaload, 1) := dec_row aL_law_5 41 rfl
theorem dL_law_520 : decode cL_law 520 = .ok (.aload_n 0, 1) := dec_row aL_law_5 42 rfl
theorem dL_law_521 : decode cL_law 521 = .ok (.iload_n 3, 1) := dec_row aL_law_5 43 rfl
theorem dL_law_522 : decode cL_law 522 = .ok (.iconst 2, 1) := dec_row aL_law_5 44 rfl
theorem dL_law_523 : decode cL_law 523 = .ok (.iadd, 1) := dec_row aL_law_5 45 rfl
theorem dL_law_524 : decode cL_law 524 = .ok (.iaload, 1) := dec_row aL_law_5 46 rfl
theorem dL_law_525 : decode cL_law 525 = .ok (.invokevirtual 83, 3) := dec_row aL_law_5 47 rfl
theorem dL_law_528 : decode cL_law 528 = .ok (.if_icmp .eq 272, 3) := dec_row aL_law_5 48 rfl
theorem dL_law_531 : decode cL_law 531 = .ok (.iconst 0, 1) := dec_row aL_law_5 49 rfl
def tL_law_6 : List (Nat × Instr × Nat) := [(532, .ireturn, 1), (533, .aload_n 1, 1), (534, .aload_n 0, 1), (535, .iload_n 3, 1), (536, .iconst 1, 1), (537, .iadd, 1), (538, .iaload, 1), (539, .aload_n 0, 1), (540, .iload_n 3, 1), (541, .iconst 2, 1), (542, .iadd, 1), (543, .iaload, 1), (544, .invokevirtual 84, 3), (547, .aload_n 2, 1), (548, .aload_n 0, 1), (549, .iload_n 3, 1), (550, .iconst 1, 1), (551, .iadd, 1), (552, .iaload, 1), (553, .aload_n 0, 1), (554, .iload_n 3, 1), (555, .iconst 2, 1), (556, .iadd, 1), (557, .iaload, 1), (558, .invokevirtual 87, 3), (561, .if_icmp .eq 239, 3), (564, .iconst 0, 1), (565, .ireturn, 1), (566, .aload_n 1, 1), (567, .aload_n 0, 1), (568, .iload_n 3, 1), (569, .iconst 1, 1), (570, .iadd, 1), (571, .iaload, 1), (572, .aload_n 0, 1), (573, .iload_n 3, 1), (574, .iconst 2, 1), (575, .iadd, 1), (576, .iaload, 1), (577, .invokevirtual 88, 3), (580, .aload_n 2, 1), (581, .aload_n 0, 1), (582, .iload_n 3, 1), (583, .iconst 1, 1), (584, .iadd, 1), (585, .iaload, 1), (586, .aload_n 0, 1), (587, .iload_n 3, 1), (588, .iconst 2, 1), (589, .iadd, 1)]
theorem aL_law_6 : tL_law_6.all (fun q => decide (decode cL_law q.1 = .ok q.2)) = true := by decide +kernel
theorem dL_law_532 : decode cL_law 532 = .ok (.ireturn, 1) := dec_row aL_law_6 0 rfl
theorem dL_law_533 : decode cL_law 533 = .ok (.aload_n 1, 1) := dec_row aL_law_6 1 rfl
theorem dL_law_534 : decode cL_law 534 = .ok (.aload_n 0, 1) := dec_row aL_law_6 2 rfl
theorem dL_law_535 : decode cL_law 535 = .ok (.iload_n 3, 1) := dec_row aL_law_6 3 rfl
theorem dL_law_536 : decode cL_law 536 = .ok (.iconst 1, 1) := dec_row aL_law_6 4 rfl
theorem dL_law_537 : decode cL_law 537 = .ok (.iadd, 1) := dec_row aL_law_6 5 rfl
theorem dL_law_538 : decode cL_law 538 = .ok (.iaload, 1) := dec_row aL_law_6 6 rfl
theorem dL_law_539 : decode cL_law 539 = .ok (.aload_n 0, 1) := dec_row aL_law_6 7 rfl
theorem dL_law_540 : decode cL_law 540 = .ok (.iload_n 3, 1) := dec_row aL_law_6 8 rfl
theorem dL_law_541 : decode cL_law 541 = .ok (.iconst 2, 1) := dec_row aL_law_6 9 rfl
theorem dL_law_542 : decode cL_law 542 = .ok (.iadd, 1) := dec_row aL_law_6 10 rfl
theorem dL_law_543 : decode cL_law 543 = .ok (.iaload, 1) := dec_row aL_law_6 11 rfl
theorem dL_law_544 : decode cL_law 544 = .ok (.invokevirtual 84, 3) := dec_row aL_law_6 12 rfl
theorem dL_law_547 : decode cL_law 547 = .ok (.aload_n 2, 1) := dec_row aL_law_6 13 rfl
theorem dL_law_548 : decode cL_law 548 = .ok (.aload_n 0, 1) := dec_row aL_law_6 14 rfl
theorem dL_law_549 : decode cL_law 549 = .ok (.iload_n 3, 1) := dec_row aL_law_6 15 rfl
theorem dL_law_550 : decode cL_law 550 = .ok (.iconst 1, 1) := dec_row aL_law_6 16 rfl
theorem dL_law_551 : decode cL_law 551 = .ok (.iadd, 1) := dec_row aL_law_6 17 rfl
theorem dL_law_552 : decode cL_law 552 = .ok (.iaload, 1) := dec_row aL_law_6 18 rfl
theorem dL_law_553 : decode cL_law 553 = .ok (.aload_n 0, 1) := dec_row aL_law_6 19 rfl
theorem dL_law_554 : decode cL_law 554 = .ok (.iload_n 3, 1) := dec_row aL_law_6 20 rfl
theorem dL_law_555 : decode cL_law 555 = .ok (.iconst 2, 1) := dec_row aL_law_6 21 rfl
theorem dL_law_556 : decode cL_law 556 = .ok (.iadd, 1) := dec_row aL_law_6 22 rfl
theorem dL_law_557 : decode cL_law 557 = .ok (.iaload, 1) := dec_row aL_law_6 23 rfl
theorem dL_law_558 : decode cL_law 558 = .ok (.invokevirtual 87, 3) := dec_row aL_law_6 24 rfl
theorem dL_law_561 : decode cL_law 561 = .ok (.if_icmp .eq 239, 3) := dec_row aL_law_6 25 rfl
theorem dL_law_564 : decode cL_law 564 = .ok (.iconst 0, 1) := dec_row aL_law_6 26 rfl
theorem dL_law_565 : decode cL_law 565 = .ok (.ireturn, 1) := dec_row aL_law_6 27 rfl
theorem dL_law_566 : decode cL_law 566 = .ok (.aload_n 1, 1) := dec_row aL_law_6 28 rfl
theorem dL_law_567 : decode cL_law 567 = .ok (.aload_n 0, 1) := dec_row aL_law_6 29 rfl
theorem dL_law_568 : decode cL_law 568 = .ok (.iload_n 3, 1) := dec_row aL_law_6 30 rfl
theorem dL_law_569 : decode cL_law 569 = .ok (.iconst 1, 1) := dec_row aL_law_6 31 rfl
theorem dL_law_570 : decode cL_law 570 = .ok (.iadd, 1) := dec_row aL_law_6 32 rfl
theorem dL_law_571 : decode cL_law 571 = .ok (.iaload, 1) := dec_row aL_law_6 33 rfl
theorem dL_law_572 : decode cL_law 572 = .ok (.aload_n 0, 1) := dec_row aL_law_6 34 rfl
theorem dL_law_573 : decode cL_law 573 = .ok (.iload_n 3, 1) := dec_row aL_law_6 35 rfl
theorem dL_law_574 : decode cL_law 574 = .ok (.iconst 2, 1) := dec_row aL_law_6 36 rfl
theorem dL_law_575 : decode cL_law 575 = .ok (.iadd, 1) := dec_row aL_law_6 37 rfl
theorem dL_law_576 : decode cL_law 576 = .ok (.iaload, 1) := dec_row aL_law_6 38 rfl
theorem dL_law_577 : decode cL_law 577 = .ok (.invokevirtual 88, 3) := dec_row aL_law_6 39 rfl
theorem dL_law_580 : decode cL_law 580 = .ok (.aload_n 2, 1) := dec_row aL_law_6 40 rfl
theorem dL_law_581 : decode cL_law 581 = .ok (.aload_n 0, 1) := dec_row aL_law_6 41 rfl
theorem dL_law_582 : decode cL_law 582 = .ok (.iload_n 3, 1) := dec_row aL_law_6 42 rfl
theorem dL_law_583 : decode cL_law 583 = .ok (.iconst 1, 1) := dec_row aL_law_6 43 rfl
theorem dL_law_584 : decode cL_law 584 = .ok (.iadd, 1) := dec_row aL_law_6 44 rfl
theorem dL_law_585 : decode cL_law 585 = .ok (.iaload, 1) := dec_row aL_law_6 45 rfl
theorem dL_law_586 : decode cL_law 586 = .ok (.aload_n 0, 1) := dec_row aL_law_6 46 rfl
theorem dL_law_587 : decode cL_law 587 = .ok (.iload_n 3, 1) := dec_row aL_law_6 47 rfl
theorem dL_law_588 : decode cL_law 588 = .ok (.iconst 2, 1) := dec_row aL_law_6 48 rfl
theorem dL_law_589 : decode cL_law 589 = .ok (.iadd, 1) := dec_row aL_law_6 49 rfl
def tL_law_7 : List (Nat × Instr × Nat) := [(590, .iaload, 1), (591, .invokevirtual 91, 3), (594, .if_icmp .eq 206, 3), (597, .iconst 0, 1), (598, .ireturn, 1), (599, .aload_n 1, 1), (600, .aload_n 0, 1), (601, .iload_n 3, 1), (602, .iconst 1, 1), (603, .iadd, 1), (604, .iaload, 1), (605, .aload_n 0, 1), (606, .iload_n 3, 1), (607, .iconst 2, 1), (608, .iadd, 1), (609, .iaload, 1), (610, .invokevirtual 92, 3), (613, .aload_n 2, 1), (614, .aload_n 0, 1), (615, .iload_n 3, 1), (616, .iconst 1, 1), (617, .iadd, 1), (618, .iaload, 1), (619, .aload_n 0, 1), (620, .iload_n 3, 1), (621, .iconst 2, 1), (622, .iadd, 1), (623, .iaload, 1), (624, .invokevirtual 95, 3), (627, .if_icmp .eq 173, 3), (630, .iconst 0, 1), (631, .ireturn, 1), (632, .aload_n 1, 1), (633, .aload_n 0, 1), (634, .iload_n 3, 1), (635, .iconst 1, 1), (636, .iadd, 1), (637, .iaload, 1), (638, .aload_n 0, 1), (639, .iload_n 3, 1), (640, .iconst 2, 1), (641, .iadd, 1), (642, .iaload, 1), (643, .aload_n 0, 1), (644, .iload_n 3, 1), (645, .iconst 3, 1), (646, .iadd, 1), (647, .iaload, 1), (648, .invokevirtual 96, 3), (651, .aload_n 2, 1)]
theorem aL_law_7 : tL_law_7.all (fun q => decide (decode cL_law q.1 = .ok q.2)) = true := by decide +kernel
theorem dL_law_590 : decode cL_law 590 = .ok (.iaload, 1) := dec_row aL_law_7 0 rfl
theorem dL_law_591 : decode cL_law 591 = .ok (.invokevirtual 91, 3) := dec_row aL_law_7 1 rfl
theorem dL_law_594 : decode cL_law 594 = .ok (.if_icmp .eq 206, 3) := dec_row aL_law_7 2 rfl
theorem dL_law_597 : decode cL_law 597 = .ok (.iconst 0, 1) := dec_row aL_law_7 3 rfl
theorem dL_law_598 : decode cL_law 598 = .ok (.ireturn, 1) := dec_row aL_law_7 4 rfl
theorem dL_law_599 : decode cL_law 599 = .ok (.aload_n 1, 1) := dec_row aL_law_7 5 rfl
theorem dL_law_600 : decode cL_law 600 = .ok (.aload_n 0, 1) := dec_row aL_law_7 6 rfl
theorem dL_law_601 : decode cL_law 601 = .ok (.iload_n 3, 1) := dec_row aL_law_7 7 rfl
theorem dL_law_602 : decode cL_law 602 = .ok (.iconst 1, 1) := dec_row aL_law_7 8 rfl
theorem dL_law_603 : decode cL_law 603 = .ok (.iadd, 1) := dec_row aL_law_7 9 rfl
theorem dL_law_604 : decode cL_law 604 = .ok (.iaload, 1) := dec_row aL_law_7 10 rfl
theorem dL_law_605 : decode cL_law 605 = .ok (.aload_n 0, 1) := dec_row aL_law_7 11 rfl
theorem dL_law_606 : decode cL_law 606 = .ok (.iload_n 3, 1) := dec_row aL_law_7 12 rfl
theorem dL_law_607 : decode cL_law 607 = .ok (.iconst 2, 1) := dec_row aL_law_7 13 rfl
theorem dL_law_608 : decode cL_law 608 = .ok (.iadd, 1) := dec_row aL_law_7 14 rfl
theorem dL_law_609 : decode cL_law 609 = .ok (.iaload, 1) := dec_row aL_law_7 15 rfl
theorem dL_law_610 : decode cL_law 610 = .ok (.invokevirtual 92, 3) := dec_row aL_law_7 16 rfl
theorem dL_law_613 : decode cL_law 613 = .ok (.aload_n 2, 1) := dec_row aL_law_7 17 rfl
theorem dL_law_614 : decode cL_law 614 = .ok (.aload_n 0, 1) := dec_row aL_law_7 18 rfl
theorem dL_law_615 : decode cL_law 615 = .ok (.iload_n 3, 1) := dec_row aL_law_7 19 rfl
theorem dL_law_616 : decode cL_law 616 = .ok (.iconst 1, 1) := dec_row aL_law_7 20 rfl
theorem dL_law_617 : decode cL_law 617 = .ok (.iadd, 1) := dec_row aL_law_7 21 rfl
theorem dL_law_618 : decode cL_law 618 = .ok (.iaload, 1) := dec_row aL_law_7 22 rfl
theorem dL_law_619 : decode cL_law 619 = .ok (.aload_n 0, 1) := dec_row aL_law_7 23 rfl
theorem dL_law_620 : decode cL_law 620 = .ok (.iload_n 3, 1) := dec_row aL_law_7 24 rfl
theorem dL_law_621 : decode cL_law 621 = .ok (.iconst 2, 1) := dec_row aL_law_7 25 rfl
theorem dL_law_622 : decode cL_law 622 = .ok (.iadd, 1) := dec_row aL_law_7 26 rfl
theorem dL_law_623 : decode cL_law 623 = .ok (.iaload, 1) := dec_row aL_law_7 27 rfl
theorem dL_law_624 : decode cL_law 624 = .ok (.invokevirtual 95, 3) := dec_row aL_law_7 28 rfl
theorem dL_law_627 : decode cL_law 627 = .ok (.if_icmp .eq 173, 3) := dec_row aL_law_7 29 rfl
theorem dL_law_630 : decode cL_law 630 = .ok (.iconst 0, 1) := dec_row aL_law_7 30 rfl
theorem dL_law_631 : decode cL_law 631 = .ok (.ireturn, 1) := dec_row aL_law_7 31 rfl
theorem dL_law_632 : decode cL_law 632 = .ok (.aload_n 1, 1) := dec_row aL_law_7 32 rfl
theorem dL_law_633 : decode cL_law 633 = .ok (.aload_n 0, 1) := dec_row aL_law_7 33 rfl
theorem dL_law_634 : decode cL_law 634 = .ok (.iload_n 3, 1) := dec_row aL_law_7 34 rfl
theorem dL_law_635 : decode cL_law 635 = .ok (.iconst 1, 1) := dec_row aL_law_7 35 rfl
theorem dL_law_636 : decode cL_law 636 = .ok (.iadd, 1) := dec_row aL_law_7 36 rfl
theorem dL_law_637 : decode cL_law 637 = .ok (.iaload, 1) := dec_row aL_law_7 37 rfl
theorem dL_law_638 : decode cL_law 638 = .ok (.aload_n 0, 1) := dec_row aL_law_7 38 rfl
theorem dL_law_639 : decode cL_law 639 = .ok (.iload_n 3, 1) := dec_row aL_law_7 39 rfl
theorem dL_law_640 : decode cL_law 640 = .ok (.iconst 2, 1) := dec_row aL_law_7 40 rfl
theorem dL_law_641 : decode cL_law 641 = .ok (.iadd, 1) := dec_row aL_law_7 41 rfl
theorem dL_law_642 : decode cL_law 642 = .ok (.iaload, 1) := dec_row aL_law_7 42 rfl
theorem dL_law_643 : decode cL_law 643 = .ok (.aload_n 0, 1) := dec_row aL_law_7 43 rfl
theorem dL_law_644 : decode cL_law 644 = .ok (.iload_n 3, 1) := dec_row aL_law_7 44 rfl
theorem dL_law_645 : decode cL_law 645 = .ok (.iconst 3, 1) := dec_row aL_law_7 45 rfl
theorem dL_law_646 : decode cL_law 646 = .ok (.iadd, 1) := dec_row aL_law_7 46 rfl
theorem dL_law_647 : decode cL_law 647 = .ok (.iaload, 1) := dec_row aL_law_7 47 rfl
theorem dL_law_648 : decode cL_law 648 = .ok (.invokevirtual 96, 3) := dec_row aL_law_7 48 rfl
theorem dL_law_651 : decode cL_law 651 = .ok (.aload_n 2, 1) := dec_row aL_law_7 49 rfl
def tL_law_8 : List (Nat × Instr × Nat) := [(652, .aload_n 0, 1), (653, .iload_n 3, 1), (654, .iconst 1, 1), (655, .iadd, 1), (656, .iaload, 1), (657, .aload_n 0, 1), (658, .iload_n 3, 1), (659, .iconst 2, 1), (660, .iadd, 1), (661, .iaload, 1), (662, .aload_n 0, 1), (663, .iload_n 3, 1), (664, .iconst 3, 1), (665, .iadd, 1), (666, .iaload, 1), (667, .invokevirtual 100, 3), (670, .if_icmp .eq 130, 3), (673, .iconst 0, 1), (674, .ireturn, 1), (675, .aload_n 1, 1), (676, .aload_n 0, 1), (677, .iload_n 3, 1), (678, .iconst 1, 1), (679, .iadd, 1), (680, .iaload, 1), (681, .aload_n 0, 1), (682, .iload_n 3, 1), (683, .iconst 2, 1), (684, .iadd, 1), (685, .iaload, 1), (686, .invokevirtual 101, 3), (689, .aload_n 2, 1), (690, .aload_n 0, 1), (691, .iload_n 3, 1), (692, .iconst 1, 1), (693, .iadd, 1), (694, .iaload, 1), (695, .aload_n 0, 1), (696, .iload_n 3, 1), (697, .iconst 2, 1), (698, .iadd, 1), (699, .iaload, 1), (700, .invokevirtual 104, 3), (703, .if_icmp .eq 97, 3), (706, .iconst 0, 1), (707, .ireturn, 1), (708, .aload_n 1, 1), (709, .aload_n 0, 1), (710, .iload_n 3, 1), (711, .iconst 1, 1)]
theorem aL_law_8 : tL_law_8.all (fun q => decide (decode cL_law q.1 = .ok q.2)) = true := by decide +kernel
theorem dL_law_652 : decode cL_law 652 = .ok (.aload_n 0, 1) := dec_row aL_law_8 0 rfl
theorem dL_law_653 : decode cL_law 653 = .ok (.iload_n 3, 1) := dec_row aL_law_8 1 rfl
theorem dL_law_654 : decode cL_law 654 = .ok (.iconst 1, 1) := dec_row aL_law_8 2 rfl
theorem dL_law_655 : decode cL_law 655 = .ok (.iadd, 1) := dec_row aL_law_8 3 rfl
theorem dL_law_656 : decode cL_law 656 = .ok (.iaload, 1) := dec_row aL_law_8 4 rfl
theorem dL_law_657 : decode cL_law 657 = .ok (.aload_n 0, 1) := dec_row aL_law_8 5 rfl
theorem dL_law_658 : decode cL_law 658 = .ok (.iload_n 3, 1) := dec_row aL_law_8 6 rfl
theorem dL_law_659 : decode cL_law 659 = .ok (.iconst 2, 1) := dec_row aL_law_8 7 rfl
theorem dL_law_660 : decode cL_law 660 = .ok (.iadd, 1) := dec_row aL_law_8 8 rfl
theorem dL_law_661 : decode cL_law 661 = .ok (.iaload, 1) := dec_row aL_law_8 9 rfl
theorem dL_law_662 : decode cL_law 662 = .ok (.aload_n 0, 1) := dec_row aL_law_8 10 rfl
theorem dL_law_663 : decode cL_law 663 = .ok (.iload_n 3, 1) := dec_row aL_law_8 11 rfl
theorem dL_law_664 : decode cL_law 664 = .ok (.iconst 3, 1) := dec_row aL_law_8 12 rfl
theorem dL_law_665 : decode cL_law 665 = .ok (.iadd, 1) := dec_row aL_law_8 13 rfl
theorem dL_law_666 : decode cL_law 666 = .ok (.iaload, 1) := dec_row aL_law_8 14 rfl
theorem dL_law_667 : decode cL_law 667 = .ok (.invokevirtual 100, 3) := dec_row aL_law_8 15 rfl
theorem dL_law_670 : decode cL_law 670 = .ok (.if_icmp .eq 130, 3) := dec_row aL_law_8 16 rfl
theorem dL_law_673 : decode cL_law 673 = .ok (.iconst 0, 1) := dec_row aL_law_8 17 rfl
theorem dL_law_674 : decode cL_law 674 = .ok (.ireturn, 1) := dec_row aL_law_8 18 rfl
theorem dL_law_675 : decode cL_law 675 = .ok (.aload_n 1, 1) := dec_row aL_law_8 19 rfl
theorem dL_law_676 : decode cL_law 676 = .ok (.aload_n 0, 1) := dec_row aL_law_8 20 rfl
theorem dL_law_677 : decode cL_law 677 = .ok (.iload_n 3, 1) := dec_row aL_law_8 21 rfl
theorem dL_law_678 : decode cL_law 678 = .ok (.iconst 1, 1) := dec_row aL_law_8 22 rfl
theorem dL_law_679 : decode cL_law 679 = .ok (.iadd, 1) := dec_row aL_law_8 23 rfl
theorem dL_law_680 : decode cL_law 680 = .ok (.iaload, 1) := dec_row aL_law_8 24 rfl
theorem dL_law_681 : decode cL_law 681 = .ok (.aload_n 0, 1) := dec_row aL_law_8 25 rfl
theorem dL_law_682 : decode cL_law 682 = .ok (.iload_n 3, 1) := dec_row aL_law_8 26 rfl
theorem dL_law_683 : decode cL_law 683 = .ok (.iconst 2, 1) := dec_row aL_law_8 27 rfl
theorem dL_law_684 : decode cL_law 684 = .ok (.iadd, 1) := dec_row aL_law_8 28 rfl
theorem dL_law_685 : decode cL_law 685 = .ok (.iaload, 1) := dec_row aL_law_8 29 rfl
theorem dL_law_686 : decode cL_law 686 = .ok (.invokevirtual 101, 3) := dec_row aL_law_8 30 rfl
theorem dL_law_689 : decode cL_law 689 = .ok (.aload_n 2, 1) := dec_row aL_law_8 31 rfl
theorem dL_law_690 : decode cL_law 690 = .ok (.aload_n 0, 1) := dec_row aL_law_8 32 rfl
theorem dL_law_691 : decode cL_law 691 = .ok (.iload_n 3, 1) := dec_row aL_law_8 33 rfl
theorem dL_law_692 : decode cL_law 692 = .ok (.iconst 1, 1) := dec_row aL_law_8 34 rfl
theorem dL_law_693 : decode cL_law 693 = .ok (.iadd, 1) := dec_row aL_law_8 35 rfl
theorem dL_law_694 : decode cL_law 694 = .ok (.iaload, 1) := dec_row aL_law_8 36 rfl
theorem dL_law_695 : decode cL_law 695 = .ok (.aload_n 0, 1) := dec_row aL_law_8 37 rfl
theorem dL_law_696 : decode cL_law 696 = .ok (.iload_n 3, 1) := dec_row aL_law_8 38 rfl
theorem dL_law_697 : decode cL_law 697 = .ok (.iconst 2, 1) := dec_row aL_law_8 39 rfl
theorem dL_law_698 : decode cL_law 698 = .ok (.iadd, 1) := dec_row aL_law_8 40 rfl
theorem dL_law_699 : decode cL_law 699 = .ok (.iaload, 1) := dec_row aL_law_8 41 rfl
theorem dL_law_700 : decode cL_law 700 = .ok (.invokevirtual 104, 3) := dec_row aL_law_8 42 rfl
theorem dL_law_703 : decode cL_law 703 = .ok (.if_icmp .eq 97, 3) := dec_row aL_law_8 43 rfl
theorem dL_law_706 : decode cL_law 706 = .ok (.iconst 0, 1) := dec_row aL_law_8 44 rfl
theorem dL_law_707 : decode cL_law 707 = .ok (.ireturn, 1) := dec_row aL_law_8 45 rfl
theorem dL_law_708 : decode cL_law 708 = .ok (.aload_n 1, 1) := dec_row aL_law_8 46 rfl
theorem dL_law_709 : decode cL_law 709 = .ok (.aload_n 0, 1) := dec_row aL_law_8 47 rfl
theorem dL_law_710 : decode cL_law 710 = .ok (.iload_n 3, 1) := dec_row aL_law_8 48 rfl
theorem dL_law_711 : decode cL_law 711 = .ok (.iconst 1, 1) := dec_row aL_law_8 49 rfl
def tL_law_9 : List (Nat × Instr × Nat) := [(712, .iadd, 1), (713, .iaload, 1), (714, .invokevirtual 105, 3), (717, .aload_n 2, 1), (718, .aload_n 0, 1), (719, .iload_n 3, 1), (720, .iconst 1, 1), (721, .iadd, 1), (722, .iaload, 1), (723, .invokevirtual 108, 3), (726, .if_icmp .eq 74, 3), (729, .iconst 0, 1), (730, .ireturn, 1), (731, .aload_n 1, 1), (732, .aload_n 0, 1), (733, .iload_n 3, 1), (734, .iconst 1, 1), (735, .iadd, 1), (736, .iaload, 1), (737, .invokevirtual 109, 3), (740, .aload_n 2, 1), (741, .aload_n 0, 1), (742, .iload_n 3, 1), (743, .iconst 1, 1), (744, .iadd, 1), (745, .iaload, 1), (746, .invokevirtual 112, 3), (749, .if_icmp .eq 51, 3), (752, .iconst 0, 1), (753, .ireturn, 1), (754, .aload_n 1, 1), (755, .aload_n 0, 1), (756, .iload_n 3, 1), (757, .iconst 1, 1), (758, .iadd, 1), (759, .iaload, 1), (760, .invokevirtual 113, 3), (763, .aload_n 2, 1), (764, .aload_n 0, 1), (765, .iload_n 3, 1), (766, .iconst 1, 1), (767, .iadd, 1), (768, .iaload, 1), (769, .invokevirtual 116, 3), (772, .if_icmp .eq 28, 3), (775, .iconst 0, 1), (776, .ireturn, 1), (777, .aload_n 1, 1), (778, .aload_n 0, 1), (779, .iload_n 3, 1)]
theorem aL_law_9 : tL_law_9.all (fun q => decide (decode cL_law q.1 = .ok q.2)) = true := by decide +kernel
theorem dL_law_712 : decode cL_law 712 = .ok (.iadd, 1) := dec_row aL_law_9 0 rfl
theorem dL_law_713 : decode cL_law 713 = .ok (.iaload, 1) := dec_row aL_law_9 1 rfl
theorem dL_law_714 : decode cL_law 714 = .ok (.invokevirtual 105, 3) := dec_row aL_law_9 2 rfl
theorem dL_law_717 : decode cL_law 717 = .ok (.aload_n 2, 1) := dec_row aL_law_9 3 rfl
theorem dL_law_718 : decode cL_law 718 = .ok (.aload_n 0, 1) := dec_row aL_law_9 4 rfl
theorem dL_law_719 : decode cL_law 719 = .ok (.iload_n 3, 1) := dec_row aL_law_9 5 rfl
theorem dL_law_720 : decode cL_law 720 = .ok (.iconst 1, 1) := dec_row aL_law_9 6 rfl
theorem dL_law_721 : decode cL_law 721 = .ok (.iadd, 1) := dec_row aL_law_9 7 rfl
theorem dL_law_722 : decode cL_law 722 = .ok (.iaload, 1) := dec_row aL_law_9 8 rfl
theorem dL_law_723 : decode cL_law 723 = .ok (.invokevirtual 108, 3) := dec_row aL_law_9 9 rfl
theorem dL_law_726 : decode cL_law 726 = .ok (.if_icmp .eq 74, 3) := dec_row aL_law_9 10 rfl
theorem dL_law_729 : decode cL_law 729 = .ok (.iconst 0, 1) := dec_row aL_law_9 11 rfl
theorem dL_law_730 : decode cL_law 730 = .ok (.ireturn, 1) := dec_row aL_law_9 12 rfl
theorem dL_law_731 : decode cL_law 731 = .ok (.aload_n 1, 1) := dec_row aL_law_9 13 rfl
theorem dL_law_732 : decode cL_law 732 = .ok (.aload_n 0, 1) := dec_row aL_law_9 14 rfl
theorem dL_law_733 : decode cL_law 733 = .ok (.iload_n 3, 1) := dec_row aL_law_9 15 rfl
theorem dL_law_734 : decode cL_law 734 = .ok (.iconst 1, 1) := dec_row aL_law_9 16 rfl
theorem dL_law_735 : decode cL_law 735 = .ok (.iadd, 1) := dec_row aL_law_9 17 rfl
theorem dL_law_736 : decode cL_law 736 = .ok (.iaload, 1) := dec_row aL_law_9 18 rfl
theorem dL_law_737 : decode cL_law 737 = .ok (.invokevirtual 109, 3) := dec_row aL_law_9 19 rfl
theorem dL_law_740 : decode cL_law 740 = .ok (.aload_n 2, 1) := dec_row aL_law_9 20 rfl
theorem dL_law_741 : decode cL_law 741 = .ok (.aload_n 0, 1) := dec_row aL_law_9 21 rfl
theorem dL_law_742 : decode cL_law 742 = .ok (.iload_n 3, 1) := dec_row aL_law_9 22 rfl
theorem dL_law_743 : decode cL_law 743 = .ok (.iconst 1, 1) := dec_row aL_law_9 23 rfl
theorem dL_law_744 : decode cL_law 744 = .ok (.iadd, 1) := dec_row aL_law_9 24 rfl
theorem dL_law_745 : decode cL_law 745 = .ok (.iaload, 1) := dec_row aL_law_9 25 rfl
theorem dL_law_746 : decode cL_law 746 = .ok (.invokevirtual 112, 3) := dec_row aL_law_9 26 rfl
theorem dL_law_749 : decode cL_law 749 = .ok (.if_icmp .eq 51, 3) := dec_row aL_law_9 27 rfl
theorem dL_law_752 : decode cL_law 752 = .ok (.iconst 0, 1) := dec_row aL_law_9 28 rfl
theorem dL_law_753 : decode cL_law 753 = .ok (.ireturn, 1) := dec_row aL_law_9 29 rfl
theorem dL_law_754 : decode cL_law 754 = .ok (.aload_n 1, 1) := dec_row aL_law_9 30 rfl
theorem dL_law_755 : decode cL_law 755 = .ok (.aload_n 0, 1) := dec_row aL_law_9 31 rfl
theorem dL_law_756 : decode cL_law 756 = .ok (.iload_n 3, 1) := dec_row aL_law_9 32 rfl
theorem dL_law_757 : decode cL_law 757 = .ok (.iconst 1, 1) := dec_row aL_law_9 33 rfl
theorem dL_law_758 : decode cL_law 758 = .ok (.iadd, 1) := dec_row aL_law_9 34 rfl
theorem dL_law_759 : decode cL_law 759 = .ok (.iaload, 1) := dec_row aL_law_9 35 rfl
theorem dL_law_760 : decode cL_law 760 = .ok (.invokevirtual 113, 3) := dec_row aL_law_9 36 rfl
theorem dL_law_763 : decode cL_law 763 = .ok (.aload_n 2, 1) := dec_row aL_law_9 37 rfl
theorem dL_law_764 : decode cL_law 764 = .ok (.aload_n 0, 1) := dec_row aL_law_9 38 rfl
theorem dL_law_765 : decode cL_law 765 = .ok (.iload_n 3, 1) := dec_row aL_law_9 39 rfl
theorem dL_law_766 : decode cL_law 766 = .ok (.iconst 1, 1) := dec_row aL_law_9 40 rfl
theorem dL_law_767 : decode cL_law 767 = .ok (.iadd, 1) := dec_row aL_law_9 41 rfl
theorem dL_law_768 : decode cL_law 768 = .ok (.iaload, 1) := dec_row aL_law_9 42 rfl
theorem dL_law_769 : decode cL_law 769 = .ok (.invokevirtual 116, 3) := dec_row aL_law_9 43 rfl
theorem dL_law_772 : decode cL_law 772 = .ok (.if_icmp .eq 28, 3) := dec_row aL_law_9 44 rfl
theorem dL_law_775 : decode cL_law 775 = .ok (.iconst 0, 1) := dec_row aL_law_9 45 rfl
theorem dL_law_776 : decode cL_law 776 = .ok (.ireturn, 1) := dec_row aL_law_9 46 rfl
theorem dL_law_777 : decode cL_law 777 = .ok (.aload_n 1, 1) := dec_row aL_law_9 47 rfl
theorem dL_law_778 : decode cL_law 778 = .ok (.aload_n 0, 1) := dec_row aL_law_9 48 rfl
theorem dL_law_779 : decode cL_law 779 = .ok (.iload_n 3, 1) := dec_row aL_law_9 49 rfl
def tL_law_10 : List (Nat × Instr × Nat) := [(780, .iconst 1, 1), (781, .iadd, 1), (782, .iaload, 1), (783, .invokevirtual 117, 3), (786, .aload_n 2, 1), (787, .aload_n 0, 1), (788, .iload_n 3, 1), (789, .iconst 1, 1), (790, .iadd, 1), (791, .iaload, 1), (792, .invokevirtual 120, 3), (795, .if_icmp .eq 5, 3), (798, .iconst 0, 1), (799, .ireturn, 1), (800, .iinc 3 4, 3), (803, .goto (-785), 3), (806, .iconst 1, 1), (807, .ireturn, 1)]
theorem aL_law_10 : tL_law_10.all (fun q => decide (decode cL_law q.1 = .ok q.2)) = true := by decide +kernel
theorem dL_law_780 : decode cL_law 780 = .ok (.iconst 1, 1) := dec_row aL_law_10 0 rfl
theorem dL_law_781 : decode cL_law 781 = .ok (.iadd, 1) := dec_row aL_law_10 1 rfl
theorem dL_law_782 : decode cL_law 782 = .ok (.iaload, 1) := dec_row aL_law_10 2 rfl
theorem dL_law_783 : decode cL_law 783 = .ok (.invokevirtual 117, 3) := dec_row aL_law_10 3 rfl
theorem dL_law_786 : decode cL_law 786 = .ok (.aload_n 2, 1) := dec_row aL_law_10 4 rfl
theorem dL_law_787 : decode cL_law 787 = .ok (.aload_n 0, 1) := dec_row aL_law_10 5 rfl
theorem dL_law_788 : decode cL_law 788 = .ok (.iload_n 3, 1) := dec_row aL_law_10 6 rfl
theorem dL_law_789 : decode cL_law 789 = .ok (.iconst 1, 1) := dec_row aL_law_10 7 rfl
theorem dL_law_790 : decode cL_law 790 = .ok (.iadd, 1) := dec_row aL_law_10 8 rfl
theorem dL_law_791 : decode cL_law 791 = .ok (.iaload, 1) := dec_row aL_law_10 9 rfl
theorem dL_law_792 : decode cL_law 792 = .ok (.invokevirtual 120, 3) := dec_row aL_law_10 10 rfl
theorem dL_law_795 : decode cL_law 795 = .ok (.if_icmp .eq 5, 3) := dec_row aL_law_10 11 rfl
theorem dL_law_798 : decode cL_law 798 = .ok (.iconst 0, 1) := dec_row aL_law_10 12 rfl
theorem dL_law_799 : decode cL_law 799 = .ok (.ireturn, 1) := dec_row aL_law_10 13 rfl
theorem dL_law_800 : decode cL_law 800 = .ok (.iinc 3 4, 3) := dec_row aL_law_10 14 rfl
theorem dL_law_803 : decode cL_law 803 = .ok (.goto (-785), 3) := dec_row aL_law_10 15 rfl
theorem dL_law_806 : decode cL_law 806 = .ok (.iconst 1, 1) := dec_row aL_law_10 16 rfl
theorem dL_law_807 : decode cL_law 807 = .ok (.ireturn, 1) := dec_row aL_law_10 17 rfl
