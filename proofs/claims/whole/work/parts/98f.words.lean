/-! the start: the words that it needs, by their places -/
theorem sI0 : Cond.instantiable RX0 5 ∈ lw_tbl := List.mem_of_getElem? (i := 187) (by decide +kernel)
theorem sI1 : Cond.instantiable RX1 10 ∈ lw_tbl := List.mem_of_getElem? (i := 129) (by decide +kernel)
theorem sI2 : Cond.instantiable RX2 9 ∈ lw_tbl := List.mem_of_getElem? (i := 258) (by decide +kernel)
theorem sI3 : Cond.instantiable RX3 10 ∈ lw_tbl := List.mem_of_getElem? (i := 181) (by decide +kernel)
theorem sI4 : Cond.instantiable RX4 3 ∈ lw_tbl := List.mem_of_getElem? (i := 111) (by decide +kernel)
theorem sI5 : Cond.instantiable RX5 9 ∈ lw_tbl := List.mem_of_getElem? (i := 103) (by decide +kernel)
theorem sI6 : Cond.instantiable RX6 23 ∈ lw_tbl := List.mem_of_getElem? (i := 743) (by decide +kernel)
theorem sN5 : Cond.initialized RX5 ∈ lw_tbl := List.mem_of_getElem? (i := 88) (by decide +kernel)
theorem sN6 : Cond.initialized RX6 ∈ lw_tbl := List.mem_of_getElem? (i := 99) (by decide +kernel)
theorem sC5 : Cond.classLink R_law 7 RX5 ∈ lw_tbl := List.mem_of_getElem? (i := 102) (by decide +kernel)
theorem sC6 : Cond.classLink R_law 10 RX6 ∈ lw_tbl := List.mem_of_getElem? (i := 742) (by decide +kernel)
theorem sM5 : Cond.methodLink R_law 9 yX5_init ∈ lw_tbl := List.mem_of_getElem? (i := 104) (by decide +kernel)
theorem sM6 : Cond.methodLink R_law 12 yX6_init ∈ lw_tbl := List.mem_of_getElem? (i := 744) (by decide +kernel)
theorem sm5 : Cond.instanceMethod yX5_init ∈ lw_tbl := List.mem_of_getElem? (i := 105) (by decide +kernel)
theorem sm6 : Cond.instanceMethod yX6_init ∈ lw_tbl := List.mem_of_getElem? (i := 745) (by decide +kernel)
theorem sA : Cond.arrayClass .int ∈ lw_tbl := List.mem_of_getElem? (i := 127) (by decide +kernel)
theorem sO3 : Cond.arrayOver (.object RX3) ∈ lw_tbl := List.mem_of_getElem? (i := 180) (by decide +kernel)
theorem sO2 : Cond.arrayOver (.object RX2) ∈ lw_tbl := List.mem_of_getElem? (i := 257) (by decide +kernel)
theorem sZ0 : Cond.laysStatic "MouldShots" "LEAST_SETTING" "[I" ∈ lw_tbl := List.mem_of_getElem? (i := 390) (by decide +kernel)
theorem sZ1 : Cond.laysStatic "MouldShots" "MOST_SETTING" "[I" ∈ lw_tbl := List.mem_of_getElem? (i := 392) (by decide +kernel)
theorem sZ2 : Cond.laysStatic "MouldShots" "SETTING_WITHOUT" "[I" ∈ lw_tbl := List.mem_of_getElem? (i := 361) (by decide +kernel)
theorem sZc : Cond.laysStatic "java/lang/String" "COMPACT_STRINGS" "Z" ∈ lw_tbl := List.mem_of_getElem? (i := 309) (by decide +kernel)
theorem sZq : Cond.laysStatic "jdk/internal/util/Preconditions" "SIOOBE_FORMATTER" "Ljava/util/function/BiFunction;" ∈ lw_tbl := List.mem_of_getElem? (i := 325) (by decide +kernel)
theorem sNs : Cond.initialized "java/lang/String" ∈ lw_tbl := List.mem_of_getElem? (i := 94) (by decide +kernel)
theorem sNp : Cond.initialized "jdk/internal/util/Preconditions" ∈ lw_tbl := List.mem_of_getElem? (i := 96) (by decide +kernel)
theorem sR : Cond.stringRef RX5 55 tx0 ∈ lw_tbl := List.mem_of_getElem? (i := 299) (by decide +kernel)
set_option maxRecDepth 20000 in
theorem in_nestF : ∀ w ∈ nestF, w ∈ lw_tbl := in_pl [222, 224, 228, 226, 148, 146, 214, 151, 217, 220, 230, 278, 234, 193, 232, 196, 198, 200, 276, 271, 139, 144, 264, 268, 266, 119, 135, 270, 275, 360, 389, 391, 138, 143, 219, 150, 153, 216, 213, 136, 141, 155, 157] (by decide +kernel)
set_option maxRecDepth 20000 in
theorem in_nestM : ∀ w ∈ nestM, w ∈ lw_tbl := in_pl [112, 506, 554, 598, 130, 478, 629, 633, 643, 659, 679, 667, 674, 717, 726, 182, 259, 348, 352, 406, 455, 397, 188, 402, 482, 356, 373, 377, 381, 385] (by decide +kernel)
theorem in_nest : ∀ w ∈ nestW, w ∈ lw_tbl := List.forall_mem_append.mpr ⟨in_nestF, in_nestM⟩
def gvF : List Cond := flatC (Jvm.Cond.and given_1 narrow_1)
def sT : Term := .string "MouldShots" 55
def sV : Term := .field sT "java/lang/String" "value" "[B"
theorem gv_s1 : Cond.exactly sT "java/lang/String" ∈ gvF := by decide +kernel
theorem gv_s2 : Cond.eq (.field sT "java/lang/String" "coder" "B") (.int 0) ∈ gvF := by decide +kernel
theorem gv_s3 : Cond.arrayOf sV .byte ∈ gvF := by decide +kernel
theorem gv_s4 : Cond.eq (.length sV) (.int (Int32.ofNat 67)) ∈ gvF := by decide +kernel
set_option maxRecDepth 100000 in
theorem gv_s5 : (List.range 67).all (fun j => decide (Cond.eq (.elem sV (.int (Int32.ofNat j))) (.int (txF j)) ∈ gvF)) = true := by decide +kernel
theorem gv_c : Cond.eq (.static "java/lang/String" "COMPACT_STRINGS" "Z") (.int 1) ∈ gvF := by decide +kernel
theorem gv_q : Cond.isRef (.static "jdk/internal/util/Preconditions" "SIOOBE_FORMATTER" "Ljava/util/function/BiFunction;") ∈ gvF := by decide +kernel
def zT (k : Nat) : Term := .static "MouldShots" (statT.getD k ("", tabL)).1 "[I"
def zN (k : Nat) : Nat → Int32 := (statT.getD k ("", tabL)).2
set_option maxRecDepth 100000 in
theorem gv_z : (List.range 3).all (fun k => decide (Cond.arrayOf (zT k) .int ∈ gvF) && (decide (Cond.eq (.length (zT k)) (.int (Int32.ofNat 6)) ∈ gvF) && (List.range 6).all (fun j => decide (Cond.eq (.elem (zT k) (.int (Int32.ofNat j))) (.int (zN k j)) ∈ gvF)))) = true := by decide +kernel
theorem va_Xof {args : Array Value} {s : State} {tm : Term} {N : Nat} {xs : Nat → Int32} (hN : N < 2 ^ 31) (harr : (Cond.arrayOf tm .int).before args s = true) (hlen : (Cond.eq (.length tm) (.int (Int32.ofNat N))).before args s = true) (hel : ∀ j, j < N → (Cond.eq (.elem tm (.int (Int32.ofNat j))) (.int (xs j))).before args s = true) : ∃ t, tm.eval args s none [] s = some (.ref t) ∧ va_X t N xs s s.heap ∧ t < s.heap.size := by
  obtain ⟨t, ht, cell, h1, h2, h3, h4, h5, h6, h7⟩ := va_Tof (A := fun _ => False) hN harr (va_eqt hlen) (fun j hj => va_eqt (hel j hj)) (fun _ _ h => h)
  obtain ⟨b, cell', q1, q2, q3, q4⟩ := length_spec (va_eqt hlen)
  cases ht.symm.trans q1
  obtain ⟨q5, -⟩ := State.arrayAt?_spec q2
  cases h1.symm.trans q5
  refine ⟨t, ht, ⟨cell, h1, h2, h3, ?_, h6⟩, (Array.getElem?_eq_some_iff.mp h1).1⟩
  have e1 : nI N = nI cell.slots.size := Value.int.inj q4
  have e2 := congrArg Int32.toNatClampNeg e1
  rw [cl_nI hN, cl_nI q3] at e2
  exact e2.symm
