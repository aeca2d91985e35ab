set_option maxHeartbeats 4000000 in
set_option maxRecDepth 100000 in
theorem c2_balance (l : Launch) (g : gG) (t_p : Nat) (t_p_has : Nat) (t_has : (Nat → Int32)) (t_p_firstAt : Nat) (t_firstAt : (Nat → Int32)) (t_p_fullAt : Nat) (t_fullAt : (Nat → Int32)) (t_p_pressures : Nat) (t_pressures : (Nat → Int32)) (t_place : Int32) (t_fillTicks : Int32) (t_ticks : Int32) (t_coolTicks : Int32) (t_why : Int32) (sz : Nat) (N : Nat) (res : (Int32)) (hf : f2_balance N t_fullAt = some res) : Met l yX2_balance wsX2_balance ({ frames := 1, cells := 0, slots := 0, locals := 21 }) (pP g [.ref t_p] sz (fl [wk2 g t_p t_p_has t_has t_p_firstAt t_firstAt t_p_fullAt t_fullAt t_p_pressures t_pressures t_place t_fillTicks t_ticks t_coolTicks t_why])) (pQi g (fun r => r = res) (fl [wk2 g t_p t_p_has t_has t_p_firstAt t_firstAt t_p_fullAt t_fullAt t_p_pressures t_pressures t_place t_fillTicks t_ticks t_coolTicks t_why]) (va_A (fl [wk2 g t_p t_p_has t_has t_p_firstAt t_firstAt t_p_fullAt t_fullAt t_p_pressures t_pressures t_place t_fillTicks t_ticks t_coolTicks t_why]) sz)) 0 0 (va_A (fl [wk2 g t_p t_p_has t_has t_p_firstAt t_firstAt t_p_fullAt t_fullAt t_p_pressures t_pressures t_place t_fillTicks t_ticks t_coolTicks t_why]) sz) := by
  refine Met.ofW (cc := cX2_balance) (maxL := 4) (ret := (some .int)) (by decide) rfl ?_
  intro p e s m args below meth c s₁ B hml hv
  obtain ⟨rfl, hsz, hP, hK, hD0, hG⟩ := hv
  have hx := B.exec
  have hb := B.bytes
  have hr := B.returns
  have hts := atoms_spec (ws := wsX2_balance) B.pre
  have hown : s.vm.findClass RX2 = some m.cls := findClass_of_methodNamed B.named
  have hlocks := B.notSynchronized
  subst hsz
  have hD := hD0.self (sz := s.heap.size)
  generalize hAe : va_A (fl [wk2 g t_p t_p_has t_has t_p_firstAt t_firstAt t_p_fullAt t_fullAt t_p_pressures t_pressures t_place t_fillTicks t_ticks t_coolTicks t_why]) s.heap.size = A at hD hG ⊢
  have hA : ∀ q : Nat, s.heap.size ≤ q → A q := fun q h => by rw [← hAe]; exact Or.inr h
  have hS : va_S A s.heap s.heap [] := va_S.rf
  have hin2 : ∀ w ∈ u_ws RX2 TX2 9, w ∈ wsX2_balance := by decide +kernel
  have L1 := hts (Cond.methodLink RX2 70 Lib.Math.max.name) (by decide +kernel)
  have L2 := hts (Cond.static Lib.Math.max.name) (by decide +kernel)
  have L3 := hts (Cond.initialized "java/lang/Math") (by decide +kernel)
  have L4 := hts (Cond.code Lib.Math.max.name Lib.Math.max.code 2 (some .int)) (by decide +kernel)
  have L5 := hts (Cond.fieldLink RX2 18 "MouldShots$Shot" "fullAt" "[I") (by decide +kernel)
  have L6 := hts (Cond.methodLink RX2 60 Lib.Math.min.name) (by decide +kernel)
  have L7 := hts (Cond.static Lib.Math.min.name) (by decide +kernel)
  have L8 := hts (Cond.initialized "java/lang/Math") (by decide +kernel)
  have L9 := hts (Cond.code Lib.Math.min.name Lib.Math.min.code 2 (some .int)) (by decide +kernel)
  have w_7 : ∀ n : Nat, ∀ (v1 : Int32) (v2 : Int32) (v3 : Int32)  (H : Heap) (locs : List Loc) (ls : Array Slot), f2_balance_7  N n v1 v2 v3 t_fullAt = some res → va_P g.1 vwCl (fl [wk2 g t_p t_p_has t_has t_p_firstAt t_firstAt t_p_fullAt t_fullAt t_p_pressures t_pressures t_place t_fillTicks t_ticks t_coolTicks t_why]) H → va_D A (fl [wk2 g t_p t_p_has t_has t_p_firstAt t_firstAt t_p_fullAt t_fullAt t_p_pressures t_pressures t_place t_fillTicks t_ticks t_coolTicks t_why]) → va_S A s.heap H locs → lv_has ls 4 [(0, .ref t_p), (1, .int v1), (2, .int v2), (3, .int v3)] → W p l e ({ frames := 1, cells := 0, slots := 0, locals := 21 }) s m ([.ref t_p] : List Value).toArray below meth c H locs 0 0 (MQ below (pQi g (fun r => r = res) (fl [wk2 g t_p t_p_has t_has t_p_firstAt t_firstAt t_p_fullAt t_fullAt t_p_pressures t_pressures t_place t_fillTicks t_ticks t_coolTicks t_why]) A) ([.ref t_p] : List Value).toArray s 0 0 A) (F0 m 7 ls []) := by
    intro  n
    induction n with
    | zero => intro v1 v2 v3 H locs ls hf; exact no_some hf
    | succ n ih =>
      intro v1 v2 v3 H locs ls hf hP hD hS hl
      rw [f2_balance_7] at hf
      refine lv_iload_n hx hb dX2_balance_7 rfl (lv_at hl 3 rfl) ?_
      refine lv_bipush (v := 6) hx hb dX2_balance_8 (by decide) ?_
      refine lv_icmp_ge (tgt := 50) hx hb dX2_balance_10 (by decide) (fun c_1 => ?_) (fun c_1 => ?_)
      · replace hf := (if_pos c_1).symm.trans hf
        refine lv_iconst (v := 0) hx hb dX2_balance_50 (by decide) ?_
        refine lv_iload_n hx hb dX2_balance_51 rfl (lv_at hl 2 rfl) ?_
        refine lv_iload_n hx hb dX2_balance_52 rfl (lv_at hl 1 rfl) ?_
        refine lv_isub hx hb dX2_balance_53 ?_
        refine va_mmax hx hb (hml.trans hl.1.symm) hown L1 L2 L3 L4 (Nat.le_of_ble_eq_true rfl) (Nat.le_of_ble_eq_true rfl) (Nat.zero_le _) (Nat.zero_le _) dX2_balance_54 ?_
        replace hf := Option.some.inj hf
        subst hf
        exact W.iret (v := if 0 < (v2 - v1) then v2 - v1 else 0) hx hb hr (fun t ht hW => ⟨⟨_, (), rfl, rfl, by show va_P g.1 vwCl _ t.heap; rw [ht]; exact hP⟩, hS.F ht⟩) hS.2.2 dX2_balance_57 hlocks
      · replace hf := (if_neg c_1).symm.trans hf
        refine lv_aload_n hx hb dX2_balance_13 rfl (lv_at hl 0 rfl) ?_
        refine va_get (D := g.1) (ci := 2) (v := .ref t_p_fullAt) (C := RX2) (T := TX2) (N := 9) hx hb hts hin2 hown hK.1 hP 0 rfl rfl 2 (by decide) L5 (fun _ h9 => h9) rfl dX2_balance_14 ?_
        refine lv_iload_n hx hb dX2_balance_17 rfl (lv_at hl 3 rfl) ?_
        obtain ⟨h_2, hf⟩ := if_some hf
        refine va_iald hx hb hK.1 hP 3 0 rfl rfl (ok_in h_2) dX2_balance_18 ?_
        refine lv_if_eq (tgt := 44) hx hb dX2_balance_19 (by decide) (fun c_3 => ?_) (fun c_3 => ?_)
        · replace hf := (if_pos c_3).symm.trans hf
          refine lv_iinc (v := v3 + 1) (lv' := [(3, .int (v3 + 1)), (0, .ref t_p), (1, .int v1), (2, .int v2)]) hx hb dX2_balance_44 hl (k := 3) rfl rfl (by decide) rfl (fun ls hl => ?_)
          refine lv_goto (tgt := 7) hx hb dX2_balance_47 (by decide) ?_
          exact ih v1 v2 (v3 + 1) H locs ls hf hP hD hS (lv_sub hl [1, 2, 3, 0] rfl)
        · replace hf := (if_neg c_3).symm.trans hf
          refine lv_iload_n hx hb dX2_balance_22 rfl (lv_at hl 1 rfl) ?_
          refine lv_aload_n hx hb dX2_balance_23 rfl (lv_at hl 0 rfl) ?_
          refine va_get (D := g.1) (ci := 2) (v := .ref t_p_fullAt) (C := RX2) (T := TX2) (N := 9) hx hb hts hin2 hown hK.1 hP 0 rfl rfl 2 (by decide) L5 (fun _ h9 => h9) rfl dX2_balance_24 ?_
          refine lv_iload_n hx hb dX2_balance_27 rfl (lv_at hl 3 rfl) ?_
          obtain ⟨h_4, hf⟩ := if_some hf
          refine va_iald hx hb hK.1 hP 3 0 rfl rfl (ok_in h_4) dX2_balance_28 ?_
          refine va_mmin hx hb (hml.trans hl.1.symm) hown L6 L7 L8 L9 (Nat.le_of_ble_eq_true rfl) (Nat.le_of_ble_eq_true rfl) (Nat.zero_le _) (Nat.zero_le _) dX2_balance_29 ?_
          refine lv_istore_n (lv' := [(1, .int (if (t_fullAt (Int32.toNatClampNeg v3)) < v1 then t_fullAt (Int32.toNatClampNeg v3) else v1)), (0, .ref t_p), (2, .int v2), (3, .int v3)]) hx hb dX2_balance_32 rfl hl (by decide) rfl (fun ls hl => ?_)
          refine lv_iload_n hx hb dX2_balance_33 rfl (lv_at hl 2 rfl) ?_
          refine lv_aload_n hx hb dX2_balance_34 rfl (lv_at hl 1 rfl) ?_
          refine va_get (D := g.1) (ci := 2) (v := .ref t_p_fullAt) (C := RX2) (T := TX2) (N := 9) hx hb hts hin2 hown hK.1 hP 0 rfl rfl 2 (by decide) L5 (fun _ h9 => h9) rfl dX2_balance_35 ?_
          refine lv_iload_n hx hb dX2_balance_38 rfl (lv_at hl 3 rfl) ?_
          obtain ⟨h_5, hf⟩ := if_some hf
          refine va_iald hx hb hK.1 hP 3 0 rfl rfl (ok_in h_5) dX2_balance_39 ?_
          refine va_mmax hx hb (hml.trans hl.1.symm) hown L1 L2 L3 L4 (Nat.le_of_ble_eq_true rfl) (Nat.le_of_ble_eq_true rfl) (Nat.zero_le _) (Nat.zero_le _) dX2_balance_40 ?_
          refine lv_istore_n (lv' := [(2, .int (if v2 < (t_fullAt (Int32.toNatClampNeg v3)) then t_fullAt (Int32.toNatClampNeg v3) else v2)), (1, .int (if (t_fullAt (Int32.toNatClampNeg v3)) < v1 then t_fullAt (Int32.toNatClampNeg v3) else v1)), (0, .ref t_p), (3, .int v3)]) hx hb dX2_balance_43 rfl hl (by decide) rfl (fun ls hl => ?_)
          refine lv_iinc (v := v3 + 1) (lv' := [(3, .int (v3 + 1)), (2, .int (if v2 < (t_fullAt (Int32.toNatClampNeg v3)) then t_fullAt (Int32.toNatClampNeg v3) else v2)), (1, .int (if (t_fullAt (Int32.toNatClampNeg v3)) < v1 then t_fullAt (Int32.toNatClampNeg v3) else v1)), (0, .ref t_p)]) hx hb dX2_balance_44 hl (k := 3) rfl rfl (by decide) rfl (fun ls hl => ?_)
          refine lv_goto (tgt := 7) hx hb dX2_balance_47 (by decide) ?_
          exact ih (if (t_fullAt (Int32.toNatClampNeg v3)) < v1 then t_fullAt (Int32.toNatClampNeg v3) else v1) (if v2 < (t_fullAt (Int32.toNatClampNeg v3)) then t_fullAt (Int32.toNatClampNeg v3) else v2) (v3 + 1) H locs ls hf hP hD hS (lv_sub hl [3, 2, 1, 0] rfl)
  have hl := lv_entry ([.ref t_p]) (n := 4) (Nat.le_of_ble_eq_true rfl)
  rw [lg_entry_eq]
  generalize (lg_sl ([.ref t_p]) ++ List.replicate (4 - (lg_sl ([.ref t_p])).length) Slot.unset).toArray = ls at hl ⊢
  replace hl : lv_has ls 4 [(0, .ref t_p)] := hl
  rw [f2_balance] at hf
  have hgo : ∀ (H : Heap) (locs : List Loc), H = s.heap → locs = [] → va_P g.1 vwCl (fl [wk2 g t_p t_p_has t_has t_p_firstAt t_firstAt t_p_fullAt t_fullAt t_p_pressures t_pressures t_place t_fillTicks t_ticks t_coolTicks t_why]) H → va_S A s.heap H locs → W p l e ({ frames := 1, cells := 0, slots := 0, locals := 21 }) s m ([.ref t_p] : List Value).toArray below meth c H locs 0 0 (MQ below (pQi g (fun r => r = res) (fl [wk2 g t_p t_p_has t_has t_p_firstAt t_firstAt t_p_fullAt t_fullAt t_p_pressures t_pressures t_place t_fillTicks t_ticks t_coolTicks t_why]) A) ([.ref t_p] : List Value).toArray s 0 0 A) (F0 m 0 ls []) := by
    intro H locs hH hL hP hS
    refine lv_bipush (v := 60) hx hb dX2_balance_0 (by decide) ?_
    refine lv_istore_n (lv' := [(1, .int 60), (0, .ref t_p)]) hx hb dX2_balance_2 rfl hl (by decide) rfl (fun ls hl => ?_)
    refine lv_iconst (v := 0) hx hb dX2_balance_3 (by decide) ?_
    refine lv_istore_n (lv' := [(2, .int 0), (1, .int 60), (0, .ref t_p)]) hx hb dX2_balance_4 rfl hl (by decide) rfl (fun ls hl => ?_)
    refine lv_iconst (v := 0) hx hb dX2_balance_5 (by decide) ?_
    refine lv_istore_n (lv' := [(3, .int 0), (2, .int 0), (1, .int 60), (0, .ref t_p)]) hx hb dX2_balance_6 rfl hl (by decide) rfl (fun ls hl => ?_)
    exact w_7  N 60 0 0 H locs ls hf hP hD hS (lv_sub hl [3, 2, 1, 0] rfl)
  exact hgo s.heap [] rfl rfl hP hS

set_option maxHeartbeats 4000000 in
set_option maxRecDepth 100000 in
theorem c2_whole (l : Launch) (g : gG) (t_p : Nat) (t_p_has : Nat) (t_has : (Nat → Int32)) (t_p_firstAt : Nat) (t_firstAt : (Nat → Int32)) (t_p_fullAt : Nat) (t_fullAt : (Nat → Int32)) (t_p_pressures : Nat) (t_pressures : (Nat → Int32)) (t_place : Int32) (t_fillTicks : Int32) (t_ticks : Int32) (t_coolTicks : Int32) (t_why : Int32) (sz : Nat) (N : Nat) (res : Unit) (hf : f2_whole N  = some res) : Met l yX2_whole wsX2_whole ({ frames := 0, cells := 0, slots := 0, locals := 0 }) (pP g [.ref t_p] sz (fl [wk2 g t_p t_p_has t_has t_p_firstAt t_firstAt t_p_fullAt t_fullAt t_p_pressures t_pressures t_place t_fillTicks t_ticks t_coolTicks t_why])) (pQi g (fun r => r = (t_ticks + t_coolTicks)) (fl [wk2 g t_p t_p_has t_has t_p_firstAt t_firstAt t_p_fullAt t_fullAt t_p_pressures t_pressures t_place t_fillTicks t_ticks t_coolTicks t_why]) (va_A (fl [wk2 g t_p t_p_has t_has t_p_firstAt t_firstAt t_p_fullAt t_fullAt t_p_pressures t_pressures t_place t_fillTicks t_ticks t_coolTicks t_why]) sz)) 0 0 (va_A (fl [wk2 g t_p t_p_has t_has t_p_firstAt t_firstAt t_p_fullAt t_fullAt t_p_pressures t_pressures t_place t_fillTicks t_ticks t_coolTicks t_why]) sz) := by
  refine Met.ofW (cc := cX2_whole) (maxL := 1) (ret := (some .int)) (by decide) rfl ?_
  intro p e s m args below meth c s₁ B hml hv
  obtain ⟨rfl, hsz, hP, hK, hD0, hG⟩ := hv
  have hx := B.exec
  have hb := B.bytes
  have hr := B.returns
  have hts := atoms_spec (ws := wsX2_whole) B.pre
  have hown : s.vm.findClass RX2 = some m.cls := findClass_of_methodNamed B.named
  have hlocks := B.notSynchronized
  subst hsz
  have hD := hD0.self (sz := s.heap.size)
  generalize hAe : va_A (fl [wk2 g t_p t_p_has t_has t_p_firstAt t_firstAt t_p_fullAt t_fullAt t_p_pressures t_pressures t_place t_fillTicks t_ticks t_coolTicks t_why]) s.heap.size = A at hD hG ⊢
  have hA : ∀ q : Nat, s.heap.size ≤ q → A q := fun q h => by rw [← hAe]; exact Or.inr h
  have hS : va_S A s.heap s.heap [] := va_S.rf
  have hin2 : ∀ w ∈ u_ws RX2 TX2 9, w ∈ wsX2_whole := by decide +kernel
  have L1 := hts (Cond.fieldLink RX2 31 "MouldShots$Shot" "ticks" "I") (by decide +kernel)
  have L2 := hts (Cond.fieldLink RX2 34 "MouldShots$Shot" "coolTicks" "I") (by decide +kernel)
  have hl := lv_entry ([.ref t_p]) (n := 1) (Nat.le_of_ble_eq_true rfl)
  rw [lg_entry_eq]
  generalize (lg_sl ([.ref t_p]) ++ List.replicate (1 - (lg_sl ([.ref t_p])).length) Slot.unset).toArray = ls at hl ⊢
  replace hl : lv_has ls 1 [(0, .ref t_p)] := hl
  rw [f2_whole] at hf
  have hgo : ∀ (H : Heap) (locs : List Loc), H = s.heap → locs = [] → va_P g.1 vwCl (fl [wk2 g t_p t_p_has t_has t_p_firstAt t_firstAt t_p_fullAt t_fullAt t_p_pressures t_pressures t_place t_fillTicks t_ticks t_coolTicks t_why]) H → va_S A s.heap H locs → W p l e ({ frames := 0, cells := 0, slots := 0, locals := 0 }) s m ([.ref t_p] : List Value).toArray below meth c H locs 0 0 (MQ below (pQi g (fun r => r = (t_ticks + t_coolTicks)) (fl [wk2 g t_p t_p_has t_has t_p_firstAt t_firstAt t_p_fullAt t_fullAt t_p_pressures t_pressures t_place t_fillTicks t_ticks t_coolTicks t_why]) A) ([.ref t_p] : List Value).toArray s 0 0 A) (F0 m 0 ls []) := by
    intro H locs hH hL hP hS
    refine lv_aload_n hx hb dX2_whole_0 rfl (lv_at hl 0 rfl) ?_
    refine va_get (D := g.1) (ci := 2) (v := .int t_ticks) (C := RX2) (T := TX2) (N := 9) hx hb hts hin2 hown hK.1 hP 0 rfl rfl 6 (by decide) L1 (fun _ h9 => h9) rfl dX2_whole_1 ?_
    refine lv_aload_n hx hb dX2_whole_4 rfl (lv_at hl 0 rfl) ?_
    refine va_get (D := g.1) (ci := 2) (v := .int t_coolTicks) (C := RX2) (T := TX2) (N := 9) hx hb hts hin2 hown hK.1 hP 0 rfl rfl 7 (by decide) L2 (fun _ h9 => h9) rfl dX2_whole_5 ?_
    refine lv_iadd hx hb dX2_whole_8 ?_
    replace hf := Option.some.inj hf
    subst hf
    exact W.iret (v := t_ticks + t_coolTicks) hx hb hr (fun t ht hW => ⟨⟨_, (), rfl, rfl, by show va_P g.1 vwCl _ t.heap; rw [ht]; exact hP⟩, hS.F ht⟩) hS.2.2 dX2_whole_9 hlocks
  exact hgo s.heap [] rfl rfl hP hS

set_option maxHeartbeats 4000000 in
set_option maxRecDepth 100000 in
theorem c2_greatestPressure (l : Launch) (g : gG) (t_p : Nat) (t_p_has : Nat) (t_has : (Nat → Int32)) (t_p_firstAt : Nat) (t_firstAt : (Nat → Int32)) (t_p_fullAt : Nat) (t_fullAt : (Nat → Int32)) (t_p_pressures : Nat) (t_pressures : (Nat → Int32)) (t_place : Int32) (t_fillTicks : Int32) (t_ticks : Int32) (t_coolTicks : Int32) (t_why : Int32) (sz : Nat) (N : Nat) (res : (Int32)) (hf : f2_greatestPressure N t_pressures = some res) : Met l yX2_greatestPressure wsX2_greatestPressure ({ frames := 1, cells := 0, slots := 0, locals := 21 }) (pP g [.ref t_p] sz (fl [wk2 g t_p t_p_has t_has t_p_firstAt t_firstAt t_p_fullAt t_fullAt t_p_pressures t_pressures t_place t_fillTicks t_ticks t_coolTicks t_why])) (pQi g (fun r => r = res) (fl [wk2 g t_p t_p_has t_has t_p_firstAt t_firstAt t_p_fullAt t_fullAt t_p_pressures t_pressures t_place t_fillTicks t_ticks t_coolTicks t_why]) (va_A (fl [wk2 g t_p t_p_has t_has t_p_firstAt t_firstAt t_p_fullAt t_fullAt t_p_pressures t_pressures t_place t_fillTicks t_ticks t_coolTicks t_why]) sz)) 0 0 (va_A (fl [wk2 g t_p t_p_has t_has t_p_firstAt t_firstAt t_p_fullAt t_fullAt t_p_pressures t_pressures t_place t_fillTicks t_ticks t_coolTicks t_why]) sz) := by
  refine Met.ofW (cc := cX2_greatestPressure) (maxL := 3) (ret := (some .int)) (by decide) rfl ?_
  intro p e s m args below meth c s₁ B hml hv
  obtain ⟨rfl, hsz, hP, hK, hD0, hG⟩ := hv
  have hx := B.exec
  have hb := B.bytes
  have hr := B.returns
  have hts := atoms_spec (ws := wsX2_greatestPressure) B.pre
  have hown : s.vm.findClass RX2 = some m.cls := findClass_of_methodNamed B.named
  have hlocks := B.notSynchronized
  subst hsz
  have hD := hD0.self (sz := s.heap.size)
  generalize hAe : va_A (fl [wk2 g t_p t_p_has t_has t_p_firstAt t_firstAt t_p_fullAt t_fullAt t_p_pressures t_pressures t_place t_fillTicks t_ticks t_coolTicks t_why]) s.heap.size = A at hD hG ⊢
  have hA : ∀ q : Nat, s.heap.size ≤ q → A q := fun q h => by rw [← hAe]; exact Or.inr h
  have hS : va_S A s.heap s.heap [] := va_S.rf
  have hin2 : ∀ w ∈ u_ws RX2 TX2 9, w ∈ wsX2_greatestPressure := by decide +kernel
  have L1 := hts (Cond.fieldLink RX2 21 "MouldShots$Shot" "pressures" "[I") (by decide +kernel)
  have L2 := hts (Cond.methodLink RX2 70 Lib.Math.max.name) (by decide +kernel)
  have L3 := hts (Cond.static Lib.Math.max.name) (by decide +kernel)
  have L4 := hts (Cond.initialized "java/lang/Math") (by decide +kernel)
  have L5 := hts (Cond.code Lib.Math.max.name Lib.Math.max.code 2 (some .int)) (by decide +kernel)
  have w_4 : ∀ n : Nat, ∀ (v1 : Int32) (v2 : Int32)  (H : Heap) (locs : List Loc) (ls : Array Slot), f2_greatestPressure_4  N n v1 v2 t_pressures = some res → va_P g.1 vwCl (fl [wk2 g t_p t_p_has t_has t_p_firstAt t_firstAt t_p_fullAt t_fullAt t_p_pressures t_pressures t_place t_fillTicks t_ticks t_coolTicks t_why]) H → va_D A (fl [wk2 g t_p t_p_has t_has t_p_firstAt t_firstAt t_p_fullAt t_fullAt t_p_pressures t_pressures t_place t_fillTicks t_ticks t_coolTicks t_why]) → va_S A s.heap H locs → lv_has ls 3 [(0, .ref t_p), (1, .int v1), (2, .int v2)] → W p l e ({ frames := 1, cells := 0, slots := 0, locals := 21 }) s m ([.ref t_p] : List Value).toArray below meth c H locs 0 0 (MQ below (pQi g (fun r => r = res) (fl [wk2 g t_p t_p_has t_has t_p_firstAt t_firstAt t_p_fullAt t_fullAt t_p_pressures t_pressures t_place t_fillTicks t_ticks t_coolTicks t_why]) A) ([.ref t_p] : List Value).toArray s 0 0 A) (F0 m 4 ls []) := by
    intro  n
    induction n with
    | zero => intro v1 v2 H locs ls hf; exact no_some hf
    | succ n ih =>
      intro v1 v2 H locs ls hf hP hD hS hl
      rw [f2_greatestPressure_4] at hf
      refine lv_iload_n hx hb dX2_greatestPressure_4 rfl (lv_at hl 2 rfl) ?_
      refine lv_bipush (v := 60) hx hb dX2_greatestPressure_5 (by decide) ?_
      refine lv_icmp_ge (tgt := 27) hx hb dX2_greatestPressure_7 (by decide) (fun c_1 => ?_) (fun c_1 => ?_)
      · replace hf := (if_pos c_1).symm.trans hf
        refine lv_iload_n hx hb dX2_greatestPressure_27 rfl (lv_at hl 1 rfl) ?_
        replace hf := Option.some.inj hf
        subst hf
        exact W.iret (v := v1) hx hb hr (fun t ht hW => ⟨⟨_, (), rfl, rfl, by show va_P g.1 vwCl _ t.heap; rw [ht]; exact hP⟩, hS.F ht⟩) hS.2.2 dX2_greatestPressure_28 hlocks
      · replace hf := (if_neg c_1).symm.trans hf
        refine lv_iload_n hx hb dX2_greatestPressure_10 rfl (lv_at hl 1 rfl) ?_
        refine lv_aload_n hx hb dX2_greatestPressure_11 rfl (lv_at hl 0 rfl) ?_
        refine va_get (D := g.1) (ci := 2) (v := .ref t_p_pressures) (C := RX2) (T := TX2) (N := 9) hx hb hts hin2 hown hK.1 hP 0 rfl rfl 3 (by decide) L1 (fun _ h9 => h9) rfl dX2_greatestPressure_12 ?_
        refine lv_iload_n hx hb dX2_greatestPressure_15 rfl (lv_at hl 2 rfl) ?_
        obtain ⟨h_2, hf⟩ := if_some hf
        refine va_iald hx hb hK.1 hP 4 0 rfl rfl (ok_in h_2) dX2_greatestPressure_16 ?_
        refine va_mmax hx hb (hml.trans hl.1.symm) hown L2 L3 L4 L5 (Nat.le_of_ble_eq_true rfl) (Nat.le_of_ble_eq_true rfl) (Nat.zero_le _) (Nat.zero_le _) dX2_greatestPressure_17 ?_
        refine lv_istore_n (lv' := [(1, .int (if v1 < (t_pressures (Int32.toNatClampNeg v2)) then t_pressures (Int32.toNatClampNeg v2) else v1)), (0, .ref t_p), (2, .int v2)]) hx hb dX2_greatestPressure_20 rfl hl (by decide) rfl (fun ls hl => ?_)
        refine lv_iinc (v := v2 + 1) (lv' := [(2, .int (v2 + 1)), (1, .int (if v1 < (t_pressures (Int32.toNatClampNeg v2)) then t_pressures (Int32.toNatClampNeg v2) else v1)), (0, .ref t_p)]) hx hb dX2_greatestPressure_21 hl (k := 2) rfl rfl (by decide) rfl (fun ls hl => ?_)
        refine lv_goto (tgt := 4) hx hb dX2_greatestPressure_24 (by decide) ?_
        exact ih (if v1 < (t_pressures (Int32.toNatClampNeg v2)) then t_pressures (Int32.toNatClampNeg v2) else v1) (v2 + 1) H locs ls hf hP hD hS (lv_sub hl [2, 1, 0] rfl)
  have hl := lv_entry ([.ref t_p]) (n := 3) (Nat.le_of_ble_eq_true rfl)
  rw [lg_entry_eq]
  generalize (lg_sl ([.ref t_p]) ++ List.replicate (3 - (lg_sl ([.ref t_p])).length) Slot.unset).toArray = ls at hl ⊢
  replace hl : lv_has ls 3 [(0, .ref t_p)] := hl
  rw [f2_greatestPressure] at hf
  have hgo : ∀ (H : Heap) (locs : List Loc), H = s.heap → locs = [] → va_P g.1 vwCl (fl [wk2 g t_p t_p_has t_has t_p_firstAt t_firstAt t_p_fullAt t_fullAt t_p_pressures t_pressures t_place t_fillTicks t_ticks t_coolTicks t_why]) H → va_S A s.heap H locs → W p l e ({ frames := 1, cells := 0, slots := 0, locals := 21 }) s m ([.ref t_p] : List Value).toArray below meth c H locs 0 0 (MQ below (pQi g (fun r => r = res) (fl [wk2 g t_p t_p_has t_has t_p_firstAt t_firstAt t_p_fullAt t_fullAt t_p_pressures t_pressures t_place t_fillTicks t_ticks t_coolTicks t_why]) A) ([.ref t_p] : List Value).toArray s 0 0 A) (F0 m 0 ls []) := by
    intro H locs hH hL hP hS
    refine lv_iconst (v := 0) hx hb dX2_greatestPressure_0 (by decide) ?_
    refine lv_istore_n (lv' := [(1, .int 0), (0, .ref t_p)]) hx hb dX2_greatestPressure_1 rfl hl (by decide) rfl (fun ls hl => ?_)
    refine lv_iconst (v := 0) hx hb dX2_greatestPressure_2 (by decide) ?_
    refine lv_istore_n (lv' := [(2, .int 0), (1, .int 0), (0, .ref t_p)]) hx hb dX2_greatestPressure_3 rfl hl (by decide) rfl (fun ls hl => ?_)
    exact w_4  N 0 0 H locs ls hf hP hD hS (lv_sub hl [2, 1, 0] rfl)
  exact hgo s.heap [] rfl rfl hP hS
