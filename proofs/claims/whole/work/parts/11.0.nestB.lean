set_option maxHeartbeats 4000000 in
set_option maxRecDepth 100000 in
theorem c2_clear (l : Launch) (g : gG) (t_p : Nat) (t_p_has : Nat) (t_has : (Nat → Int32)) (t_p_firstAt : Nat) (t_firstAt : (Nat → Int32)) (t_p_fullAt : Nat) (t_fullAt : (Nat → Int32)) (t_p_pressures : Nat) (t_pressures : (Nat → Int32)) (t_place : Int32) (t_fillTicks : Int32) (t_ticks : Int32) (t_coolTicks : Int32) (t_why : Int32) (sz : Nat) (N : Nat) (res : ((Nat → Int32) × (Nat → Int32) × (Nat → Int32) × (Nat → Int32) × Int32 × Int32 × Int32)) (hf : f2_clear N t_has t_firstAt t_fullAt t_pressures = some res) : Met l yX2_clear wsX2_clear ({ frames := 0, cells := 0, slots := 0, locals := 0 }) (pP g [.ref t_p] sz (fl [wk2 g t_p t_p_has t_has t_p_firstAt t_firstAt t_p_fullAt t_fullAt t_p_pressures t_pressures t_place t_fillTicks t_ticks t_coolTicks t_why])) (pQv g (fl [wk2 g t_p t_p_has res.1 t_p_firstAt res.2.1 t_p_fullAt res.2.2.1 t_p_pressures res.2.2.2.1 res.2.2.2.2.1 t_fillTicks res.2.2.2.2.2.1 t_coolTicks res.2.2.2.2.2.2]) (va_A (fl [wk2 g t_p t_p_has t_has t_p_firstAt t_firstAt t_p_fullAt t_fullAt t_p_pressures t_pressures t_place t_fillTicks t_ticks t_coolTicks t_why]) sz)) 0 0 (va_A (fl [wk2 g t_p t_p_has t_has t_p_firstAt t_firstAt t_p_fullAt t_fullAt t_p_pressures t_pressures t_place t_fillTicks t_ticks t_coolTicks t_why]) sz) := by
  refine Met.ofW (cc := cX2_clear) (maxL := 2) (ret := none) (by decide) rfl ?_
  intro p e s m args below meth c s₁ B hml hv
  obtain ⟨rfl, hsz, hP, hK, hD0, hG⟩ := hv
  have hx := B.exec
  have hb := B.bytes
  have hr := B.returns
  have hts := atoms_spec (ws := wsX2_clear) B.pre
  have hown : s.vm.findClass RX2 = some m.cls := findClass_of_methodNamed B.named
  have hlocks := B.notSynchronized
  subst hsz
  have hD := hD0.self (sz := s.heap.size)
  generalize hAe : va_A (fl [wk2 g t_p t_p_has t_has t_p_firstAt t_firstAt t_p_fullAt t_fullAt t_p_pressures t_pressures t_place t_fillTicks t_ticks t_coolTicks t_why]) s.heap.size = A at hD hG ⊢
  have hA : ∀ q : Nat, s.heap.size ≤ q → A q := fun q h => by rw [← hAe]; exact Or.inr h
  have hS : va_S A s.heap s.heap [] := va_S.rf
  have hin2 : ∀ w ∈ u_ws RX2 TX2 9, w ∈ wsX2_clear := by decide +kernel
  have L1 := hts (Cond.fieldLink RX2 9 "MouldShots$Shot" "has" "[I") (by decide +kernel)
  have L2 := hts (Cond.fieldLink RX2 15 "MouldShots$Shot" "firstAt" "[I") (by decide +kernel)
  have L3 := hts (Cond.fieldLink RX2 18 "MouldShots$Shot" "fullAt" "[I") (by decide +kernel)
  have L4 := hts (Cond.fieldLink RX2 24 "MouldShots$Shot" "place" "I") (by decide +kernel)
  have L5 := hts (Cond.fieldLink RX2 31 "MouldShots$Shot" "ticks" "I") (by decide +kernel)
  have L6 := hts (Cond.fieldLink RX2 37 "MouldShots$Shot" "why" "I") (by decide +kernel)
  have L7 := hts (Cond.fieldLink RX2 21 "MouldShots$Shot" "pressures" "[I") (by decide +kernel)
  have w_37 : ∀ n : Nat, ∀ (v1 : Int32) (t_has : (Nat → Int32)) (t_firstAt : (Nat → Int32)) (t_fullAt : (Nat → Int32)) (t_pressures : (Nat → Int32)) (t_place : Int32) (t_ticks : Int32) (t_why : Int32) (H : Heap) (locs : List Loc) (ls : Array Slot), f2_clear_37  N n v1 t_has t_firstAt t_fullAt t_pressures = some res → va_P g.1 vwCl (fl [wk2 g t_p t_p_has t_has t_p_firstAt t_firstAt t_p_fullAt t_fullAt t_p_pressures t_pressures t_place t_fillTicks t_ticks t_coolTicks t_why]) H → va_D A (fl [wk2 g t_p t_p_has t_has t_p_firstAt t_firstAt t_p_fullAt t_fullAt t_p_pressures t_pressures t_place t_fillTicks t_ticks t_coolTicks t_why]) → va_S A s.heap H locs → lv_has ls 2 [(0, .ref t_p), (1, .int v1)] → W p l e ({ frames := 0, cells := 0, slots := 0, locals := 0 }) s m ([.ref t_p] : List Value).toArray below meth c H locs 0 0 (MQ below (pQv g (fl [wk2 g t_p t_p_has res.1 t_p_firstAt res.2.1 t_p_fullAt res.2.2.1 t_p_pressures res.2.2.2.1 res.2.2.2.2.1 t_fillTicks res.2.2.2.2.2.1 t_coolTicks res.2.2.2.2.2.2]) A) ([.ref t_p] : List Value).toArray s 0 0 A) (F0 m 37 ls []) := by
    intro  n
    induction n with
    | zero => intro v1 t_has t_firstAt t_fullAt t_pressures t_place t_ticks t_why H locs ls hf; exact no_some hf
    | succ n ih =>
      intro v1 t_has t_firstAt t_fullAt t_pressures t_place t_ticks t_why H locs ls hf hP hD hS hl
      rw [f2_clear_37] at hf
      refine lv_iload_n hx hb dX2_clear_37 rfl (lv_at hl 1 rfl) ?_
      refine lv_bipush (v := 60) hx hb dX2_clear_38 (by decide) ?_
      refine lv_icmp_ge (tgt := 56) hx hb dX2_clear_40 (by decide) (fun c_5 => ?_) (fun c_5 => ?_)
      · replace hf := (if_pos c_5).symm.trans hf
        refine lv_aload_n hx hb dX2_clear_56 rfl (lv_at hl 0 rfl) ?_
        refine lv_iconst (v := 0) hx hb dX2_clear_57 (by decide) ?_
        refine va_put (D := g.1) (ci := 2) (v := .int 0) (ty := .int) (C := RX2) (T := TX2) (N := 9) hx hb hts hin2 tyX2 tyX2_ok nmX2 hown hK.1 hP hD hS 0 rfl rfl 4 (by decide) L4 (fun _ h9 => h9) rfl (by decide +kernel) rfl rfl (Nat.le_of_ble_eq_true rfl) dX2_clear_58 (fun H locs hP hD hS => ?_)
        replace hP : va_P g.1 vwCl (fl [wk2 g t_p t_p_has t_has t_p_firstAt t_firstAt t_p_fullAt t_fullAt t_p_pressures t_pressures 0 t_fillTicks t_ticks t_coolTicks t_why]) H := hP
        replace hD : va_D A (fl [wk2 g t_p t_p_has t_has t_p_firstAt t_firstAt t_p_fullAt t_fullAt t_p_pressures t_pressures 0 t_fillTicks t_ticks t_coolTicks t_why]) := hD
        refine lv_aload_n hx hb dX2_clear_61 rfl (lv_at hl 0 rfl) ?_
        refine lv_iconst (v := 0) hx hb dX2_clear_62 (by decide) ?_
        refine va_put (D := g.1) (ci := 2) (v := .int 0) (ty := .int) (C := RX2) (T := TX2) (N := 9) hx hb hts hin2 tyX2 tyX2_ok nmX2 hown hK.1 hP hD hS 0 rfl rfl 6 (by decide) L5 (fun _ h9 => h9) rfl (by decide +kernel) rfl rfl (Nat.le_of_ble_eq_true rfl) dX2_clear_63 (fun H locs hP hD hS => ?_)
        replace hP : va_P g.1 vwCl (fl [wk2 g t_p t_p_has t_has t_p_firstAt t_firstAt t_p_fullAt t_fullAt t_p_pressures t_pressures 0 t_fillTicks 0 t_coolTicks t_why]) H := hP
        replace hD : va_D A (fl [wk2 g t_p t_p_has t_has t_p_firstAt t_firstAt t_p_fullAt t_fullAt t_p_pressures t_pressures 0 t_fillTicks 0 t_coolTicks t_why]) := hD
        refine lv_aload_n hx hb dX2_clear_66 rfl (lv_at hl 0 rfl) ?_
        refine lv_bipush (v := (-4)) hx hb dX2_clear_67 (by decide) ?_
        refine va_put (D := g.1) (ci := 2) (v := .int (-4)) (ty := .int) (C := RX2) (T := TX2) (N := 9) hx hb hts hin2 tyX2 tyX2_ok nmX2 hown hK.1 hP hD hS 0 rfl rfl 8 (by decide) L6 (fun _ h9 => h9) rfl (by decide +kernel) rfl rfl (Nat.le_of_ble_eq_true rfl) dX2_clear_69 (fun H locs hP hD hS => ?_)
        replace hP : va_P g.1 vwCl (fl [wk2 g t_p t_p_has t_has t_p_firstAt t_firstAt t_p_fullAt t_fullAt t_p_pressures t_pressures 0 t_fillTicks 0 t_coolTicks (-4)]) H := hP
        replace hD : va_D A (fl [wk2 g t_p t_p_has t_has t_p_firstAt t_firstAt t_p_fullAt t_fullAt t_p_pressures t_pressures 0 t_fillTicks 0 t_coolTicks (-4)]) := hD
        replace hf := Option.some.inj hf
        subst hf
        exact W.vret hx hb hr (fun t ht hW => ⟨⟨(), rfl, trivial, by show va_P g.1 vwCl _ t.heap; rw [ht]; exact hP⟩, hS.F ht⟩) hS.2.2 dX2_clear_72 hlocks
      · replace hf := (if_neg c_5).symm.trans hf
        refine lv_aload_n hx hb dX2_clear_43 rfl (lv_at hl 0 rfl) ?_
        refine va_get (D := g.1) (ci := 2) (v := .ref t_p_pressures) (C := RX2) (T := TX2) (N := 9) hx hb hts hin2 hown hK.1 hP 0 rfl rfl 3 (by decide) L7 (fun _ h9 => h9) rfl dX2_clear_44 ?_
        refine lv_iload_n hx hb dX2_clear_47 rfl (lv_at hl 1 rfl) ?_
        refine lv_iconst (v := 0) hx hb dX2_clear_48 (by decide) ?_
        obtain ⟨h_6, hf⟩ := if_some hf
        refine va_iast hx hb hK.1 hP hD hS 4 0 rfl rfl (ok_in h_6) dX2_clear_49 (fun H locs hP hD hS => ?_)
        replace hP : va_P g.1 vwCl (fl [wk2 g t_p t_p_has t_has t_p_firstAt t_firstAt t_p_fullAt t_fullAt t_p_pressures (upd t_pressures (Int32.toNatClampNeg v1) 0) t_place t_fillTicks t_ticks t_coolTicks t_why]) H := hP
        replace hD : va_D A (fl [wk2 g t_p t_p_has t_has t_p_firstAt t_firstAt t_p_fullAt t_fullAt t_p_pressures (upd t_pressures (Int32.toNatClampNeg v1) 0) t_place t_fillTicks t_ticks t_coolTicks t_why]) := hD
        refine lv_iinc (v := v1 + 1) (lv' := [(1, .int (v1 + 1)), (0, .ref t_p)]) hx hb dX2_clear_50 hl (k := 1) rfl rfl (by decide) rfl (fun ls hl => ?_)
        refine lv_goto (tgt := 37) hx hb dX2_clear_53 (by decide) ?_
        exact ih (v1 + 1) t_has t_firstAt t_fullAt (upd t_pressures (Int32.toNatClampNeg v1) 0) t_place t_ticks t_why H locs ls hf hP hD hS (lv_sub hl [1, 0] rfl)
  have w_2 : ∀ n : Nat, ∀ (v1 : Int32) (t_has : (Nat → Int32)) (t_firstAt : (Nat → Int32)) (t_fullAt : (Nat → Int32)) (t_pressures : (Nat → Int32)) (t_place : Int32) (t_ticks : Int32) (t_why : Int32) (H : Heap) (locs : List Loc) (ls : Array Slot), f2_clear_2  N n v1 t_has t_firstAt t_fullAt t_pressures = some res → va_P g.1 vwCl (fl [wk2 g t_p t_p_has t_has t_p_firstAt t_firstAt t_p_fullAt t_fullAt t_p_pressures t_pressures t_place t_fillTicks t_ticks t_coolTicks t_why]) H → va_D A (fl [wk2 g t_p t_p_has t_has t_p_firstAt t_firstAt t_p_fullAt t_fullAt t_p_pressures t_pressures t_place t_fillTicks t_ticks t_coolTicks t_why]) → va_S A s.heap H locs → lv_has ls 2 [(0, .ref t_p), (1, .int v1)] → W p l e ({ frames := 0, cells := 0, slots := 0, locals := 0 }) s m ([.ref t_p] : List Value).toArray below meth c H locs 0 0 (MQ below (pQv g (fl [wk2 g t_p t_p_has res.1 t_p_firstAt res.2.1 t_p_fullAt res.2.2.1 t_p_pressures res.2.2.2.1 res.2.2.2.2.1 t_fillTicks res.2.2.2.2.2.1 t_coolTicks res.2.2.2.2.2.2]) A) ([.ref t_p] : List Value).toArray s 0 0 A) (F0 m 2 ls []) := by
    intro  n
    induction n with
    | zero => intro v1 t_has t_firstAt t_fullAt t_pressures t_place t_ticks t_why H locs ls hf; exact no_some hf
    | succ n ih =>
      intro v1 t_has t_firstAt t_fullAt t_pressures t_place t_ticks t_why H locs ls hf hP hD hS hl
      rw [f2_clear_2] at hf
      refine lv_iload_n hx hb dX2_clear_2 rfl (lv_at hl 1 rfl) ?_
      refine lv_bipush (v := 6) hx hb dX2_clear_3 (by decide) ?_
      refine lv_icmp_ge (tgt := 35) hx hb dX2_clear_5 (by decide) (fun c_1 => ?_) (fun c_1 => ?_)
      · replace hf := (if_pos c_1).symm.trans hf
        refine lv_iconst (v := 0) hx hb dX2_clear_35 (by decide) ?_
        refine lv_istore_n (lv' := [(1, .int 0), (0, .ref t_p)]) hx hb dX2_clear_36 rfl hl (by decide) rfl (fun ls hl => ?_)
        exact w_37  N 0 t_has t_firstAt t_fullAt t_pressures t_place t_ticks t_why H locs ls hf hP hD hS (lv_sub hl [1, 0] rfl)
      · replace hf := (if_neg c_1).symm.trans hf
        refine lv_aload_n hx hb dX2_clear_8 rfl (lv_at hl 0 rfl) ?_
        refine va_get (D := g.1) (ci := 2) (v := .ref t_p_has) (C := RX2) (T := TX2) (N := 9) hx hb hts hin2 hown hK.1 hP 0 rfl rfl 0 (by decide) L1 (fun _ h9 => h9) rfl dX2_clear_9 ?_
        refine lv_iload_n hx hb dX2_clear_12 rfl (lv_at hl 1 rfl) ?_
        refine lv_iconst (v := 0) hx hb dX2_clear_13 (by decide) ?_
        obtain ⟨h_2, hf⟩ := if_some hf
        refine va_iast hx hb hK.1 hP hD hS 1 0 rfl rfl (ok_in h_2) dX2_clear_14 (fun H locs hP hD hS => ?_)
        replace hP : va_P g.1 vwCl (fl [wk2 g t_p t_p_has (upd t_has (Int32.toNatClampNeg v1) 0) t_p_firstAt t_firstAt t_p_fullAt t_fullAt t_p_pressures t_pressures t_place t_fillTicks t_ticks t_coolTicks t_why]) H := hP
        replace hD : va_D A (fl [wk2 g t_p t_p_has (upd t_has (Int32.toNatClampNeg v1) 0) t_p_firstAt t_firstAt t_p_fullAt t_fullAt t_p_pressures t_pressures t_place t_fillTicks t_ticks t_coolTicks t_why]) := hD
        refine lv_aload_n hx hb dX2_clear_15 rfl (lv_at hl 0 rfl) ?_
        refine va_get (D := g.1) (ci := 2) (v := .ref t_p_firstAt) (C := RX2) (T := TX2) (N := 9) hx hb hts hin2 hown hK.1 hP 0 rfl rfl 1 (by decide) L2 (fun _ h9 => h9) rfl dX2_clear_16 ?_
        refine lv_iload_n hx hb dX2_clear_19 rfl (lv_at hl 1 rfl) ?_
        refine lv_iconst (v := 0) hx hb dX2_clear_20 (by decide) ?_
        obtain ⟨h_3, hf⟩ := if_some hf
        refine va_iast hx hb hK.1 hP hD hS 2 0 rfl rfl (ok_in h_3) dX2_clear_21 (fun H locs hP hD hS => ?_)
        replace hP : va_P g.1 vwCl (fl [wk2 g t_p t_p_has (upd t_has (Int32.toNatClampNeg v1) 0) t_p_firstAt (upd t_firstAt (Int32.toNatClampNeg v1) 0) t_p_fullAt t_fullAt t_p_pressures t_pressures t_place t_fillTicks t_ticks t_coolTicks t_why]) H := hP
        replace hD : va_D A (fl [wk2 g t_p t_p_has (upd t_has (Int32.toNatClampNeg v1) 0) t_p_firstAt (upd t_firstAt (Int32.toNatClampNeg v1) 0) t_p_fullAt t_fullAt t_p_pressures t_pressures t_place t_fillTicks t_ticks t_coolTicks t_why]) := hD
        refine lv_aload_n hx hb dX2_clear_22 rfl (lv_at hl 0 rfl) ?_
        refine va_get (D := g.1) (ci := 2) (v := .ref t_p_fullAt) (C := RX2) (T := TX2) (N := 9) hx hb hts hin2 hown hK.1 hP 0 rfl rfl 2 (by decide) L3 (fun _ h9 => h9) rfl dX2_clear_23 ?_
        refine lv_iload_n hx hb dX2_clear_26 rfl (lv_at hl 1 rfl) ?_
        refine lv_iconst (v := 0) hx hb dX2_clear_27 (by decide) ?_
        obtain ⟨h_4, hf⟩ := if_some hf
        refine va_iast hx hb hK.1 hP hD hS 3 0 rfl rfl (ok_in h_4) dX2_clear_28 (fun H locs hP hD hS => ?_)
        replace hP : va_P g.1 vwCl (fl [wk2 g t_p t_p_has (upd t_has (Int32.toNatClampNeg v1) 0) t_p_firstAt (upd t_firstAt (Int32.toNatClampNeg v1) 0) t_p_fullAt (upd t_fullAt (Int32.toNatClampNeg v1) 0) t_p_pressures t_pressures t_place t_fillTicks t_ticks t_coolTicks t_why]) H := hP
        replace hD : va_D A (fl [wk2 g t_p t_p_has (upd t_has (Int32.toNatClampNeg v1) 0) t_p_firstAt (upd t_firstAt (Int32.toNatClampNeg v1) 0) t_p_fullAt (upd t_fullAt (Int32.toNatClampNeg v1) 0) t_p_pressures t_pressures t_place t_fillTicks t_ticks t_coolTicks t_why]) := hD
        refine lv_iinc (v := v1 + 1) (lv' := [(1, .int (v1 + 1)), (0, .ref t_p)]) hx hb dX2_clear_29 hl (k := 1) rfl rfl (by decide) rfl (fun ls hl => ?_)
        refine lv_goto (tgt := 2) hx hb dX2_clear_32 (by decide) ?_
        exact ih (v1 + 1) (upd t_has (Int32.toNatClampNeg v1) 0) (upd t_firstAt (Int32.toNatClampNeg v1) 0) (upd t_fullAt (Int32.toNatClampNeg v1) 0) t_pressures t_place t_ticks t_why H locs ls hf hP hD hS (lv_sub hl [1, 0] rfl)
  have hl := lv_entry ([.ref t_p]) (n := 2) (Nat.le_of_ble_eq_true rfl)
  rw [lg_entry_eq]
  generalize (lg_sl ([.ref t_p]) ++ List.replicate (2 - (lg_sl ([.ref t_p])).length) Slot.unset).toArray = ls at hl ⊢
  replace hl : lv_has ls 2 [(0, .ref t_p)] := hl
  rw [f2_clear] at hf
  have hgo : ∀ (H : Heap) (locs : List Loc), H = s.heap → locs = [] → va_P g.1 vwCl (fl [wk2 g t_p t_p_has t_has t_p_firstAt t_firstAt t_p_fullAt t_fullAt t_p_pressures t_pressures t_place t_fillTicks t_ticks t_coolTicks t_why]) H → va_S A s.heap H locs → W p l e ({ frames := 0, cells := 0, slots := 0, locals := 0 }) s m ([.ref t_p] : List Value).toArray below meth c H locs 0 0 (MQ below (pQv g (fl [wk2 g t_p t_p_has res.1 t_p_firstAt res.2.1 t_p_fullAt res.2.2.1 t_p_pressures res.2.2.2.1 res.2.2.2.2.1 t_fillTicks res.2.2.2.2.2.1 t_coolTicks res.2.2.2.2.2.2]) A) ([.ref t_p] : List Value).toArray s 0 0 A) (F0 m 0 ls []) := by
    intro H locs hH hL hP hS
    refine lv_iconst (v := 0) hx hb dX2_clear_0 (by decide) ?_
    refine lv_istore_n (lv' := [(1, .int 0), (0, .ref t_p)]) hx hb dX2_clear_1 rfl hl (by decide) rfl (fun ls hl => ?_)
    exact w_2  N 0 t_has t_firstAt t_fullAt t_pressures t_place t_ticks t_why H locs ls hf hP hD hS (lv_sub hl [1, 0] rfl)
  exact hgo s.heap [] rfl rfl hP hS

set_option maxHeartbeats 4000000 in
set_option maxRecDepth 100000 in
theorem c2_speedHere (l : Launch) (g : gG) (t_p : Nat) (t_p_has : Nat) (t_has : (Nat → Int32)) (t_p_firstAt : Nat) (t_firstAt : (Nat → Int32)) (t_p_fullAt : Nat) (t_fullAt : (Nat → Int32)) (t_p_pressures : Nat) (t_pressures : (Nat → Int32)) (t_place : Int32) (t_fillTicks : Int32) (t_ticks : Int32) (t_coolTicks : Int32) (t_why : Int32) (o1_p : Nat) (o1_cavities : Int32) (o1_p_volumes : Nat) (o1_volumes : (Nat → Int32)) (o1_p_drags : Nat) (o1_drags : (Nat → Int32)) (o1_p_freezes : Nat) (o1_freezes : (Nat → Int32)) (o1_cores : Int32) (o1_p_ahead : Nat) (o1_ahead : (Nat → Int32)) (o1_stages : Int32) (o1_p_places : Nat) (o1_places : (Nat → Int32)) (o1_p_speeds : Nat) (o1_speeds : (Nat → Int32)) (o1_p_settings : Nat) (o1_settings : (Nat → Int32)) (o2_p : Nat) (o2_p_drags : Nat) (o2_drags : (Nat → Int32)) (o2_p_speeds : Nat) (o2_speeds : (Nat → Int32)) (o2_p_settings : Nat) (o2_settings : (Nat → Int32)) (o2_shut : Int32) (o2_coresIn : Int32) (o2_loaded : Int32) (o2_hot : Int32) (o2_made : Int32) (o2_width : Int32) (o2_p_taught : Nat) (l3 : Int32) (sz : Nat) (N : Nat) (res : (Int32)) (hf : f2_speedHere N l3 t_place o1_stages o1_places o2_speeds = some res) : Met l yX2_speedHere wsX2_speedHere ({ frames := 1, cells := 0, slots := 0, locals := 21 }) (pP g [.ref t_p, .ref o1_p, .ref o2_p, .int l3] sz (fl [wk2 g t_p t_p_has t_has t_p_firstAt t_firstAt t_p_fullAt t_fullAt t_p_pressures t_pressures t_place t_fillTicks t_ticks t_coolTicks t_why, wk1 g o1_p o1_cavities o1_p_volumes o1_volumes o1_p_drags o1_drags o1_p_freezes o1_freezes o1_cores o1_p_ahead o1_ahead o1_stages o1_p_places o1_places o1_p_speeds o1_speeds o1_p_settings o1_settings, wk3 g o2_p o2_p_drags o2_drags o2_p_speeds o2_speeds o2_p_settings o2_settings o2_shut o2_coresIn o2_loaded o2_hot o2_made o2_width o2_p_taught])) (pQi g (fun r => r = res) (fl [wk2 g t_p t_p_has t_has t_p_firstAt t_firstAt t_p_fullAt t_fullAt t_p_pressures t_pressures t_place t_fillTicks t_ticks t_coolTicks t_why, wk1 g o1_p o1_cavities o1_p_volumes o1_volumes o1_p_drags o1_drags o1_p_freezes o1_freezes o1_cores o1_p_ahead o1_ahead o1_stages o1_p_places o1_places o1_p_speeds o1_speeds o1_p_settings o1_settings, wk3 g o2_p o2_p_drags o2_drags o2_p_speeds o2_speeds o2_p_settings o2_settings o2_shut o2_coresIn o2_loaded o2_hot o2_made o2_width o2_p_taught]) (va_A (fl [wk2 g t_p t_p_has t_has t_p_firstAt t_firstAt t_p_fullAt t_fullAt t_p_pressures t_pressures t_place t_fillTicks t_ticks t_coolTicks t_why, wk1 g o1_p o1_cavities o1_p_volumes o1_volumes o1_p_drags o1_drags o1_p_freezes o1_freezes o1_cores o1_p_ahead o1_ahead o1_stages o1_p_places o1_places o1_p_speeds o1_speeds o1_p_settings o1_settings, wk3 g o2_p o2_p_drags o2_drags o2_p_speeds o2_speeds o2_p_settings o2_settings o2_shut o2_coresIn o2_loaded o2_hot o2_made o2_width o2_p_taught]) sz)) 0 0 (va_A (fl [wk2 g t_p t_p_has t_has t_p_firstAt t_firstAt t_p_fullAt t_fullAt t_p_pressures t_pressures t_place t_fillTicks t_ticks t_coolTicks t_why, wk1 g o1_p o1_cavities o1_p_volumes o1_volumes o1_p_drags o1_drags o1_p_freezes o1_freezes o1_cores o1_p_ahead o1_ahead o1_stages o1_p_places o1_places o1_p_speeds o1_speeds o1_p_settings o1_settings, wk3 g o2_p o2_p_drags o2_drags o2_p_speeds o2_speeds o2_p_settings o2_settings o2_shut o2_coresIn o2_loaded o2_hot o2_made o2_width o2_p_taught]) sz) := by
  refine Met.ofW (cc := cX2_speedHere) (maxL := 6) (ret := (some .int)) (by decide) rfl ?_
  intro p e s m args below meth c s₁ B hml hv
  obtain ⟨rfl, hsz, hP, hK, hD0, hG⟩ := hv
  have hx := B.exec
  have hb := B.bytes
  have hr := B.returns
  have hts := atoms_spec (ws := wsX2_speedHere) B.pre
  have hown : s.vm.findClass RX2 = some m.cls := findClass_of_methodNamed B.named
  have hlocks := B.notSynchronized
  subst hsz
  have hD := hD0.self (sz := s.heap.size)
  generalize hAe : va_A (fl [wk2 g t_p t_p_has t_has t_p_firstAt t_firstAt t_p_fullAt t_fullAt t_p_pressures t_pressures t_place t_fillTicks t_ticks t_coolTicks t_why, wk1 g o1_p o1_cavities o1_p_volumes o1_volumes o1_p_drags o1_drags o1_p_freezes o1_freezes o1_cores o1_p_ahead o1_ahead o1_stages o1_p_places o1_places o1_p_speeds o1_speeds o1_p_settings o1_settings, wk3 g o2_p o2_p_drags o2_drags o2_p_speeds o2_speeds o2_p_settings o2_settings o2_shut o2_coresIn o2_loaded o2_hot o2_made o2_width o2_p_taught]) s.heap.size = A at hD hG ⊢
  have hA : ∀ q : Nat, s.heap.size ≤ q → A q := fun q h => by rw [← hAe]; exact Or.inr h
  have hS : va_S A s.heap s.heap [] := va_S.rf
  have hin1 : ∀ w ∈ u_ws RX1 TX1 10, w ∈ wsX2_speedHere := by decide +kernel
  have hin2 : ∀ w ∈ u_ws RX2 TX2 9, w ∈ wsX2_speedHere := by decide +kernel
  have hin3 : ∀ w ∈ u_ws RX3 TX3 10, w ∈ wsX2_speedHere := by decide +kernel
  have L1 := hts (Cond.methodLink RX2 60 Lib.Math.min.name) (by decide +kernel)
  have L2 := hts (Cond.static Lib.Math.min.name) (by decide +kernel)
  have L3 := hts (Cond.initialized "java/lang/Math") (by decide +kernel)
  have L4 := hts (Cond.code Lib.Math.min.name Lib.Math.min.code 2 (some .int)) (by decide +kernel)
  have L5 := hts (Cond.methodLink RX2 70 Lib.Math.max.name) (by decide +kernel)
  have L6 := hts (Cond.static Lib.Math.max.name) (by decide +kernel)
  have L7 := hts (Cond.initialized "java/lang/Math") (by decide +kernel)
  have L8 := hts (Cond.code Lib.Math.max.name Lib.Math.max.code 2 (some .int)) (by decide +kernel)
  have L9 := hts (Cond.fieldLink RX2 24 "MouldShots$Shot" "place" "I") (by decide +kernel)
  have w_6 : ∀ n : Nat, ∀ (v3 : Int32) (v4 : Int32) (v5 : Int32)  (H : Heap) (locs : List Loc) (ls : Array Slot), f2_speedHere_6  N n v3 v4 v5 t_place o1_stages o1_places o2_speeds = some res → va_P g.1 vwCl (fl [wk2 g t_p t_p_has t_has t_p_firstAt t_firstAt t_p_fullAt t_fullAt t_p_pressures t_pressures t_place t_fillTicks t_ticks t_coolTicks t_why, wk1 g o1_p o1_cavities o1_p_volumes o1_volumes o1_p_drags o1_drags o1_p_freezes o1_freezes o1_cores o1_p_ahead o1_ahead o1_stages o1_p_places o1_places o1_p_speeds o1_speeds o1_p_settings o1_settings, wk3 g o2_p o2_p_drags o2_drags o2_p_speeds o2_speeds o2_p_settings o2_settings o2_shut o2_coresIn o2_loaded o2_hot o2_made o2_width o2_p_taught]) H → va_D A (fl [wk2 g t_p t_p_has t_has t_p_firstAt t_firstAt t_p_fullAt t_fullAt t_p_pressures t_pressures t_place t_fillTicks t_ticks t_coolTicks t_why, wk1 g o1_p o1_cavities o1_p_volumes o1_volumes o1_p_drags o1_drags o1_p_freezes o1_freezes o1_cores o1_p_ahead o1_ahead o1_stages o1_p_places o1_places o1_p_speeds o1_speeds o1_p_settings o1_settings, wk3 g o2_p o2_p_drags o2_drags o2_p_speeds o2_speeds o2_p_settings o2_settings o2_shut o2_coresIn o2_loaded o2_hot o2_made o2_width o2_p_taught]) → va_S A s.heap H locs → lv_has ls 6 [(0, .ref t_p), (1, .ref o1_p), (2, .ref o2_p), (3, .int v3), (4, .int v4), (5, .int v5)] → W p l e ({ frames := 1, cells := 0, slots := 0, locals := 21 }) s m ([.ref t_p, .ref o1_p, .ref o2_p, .int l3] : List Value).toArray below meth c H locs 0 0 (MQ below (pQi g (fun r => r = res) (fl [wk2 g t_p t_p_has t_has t_p_firstAt t_firstAt t_p_fullAt t_fullAt t_p_pressures t_pressures t_place t_fillTicks t_ticks t_coolTicks t_why, wk1 g o1_p o1_cavities o1_p_volumes o1_volumes o1_p_drags o1_drags o1_p_freezes o1_freezes o1_cores o1_p_ahead o1_ahead o1_stages o1_p_places o1_places o1_p_speeds o1_speeds o1_p_settings o1_settings, wk3 g o2_p o2_p_drags o2_drags o2_p_speeds o2_speeds o2_p_settings o2_settings o2_shut o2_coresIn o2_loaded o2_hot o2_made o2_width o2_p_taught]) A) ([.ref t_p, .ref o1_p, .ref o2_p, .int l3] : List Value).toArray s 0 0 A) (F0 m 6 ls []) := by
    intro  n
    induction n with
    | zero => intro v3 v4 v5 H locs ls hf; exact no_some hf
    | succ n ih =>
      intro v3 v4 v5 H locs ls hf hP hD hS hl
      rw [f2_speedHere_6] at hf
      refine lv_iload hx hb dX2_speedHere_6 (lv_at hl 5 rfl) ?_
      refine lv_aload_n hx hb dX2_speedHere_8 rfl (lv_at hl 1 rfl) ?_
      refine va_getN (D := g.1) (ci := 1) (v := .int o1_stages) (C := RX1) (T := TX1) (N := 10) hx hb hts hin1 hown hK.1 hP 5 rfl rfl 6 (by decide) (hK.use _ 35 rfl) (fun _ h9 => h9) rfl dX2_speedHere_9 ?_
      refine lv_icmp_ge (tgt := 39) hx hb dX2_speedHere_12 (by decide) (fun c_1 => ?_) (fun c_1 => ?_)
      · replace hf := (if_pos c_1).symm.trans hf
        refine lv_iconst (v := 1) hx hb dX2_speedHere_39 (by decide) ?_
        refine lv_bipush (v := 9) hx hb dX2_speedHere_40 (by decide) ?_
        refine lv_aload_n hx hb dX2_speedHere_42 rfl (lv_at hl 2 rfl) ?_
        refine va_getN (D := g.1) (ci := 3) (v := .ref o2_p_speeds) (C := RX3) (T := TX3) (N := 10) hx hb hts hin3 hown hK.1 hP 13 rfl rfl 1 (by decide) (hK.use _ 37 rfl) (fun _ h9 => h9) rfl dX2_speedHere_43 ?_
        refine lv_iload hx hb dX2_speedHere_46 (lv_at hl 4 rfl) ?_
        obtain ⟨h_2, hf⟩ := if_some hf
        refine va_iald hx hb hK.1 hP 15 0 rfl rfl (ok_in h_2) dX2_speedHere_48 ?_
        refine lv_iload_n hx hb dX2_speedHere_49 rfl (lv_at hl 3 rfl) ?_
        refine lv_iadd hx hb dX2_speedHere_50 ?_
        refine va_mmin hx hb (hml.trans hl.1.symm) hown L1 L2 L3 L4 (Nat.le_of_ble_eq_true rfl) (Nat.le_of_ble_eq_true rfl) (Nat.zero_le _) (Nat.zero_le _) dX2_speedHere_51 ?_
        refine va_mmax hx hb (hml.trans hl.1.symm) hown L5 L6 L7 L8 (Nat.le_of_ble_eq_true rfl) (Nat.le_of_ble_eq_true rfl) (Nat.zero_le _) (Nat.zero_le _) dX2_speedHere_54 ?_
        replace hf := Option.some.inj hf
        subst hf
        exact W.iret (v := if 1 < (if ((o2_speeds (Int32.toNatClampNeg v4)) + v3) < 9 then (o2_speeds (Int32.toNatClampNeg v4)) + v3 else 9) then if ((o2_speeds (Int32.toNatClampNeg v4)) + v3) < 9 then (o2_speeds (Int32.toNatClampNeg v4)) + v3 else 9 else 1) hx hb hr (fun t ht hW => ⟨⟨_, (), rfl, rfl, by show va_P g.1 vwCl _ t.heap; rw [ht]; exact hP⟩, hS.F ht⟩) hS.2.2 dX2_speedHere_57 hlocks
      · replace hf := (if_neg c_1).symm.trans hf
        refine lv_aload_n hx hb dX2_speedHere_15 rfl (lv_at hl 1 rfl) ?_
        refine va_getN (D := g.1) (ci := 1) (v := .ref o1_p_places) (C := RX1) (T := TX1) (N := 10) hx hb hts hin1 hown hK.1 hP 5 rfl rfl 7 (by decide) (hK.use _ 36 rfl) (fun _ h9 => h9) rfl dX2_speedHere_16 ?_
        refine lv_iload hx hb dX2_speedHere_19 (lv_at hl 5 rfl) ?_
        obtain ⟨h_3, hf⟩ := if_some hf
        refine va_iald hx hb hK.1 hP 10 0 rfl rfl (ok_in h_3) dX2_speedHere_21 ?_
        refine lv_aload_n hx hb dX2_speedHere_22 rfl (lv_at hl 0 rfl) ?_
        refine va_get (D := g.1) (ci := 2) (v := .int t_place) (C := RX2) (T := TX2) (N := 9) hx hb hts hin2 hown hK.1 hP 0 rfl rfl 4 (by decide) L9 (fun _ h9 => h9) rfl dX2_speedHere_23 ?_
        refine lv_icmp_gt (tgt := 33) hx hb dX2_speedHere_26 (by decide) (fun c_4 => ?_) (fun c_4 => ?_)
        · replace hf := (if_pos c_4).symm.trans hf
          refine lv_iinc (v := v5 + 1) (lv' := [(5, .int (v5 + 1)), (0, .ref t_p), (1, .ref o1_p), (2, .ref o2_p), (3, .int v3), (4, .int v4)]) hx hb dX2_speedHere_33 hl (k := 5) rfl rfl (by decide) rfl (fun ls hl => ?_)
          refine lv_goto (tgt := 6) hx hb dX2_speedHere_36 (by decide) ?_
          exact ih v3 v4 (v5 + 1) H locs ls hf hP hD hS (lv_sub hl [1, 2, 3, 4, 5, 0] rfl)
        · replace hf := (if_neg c_4).symm.trans hf
          refine lv_iload hx hb dX2_speedHere_29 (lv_at hl 5 rfl) ?_
          refine lv_istore (lv' := [(4, .int v5), (0, .ref t_p), (1, .ref o1_p), (2, .ref o2_p), (3, .int v3), (5, .int v5)]) hx hb dX2_speedHere_31 hl (by decide) rfl (fun ls hl => ?_)
          refine lv_iinc (v := v5 + 1) (lv' := [(5, .int (v5 + 1)), (4, .int v5), (0, .ref t_p), (1, .ref o1_p), (2, .ref o2_p), (3, .int v3)]) hx hb dX2_speedHere_33 hl (k := 5) rfl rfl (by decide) rfl (fun ls hl => ?_)
          refine lv_goto (tgt := 6) hx hb dX2_speedHere_36 (by decide) ?_
          exact ih v3 v5 (v5 + 1) H locs ls hf hP hD hS (lv_sub hl [2, 3, 4, 5, 1, 0] rfl)
  have hl := lv_entry ([.ref t_p, .ref o1_p, .ref o2_p, .int l3]) (n := 6) (Nat.le_of_ble_eq_true rfl)
  rw [lg_entry_eq]
  generalize (lg_sl ([.ref t_p, .ref o1_p, .ref o2_p, .int l3]) ++ List.replicate (6 - (lg_sl ([.ref t_p, .ref o1_p, .ref o2_p, .int l3])).length) Slot.unset).toArray = ls at hl ⊢
  replace hl : lv_has ls 6 [(0, .ref t_p), (1, .ref o1_p), (2, .ref o2_p), (3, .int l3)] := hl
  rw [f2_speedHere] at hf
  have hgo : ∀ (H : Heap) (locs : List Loc), H = s.heap → locs = [] → va_P g.1 vwCl (fl [wk2 g t_p t_p_has t_has t_p_firstAt t_firstAt t_p_fullAt t_fullAt t_p_pressures t_pressures t_place t_fillTicks t_ticks t_coolTicks t_why, wk1 g o1_p o1_cavities o1_p_volumes o1_volumes o1_p_drags o1_drags o1_p_freezes o1_freezes o1_cores o1_p_ahead o1_ahead o1_stages o1_p_places o1_places o1_p_speeds o1_speeds o1_p_settings o1_settings, wk3 g o2_p o2_p_drags o2_drags o2_p_speeds o2_speeds o2_p_settings o2_settings o2_shut o2_coresIn o2_loaded o2_hot o2_made o2_width o2_p_taught]) H → va_S A s.heap H locs → W p l e ({ frames := 1, cells := 0, slots := 0, locals := 21 }) s m ([.ref t_p, .ref o1_p, .ref o2_p, .int l3] : List Value).toArray below meth c H locs 0 0 (MQ below (pQi g (fun r => r = res) (fl [wk2 g t_p t_p_has t_has t_p_firstAt t_firstAt t_p_fullAt t_fullAt t_p_pressures t_pressures t_place t_fillTicks t_ticks t_coolTicks t_why, wk1 g o1_p o1_cavities o1_p_volumes o1_volumes o1_p_drags o1_drags o1_p_freezes o1_freezes o1_cores o1_p_ahead o1_ahead o1_stages o1_p_places o1_places o1_p_speeds o1_speeds o1_p_settings o1_settings, wk3 g o2_p o2_p_drags o2_drags o2_p_speeds o2_speeds o2_p_settings o2_settings o2_shut o2_coresIn o2_loaded o2_hot o2_made o2_width o2_p_taught]) A) ([.ref t_p, .ref o1_p, .ref o2_p, .int l3] : List Value).toArray s 0 0 A) (F0 m 0 ls []) := by
    intro H locs hH hL hP hS
    refine lv_iconst (v := 0) hx hb dX2_speedHere_0 (by decide) ?_
    refine lv_istore (lv' := [(4, .int 0), (0, .ref t_p), (1, .ref o1_p), (2, .ref o2_p), (3, .int l3)]) hx hb dX2_speedHere_1 hl (by decide) rfl (fun ls hl => ?_)
    refine lv_iconst (v := 1) hx hb dX2_speedHere_3 (by decide) ?_
    refine lv_istore (lv' := [(5, .int 1), (4, .int 0), (0, .ref t_p), (1, .ref o1_p), (2, .ref o2_p), (3, .int l3)]) hx hb dX2_speedHere_4 hl (by decide) rfl (fun ls hl => ?_)
    exact w_6  N l3 0 1 H locs ls hf hP hD hS (lv_sub hl [2, 3, 4, 5, 1, 0] rfl)
  exact hgo s.heap [] rfl rfl hP hS

set_option maxHeartbeats 4000000 in
set_option maxRecDepth 100000 in
theorem c2_easiest (l : Launch) (g : gG) (t_p : Nat) (t_p_has : Nat) (t_has : (Nat → Int32)) (t_p_firstAt : Nat) (t_firstAt : (Nat → Int32)) (t_p_fullAt : Nat) (t_fullAt : (Nat → Int32)) (t_p_pressures : Nat) (t_pressures : (Nat → Int32)) (t_place : Int32) (t_fillTicks : Int32) (t_ticks : Int32) (t_coolTicks : Int32) (t_why : Int32) (o1_p : Nat) (o1_cavities : Int32) (o1_p_volumes : Nat) (o1_volumes : (Nat → Int32)) (o1_p_drags : Nat) (o1_drags : (Nat → Int32)) (o1_p_freezes : Nat) (o1_freezes : (Nat → Int32)) (o1_cores : Int32) (o1_p_ahead : Nat) (o1_ahead : (Nat → Int32)) (o1_stages : Int32) (o1_p_places : Nat) (o1_places : (Nat → Int32)) (o1_p_speeds : Nat) (o1_speeds : (Nat → Int32)) (o1_p_settings : Nat) (o1_settings : (Nat → Int32)) (o2_p : Nat) (o2_p_drags : Nat) (o2_drags : (Nat → Int32)) (o2_p_speeds : Nat) (o2_speeds : (Nat → Int32)) (o2_p_settings : Nat) (o2_settings : (Nat → Int32)) (o2_shut : Int32) (o2_coresIn : Int32) (o2_loaded : Int32) (o2_hot : Int32) (o2_made : Int32) (o2_width : Int32) (o2_p_taught : Nat) (l3 : Int32) (sz : Nat) (N : Nat) (res : (Int32)) (hf : f2_easiest N l3 t_has o1_cavities o1_volumes o2_drags = some res) : Met l yX2_easiest wsX2_easiest ({ frames := 0, cells := 0, slots := 0, locals := 0 }) (pP g [.ref t_p, .ref o1_p, .ref o2_p, .int l3] sz (fl [wk2 g t_p t_p_has t_has t_p_firstAt t_firstAt t_p_fullAt t_fullAt t_p_pressures t_pressures t_place t_fillTicks t_ticks t_coolTicks t_why, wk1 g o1_p o1_cavities o1_p_volumes o1_volumes o1_p_drags o1_drags o1_p_freezes o1_freezes o1_cores o1_p_ahead o1_ahead o1_stages o1_p_places o1_places o1_p_speeds o1_speeds o1_p_settings o1_settings, wk3 g o2_p o2_p_drags o2_drags o2_p_speeds o2_speeds o2_p_settings o2_settings o2_shut o2_coresIn o2_loaded o2_hot o2_made o2_width o2_p_taught])) (pQi g (fun r => r = res) (fl [wk2 g t_p t_p_has t_has t_p_firstAt t_firstAt t_p_fullAt t_fullAt t_p_pressures t_pressures t_place t_fillTicks t_ticks t_coolTicks t_why, wk1 g o1_p o1_cavities o1_p_volumes o1_volumes o1_p_drags o1_drags o1_p_freezes o1_freezes o1_cores o1_p_ahead o1_ahead o1_stages o1_p_places o1_places o1_p_speeds o1_speeds o1_p_settings o1_settings, wk3 g o2_p o2_p_drags o2_drags o2_p_speeds o2_speeds o2_p_settings o2_settings o2_shut o2_coresIn o2_loaded o2_hot o2_made o2_width o2_p_taught]) (va_A (fl [wk2 g t_p t_p_has t_has t_p_firstAt t_firstAt t_p_fullAt t_fullAt t_p_pressures t_pressures t_place t_fillTicks t_ticks t_coolTicks t_why, wk1 g o1_p o1_cavities o1_p_volumes o1_volumes o1_p_drags o1_drags o1_p_freezes o1_freezes o1_cores o1_p_ahead o1_ahead o1_stages o1_p_places o1_places o1_p_speeds o1_speeds o1_p_settings o1_settings, wk3 g o2_p o2_p_drags o2_drags o2_p_speeds o2_speeds o2_p_settings o2_settings o2_shut o2_coresIn o2_loaded o2_hot o2_made o2_width o2_p_taught]) sz)) 0 0 (va_A (fl [wk2 g t_p t_p_has t_has t_p_firstAt t_firstAt t_p_fullAt t_fullAt t_p_pressures t_pressures t_place t_fillTicks t_ticks t_coolTicks t_why, wk1 g o1_p o1_cavities o1_p_volumes o1_volumes o1_p_drags o1_drags o1_p_freezes o1_freezes o1_cores o1_p_ahead o1_ahead o1_stages o1_p_places o1_places o1_p_speeds o1_speeds o1_p_settings o1_settings, wk3 g o2_p o2_p_drags o2_drags o2_p_speeds o2_speeds o2_p_settings o2_settings o2_shut o2_coresIn o2_loaded o2_hot o2_made o2_width o2_p_taught]) sz) := by
  refine Met.ofW (cc := cX2_easiest) (maxL := 8) (ret := (some .int)) (by decide) rfl ?_
  intro p e s m args below meth c s₁ B hml hv
  obtain ⟨rfl, hsz, hP, hK, hD0, hG⟩ := hv
  have hx := B.exec
  have hb := B.bytes
  have hr := B.returns
  have hts := atoms_spec (ws := wsX2_easiest) B.pre
  have hown : s.vm.findClass RX2 = some m.cls := findClass_of_methodNamed B.named
  have hlocks := B.notSynchronized
  subst hsz
  have hD := hD0.self (sz := s.heap.size)
  generalize hAe : va_A (fl [wk2 g t_p t_p_has t_has t_p_firstAt t_firstAt t_p_fullAt t_fullAt t_p_pressures t_pressures t_place t_fillTicks t_ticks t_coolTicks t_why, wk1 g o1_p o1_cavities o1_p_volumes o1_volumes o1_p_drags o1_drags o1_p_freezes o1_freezes o1_cores o1_p_ahead o1_ahead o1_stages o1_p_places o1_places o1_p_speeds o1_speeds o1_p_settings o1_settings, wk3 g o2_p o2_p_drags o2_drags o2_p_speeds o2_speeds o2_p_settings o2_settings o2_shut o2_coresIn o2_loaded o2_hot o2_made o2_width o2_p_taught]) s.heap.size = A at hD hG ⊢
  have hA : ∀ q : Nat, s.heap.size ≤ q → A q := fun q h => by rw [← hAe]; exact Or.inr h
  have hS : va_S A s.heap s.heap [] := va_S.rf
  have hin1 : ∀ w ∈ u_ws RX1 TX1 10, w ∈ wsX2_easiest := by decide +kernel
  have hin2 : ∀ w ∈ u_ws RX2 TX2 9, w ∈ wsX2_easiest := by decide +kernel
  have hin3 : ∀ w ∈ u_ws RX3 TX3 10, w ∈ wsX2_easiest := by decide +kernel
  have L1 := hts (Cond.fieldLink RX2 9 "MouldShots$Shot" "has" "[I") (by decide +kernel)
  have w_75 : ∀ (k_10 : Int32 → Int32 → Int32 → Int32 → (Nat → Int32) → Int32 → (Nat → Int32) → (Nat → Int32) → Option (Int32)), (∀ (v3 : Int32) (v4 : Int32) (v5 : Int32) (v6 : Int32)  (H : Heap) (locs : List Loc) (ls : Array Slot), k_10 v3 v4 v5 v6 t_has o1_cavities o1_volumes o2_drags = some res → va_P g.1 vwCl (fl [wk2 g t_p t_p_has t_has t_p_firstAt t_firstAt t_p_fullAt t_fullAt t_p_pressures t_pressures t_place t_fillTicks t_ticks t_coolTicks t_why, wk1 g o1_p o1_cavities o1_p_volumes o1_volumes o1_p_drags o1_drags o1_p_freezes o1_freezes o1_cores o1_p_ahead o1_ahead o1_stages o1_p_places o1_places o1_p_speeds o1_speeds o1_p_settings o1_settings, wk3 g o2_p o2_p_drags o2_drags o2_p_speeds o2_speeds o2_p_settings o2_settings o2_shut o2_coresIn o2_loaded o2_hot o2_made o2_width o2_p_taught]) H → va_D A (fl [wk2 g t_p t_p_has t_has t_p_firstAt t_firstAt t_p_fullAt t_fullAt t_p_pressures t_pressures t_place t_fillTicks t_ticks t_coolTicks t_why, wk1 g o1_p o1_cavities o1_p_volumes o1_volumes o1_p_drags o1_drags o1_p_freezes o1_freezes o1_cores o1_p_ahead o1_ahead o1_stages o1_p_places o1_places o1_p_speeds o1_speeds o1_p_settings o1_settings, wk3 g o2_p o2_p_drags o2_drags o2_p_speeds o2_speeds o2_p_settings o2_settings o2_shut o2_coresIn o2_loaded o2_hot o2_made o2_width o2_p_taught]) → va_S A s.heap H locs → lv_has ls 8 [(0, .ref t_p), (1, .ref o1_p), (2, .ref o2_p), (3, .int v3), (4, .int v4), (5, .int v5), (6, .int v6)] → W p l e ({ frames := 0, cells := 0, slots := 0, locals := 0 }) s m ([.ref t_p, .ref o1_p, .ref o2_p, .int l3] : List Value).toArray below meth c H locs 0 0 (MQ below (pQi g (fun r => r = res) (fl [wk2 g t_p t_p_has t_has t_p_firstAt t_firstAt t_p_fullAt t_fullAt t_p_pressures t_pressures t_place t_fillTicks t_ticks t_coolTicks t_why, wk1 g o1_p o1_cavities o1_p_volumes o1_volumes o1_p_drags o1_drags o1_p_freezes o1_freezes o1_cores o1_p_ahead o1_ahead o1_stages o1_p_places o1_places o1_p_speeds o1_speeds o1_p_settings o1_settings, wk3 g o2_p o2_p_drags o2_drags o2_p_speeds o2_speeds o2_p_settings o2_settings o2_shut o2_coresIn o2_loaded o2_hot o2_made o2_width o2_p_taught]) A) ([.ref t_p, .ref o1_p, .ref o2_p, .int l3] : List Value).toArray s 0 0 A) (F0 m 10 ls [])) → ∀ (v3 : Int32) (v4 : Int32) (v5 : Int32) (v6 : Int32) (s0 : Int32) (s1 : Int32)  (H : Heap) (locs : List Loc) (ls : Array Slot), f2_easiest_75 k_10 N v3 v4 v5 v6 s0 s1 t_has o1_cavities o1_volumes o2_drags = some res → va_P g.1 vwCl (fl [wk2 g t_p t_p_has t_has t_p_firstAt t_firstAt t_p_fullAt t_fullAt t_p_pressures t_pressures t_place t_fillTicks t_ticks t_coolTicks t_why, wk1 g o1_p o1_cavities o1_p_volumes o1_volumes o1_p_drags o1_drags o1_p_freezes o1_freezes o1_cores o1_p_ahead o1_ahead o1_stages o1_p_places o1_places o1_p_speeds o1_speeds o1_p_settings o1_settings, wk3 g o2_p o2_p_drags o2_drags o2_p_speeds o2_speeds o2_p_settings o2_settings o2_shut o2_coresIn o2_loaded o2_hot o2_made o2_width o2_p_taught]) H → va_D A (fl [wk2 g t_p t_p_has t_has t_p_firstAt t_firstAt t_p_fullAt t_fullAt t_p_pressures t_pressures t_place t_fillTicks t_ticks t_coolTicks t_why, wk1 g o1_p o1_cavities o1_p_volumes o1_volumes o1_p_drags o1_drags o1_p_freezes o1_freezes o1_cores o1_p_ahead o1_ahead o1_stages o1_p_places o1_places o1_p_speeds o1_speeds o1_p_settings o1_settings, wk3 g o2_p o2_p_drags o2_drags o2_p_speeds o2_speeds o2_p_settings o2_settings o2_shut o2_coresIn o2_loaded o2_hot o2_made o2_width o2_p_taught]) → va_S A s.heap H locs → lv_has ls 8 [(0, .ref t_p), (1, .ref o1_p), (2, .ref o2_p), (3, .int v3), (4, .int v4), (5, .int v5), (6, .int v6)] → W p l e ({ frames := 0, cells := 0, slots := 0, locals := 0 }) s m ([.ref t_p, .ref o1_p, .ref o2_p, .int l3] : List Value).toArray below meth c H locs 0 0 (MQ below (pQi g (fun r => r = res) (fl [wk2 g t_p t_p_has t_has t_p_firstAt t_firstAt t_p_fullAt t_fullAt t_p_pressures t_pressures t_place t_fillTicks t_ticks t_coolTicks t_why, wk1 g o1_p o1_cavities o1_p_volumes o1_volumes o1_p_drags o1_drags o1_p_freezes o1_freezes o1_cores o1_p_ahead o1_ahead o1_stages o1_p_places o1_places o1_p_speeds o1_speeds o1_p_settings o1_settings, wk3 g o2_p o2_p_drags o2_drags o2_p_speeds o2_speeds o2_p_settings o2_settings o2_shut o2_coresIn o2_loaded o2_hot o2_made o2_width o2_p_taught]) A) ([.ref t_p, .ref o1_p, .ref o2_p, .int l3] : List Value).toArray s 0 0 A) (F0 m 75 ls [.int s1, .int s0]) := by
    intro k_10 hk_10 v3 v4 v5 v6 s0 s1 H locs ls hf hP hD hS hl
    rw [f2_easiest_75] at hf
    refine lv_imul hx hb dX2_easiest_75 ?_
    refine lv_istore (lv' := [(7, .int (s0 * s1)), (0, .ref t_p), (1, .ref o1_p), (2, .ref o2_p), (3, .int v3), (4, .int v4), (5, .int v5), (6, .int v6)]) hx hb dX2_easiest_76 hl (by decide) rfl (fun ls hl => ?_)
    refine lv_iload hx hb dX2_easiest_78 (lv_at hl 5 rfl) ?_
    refine lv_bipush (v := (-4)) hx hb dX2_easiest_80 (by decide) ?_
    refine lv_icmp_eq (tgt := 92) hx hb dX2_easiest_82 (by decide) (fun c_10 => ?_) (fun c_10 => ?_)
    · replace hf := (if_pos c_10).symm.trans hf
      refine lv_iload hx hb dX2_easiest_92 (lv_at hl 7 rfl) ?_
      refine lv_istore (lv' := [(4, .int v6), (7, .int (s0 * s1)), (0, .ref t_p), (1, .ref o1_p), (2, .ref o2_p), (3, .int v3), (5, .int v5), (6, .int v6)]) hx hb dX2_easiest_94 hl (by decide) rfl (fun ls hl => ?_)
      refine lv_iload hx hb dX2_easiest_96 (lv_at hl 1 rfl) ?_
      refine lv_istore (lv' := [(5, .int (s0 * s1)), (4, .int v6), (7, .int (s0 * s1)), (0, .ref t_p), (1, .ref o1_p), (2, .ref o2_p), (3, .int v3), (6, .int v6)]) hx hb dX2_easiest_98 hl (by decide) rfl (fun ls hl => ?_)
      refine lv_iinc (v := v6 + 1) (lv' := [(6, .int (v6 + 1)), (5, .int (s0 * s1)), (4, .int v6), (7, .int (s0 * s1)), (0, .ref t_p), (1, .ref o1_p), (2, .ref o2_p), (3, .int v3)]) hx hb dX2_easiest_100 hl (k := 7) rfl rfl (by decide) rfl (fun ls hl => ?_)
      refine lv_goto (tgt := 10) hx hb dX2_easiest_103 (by decide) ?_
      exact hk_10 v3 v6 (s0 * s1) (v6 + 1) H locs ls hf hP hD hS (lv_sub hl [4, 5, 6, 7, 2, 1, 0] rfl)
    · replace hf := (if_neg c_10).symm.trans hf
      refine lv_iload hx hb dX2_easiest_85 (lv_at hl 0 rfl) ?_
      refine lv_iload hx hb dX2_easiest_87 (lv_at hl 6 rfl) ?_
      refine lv_icmp_ge (tgt := 100) hx hb dX2_easiest_89 (by decide) (fun c_11 => ?_) (fun c_11 => ?_)
      · replace hf := (if_pos c_11).symm.trans hf
        refine lv_iinc (v := v6 + 1) (lv' := [(6, .int (v6 + 1)), (7, .int (s0 * s1)), (0, .ref t_p), (1, .ref o1_p), (2, .ref o2_p), (3, .int v3), (4, .int v4), (5, .int v5)]) hx hb dX2_easiest_100 hl (k := 7) rfl rfl (by decide) rfl (fun ls hl => ?_)
        refine lv_goto (tgt := 10) hx hb dX2_easiest_103 (by decide) ?_
        exact hk_10 v3 v4 v5 (v6 + 1) H locs ls hf hP hD hS (lv_sub hl [2, 3, 4, 5, 6, 7, 0] rfl)
      · replace hf := (if_neg c_11).symm.trans hf
        refine lv_iload hx hb dX2_easiest_92 (lv_at hl 7 rfl) ?_
        refine lv_istore (lv' := [(4, .int v6), (7, .int (s0 * s1)), (0, .ref t_p), (1, .ref o1_p), (2, .ref o2_p), (3, .int v3), (5, .int v5), (6, .int v6)]) hx hb dX2_easiest_94 hl (by decide) rfl (fun ls hl => ?_)
        refine lv_iload hx hb dX2_easiest_96 (lv_at hl 1 rfl) ?_
        refine lv_istore (lv' := [(5, .int (s0 * s1)), (4, .int v6), (7, .int (s0 * s1)), (0, .ref t_p), (1, .ref o1_p), (2, .ref o2_p), (3, .int v3), (6, .int v6)]) hx hb dX2_easiest_98 hl (by decide) rfl (fun ls hl => ?_)
        refine lv_iinc (v := v6 + 1) (lv' := [(6, .int (v6 + 1)), (5, .int (s0 * s1)), (4, .int v6), (7, .int (s0 * s1)), (0, .ref t_p), (1, .ref o1_p), (2, .ref o2_p), (3, .int v3)]) hx hb dX2_easiest_100 hl (k := 7) rfl rfl (by decide) rfl (fun ls hl => ?_)
        refine lv_goto (tgt := 10) hx hb dX2_easiest_103 (by decide) ?_
        exact hk_10 v3 v6 (s0 * s1) (v6 + 1) H locs ls hf hP hD hS (lv_sub hl [4, 5, 6, 7, 2, 1, 0] rfl)
  have w_41 : ∀ (k_10 : Int32 → Int32 → Int32 → Int32 → (Nat → Int32) → Int32 → (Nat → Int32) → (Nat → Int32) → Option (Int32)), (∀ (v3 : Int32) (v4 : Int32) (v5 : Int32) (v6 : Int32)  (H : Heap) (locs : List Loc) (ls : Array Slot), k_10 v3 v4 v5 v6 t_has o1_cavities o1_volumes o2_drags = some res → va_P g.1 vwCl (fl [wk2 g t_p t_p_has t_has t_p_firstAt t_firstAt t_p_fullAt t_fullAt t_p_pressures t_pressures t_place t_fillTicks t_ticks t_coolTicks t_why, wk1 g o1_p o1_cavities o1_p_volumes o1_volumes o1_p_drags o1_drags o1_p_freezes o1_freezes o1_cores o1_p_ahead o1_ahead o1_stages o1_p_places o1_places o1_p_speeds o1_speeds o1_p_settings o1_settings, wk3 g o2_p o2_p_drags o2_drags o2_p_speeds o2_speeds o2_p_settings o2_settings o2_shut o2_coresIn o2_loaded o2_hot o2_made o2_width o2_p_taught]) H → va_D A (fl [wk2 g t_p t_p_has t_has t_p_firstAt t_firstAt t_p_fullAt t_fullAt t_p_pressures t_pressures t_place t_fillTicks t_ticks t_coolTicks t_why, wk1 g o1_p o1_cavities o1_p_volumes o1_volumes o1_p_drags o1_drags o1_p_freezes o1_freezes o1_cores o1_p_ahead o1_ahead o1_stages o1_p_places o1_places o1_p_speeds o1_speeds o1_p_settings o1_settings, wk3 g o2_p o2_p_drags o2_drags o2_p_speeds o2_speeds o2_p_settings o2_settings o2_shut o2_coresIn o2_loaded o2_hot o2_made o2_width o2_p_taught]) → va_S A s.heap H locs → lv_has ls 8 [(0, .ref t_p), (1, .ref o1_p), (2, .ref o2_p), (3, .int v3), (4, .int v4), (5, .int v5), (6, .int v6)] → W p l e ({ frames := 0, cells := 0, slots := 0, locals := 0 }) s m ([.ref t_p, .ref o1_p, .ref o2_p, .int l3] : List Value).toArray below meth c H locs 0 0 (MQ below (pQi g (fun r => r = res) (fl [wk2 g t_p t_p_has t_has t_p_firstAt t_firstAt t_p_fullAt t_fullAt t_p_pressures t_pressures t_place t_fillTicks t_ticks t_coolTicks t_why, wk1 g o1_p o1_cavities o1_p_volumes o1_volumes o1_p_drags o1_drags o1_p_freezes o1_freezes o1_cores o1_p_ahead o1_ahead o1_stages o1_p_places o1_places o1_p_speeds o1_speeds o1_p_settings o1_settings, wk3 g o2_p o2_p_drags o2_drags o2_p_speeds o2_speeds o2_p_settings o2_settings o2_shut o2_coresIn o2_loaded o2_hot o2_made o2_width o2_p_taught]) A) ([.ref t_p, .ref o1_p, .ref o2_p, .int l3] : List Value).toArray s 0 0 A) (F0 m 10 ls [])) → ∀ (v3 : Int32) (v4 : Int32) (v5 : Int32) (v6 : Int32) (s0 : Int32)  (H : Heap) (locs : List Loc) (ls : Array Slot), f2_easiest_41 k_10 N v3 v4 v5 v6 s0 t_has o1_cavities o1_volumes o2_drags = some res → va_P g.1 vwCl (fl [wk2 g t_p t_p_has t_has t_p_firstAt t_firstAt t_p_fullAt t_fullAt t_p_pressures t_pressures t_place t_fillTicks t_ticks t_coolTicks t_why, wk1 g o1_p o1_cavities o1_p_volumes o1_volumes o1_p_drags o1_drags o1_p_freezes o1_freezes o1_cores o1_p_ahead o1_ahead o1_stages o1_p_places o1_places o1_p_speeds o1_speeds o1_p_settings o1_settings, wk3 g o2_p o2_p_drags o2_drags o2_p_speeds o2_speeds o2_p_settings o2_settings o2_shut o2_coresIn o2_loaded o2_hot o2_made o2_width o2_p_taught]) H → va_D A (fl [wk2 g t_p t_p_has t_has t_p_firstAt t_firstAt t_p_fullAt t_fullAt t_p_pressures t_pressures t_place t_fillTicks t_ticks t_coolTicks t_why, wk1 g o1_p o1_cavities o1_p_volumes o1_volumes o1_p_drags o1_drags o1_p_freezes o1_freezes o1_cores o1_p_ahead o1_ahead o1_stages o1_p_places o1_places o1_p_speeds o1_speeds o1_p_settings o1_settings, wk3 g o2_p o2_p_drags o2_drags o2_p_speeds o2_speeds o2_p_settings o2_settings o2_shut o2_coresIn o2_loaded o2_hot o2_made o2_width o2_p_taught]) → va_S A s.heap H locs → lv_has ls 8 [(0, .ref t_p), (1, .ref o1_p), (2, .ref o2_p), (3, .int v3), (4, .int v4), (5, .int v5), (6, .int v6)] → W p l e ({ frames := 0, cells := 0, slots := 0, locals := 0 }) s m ([.ref t_p, .ref o1_p, .ref o2_p, .int l3] : List Value).toArray below meth c H locs 0 0 (MQ below (pQi g (fun r => r = res) (fl [wk2 g t_p t_p_has t_has t_p_firstAt t_firstAt t_p_fullAt t_fullAt t_p_pressures t_pressures t_place t_fillTicks t_ticks t_coolTicks t_why, wk1 g o1_p o1_cavities o1_p_volumes o1_volumes o1_p_drags o1_drags o1_p_freezes o1_freezes o1_cores o1_p_ahead o1_ahead o1_stages o1_p_places o1_places o1_p_speeds o1_speeds o1_p_settings o1_settings, wk3 g o2_p o2_p_drags o2_drags o2_p_speeds o2_speeds o2_p_settings o2_settings o2_shut o2_coresIn o2_loaded o2_hot o2_made o2_width o2_p_taught]) A) ([.ref t_p, .ref o1_p, .ref o2_p, .int l3] : List Value).toArray s 0 0 A) (F0 m 41 ls [.int s0]) := by
    intro k_10 hk_10 v3 v4 v5 v6 s0 H locs ls hf hP hD hS hl
    rw [f2_easiest_41] at hf
    refine lv_iload_n hx hb dX2_easiest_41 rfl (lv_at hl 3 rfl) ?_
    refine lv_icmp_ne (tgt := 100) hx hb dX2_easiest_42 (by decide) (fun c_5 => ?_) (fun c_5 => ?_)
    · replace hf := (if_neg c_5).symm.trans hf
      refine lv_iinc (v := v6 + 1) (lv' := [(6, .int (v6 + 1)), (0, .ref t_p), (1, .ref o1_p), (2, .ref o2_p), (3, .int v3), (4, .int v4), (5, .int v5)]) hx hb dX2_easiest_100 hl (k := 6) rfl rfl (by decide) rfl (fun ls hl => ?_)
      refine lv_goto (tgt := 10) hx hb dX2_easiest_103 (by decide) ?_
      exact hk_10 v3 v4 v5 (v6 + 1) H locs ls hf hP hD hS (lv_sub hl [1, 2, 3, 4, 5, 6, 0] rfl)
    · replace hf := (if_pos c_5).symm.trans hf
      refine lv_aload_n hx hb dX2_easiest_45 rfl (lv_at hl 2 rfl) ?_
      refine va_getN (D := g.1) (ci := 3) (v := .ref o2_p_drags) (C := RX3) (T := TX3) (N := 10) hx hb hts hin3 hown hK.1 hP 13 rfl rfl 0 (by decide) (hK.use _ 38 rfl) (fun _ h9 => h9) rfl dX2_easiest_46 ?_
      refine lv_iload hx hb dX2_easiest_49 (lv_at hl 6 rfl) ?_
      obtain ⟨h_6, hf⟩ := if_some hf
      refine va_iald hx hb hK.1 hP 14 0 rfl rfl (ok_in h_6) dX2_easiest_51 ?_
      refine lv_iload_n hx hb dX2_easiest_52 rfl (lv_at hl 3 rfl) ?_
      refine lv_if_eq (tgt := 66) hx hb dX2_easiest_53 (by decide) (fun c_7 => ?_) (fun c_7 => ?_)
      · replace hf := (if_pos c_7).symm.trans hf
        refine lv_aload_n hx hb dX2_easiest_66 rfl (lv_at hl 0 rfl) ?_
        refine va_get (D := g.1) (ci := 2) (v := .ref t_p_has) (C := RX2) (T := TX2) (N := 9) hx hb hts hin2 hown hK.1 hP 0 rfl rfl 0 (by decide) L1 (fun _ h9 => h9) rfl dX2_easiest_67 ?_
        refine lv_iload hx hb dX2_easiest_70 (lv_at hl 6 rfl) ?_
        obtain ⟨h_8, hf⟩ := if_some hf
        refine va_iald hx hb hK.1 hP 1 0 rfl rfl (ok_in h_8) dX2_easiest_72 ?_
        refine lv_iconst (v := 1) hx hb dX2_easiest_73 (by decide) ?_
        refine lv_iadd hx hb dX2_easiest_74 ?_
        exact w_75 k_10 hk_10 v3 v4 v5 v6 (o2_drags (Int32.toNatClampNeg v6)) ((t_has (Int32.toNatClampNeg v6)) + 1) H locs ls hf hP hD hS (lv_sub hl [0, 1, 2, 3, 4, 5, 6] rfl)
      · replace hf := (if_neg c_7).symm.trans hf
        refine lv_aload_n hx hb dX2_easiest_56 rfl (lv_at hl 0 rfl) ?_
        refine va_get (D := g.1) (ci := 2) (v := .ref t_p_has) (C := RX2) (T := TX2) (N := 9) hx hb hts hin2 hown hK.1 hP 0 rfl rfl 0 (by decide) L1 (fun _ h9 => h9) rfl dX2_easiest_57 ?_
        refine lv_iload hx hb dX2_easiest_60 (lv_at hl 6 rfl) ?_
        obtain ⟨h_9, hf⟩ := if_some hf
        refine va_iald hx hb hK.1 hP 1 0 rfl rfl (ok_in h_9) dX2_easiest_62 ?_
        refine lv_goto (tgt := 75) hx hb dX2_easiest_63 (by decide) ?_
        exact w_75 k_10 hk_10 v3 v4 v5 v6 (o2_drags (Int32.toNatClampNeg v6)) (t_has (Int32.toNatClampNeg v6)) H locs ls hf hP hD hS (lv_sub hl [0, 1, 2, 3, 4, 5, 6] rfl)
  have w_10 : ∀ n : Nat, ∀ (v3 : Int32) (v4 : Int32) (v5 : Int32) (v6 : Int32)  (H : Heap) (locs : List Loc) (ls : Array Slot), f2_easiest_10  N n v3 v4 v5 v6 t_has o1_cavities o1_volumes o2_drags = some res → va_P g.1 vwCl (fl [wk2 g t_p t_p_has t_has t_p_firstAt t_firstAt t_p_fullAt t_fullAt t_p_pressures t_pressures t_place t_fillTicks t_ticks t_coolTicks t_why, wk1 g o1_p o1_cavities o1_p_volumes o1_volumes o1_p_drags o1_drags o1_p_freezes o1_freezes o1_cores o1_p_ahead o1_ahead o1_stages o1_p_places o1_places o1_p_speeds o1_speeds o1_p_settings o1_settings, wk3 g o2_p o2_p_drags o2_drags o2_p_speeds o2_speeds o2_p_settings o2_settings o2_shut o2_coresIn o2_loaded o2_hot o2_made o2_width o2_p_taught]) H → va_D A (fl [wk2 g t_p t_p_has t_has t_p_firstAt t_firstAt t_p_fullAt t_fullAt t_p_pressures t_pressures t_place t_fillTicks t_ticks t_coolTicks t_why, wk1 g o1_p o1_cavities o1_p_volumes o1_volumes o1_p_drags o1_drags o1_p_freezes o1_freezes o1_cores o1_p_ahead o1_ahead o1_stages o1_p_places o1_places o1_p_speeds o1_speeds o1_p_settings o1_settings, wk3 g o2_p o2_p_drags o2_drags o2_p_speeds o2_speeds o2_p_settings o2_settings o2_shut o2_coresIn o2_loaded o2_hot o2_made o2_width o2_p_taught]) → va_S A s.heap H locs → lv_has ls 8 [(0, .ref t_p), (1, .ref o1_p), (2, .ref o2_p), (3, .int v3), (4, .int v4), (5, .int v5), (6, .int v6)] → W p l e ({ frames := 0, cells := 0, slots := 0, locals := 0 }) s m ([.ref t_p, .ref o1_p, .ref o2_p, .int l3] : List Value).toArray below meth c H locs 0 0 (MQ below (pQi g (fun r => r = res) (fl [wk2 g t_p t_p_has t_has t_p_firstAt t_firstAt t_p_fullAt t_fullAt t_p_pressures t_pressures t_place t_fillTicks t_ticks t_coolTicks t_why, wk1 g o1_p o1_cavities o1_p_volumes o1_volumes o1_p_drags o1_drags o1_p_freezes o1_freezes o1_cores o1_p_ahead o1_ahead o1_stages o1_p_places o1_places o1_p_speeds o1_speeds o1_p_settings o1_settings, wk3 g o2_p o2_p_drags o2_drags o2_p_speeds o2_speeds o2_p_settings o2_settings o2_shut o2_coresIn o2_loaded o2_hot o2_made o2_width o2_p_taught]) A) ([.ref t_p, .ref o1_p, .ref o2_p, .int l3] : List Value).toArray s 0 0 A) (F0 m 10 ls []) := by
    intro  n
    induction n with
    | zero => intro v3 v4 v5 v6 H locs ls hf; exact no_some hf
    | succ n ih =>
      intro v3 v4 v5 v6 H locs ls hf hP hD hS hl
      rw [f2_easiest_10] at hf
      refine lv_iload hx hb dX2_easiest_10 (lv_at hl 6 rfl) ?_
      refine lv_aload_n hx hb dX2_easiest_12 rfl (lv_at hl 1 rfl) ?_
      refine va_getN (D := g.1) (ci := 1) (v := .int o1_cavities) (C := RX1) (T := TX1) (N := 10) hx hb hts hin1 hown hK.1 hP 5 rfl rfl 0 (by decide) (hK.use _ 39 rfl) (fun _ h9 => h9) rfl dX2_easiest_13 ?_
      refine lv_icmp_ge (tgt := 106) hx hb dX2_easiest_16 (by decide) (fun c_1 => ?_) (fun c_1 => ?_)
      · replace hf := (if_pos c_1).symm.trans hf
        refine lv_iload hx hb dX2_easiest_106 (lv_at hl 4 rfl) ?_
        replace hf := Option.some.inj hf
        subst hf
        exact W.iret (v := v4) hx hb hr (fun t ht hW => ⟨⟨_, (), rfl, rfl, by show va_P g.1 vwCl _ t.heap; rw [ht]; exact hP⟩, hS.F ht⟩) hS.2.2 dX2_easiest_108 hlocks
      · replace hf := (if_neg c_1).symm.trans hf
        refine lv_aload_n hx hb dX2_easiest_19 rfl (lv_at hl 0 rfl) ?_
        refine va_get (D := g.1) (ci := 2) (v := .ref t_p_has) (C := RX2) (T := TX2) (N := 9) hx hb hts hin2 hown hK.1 hP 0 rfl rfl 0 (by decide) L1 (fun _ h9 => h9) rfl dX2_easiest_20 ?_
        refine lv_iload hx hb dX2_easiest_23 (lv_at hl 6 rfl) ?_
        obtain ⟨h_2, hf⟩ := if_some hf
        refine va_iald hx hb hK.1 hP 1 0 rfl rfl (ok_in h_2) dX2_easiest_25 ?_
        refine lv_aload_n hx hb dX2_easiest_26 rfl (lv_at hl 1 rfl) ?_
        refine va_getN (D := g.1) (ci := 1) (v := .ref o1_p_volumes) (C := RX1) (T := TX1) (N := 10) hx hb hts hin1 hown hK.1 hP 5 rfl rfl 1 (by decide) (hK.use _ 32 rfl) (fun _ h9 => h9) rfl dX2_easiest_27 ?_
        refine lv_iload hx hb dX2_easiest_30 (lv_at hl 6 rfl) ?_
        obtain ⟨h_3, hf⟩ := if_some hf
        refine va_iald hx hb hK.1 hP 6 0 rfl rfl (ok_in h_3) dX2_easiest_32 ?_
        refine lv_icmp_lt (tgt := 40) hx hb dX2_easiest_33 (by decide) (fun c_4 => ?_) (fun c_4 => ?_)
        · replace hf := (if_pos c_4).symm.trans hf
          refine lv_iconst (v := 0) hx hb dX2_easiest_40 (by decide) ?_
          exact w_41 (fun a0 a1 a2 a3 a4 a5 a6 a7 => f2_easiest_10 N n a0 a1 a2 a3 a4 a5 a6 a7) ih v3 v4 v5 v6 0 H locs ls hf hP hD hS (lv_sub hl [0, 1, 2, 3, 4, 5, 6] rfl)
        · replace hf := (if_neg c_4).symm.trans hf
          refine lv_iconst (v := 1) hx hb dX2_easiest_36 (by decide) ?_
          refine lv_goto (tgt := 41) hx hb dX2_easiest_37 (by decide) ?_
          exact w_41 (fun a0 a1 a2 a3 a4 a5 a6 a7 => f2_easiest_10 N n a0 a1 a2 a3 a4 a5 a6 a7) ih v3 v4 v5 v6 1 H locs ls hf hP hD hS (lv_sub hl [0, 1, 2, 3, 4, 5, 6] rfl)
  have hl := lv_entry ([.ref t_p, .ref o1_p, .ref o2_p, .int l3]) (n := 8) (Nat.le_of_ble_eq_true rfl)
  rw [lg_entry_eq]
  generalize (lg_sl ([.ref t_p, .ref o1_p, .ref o2_p, .int l3]) ++ List.replicate (8 - (lg_sl ([.ref t_p, .ref o1_p, .ref o2_p, .int l3])).length) Slot.unset).toArray = ls at hl ⊢
  replace hl : lv_has ls 8 [(0, .ref t_p), (1, .ref o1_p), (2, .ref o2_p), (3, .int l3)] := hl
  rw [f2_easiest] at hf
  have hgo : ∀ (H : Heap) (locs : List Loc), H = s.heap → locs = [] → va_P g.1 vwCl (fl [wk2 g t_p t_p_has t_has t_p_firstAt t_firstAt t_p_fullAt t_fullAt t_p_pressures t_pressures t_place t_fillTicks t_ticks t_coolTicks t_why, wk1 g o1_p o1_cavities o1_p_volumes o1_volumes o1_p_drags o1_drags o1_p_freezes o1_freezes o1_cores o1_p_ahead o1_ahead o1_stages o1_p_places o1_places o1_p_speeds o1_speeds o1_p_settings o1_settings, wk3 g o2_p o2_p_drags o2_drags o2_p_speeds o2_speeds o2_p_settings o2_settings o2_shut o2_coresIn o2_loaded o2_hot o2_made o2_width o2_p_taught]) H → va_S A s.heap H locs → W p l e ({ frames := 0, cells := 0, slots := 0, locals := 0 }) s m ([.ref t_p, .ref o1_p, .ref o2_p, .int l3] : List Value).toArray below meth c H locs 0 0 (MQ below (pQi g (fun r => r = res) (fl [wk2 g t_p t_p_has t_has t_p_firstAt t_firstAt t_p_fullAt t_fullAt t_p_pressures t_pressures t_place t_fillTicks t_ticks t_coolTicks t_why, wk1 g o1_p o1_cavities o1_p_volumes o1_volumes o1_p_drags o1_drags o1_p_freezes o1_freezes o1_cores o1_p_ahead o1_ahead o1_stages o1_p_places o1_places o1_p_speeds o1_speeds o1_p_settings o1_settings, wk3 g o2_p o2_p_drags o2_drags o2_p_speeds o2_speeds o2_p_settings o2_settings o2_shut o2_coresIn o2_loaded o2_hot o2_made o2_width o2_p_taught]) A) ([.ref t_p, .ref o1_p, .ref o2_p, .int l3] : List Value).toArray s 0 0 A) (F0 m 0 ls []) := by
    intro H locs hH hL hP hS
    refine lv_bipush (v := (-4)) hx hb dX2_easiest_0 (by decide) ?_
    refine lv_istore (lv' := [(4, .int (-4)), (0, .ref t_p), (1, .ref o1_p), (2, .ref o2_p), (3, .int l3)]) hx hb dX2_easiest_2 hl (by decide) rfl (fun ls hl => ?_)
    refine lv_iconst (v := 0) hx hb dX2_easiest_4 (by decide) ?_
    refine lv_istore (lv' := [(5, .int 0), (4, .int (-4)), (0, .ref t_p), (1, .ref o1_p), (2, .ref o2_p), (3, .int l3)]) hx hb dX2_easiest_5 hl (by decide) rfl (fun ls hl => ?_)
    refine lv_iconst (v := 0) hx hb dX2_easiest_7 (by decide) ?_
    refine lv_istore (lv' := [(6, .int 0), (5, .int 0), (4, .int (-4)), (0, .ref t_p), (1, .ref o1_p), (2, .ref o2_p), (3, .int l3)]) hx hb dX2_easiest_8 hl (by decide) rfl (fun ls hl => ?_)
    exact w_10  N l3 (-4) 0 0 H locs ls hf hP hD hS (lv_sub hl [3, 4, 5, 6, 2, 1, 0] rfl)
  exact hgo s.heap [] rfl rfl hP hS
