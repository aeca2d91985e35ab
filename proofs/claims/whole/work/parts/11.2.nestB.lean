set_option maxHeartbeats 4000000 in
set_option maxRecDepth 100000 in
theorem c2_whySwitch (l : Launch) (g : gG) (t_p : Nat) (t_p_has : Nat) (t_has : (Nat → Int32)) (t_p_firstAt : Nat) (t_firstAt : (Nat → Int32)) (t_p_fullAt : Nat) (t_fullAt : (Nat → Int32)) (t_p_pressures : Nat) (t_pressures : (Nat → Int32)) (t_place : Int32) (t_fillTicks : Int32) (t_ticks : Int32) (t_coolTicks : Int32) (t_why : Int32) (o1_p : Nat) (o1_p_drags : Nat) (o1_drags : (Nat → Int32)) (o1_p_speeds : Nat) (o1_speeds : (Nat → Int32)) (o1_p_settings : Nat) (o1_settings : (Nat → Int32)) (o1_shut : Int32) (o1_coresIn : Int32) (o1_loaded : Int32) (o1_hot : Int32) (o1_made : Int32) (o1_width : Int32) (o1_p_taught : Nat) (sz : Nat) (N : Nat) (res : (Int32)) (hf : f2_whySwitch N t_pressures t_place t_ticks o1_settings = some res) : Met l yX2_whySwitch wsX2_whySwitch ({ frames := 0, cells := 0, slots := 0, locals := 0 }) (pP g [.ref t_p, .ref o1_p] sz (fl [wk2 g t_p t_p_has t_has t_p_firstAt t_firstAt t_p_fullAt t_fullAt t_p_pressures t_pressures t_place t_fillTicks t_ticks t_coolTicks t_why, wk3 g o1_p o1_p_drags o1_drags o1_p_speeds o1_speeds o1_p_settings o1_settings o1_shut o1_coresIn o1_loaded o1_hot o1_made o1_width o1_p_taught])) (pQi g (fun r => r = res) (fl [wk2 g t_p t_p_has t_has t_p_firstAt t_firstAt t_p_fullAt t_fullAt t_p_pressures t_pressures t_place t_fillTicks t_ticks t_coolTicks t_why, wk3 g o1_p o1_p_drags o1_drags o1_p_speeds o1_speeds o1_p_settings o1_settings o1_shut o1_coresIn o1_loaded o1_hot o1_made o1_width o1_p_taught]) (va_A (fl [wk2 g t_p t_p_has t_has t_p_firstAt t_firstAt t_p_fullAt t_fullAt t_p_pressures t_pressures t_place t_fillTicks t_ticks t_coolTicks t_why, wk3 g o1_p o1_p_drags o1_drags o1_p_speeds o1_speeds o1_p_settings o1_settings o1_shut o1_coresIn o1_loaded o1_hot o1_made o1_width o1_p_taught]) sz)) 0 0 (va_A (fl [wk2 g t_p t_p_has t_has t_p_firstAt t_firstAt t_p_fullAt t_fullAt t_p_pressures t_pressures t_place t_fillTicks t_ticks t_coolTicks t_why, wk3 g o1_p o1_p_drags o1_drags o1_p_speeds o1_speeds o1_p_settings o1_settings o1_shut o1_coresIn o1_loaded o1_hot o1_made o1_width o1_p_taught]) sz) := by
  refine Met.ofW (cc := cX2_whySwitch) (maxL := 2) (ret := (some .int)) (by decide) rfl ?_
  intro p e s m args below meth c s₁ B hml hv
  obtain ⟨rfl, hsz, hP, hK, hD0, hG⟩ := hv
  have hx := B.exec
  have hb := B.bytes
  have hr := B.returns
  have hts := atoms_spec (ws := wsX2_whySwitch) B.pre
  have hown : s.vm.findClass RX2 = some m.cls := findClass_of_methodNamed B.named
  have hlocks := B.notSynchronized
  subst hsz
  have hD := hD0.self (sz := s.heap.size)
  generalize hAe : va_A (fl [wk2 g t_p t_p_has t_has t_p_firstAt t_firstAt t_p_fullAt t_fullAt t_p_pressures t_pressures t_place t_fillTicks t_ticks t_coolTicks t_why, wk3 g o1_p o1_p_drags o1_drags o1_p_speeds o1_speeds o1_p_settings o1_settings o1_shut o1_coresIn o1_loaded o1_hot o1_made o1_width o1_p_taught]) s.heap.size = A at hD hG ⊢
  have hA : ∀ q : Nat, s.heap.size ≤ q → A q := fun q h => by rw [← hAe]; exact Or.inr h
  have hS : va_S A s.heap s.heap [] := va_S.rf
  have hin2 : ∀ w ∈ u_ws RX2 TX2 9, w ∈ wsX2_whySwitch := by decide +kernel
  have hin3 : ∀ w ∈ u_ws RX3 TX3 10, w ∈ wsX2_whySwitch := by decide +kernel
  have L1 := hts (Cond.fieldLink RX2 24 "MouldShots$Shot" "place" "I") (by decide +kernel)
  have L2 := hts (Cond.fieldLink RX2 31 "MouldShots$Shot" "ticks" "I") (by decide +kernel)
  have L3 := hts (Cond.fieldLink RX2 21 "MouldShots$Shot" "pressures" "[I") (by decide +kernel)
  have w_45 : ∀   (H : Heap) (locs : List Loc) (ls : Array Slot), f2_whySwitch_45  N t_ticks o1_settings = some res → va_P g.1 vwCl (fl [wk2 g t_p t_p_has t_has t_p_firstAt t_firstAt t_p_fullAt t_fullAt t_p_pressures t_pressures t_place t_fillTicks t_ticks t_coolTicks t_why, wk3 g o1_p o1_p_drags o1_drags o1_p_speeds o1_speeds o1_p_settings o1_settings o1_shut o1_coresIn o1_loaded o1_hot o1_made o1_width o1_p_taught]) H → va_D A (fl [wk2 g t_p t_p_has t_has t_p_firstAt t_firstAt t_p_fullAt t_fullAt t_p_pressures t_pressures t_place t_fillTicks t_ticks t_coolTicks t_why, wk3 g o1_p o1_p_drags o1_drags o1_p_speeds o1_speeds o1_p_settings o1_settings o1_shut o1_coresIn o1_loaded o1_hot o1_made o1_width o1_p_taught]) → va_S A s.heap H locs → lv_has ls 2 [(0, .ref t_p), (1, .ref o1_p)] → W p l e ({ frames := 0, cells := 0, slots := 0, locals := 0 }) s m ([.ref t_p, .ref o1_p] : List Value).toArray below meth c H locs 0 0 (MQ below (pQi g (fun r => r = res) (fl [wk2 g t_p t_p_has t_has t_p_firstAt t_firstAt t_p_fullAt t_fullAt t_p_pressures t_pressures t_place t_fillTicks t_ticks t_coolTicks t_why, wk3 g o1_p o1_p_drags o1_drags o1_p_speeds o1_speeds o1_p_settings o1_settings o1_shut o1_coresIn o1_loaded o1_hot o1_made o1_width o1_p_taught]) A) ([.ref t_p, .ref o1_p] : List Value).toArray s 0 0 A) (F0 m 45 ls []) := by
    intro   H locs ls hf hP hD hS hl
    rw [f2_whySwitch_45] at hf
    refine lv_aload_n hx hb dX2_whySwitch_45 rfl (lv_at hl 0 rfl) ?_
    refine va_get (D := g.1) (ci := 2) (v := .int t_ticks) (C := RX2) (T := TX2) (N := 9) hx hb hts hin2 hown hK.1 hP 0 rfl rfl 6 (by decide) L2 (fun _ h9 => h9) rfl dX2_whySwitch_46 ?_
    refine lv_aload_n hx hb dX2_whySwitch_49 rfl (lv_at hl 1 rfl) ?_
    refine va_getN (D := g.1) (ci := 3) (v := .ref o1_p_settings) (C := RX3) (T := TX3) (N := 10) hx hb hts hin3 hown hK.1 hP 5 rfl rfl 2 (by decide) (hK.use _ 34 rfl) (fun _ h9 => h9) rfl dX2_whySwitch_50 ?_
    refine lv_iconst (v := 2) hx hb dX2_whySwitch_53 (by decide) ?_
    obtain ⟨h_7, hf⟩ := if_some hf
    refine va_iald hx hb hK.1 hP 8 0 rfl rfl (ok_in h_7) dX2_whySwitch_54 ?_
    refine lv_icmp_lt (tgt := 62) hx hb dX2_whySwitch_55 (by decide) (fun c_8 => ?_) (fun c_8 => ?_)
    · replace hf := (if_pos c_8).symm.trans hf
      refine lv_bipush (v := (-4)) hx hb dX2_whySwitch_62 (by decide) ?_
      replace hf := Option.some.inj hf
      subst hf
      exact W.iret (v := (-4)) hx hb hr (fun t ht hW => ⟨⟨_, (), rfl, rfl, by show va_P g.1 vwCl _ t.heap; rw [ht]; exact hP⟩, hS.F ht⟩) hS.2.2 dX2_whySwitch_64 hlocks
    · replace hf := (if_neg c_8).symm.trans hf
      refine lv_iconst (v := 2) hx hb dX2_whySwitch_58 (by decide) ?_
      refine lv_goto (tgt := 64) hx hb dX2_whySwitch_59 (by decide) ?_
      replace hf := Option.some.inj hf
      subst hf
      exact W.iret (v := 2) hx hb hr (fun t ht hW => ⟨⟨_, (), rfl, rfl, by show va_P g.1 vwCl _ t.heap; rw [ht]; exact hP⟩, hS.F ht⟩) hS.2.2 dX2_whySwitch_64 hlocks
  have hl := lv_entry ([.ref t_p, .ref o1_p]) (n := 2) (Nat.le_of_ble_eq_true rfl)
  rw [lg_entry_eq]
  generalize (lg_sl ([.ref t_p, .ref o1_p]) ++ List.replicate (2 - (lg_sl ([.ref t_p, .ref o1_p])).length) Slot.unset).toArray = ls at hl ⊢
  replace hl : lv_has ls 2 [(0, .ref t_p), (1, .ref o1_p)] := hl
  rw [f2_whySwitch] at hf
  have hgo : ∀ (H : Heap) (locs : List Loc), H = s.heap → locs = [] → va_P g.1 vwCl (fl [wk2 g t_p t_p_has t_has t_p_firstAt t_firstAt t_p_fullAt t_fullAt t_p_pressures t_pressures t_place t_fillTicks t_ticks t_coolTicks t_why, wk3 g o1_p o1_p_drags o1_drags o1_p_speeds o1_speeds o1_p_settings o1_settings o1_shut o1_coresIn o1_loaded o1_hot o1_made o1_width o1_p_taught]) H → va_S A s.heap H locs → W p l e ({ frames := 0, cells := 0, slots := 0, locals := 0 }) s m ([.ref t_p, .ref o1_p] : List Value).toArray below meth c H locs 0 0 (MQ below (pQi g (fun r => r = res) (fl [wk2 g t_p t_p_has t_has t_p_firstAt t_firstAt t_p_fullAt t_fullAt t_p_pressures t_pressures t_place t_fillTicks t_ticks t_coolTicks t_why, wk3 g o1_p o1_p_drags o1_drags o1_p_speeds o1_speeds o1_p_settings o1_settings o1_shut o1_coresIn o1_loaded o1_hot o1_made o1_width o1_p_taught]) A) ([.ref t_p, .ref o1_p] : List Value).toArray s 0 0 A) (F0 m 0 ls []) := by
    intro H locs hH hL hP hS
    refine lv_aload_n hx hb dX2_whySwitch_0 rfl (lv_at hl 0 rfl) ?_
    refine va_get (D := g.1) (ci := 2) (v := .int t_place) (C := RX2) (T := TX2) (N := 9) hx hb hts hin2 hown hK.1 hP 0 rfl rfl 4 (by decide) L1 (fun _ h9 => h9) rfl dX2_whySwitch_1 ?_
    refine lv_aload_n hx hb dX2_whySwitch_4 rfl (lv_at hl 1 rfl) ?_
    refine va_getN (D := g.1) (ci := 3) (v := .ref o1_p_settings) (C := RX3) (T := TX3) (N := 10) hx hb hts hin3 hown hK.1 hP 5 rfl rfl 2 (by decide) (hK.use _ 34 rfl) (fun _ h9 => h9) rfl dX2_whySwitch_5 ?_
    refine lv_iconst (v := 0) hx hb dX2_whySwitch_8 (by decide) ?_
    obtain ⟨h_1, hf⟩ := if_some hf
    refine va_iald hx hb hK.1 hP 8 0 rfl rfl (ok_in h_1) dX2_whySwitch_9 ?_
    refine lv_icmp_lt (tgt := 15) hx hb dX2_whySwitch_10 (by decide) (fun c_2 => ?_) (fun c_2 => ?_)
    · replace hf := (if_pos c_2).symm.trans hf
      refine lv_aload_n hx hb dX2_whySwitch_15 rfl (lv_at hl 0 rfl) ?_
      refine va_get (D := g.1) (ci := 2) (v := .int t_ticks) (C := RX2) (T := TX2) (N := 9) hx hb hts hin2 hown hK.1 hP 0 rfl rfl 6 (by decide) L2 (fun _ h9 => h9) rfl dX2_whySwitch_16 ?_
      refine lv_iconst (v := 1) hx hb dX2_whySwitch_19 (by decide) ?_
      refine lv_icmp_lt (tgt := 45) hx hb dX2_whySwitch_20 (by decide) (fun c_3 => ?_) (fun c_3 => ?_)
      · replace hf := (if_pos c_3).symm.trans hf
        exact w_45   H locs ls hf hP hD hS (lv_sub hl [0, 1] rfl)
      · replace hf := (if_neg c_3).symm.trans hf
        refine lv_aload_n hx hb dX2_whySwitch_23 rfl (lv_at hl 0 rfl) ?_
        refine va_get (D := g.1) (ci := 2) (v := .ref t_p_pressures) (C := RX2) (T := TX2) (N := 9) hx hb hts hin2 hown hK.1 hP 0 rfl rfl 3 (by decide) L3 (fun _ h9 => h9) rfl dX2_whySwitch_24 ?_
        refine lv_aload_n hx hb dX2_whySwitch_27 rfl (lv_at hl 0 rfl) ?_
        refine va_get (D := g.1) (ci := 2) (v := .int t_ticks) (C := RX2) (T := TX2) (N := 9) hx hb hts hin2 hown hK.1 hP 0 rfl rfl 6 (by decide) L2 (fun _ h9 => h9) rfl dX2_whySwitch_28 ?_
        refine lv_iconst (v := 1) hx hb dX2_whySwitch_31 (by decide) ?_
        refine lv_isub hx hb dX2_whySwitch_32 ?_
        obtain ⟨h_4, hf⟩ := if_some hf
        refine va_iald hx hb hK.1 hP 4 0 rfl rfl (ok_in h_4) dX2_whySwitch_33 ?_
        refine lv_aload_n hx hb dX2_whySwitch_34 rfl (lv_at hl 1 rfl) ?_
        refine va_getN (D := g.1) (ci := 3) (v := .ref o1_p_settings) (C := RX3) (T := TX3) (N := 10) hx hb hts hin3 hown hK.1 hP 5 rfl rfl 2 (by decide) (hK.use _ 34 rfl) (fun _ h9 => h9) rfl dX2_whySwitch_35 ?_
        refine lv_iconst (v := 1) hx hb dX2_whySwitch_38 (by decide) ?_
        obtain ⟨h_5, hf⟩ := if_some hf
        refine va_iald hx hb hK.1 hP 8 0 rfl rfl (ok_in h_5) dX2_whySwitch_39 ?_
        refine lv_icmp_lt (tgt := 45) hx hb dX2_whySwitch_40 (by decide) (fun c_6 => ?_) (fun c_6 => ?_)
        · replace hf := (if_pos c_6).symm.trans hf
          exact w_45   H locs ls hf hP hD hS (lv_sub hl [0, 1] rfl)
        · replace hf := (if_neg c_6).symm.trans hf
          refine lv_iconst (v := 1) hx hb dX2_whySwitch_43 (by decide) ?_
          replace hf := Option.some.inj hf
          subst hf
          exact W.iret (v := 1) hx hb hr (fun t ht hW => ⟨⟨_, (), rfl, rfl, by show va_P g.1 vwCl _ t.heap; rw [ht]; exact hP⟩, hS.F ht⟩) hS.2.2 dX2_whySwitch_44 hlocks
    · replace hf := (if_neg c_2).symm.trans hf
      refine lv_iconst (v := 0) hx hb dX2_whySwitch_13 (by decide) ?_
      replace hf := Option.some.inj hf
      subst hf
      exact W.iret (v := 0) hx hb hr (fun t ht hW => ⟨⟨_, (), rfl, rfl, by show va_P g.1 vwCl _ t.heap; rw [ht]; exact hP⟩, hS.F ht⟩) hS.2.2 dX2_whySwitch_14 hlocks
  exact hgo s.heap [] rfl rfl hP hS

set_option maxHeartbeats 4000000 in
set_option maxRecDepth 100000 in
theorem c2_fill (l : Launch) (g : gG) (t_p : Nat) (t_p_has : Nat) (t_has : (Nat → Int32)) (t_p_firstAt : Nat) (t_firstAt : (Nat → Int32)) (t_p_fullAt : Nat) (t_fullAt : (Nat → Int32)) (t_p_pressures : Nat) (t_pressures : (Nat → Int32)) (t_place : Int32) (t_fillTicks : Int32) (t_ticks : Int32) (t_coolTicks : Int32) (t_why : Int32) (o1_p : Nat) (o1_cavities : Int32) (o1_p_volumes : Nat) (o1_volumes : (Nat → Int32)) (o1_p_drags : Nat) (o1_drags : (Nat → Int32)) (o1_p_freezes : Nat) (o1_freezes : (Nat → Int32)) (o1_cores : Int32) (o1_p_ahead : Nat) (o1_ahead : (Nat → Int32)) (o1_stages : Int32) (o1_p_places : Nat) (o1_places : (Nat → Int32)) (o1_p_speeds : Nat) (o1_speeds : (Nat → Int32)) (o1_p_settings : Nat) (o1_settings : (Nat → Int32)) (o2_p : Nat) (o2_p_drags : Nat) (o2_drags : (Nat → Int32)) (o2_p_speeds : Nat) (o2_speeds : (Nat → Int32)) (o2_p_settings : Nat) (o2_settings : (Nat → Int32)) (o2_shut : Int32) (o2_coresIn : Int32) (o2_loaded : Int32) (o2_hot : Int32) (o2_made : Int32) (o2_width : Int32) (o2_p_taught : Nat) (l3 : Int32) (sz : Nat) (N : Nat) (res : ((Nat → Int32) × (Nat → Int32) × (Nat → Int32) × (Nat → Int32) × Int32 × Int32 × Int32 × Int32)) (hf : f2_fill N l3 t_has t_firstAt t_fullAt t_pressures t_place t_ticks t_why o1_cavities o1_volumes o1_stages o1_places o2_drags o2_speeds o2_settings = some res) : Met l yX2_fill wsX2_fill ({ frames := 2, cells := 0, slots := 0, locals := 51 }) (pP g [.ref t_p, .ref o1_p, .ref o2_p, .int l3] sz (fl [wk2 g t_p t_p_has t_has t_p_firstAt t_firstAt t_p_fullAt t_fullAt t_p_pressures t_pressures t_place t_fillTicks t_ticks t_coolTicks t_why, wk1 g o1_p o1_cavities o1_p_volumes o1_volumes o1_p_drags o1_drags o1_p_freezes o1_freezes o1_cores o1_p_ahead o1_ahead o1_stages o1_p_places o1_places o1_p_speeds o1_speeds o1_p_settings o1_settings, wk3 g o2_p o2_p_drags o2_drags o2_p_speeds o2_speeds o2_p_settings o2_settings o2_shut o2_coresIn o2_loaded o2_hot o2_made o2_width o2_p_taught])) (pQv g (fl [wk2 g t_p t_p_has res.1 t_p_firstAt res.2.1 t_p_fullAt res.2.2.1 t_p_pressures res.2.2.2.1 res.2.2.2.2.1 res.2.2.2.2.2.1 res.2.2.2.2.2.2.1 t_coolTicks res.2.2.2.2.2.2.2, wk1 g o1_p o1_cavities o1_p_volumes o1_volumes o1_p_drags o1_drags o1_p_freezes o1_freezes o1_cores o1_p_ahead o1_ahead o1_stages o1_p_places o1_places o1_p_speeds o1_speeds o1_p_settings o1_settings, wk3 g o2_p o2_p_drags o2_drags o2_p_speeds o2_speeds o2_p_settings o2_settings o2_shut o2_coresIn o2_loaded o2_hot o2_made o2_width o2_p_taught]) (va_A (fl [wk2 g t_p t_p_has t_has t_p_firstAt t_firstAt t_p_fullAt t_fullAt t_p_pressures t_pressures t_place t_fillTicks t_ticks t_coolTicks t_why, wk1 g o1_p o1_cavities o1_p_volumes o1_volumes o1_p_drags o1_drags o1_p_freezes o1_freezes o1_cores o1_p_ahead o1_ahead o1_stages o1_p_places o1_places o1_p_speeds o1_speeds o1_p_settings o1_settings, wk3 g o2_p o2_p_drags o2_drags o2_p_speeds o2_speeds o2_p_settings o2_settings o2_shut o2_coresIn o2_loaded o2_hot o2_made o2_width o2_p_taught]) sz)) 0 0 (va_A (fl [wk2 g t_p t_p_has t_has t_p_firstAt t_firstAt t_p_fullAt t_fullAt t_p_pressures t_pressures t_place t_fillTicks t_ticks t_coolTicks t_why, wk1 g o1_p o1_cavities o1_p_volumes o1_volumes o1_p_drags o1_drags o1_p_freezes o1_freezes o1_cores o1_p_ahead o1_ahead o1_stages o1_p_places o1_places o1_p_speeds o1_speeds o1_p_settings o1_settings, wk3 g o2_p o2_p_drags o2_drags o2_p_speeds o2_speeds o2_p_settings o2_settings o2_shut o2_coresIn o2_loaded o2_hot o2_made o2_width o2_p_taught]) sz) := by
  refine Met.ofW (cc := cX2_fill) (maxL := 8) (ret := none) (by decide) rfl ?_
  intro p e s m args below meth c s₁ B hml hv
  obtain ⟨rfl, hsz, hP, hK, hD0, hG⟩ := hv
  have hx := B.exec
  have hb := B.bytes
  have hr := B.returns
  have hts := atoms_spec (ws := wsX2_fill) B.pre
  have hown : s.vm.findClass RX2 = some m.cls := findClass_of_methodNamed B.named
  have hlocks := B.notSynchronized
  subst hsz
  have hD := hD0.self (sz := s.heap.size)
  generalize hAe : va_A (fl [wk2 g t_p t_p_has t_has t_p_firstAt t_firstAt t_p_fullAt t_fullAt t_p_pressures t_pressures t_place t_fillTicks t_ticks t_coolTicks t_why, wk1 g o1_p o1_cavities o1_p_volumes o1_volumes o1_p_drags o1_drags o1_p_freezes o1_freezes o1_cores o1_p_ahead o1_ahead o1_stages o1_p_places o1_places o1_p_speeds o1_speeds o1_p_settings o1_settings, wk3 g o2_p o2_p_drags o2_drags o2_p_speeds o2_speeds o2_p_settings o2_settings o2_shut o2_coresIn o2_loaded o2_hot o2_made o2_width o2_p_taught]) s.heap.size = A at hD hG ⊢
  have hA : ∀ q : Nat, s.heap.size ≤ q → A q := fun q h => by rw [← hAe]; exact Or.inr h
  have hS : va_S A s.heap s.heap [] := va_S.rf
  have hin2 : ∀ w ∈ u_ws RX2 TX2 9, w ∈ wsX2_fill := by decide +kernel
  have L1 := hts (Cond.fieldLink RX2 37 "MouldShots$Shot" "why" "I") (by decide +kernel)
  have L2 := hts (Cond.fieldLink RX2 31 "MouldShots$Shot" "ticks" "I") (by decide +kernel)
  have L3 := hts (Cond.fieldLink RX2 24 "MouldShots$Shot" "place" "I") (by decide +kernel)
  have L4 := hts (Cond.methodLink RX2 60 Lib.Math.min.name) (by decide +kernel)
  have L5 := hts (Cond.static Lib.Math.min.name) (by decide +kernel)
  have L6 := hts (Cond.initialized "java/lang/Math") (by decide +kernel)
  have L7 := hts (Cond.code Lib.Math.min.name Lib.Math.min.code 2 (some .int)) (by decide +kernel)
  have L8 := hts (Cond.fieldLink RX2 21 "MouldShots$Shot" "pressures" "[I") (by decide +kernel)
  have L9 := hts (Cond.methodLink RX2 70 Lib.Math.max.name) (by decide +kernel)
  have L10 := hts (Cond.static Lib.Math.max.name) (by decide +kernel)
  have L11 := hts (Cond.initialized "java/lang/Math") (by decide +kernel)
  have L12 := hts (Cond.code Lib.Math.max.name Lib.Math.max.code 2 (some .int)) (by decide +kernel)
  have L13 := hts (Cond.fieldLink RX2 28 "MouldShots$Shot" "fillTicks" "I") (by decide +kernel)
  have w_53 : ∀ (k_3 : Int32 → Int32 → (Nat → Int32) → (Nat → Int32) → (Nat → Int32) → (Nat → Int32) → Int32 → Int32 → Int32 → Int32 → (Nat → Int32) → Int32 → (Nat → Int32) → (Nat → Int32) → (Nat → Int32) → (Nat → Int32) → Option ((Nat → Int32) × (Nat → Int32) × (Nat → Int32) × (Nat → Int32) × Int32 × Int32 × Int32 × Int32)), (∀ (v3 : Int32) (v4 : Int32) (t_has : (Nat → Int32)) (t_firstAt : (Nat → Int32)) (t_fullAt : (Nat → Int32)) (t_pressures : (Nat → Int32)) (t_place : Int32) (t_fillTicks : Int32) (t_ticks : Int32) (t_why : Int32) (H : Heap) (locs : List Loc) (ls : Array Slot), k_3 v3 v4 t_has t_firstAt t_fullAt t_pressures t_place t_ticks t_why o1_cavities o1_volumes o1_stages o1_places o2_drags o2_speeds o2_settings = some res → va_P g.1 vwCl (fl [wk2 g t_p t_p_has t_has t_p_firstAt t_firstAt t_p_fullAt t_fullAt t_p_pressures t_pressures t_place t_fillTicks t_ticks t_coolTicks t_why, wk1 g o1_p o1_cavities o1_p_volumes o1_volumes o1_p_drags o1_drags o1_p_freezes o1_freezes o1_cores o1_p_ahead o1_ahead o1_stages o1_p_places o1_places o1_p_speeds o1_speeds o1_p_settings o1_settings, wk3 g o2_p o2_p_drags o2_drags o2_p_speeds o2_speeds o2_p_settings o2_settings o2_shut o2_coresIn o2_loaded o2_hot o2_made o2_width o2_p_taught]) H → va_D A (fl [wk2 g t_p t_p_has t_has t_p_firstAt t_firstAt t_p_fullAt t_fullAt t_p_pressures t_pressures t_place t_fillTicks t_ticks t_coolTicks t_why, wk1 g o1_p o1_cavities o1_p_volumes o1_volumes o1_p_drags o1_drags o1_p_freezes o1_freezes o1_cores o1_p_ahead o1_ahead o1_stages o1_p_places o1_places o1_p_speeds o1_speeds o1_p_settings o1_settings, wk3 g o2_p o2_p_drags o2_drags o2_p_speeds o2_speeds o2_p_settings o2_settings o2_shut o2_coresIn o2_loaded o2_hot o2_made o2_width o2_p_taught]) → va_S A s.heap H locs → lv_has ls 8 [(0, .ref t_p), (1, .ref o1_p), (2, .ref o2_p), (3, .int v3), (4, .int v4)] → W p l e ({ frames := 2, cells := 0, slots := 0, locals := 51 }) s m ([.ref t_p, .ref o1_p, .ref o2_p, .int l3] : List Value).toArray below meth c H locs 0 0 (MQ below (pQv g (fl [wk2 g t_p t_p_has res.1 t_p_firstAt res.2.1 t_p_fullAt res.2.2.1 t_p_pressures res.2.2.2.1 res.2.2.2.2.1 res.2.2.2.2.2.1 res.2.2.2.2.2.2.1 t_coolTicks res.2.2.2.2.2.2.2, wk1 g o1_p o1_cavities o1_p_volumes o1_volumes o1_p_drags o1_drags o1_p_freezes o1_freezes o1_cores o1_p_ahead o1_ahead o1_stages o1_p_places o1_places o1_p_speeds o1_speeds o1_p_settings o1_settings, wk3 g o2_p o2_p_drags o2_drags o2_p_speeds o2_speeds o2_p_settings o2_settings o2_shut o2_coresIn o2_loaded o2_hot o2_made o2_width o2_p_taught]) A) ([.ref t_p, .ref o1_p, .ref o2_p, .int l3] : List Value).toArray s 0 0 A) (F0 m 3 ls [])) → ∀ n : Nat, ∀ (v3 : Int32) (v4 : Int32) (v5 : Int32) (v6 : Int32) (v7 : Int32) (t_has : (Nat → Int32)) (t_firstAt : (Nat → Int32)) (t_fullAt : (Nat → Int32)) (t_pressures : (Nat → Int32)) (t_place : Int32) (t_fillTicks : Int32) (t_ticks : Int32) (t_why : Int32) (H : Heap) (locs : List Loc) (ls : Array Slot), f2_fill_53 k_3 N n v3 v4 v5 v6 v7 t_has t_firstAt t_fullAt t_pressures t_ticks o1_cavities o1_volumes o1_stages o1_places o2_drags o2_speeds o2_settings = some res → va_P g.1 vwCl (fl [wk2 g t_p t_p_has t_has t_p_firstAt t_firstAt t_p_fullAt t_fullAt t_p_pressures t_pressures t_place t_fillTicks t_ticks t_coolTicks t_why, wk1 g o1_p o1_cavities o1_p_volumes o1_volumes o1_p_drags o1_drags o1_p_freezes o1_freezes o1_cores o1_p_ahead o1_ahead o1_stages o1_p_places o1_places o1_p_speeds o1_speeds o1_p_settings o1_settings, wk3 g o2_p o2_p_drags o2_drags o2_p_speeds o2_speeds o2_p_settings o2_settings o2_shut o2_coresIn o2_loaded o2_hot o2_made o2_width o2_p_taught]) H → va_D A (fl [wk2 g t_p t_p_has t_has t_p_firstAt t_firstAt t_p_fullAt t_fullAt t_p_pressures t_pressures t_place t_fillTicks t_ticks t_coolTicks t_why, wk1 g o1_p o1_cavities o1_p_volumes o1_volumes o1_p_drags o1_drags o1_p_freezes o1_freezes o1_cores o1_p_ahead o1_ahead o1_stages o1_p_places o1_places o1_p_speeds o1_speeds o1_p_settings o1_settings, wk3 g o2_p o2_p_drags o2_drags o2_p_speeds o2_speeds o2_p_settings o2_settings o2_shut o2_coresIn o2_loaded o2_hot o2_made o2_width o2_p_taught]) → va_S A s.heap H locs → lv_has ls 8 [(0, .ref t_p), (1, .ref o1_p), (2, .ref o2_p), (3, .int v3), (4, .int v4), (5, .int v5), (6, .int v6), (7, .int v7)] → W p l e ({ frames := 2, cells := 0, slots := 0, locals := 51 }) s m ([.ref t_p, .ref o1_p, .ref o2_p, .int l3] : List Value).toArray below meth c H locs 0 0 (MQ below (pQv g (fl [wk2 g t_p t_p_has res.1 t_p_firstAt res.2.1 t_p_fullAt res.2.2.1 t_p_pressures res.2.2.2.1 res.2.2.2.2.1 res.2.2.2.2.2.1 res.2.2.2.2.2.2.1 t_coolTicks res.2.2.2.2.2.2.2, wk1 g o1_p o1_cavities o1_p_volumes o1_volumes o1_p_drags o1_drags o1_p_freezes o1_freezes o1_cores o1_p_ahead o1_ahead o1_stages o1_p_places o1_places o1_p_speeds o1_speeds o1_p_settings o1_settings, wk3 g o2_p o2_p_drags o2_drags o2_p_speeds o2_speeds o2_p_settings o2_settings o2_shut o2_coresIn o2_loaded o2_hot o2_made o2_width o2_p_taught]) A) ([.ref t_p, .ref o1_p, .ref o2_p, .int l3] : List Value).toArray s 0 0 A) (F0 m 53 ls []) := by
    intro k_3 hk_3 n
    induction n with
    | zero => intro v3 v4 v5 v6 v7 t_has t_firstAt t_fullAt t_pressures t_place t_fillTicks t_ticks t_why H locs ls hf; exact no_some hf
    | succ n ih =>
      intro v3 v4 v5 v6 v7 t_has t_firstAt t_fullAt t_pressures t_place t_fillTicks t_ticks t_why H locs ls hf hP hD hS hl
      rw [f2_fill_53] at hf
      refine lv_iload hx hb dX2_fill_53 (lv_at hl 7 rfl) ?_
      refine lv_iload hx hb dX2_fill_55 (lv_at hl 5 rfl) ?_
      refine lv_icmp_ge (tgt := 79) hx hb dX2_fill_57 (by decide) (fun c_5 => ?_) (fun c_5 => ?_)
      · replace hf := (if_pos c_5).symm.trans hf
        refine lv_aload_n hx hb dX2_fill_79 rfl (lv_at hl 0 rfl) ?_
        refine lv_iload hx hb dX2_fill_80 (lv_at hl 5 rfl) ?_
        refine va_put (D := g.1) (ci := 2) (v := .int v5) (ty := .int) (C := RX2) (T := TX2) (N := 9) hx hb hts hin2 tyX2 tyX2_ok nmX2 hown hK.1 hP hD hS 0 rfl rfl 4 (by decide) L3 (fun _ h9 => h9) rfl (by decide +kernel) rfl rfl (Nat.le_of_ble_eq_true rfl) dX2_fill_82 (fun H locs hP hD hS => ?_)
        replace hP : va_P g.1 vwCl (fl [wk2 g t_p t_p_has t_has t_p_firstAt t_firstAt t_p_fullAt t_fullAt t_p_pressures t_pressures v5 t_fillTicks t_ticks t_coolTicks t_why, wk1 g o1_p o1_cavities o1_p_volumes o1_volumes o1_p_drags o1_drags o1_p_freezes o1_freezes o1_cores o1_p_ahead o1_ahead o1_stages o1_p_places o1_places o1_p_speeds o1_speeds o1_p_settings o1_settings, wk3 g o2_p o2_p_drags o2_drags o2_p_speeds o2_speeds o2_p_settings o2_settings o2_shut o2_coresIn o2_loaded o2_hot o2_made o2_width o2_p_taught]) H := hP
        replace hD : va_D A (fl [wk2 g t_p t_p_has t_has t_p_firstAt t_firstAt t_p_fullAt t_fullAt t_p_pressures t_pressures v5 t_fillTicks t_ticks t_coolTicks t_why, wk1 g o1_p o1_cavities o1_p_volumes o1_volumes o1_p_drags o1_drags o1_p_freezes o1_freezes o1_cores o1_p_ahead o1_ahead o1_stages o1_p_places o1_places o1_p_speeds o1_speeds o1_p_settings o1_settings, wk3 g o2_p o2_p_drags o2_drags o2_p_speeds o2_speeds o2_p_settings o2_settings o2_shut o2_coresIn o2_loaded o2_hot o2_made o2_width o2_p_taught]) := hD
        refine lv_aload_n hx hb dX2_fill_85 rfl (lv_at hl 0 rfl) ?_
        refine va_get (D := g.1) (ci := 2) (v := .ref t_p_pressures) (C := RX2) (T := TX2) (N := 9) hx hb hts hin2 hown hK.1 hP 0 rfl rfl 3 (by decide) L8 (fun _ h9 => h9) rfl dX2_fill_86 ?_
        refine lv_iload hx hb dX2_fill_89 (lv_at hl 4 rfl) ?_
        refine lv_iconst (v := 1) hx hb dX2_fill_91 (by decide) ?_
        refine lv_isub hx hb dX2_fill_92 ?_
        refine lv_bipush (v := 99) hx hb dX2_fill_93 (by decide) ?_
        refine lv_iload hx hb dX2_fill_95 (lv_at hl 6 rfl) ?_
        refine va_mmin hx hb (hml.trans hl.1.symm) hown L4 L5 L6 L7 (Nat.le_of_ble_eq_true rfl) (Nat.le_of_ble_eq_true rfl) (Nat.zero_le _) (Nat.zero_le _) dX2_fill_97 ?_
        obtain ⟨h_6, hf⟩ := if_some hf
        refine va_iast hx hb hK.1 hP hD hS 4 0 rfl rfl (ok_in h_6) dX2_fill_100 (fun H locs hP hD hS => ?_)
        replace hP : va_P g.1 vwCl (fl [wk2 g t_p t_p_has t_has t_p_firstAt t_firstAt t_p_fullAt t_fullAt t_p_pressures (upd t_pressures (Int32.toNatClampNeg (v4 - 1)) (if v6 < 99 then v6 else 99)) v5 t_fillTicks t_ticks t_coolTicks t_why, wk1 g o1_p o1_cavities o1_p_volumes o1_volumes o1_p_drags o1_drags o1_p_freezes o1_freezes o1_cores o1_p_ahead o1_ahead o1_stages o1_p_places o1_places o1_p_speeds o1_speeds o1_p_settings o1_settings, wk3 g o2_p o2_p_drags o2_drags o2_p_speeds o2_speeds o2_p_settings o2_settings o2_shut o2_coresIn o2_loaded o2_hot o2_made o2_width o2_p_taught]) H := hP
        replace hD : va_D A (fl [wk2 g t_p t_p_has t_has t_p_firstAt t_firstAt t_p_fullAt t_fullAt t_p_pressures (upd t_pressures (Int32.toNatClampNeg (v4 - 1)) (if v6 < 99 then v6 else 99)) v5 t_fillTicks t_ticks t_coolTicks t_why, wk1 g o1_p o1_cavities o1_p_volumes o1_volumes o1_p_drags o1_drags o1_p_freezes o1_freezes o1_cores o1_p_ahead o1_ahead o1_stages o1_p_places o1_places o1_p_speeds o1_speeds o1_p_settings o1_settings, wk3 g o2_p o2_p_drags o2_drags o2_p_speeds o2_speeds o2_p_settings o2_settings o2_shut o2_coresIn o2_loaded o2_hot o2_made o2_width o2_p_taught]) := hD
        refine lv_aload_n hx hb dX2_fill_101 rfl (lv_at hl 0 rfl) ?_
        refine lv_aload_n hx hb dX2_fill_102 rfl (lv_at hl 0 rfl) ?_
        refine lv_aload_n hx hb dX2_fill_103 rfl (lv_at hl 2 rfl) ?_
        obtain ⟨q_7, hq_7, hf⟩ := bd_some hf
        refine bft_i (bn := [wk2 g t_p t_p_has t_has t_p_firstAt t_firstAt t_p_fullAt t_fullAt t_p_pressures (upd t_pressures (Int32.toNatClampNeg (v4 - 1)) (if v6 < 99 then v6 else 99)) v5 t_fillTicks t_ticks t_coolTicks t_why, wk1 g o1_p o1_cavities o1_p_volumes o1_volumes o1_p_drags o1_drags o1_p_freezes o1_freezes o1_cores o1_p_ahead o1_ahead o1_stages o1_p_places o1_places o1_p_speeds o1_speeds o1_p_settings o1_settings, wk3 g o2_p o2_p_drags o2_drags o2_p_speeds o2_speeds o2_p_settings o2_settings o2_shut o2_coresIn o2_loaded o2_hot o2_made o2_width o2_p_taught]) (L := [[t_p, t_p_has, t_p_firstAt, t_p_fullAt, t_p_pressures], [o2_p, o2_p_drags, o2_p_speeds, o2_p_settings]]) (va_runV (As := [.ref o2_p]) (rest := [.ref t_p]) ⟨hx, hb, hml, hown, hts⟩ (c2_whySwitch l g t_p t_p_has t_has t_p_firstAt t_firstAt t_p_fullAt t_fullAt t_p_pressures (upd t_pressures (Int32.toNatClampNeg (v4 - 1)) (if v6 < 99 then v6 else 99)) v5 t_fillTicks t_ticks t_coolTicks t_why o2_p o2_p_drags o2_drags o2_p_speeds o2_speeds o2_p_settings o2_settings o2_shut o2_coresIn o2_loaded o2_hot o2_made o2_width o2_p_taught H.size N q_7 hq_7) (cwV 1 hts gX2_fill_X2_whySwitch rfl rfl rfl ⟨rfl, nh2.1, nh2.2, pd_6⟩ ⟨Nat.le_of_ble_eq_true rfl, Nat.le_of_ble_eq_true rfl⟩) (qPV hK hG hP hD hS hA [0, 2] (by decide) rfl (va_recv hK.1 hP (ci := 2) (q0 := 0) rfl rfl)) rfl rfl hl.1 rfl (lv_room (Nat.le_of_ble_eq_true rfl)) dX2_fill_104 ⟨Nat.zero_le _, Nat.zero_le _⟩) hP hD hS hA [0, 2] rfl rfl rfl rfl (fun r_8 H locs hw hP hD hS => ?_)
        replace hw := hw.symm
        subst hw
        refine va_put (D := g.1) (ci := 2) (v := .int q_7) (ty := .int) (C := RX2) (T := TX2) (N := 9) hx hb hts hin2 tyX2 tyX2_ok nmX2 hown hK.1 hP hD hS 0 rfl rfl 8 (by decide) L1 (fun _ h9 => h9) rfl (by decide +kernel) rfl rfl (Nat.le_of_ble_eq_true rfl) dX2_fill_107 (fun H locs hP hD hS => ?_)
        replace hP : va_P g.1 vwCl (fl [wk2 g t_p t_p_has t_has t_p_firstAt t_firstAt t_p_fullAt t_fullAt t_p_pressures (upd t_pressures (Int32.toNatClampNeg (v4 - 1)) (if v6 < 99 then v6 else 99)) v5 t_fillTicks t_ticks t_coolTicks q_7, wk1 g o1_p o1_cavities o1_p_volumes o1_volumes o1_p_drags o1_drags o1_p_freezes o1_freezes o1_cores o1_p_ahead o1_ahead o1_stages o1_p_places o1_places o1_p_speeds o1_speeds o1_p_settings o1_settings, wk3 g o2_p o2_p_drags o2_drags o2_p_speeds o2_speeds o2_p_settings o2_settings o2_shut o2_coresIn o2_loaded o2_hot o2_made o2_width o2_p_taught]) H := hP
        replace hD : va_D A (fl [wk2 g t_p t_p_has t_has t_p_firstAt t_firstAt t_p_fullAt t_fullAt t_p_pressures (upd t_pressures (Int32.toNatClampNeg (v4 - 1)) (if v6 < 99 then v6 else 99)) v5 t_fillTicks t_ticks t_coolTicks q_7, wk1 g o1_p o1_cavities o1_p_volumes o1_volumes o1_p_drags o1_drags o1_p_freezes o1_freezes o1_cores o1_p_ahead o1_ahead o1_stages o1_p_places o1_places o1_p_speeds o1_speeds o1_p_settings o1_settings, wk3 g o2_p o2_p_drags o2_drags o2_p_speeds o2_speeds o2_p_settings o2_settings o2_shut o2_coresIn o2_loaded o2_hot o2_made o2_width o2_p_taught]) := hD
        refine lv_iinc (v := v4 + 1) (lv' := [(4, .int (v4 + 1)), (0, .ref t_p), (1, .ref o1_p), (2, .ref o2_p), (3, .int v3), (5, .int v5), (6, .int v6), (7, .int v7)]) hx hb dX2_fill_110 hl (k := 4) rfl rfl (by decide) rfl (fun ls hl => ?_)
        refine lv_goto (tgt := 3) hx hb dX2_fill_113 (by decide) ?_
        exact hk_3 v3 (v4 + 1) t_has t_firstAt t_fullAt (upd t_pressures (Int32.toNatClampNeg (v4 - 1)) (if v6 < 99 then v6 else 99)) v5 t_fillTicks t_ticks q_7 H locs ls hf hP hD hS (lv_sub hl [1, 2, 3, 4, 0] rfl)
      · replace hf := (if_neg c_5).symm.trans hf
        refine lv_iload hx hb dX2_fill_60 (lv_at hl 6 rfl) ?_
        refine lv_aload_n hx hb dX2_fill_62 rfl (lv_at hl 0 rfl) ?_
        refine lv_aload_n hx hb dX2_fill_63 rfl (lv_at hl 1 rfl) ?_
        refine lv_aload_n hx hb dX2_fill_64 rfl (lv_at hl 2 rfl) ?_
        obtain ⟨q_9, hq_9, hf⟩ := bd_some hf
        refine bft_i (bn := [wk2 g t_p t_p_has q_9.2.1 t_p_firstAt q_9.2.2.1 t_p_fullAt q_9.2.2.2 t_p_pressures t_pressures t_place t_fillTicks t_ticks t_coolTicks t_why, wk1 g o1_p o1_cavities o1_p_volumes o1_volumes o1_p_drags o1_drags o1_p_freezes o1_freezes o1_cores o1_p_ahead o1_ahead o1_stages o1_p_places o1_places o1_p_speeds o1_speeds o1_p_settings o1_settings, wk3 g o2_p o2_p_drags o2_drags o2_p_speeds o2_speeds o2_p_settings o2_settings o2_shut o2_coresIn o2_loaded o2_hot o2_made o2_width o2_p_taught]) (L := [[t_p, t_p_has, t_p_firstAt, t_p_fullAt, t_p_pressures], [o1_p, o1_p_volumes, o1_p_drags, o1_p_freezes, o1_p_ahead, o1_p_places, o1_p_speeds, o1_p_settings], [o2_p, o2_p_drags, o2_p_speeds, o2_p_settings]]) (va_runV (As := [.ref o1_p, .ref o2_p]) (rest := [.int v6]) ⟨hx, hb, hml, hown, hts⟩ (c2_push l g t_p t_p_has t_has t_p_firstAt t_firstAt t_p_fullAt t_fullAt t_p_pressures t_pressures t_place t_fillTicks t_ticks t_coolTicks t_why o1_p o1_cavities o1_p_volumes o1_volumes o1_p_drags o1_drags o1_p_freezes o1_freezes o1_cores o1_p_ahead o1_ahead o1_stages o1_p_places o1_places o1_p_speeds o1_speeds o1_p_settings o1_settings o2_p o2_p_drags o2_drags o2_p_speeds o2_speeds o2_p_settings o2_settings o2_shut o2_coresIn o2_loaded o2_hot o2_made o2_width o2_p_taught H.size N q_9 hq_9) (cwV 2 hts gX2_fill_X2_push rfl rfl rfl ⟨rfl, nh2.1, nh2.2, pd_7⟩ ⟨Nat.le_of_ble_eq_true rfl, Nat.le_of_ble_eq_true rfl⟩) (qPV hK hG hP hD hS hA [0, 1, 2] (by decide) rfl (va_recv hK.1 hP (ci := 2) (q0 := 0) rfl rfl)) rfl rfl hl.1 rfl (lv_room (Nat.le_of_ble_eq_true rfl)) dX2_fill_65 ⟨Nat.zero_le _, Nat.zero_le _⟩) hP hD hS hA [0, 1, 2] rfl rfl rfl rfl (fun r_10 H locs hw hP hD hS => ?_)
        replace hw := hw.symm
        subst hw
        refine va_mmax hx hb (hml.trans hl.1.symm) hown L9 L10 L11 L12 (Nat.le_of_ble_eq_true rfl) (Nat.le_of_ble_eq_true rfl) (Nat.zero_le _) (Nat.zero_le _) dX2_fill_68 ?_
        refine lv_istore (lv' := [(6, .int (if v6 < q_9.1 then q_9.1 else v6)), (0, .ref t_p), (1, .ref o1_p), (2, .ref o2_p), (3, .int v3), (4, .int v4), (5, .int v5), (7, .int v7)]) hx hb dX2_fill_71 hl (by decide) rfl (fun ls hl => ?_)
        refine lv_iinc (v := v7 + 1) (lv' := [(7, .int (v7 + 1)), (6, .int (if v6 < q_9.1 then q_9.1 else v6)), (0, .ref t_p), (1, .ref o1_p), (2, .ref o2_p), (3, .int v3), (4, .int v4), (5, .int v5)]) hx hb dX2_fill_73 hl (k := 7) rfl rfl (by decide) rfl (fun ls hl => ?_)
        refine lv_goto (tgt := 53) hx hb dX2_fill_76 (by decide) ?_
        exact ih v3 v4 v5 (if v6 < q_9.1 then q_9.1 else v6) (v7 + 1) q_9.2.1 q_9.2.2.1 q_9.2.2.2 t_pressures t_place t_fillTicks t_ticks t_why H locs ls hf hP hD hS (lv_sub hl [2, 3, 4, 5, 6, 7, 1, 0] rfl)
  have w_116 : ∀  (t_has : (Nat → Int32)) (t_firstAt : (Nat → Int32)) (t_fullAt : (Nat → Int32)) (t_pressures : (Nat → Int32)) (t_place : Int32) (t_fillTicks : Int32) (t_ticks : Int32) (t_why : Int32) (H : Heap) (locs : List Loc) (ls : Array Slot), f2_fill_116  N t_has t_firstAt t_fullAt t_pressures t_place t_ticks t_why = some res → va_P g.1 vwCl (fl [wk2 g t_p t_p_has t_has t_p_firstAt t_firstAt t_p_fullAt t_fullAt t_p_pressures t_pressures t_place t_fillTicks t_ticks t_coolTicks t_why, wk1 g o1_p o1_cavities o1_p_volumes o1_volumes o1_p_drags o1_drags o1_p_freezes o1_freezes o1_cores o1_p_ahead o1_ahead o1_stages o1_p_places o1_places o1_p_speeds o1_speeds o1_p_settings o1_settings, wk3 g o2_p o2_p_drags o2_drags o2_p_speeds o2_speeds o2_p_settings o2_settings o2_shut o2_coresIn o2_loaded o2_hot o2_made o2_width o2_p_taught]) H → va_D A (fl [wk2 g t_p t_p_has t_has t_p_firstAt t_firstAt t_p_fullAt t_fullAt t_p_pressures t_pressures t_place t_fillTicks t_ticks t_coolTicks t_why, wk1 g o1_p o1_cavities o1_p_volumes o1_volumes o1_p_drags o1_drags o1_p_freezes o1_freezes o1_cores o1_p_ahead o1_ahead o1_stages o1_p_places o1_places o1_p_speeds o1_speeds o1_p_settings o1_settings, wk3 g o2_p o2_p_drags o2_drags o2_p_speeds o2_speeds o2_p_settings o2_settings o2_shut o2_coresIn o2_loaded o2_hot o2_made o2_width o2_p_taught]) → va_S A s.heap H locs → lv_has ls 8 [(0, .ref t_p)] → W p l e ({ frames := 2, cells := 0, slots := 0, locals := 51 }) s m ([.ref t_p, .ref o1_p, .ref o2_p, .int l3] : List Value).toArray below meth c H locs 0 0 (MQ below (pQv g (fl [wk2 g t_p t_p_has res.1 t_p_firstAt res.2.1 t_p_fullAt res.2.2.1 t_p_pressures res.2.2.2.1 res.2.2.2.2.1 res.2.2.2.2.2.1 res.2.2.2.2.2.2.1 t_coolTicks res.2.2.2.2.2.2.2, wk1 g o1_p o1_cavities o1_p_volumes o1_volumes o1_p_drags o1_drags o1_p_freezes o1_freezes o1_cores o1_p_ahead o1_ahead o1_stages o1_p_places o1_places o1_p_speeds o1_speeds o1_p_settings o1_settings, wk3 g o2_p o2_p_drags o2_drags o2_p_speeds o2_speeds o2_p_settings o2_settings o2_shut o2_coresIn o2_loaded o2_hot o2_made o2_width o2_p_taught]) A) ([.ref t_p, .ref o1_p, .ref o2_p, .int l3] : List Value).toArray s 0 0 A) (F0 m 116 ls []) := by
    intro  t_has t_firstAt t_fullAt t_pressures t_place t_fillTicks t_ticks t_why H locs ls hf hP hD hS hl
    rw [f2_fill_116] at hf
    refine lv_aload_n hx hb dX2_fill_116 rfl (lv_at hl 0 rfl) ?_
    refine lv_aload_n hx hb dX2_fill_117 rfl (lv_at hl 0 rfl) ?_
    refine va_get (D := g.1) (ci := 2) (v := .int t_ticks) (C := RX2) (T := TX2) (N := 9) hx hb hts hin2 hown hK.1 hP 0 rfl rfl 6 (by decide) L2 (fun _ h9 => h9) rfl dX2_fill_118 ?_
    refine va_put (D := g.1) (ci := 2) (v := .int t_ticks) (ty := .int) (C := RX2) (T := TX2) (N := 9) hx hb hts hin2 tyX2 tyX2_ok nmX2 hown hK.1 hP hD hS 0 rfl rfl 5 (by decide) L13 (fun _ h9 => h9) rfl (by decide +kernel) rfl rfl (Nat.le_of_ble_eq_true rfl) dX2_fill_121 (fun H locs hP hD hS => ?_)
    replace hP : va_P g.1 vwCl (fl [wk2 g t_p t_p_has t_has t_p_firstAt t_firstAt t_p_fullAt t_fullAt t_p_pressures t_pressures t_place t_ticks t_ticks t_coolTicks t_why, wk1 g o1_p o1_cavities o1_p_volumes o1_volumes o1_p_drags o1_drags o1_p_freezes o1_freezes o1_cores o1_p_ahead o1_ahead o1_stages o1_p_places o1_places o1_p_speeds o1_speeds o1_p_settings o1_settings, wk3 g o2_p o2_p_drags o2_drags o2_p_speeds o2_speeds o2_p_settings o2_settings o2_shut o2_coresIn o2_loaded o2_hot o2_made o2_width o2_p_taught]) H := hP
    replace hD : va_D A (fl [wk2 g t_p t_p_has t_has t_p_firstAt t_firstAt t_p_fullAt t_fullAt t_p_pressures t_pressures t_place t_ticks t_ticks t_coolTicks t_why, wk1 g o1_p o1_cavities o1_p_volumes o1_volumes o1_p_drags o1_drags o1_p_freezes o1_freezes o1_cores o1_p_ahead o1_ahead o1_stages o1_p_places o1_places o1_p_speeds o1_speeds o1_p_settings o1_settings, wk3 g o2_p o2_p_drags o2_drags o2_p_speeds o2_speeds o2_p_settings o2_settings o2_shut o2_coresIn o2_loaded o2_hot o2_made o2_width o2_p_taught]) := hD
    replace hf := Option.some.inj hf
    subst hf
    exact W.vret hx hb hr (fun t ht hW => ⟨⟨(), rfl, trivial, by show va_P g.1 vwCl _ t.heap; rw [ht]; exact hP⟩, hS.F ht⟩) hS.2.2 dX2_fill_124 hlocks
  have w_3 : ∀ n : Nat, ∀ (v3 : Int32) (v4 : Int32) (t_has : (Nat → Int32)) (t_firstAt : (Nat → Int32)) (t_fullAt : (Nat → Int32)) (t_pressures : (Nat → Int32)) (t_place : Int32) (t_fillTicks : Int32) (t_ticks : Int32) (t_why : Int32) (H : Heap) (locs : List Loc) (ls : Array Slot), f2_fill_3  N n v3 v4 t_has t_firstAt t_fullAt t_pressures t_place t_ticks t_why o1_cavities o1_volumes o1_stages o1_places o2_drags o2_speeds o2_settings = some res → va_P g.1 vwCl (fl [wk2 g t_p t_p_has t_has t_p_firstAt t_firstAt t_p_fullAt t_fullAt t_p_pressures t_pressures t_place t_fillTicks t_ticks t_coolTicks t_why, wk1 g o1_p o1_cavities o1_p_volumes o1_volumes o1_p_drags o1_drags o1_p_freezes o1_freezes o1_cores o1_p_ahead o1_ahead o1_stages o1_p_places o1_places o1_p_speeds o1_speeds o1_p_settings o1_settings, wk3 g o2_p o2_p_drags o2_drags o2_p_speeds o2_speeds o2_p_settings o2_settings o2_shut o2_coresIn o2_loaded o2_hot o2_made o2_width o2_p_taught]) H → va_D A (fl [wk2 g t_p t_p_has t_has t_p_firstAt t_firstAt t_p_fullAt t_fullAt t_p_pressures t_pressures t_place t_fillTicks t_ticks t_coolTicks t_why, wk1 g o1_p o1_cavities o1_p_volumes o1_volumes o1_p_drags o1_drags o1_p_freezes o1_freezes o1_cores o1_p_ahead o1_ahead o1_stages o1_p_places o1_places o1_p_speeds o1_speeds o1_p_settings o1_settings, wk3 g o2_p o2_p_drags o2_drags o2_p_speeds o2_speeds o2_p_settings o2_settings o2_shut o2_coresIn o2_loaded o2_hot o2_made o2_width o2_p_taught]) → va_S A s.heap H locs → lv_has ls 8 [(0, .ref t_p), (1, .ref o1_p), (2, .ref o2_p), (3, .int v3), (4, .int v4)] → W p l e ({ frames := 2, cells := 0, slots := 0, locals := 51 }) s m ([.ref t_p, .ref o1_p, .ref o2_p, .int l3] : List Value).toArray below meth c H locs 0 0 (MQ below (pQv g (fl [wk2 g t_p t_p_has res.1 t_p_firstAt res.2.1 t_p_fullAt res.2.2.1 t_p_pressures res.2.2.2.1 res.2.2.2.2.1 res.2.2.2.2.2.1 res.2.2.2.2.2.2.1 t_coolTicks res.2.2.2.2.2.2.2, wk1 g o1_p o1_cavities o1_p_volumes o1_volumes o1_p_drags o1_drags o1_p_freezes o1_freezes o1_cores o1_p_ahead o1_ahead o1_stages o1_p_places o1_places o1_p_speeds o1_speeds o1_p_settings o1_settings, wk3 g o2_p o2_p_drags o2_drags o2_p_speeds o2_speeds o2_p_settings o2_settings o2_shut o2_coresIn o2_loaded o2_hot o2_made o2_width o2_p_taught]) A) ([.ref t_p, .ref o1_p, .ref o2_p, .int l3] : List Value).toArray s 0 0 A) (F0 m 3 ls []) := by
    intro  n
    induction n with
    | zero => intro v3 v4 t_has t_firstAt t_fullAt t_pressures t_place t_fillTicks t_ticks t_why H locs ls hf; exact no_some hf
    | succ n ih =>
      intro v3 v4 t_has t_firstAt t_fullAt t_pressures t_place t_fillTicks t_ticks t_why H locs ls hf hP hD hS hl
      rw [f2_fill_3] at hf
      refine lv_iload hx hb dX2_fill_3 (lv_at hl 4 rfl) ?_
      refine lv_bipush (v := 40) hx hb dX2_fill_5 (by decide) ?_
      refine lv_icmp_gt (tgt := 116) hx hb dX2_fill_7 (by decide) (fun c_1 => ?_) (fun c_1 => ?_)
      · replace hf := (if_pos c_1).symm.trans hf
        exact w_116  t_has t_firstAt t_fullAt t_pressures t_place t_fillTicks t_ticks t_why H locs ls hf hP hD hS (lv_sub hl [0] rfl)
      · replace hf := (if_neg c_1).symm.trans hf
        refine lv_aload_n hx hb dX2_fill_10 rfl (lv_at hl 0 rfl) ?_
        refine va_get (D := g.1) (ci := 2) (v := .int t_why) (C := RX2) (T := TX2) (N := 9) hx hb hts hin2 hown hK.1 hP 0 rfl rfl 8 (by decide) L1 (fun _ h9 => h9) rfl dX2_fill_11 ?_
        refine lv_bipush (v := (-4)) hx hb dX2_fill_14 (by decide) ?_
        refine lv_icmp_ne (tgt := 116) hx hb dX2_fill_16 (by decide) (fun c_2 => ?_) (fun c_2 => ?_)
        · replace hf := (if_neg c_2).symm.trans hf
          exact w_116  t_has t_firstAt t_fullAt t_pressures t_place t_fillTicks t_ticks t_why H locs ls hf hP hD hS (lv_sub hl [0] rfl)
        · replace hf := (if_pos c_2).symm.trans hf
          refine lv_aload_n hx hb dX2_fill_19 rfl (lv_at hl 0 rfl) ?_
          refine lv_iload hx hb dX2_fill_20 (lv_at hl 4 rfl) ?_
          refine va_put (D := g.1) (ci := 2) (v := .int v4) (ty := .int) (C := RX2) (T := TX2) (N := 9) hx hb hts hin2 tyX2 tyX2_ok nmX2 hown hK.1 hP hD hS 0 rfl rfl 6 (by decide) L2 (fun _ h9 => h9) rfl (by decide +kernel) rfl rfl (Nat.le_of_ble_eq_true rfl) dX2_fill_22 (fun H locs hP hD hS => ?_)
          replace hP : va_P g.1 vwCl (fl [wk2 g t_p t_p_has t_has t_p_firstAt t_firstAt t_p_fullAt t_fullAt t_p_pressures t_pressures t_place t_fillTicks v4 t_coolTicks t_why, wk1 g o1_p o1_cavities o1_p_volumes o1_volumes o1_p_drags o1_drags o1_p_freezes o1_freezes o1_cores o1_p_ahead o1_ahead o1_stages o1_p_places o1_places o1_p_speeds o1_speeds o1_p_settings o1_settings, wk3 g o2_p o2_p_drags o2_drags o2_p_speeds o2_speeds o2_p_settings o2_settings o2_shut o2_coresIn o2_loaded o2_hot o2_made o2_width o2_p_taught]) H := hP
          replace hD : va_D A (fl [wk2 g t_p t_p_has t_has t_p_firstAt t_firstAt t_p_fullAt t_fullAt t_p_pressures t_pressures t_place t_fillTicks v4 t_coolTicks t_why, wk1 g o1_p o1_cavities o1_p_volumes o1_volumes o1_p_drags o1_drags o1_p_freezes o1_freezes o1_cores o1_p_ahead o1_ahead o1_stages o1_p_places o1_places o1_p_speeds o1_speeds o1_p_settings o1_settings, wk3 g o2_p o2_p_drags o2_drags o2_p_speeds o2_speeds o2_p_settings o2_settings o2_shut o2_coresIn o2_loaded o2_hot o2_made o2_width o2_p_taught]) := hD
          refine lv_bipush (v := 99) hx hb dX2_fill_25 (by decide) ?_
          refine lv_aload_n hx hb dX2_fill_27 rfl (lv_at hl 0 rfl) ?_
          refine va_get (D := g.1) (ci := 2) (v := .int t_place) (C := RX2) (T := TX2) (N := 9) hx hb hts hin2 hown hK.1 hP 0 rfl rfl 4 (by decide) L3 (fun _ h9 => h9) rfl dX2_fill_28 ?_
          refine lv_aload_n hx hb dX2_fill_31 rfl (lv_at hl 0 rfl) ?_
          refine lv_aload_n hx hb dX2_fill_32 rfl (lv_at hl 1 rfl) ?_
          refine lv_aload_n hx hb dX2_fill_33 rfl (lv_at hl 2 rfl) ?_
          refine lv_iload_n hx hb dX2_fill_34 rfl (lv_at hl 3 rfl) ?_
          obtain ⟨q_3, hq_3, hf⟩ := bd_some hf
          refine bft_i (bn := [wk2 g t_p t_p_has t_has t_p_firstAt t_firstAt t_p_fullAt t_fullAt t_p_pressures t_pressures t_place t_fillTicks v4 t_coolTicks t_why, wk1 g o1_p o1_cavities o1_p_volumes o1_volumes o1_p_drags o1_drags o1_p_freezes o1_freezes o1_cores o1_p_ahead o1_ahead o1_stages o1_p_places o1_places o1_p_speeds o1_speeds o1_p_settings o1_settings, wk3 g o2_p o2_p_drags o2_drags o2_p_speeds o2_speeds o2_p_settings o2_settings o2_shut o2_coresIn o2_loaded o2_hot o2_made o2_width o2_p_taught]) (L := [[t_p, t_p_has, t_p_firstAt, t_p_fullAt, t_p_pressures], [o1_p, o1_p_volumes, o1_p_drags, o1_p_freezes, o1_p_ahead, o1_p_places, o1_p_speeds, o1_p_settings], [o2_p, o2_p_drags, o2_p_speeds, o2_p_settings]]) (va_runV (As := [.ref o1_p, .ref o2_p, .int v3]) (rest := [.int t_place, .int 99]) ⟨hx, hb, hml, hown, hts⟩ (c2_speedHere l g t_p t_p_has t_has t_p_firstAt t_firstAt t_p_fullAt t_fullAt t_p_pressures t_pressures t_place t_fillTicks v4 t_coolTicks t_why o1_p o1_cavities o1_p_volumes o1_volumes o1_p_drags o1_drags o1_p_freezes o1_freezes o1_cores o1_p_ahead o1_ahead o1_stages o1_p_places o1_places o1_p_speeds o1_speeds o1_p_settings o1_settings o2_p o2_p_drags o2_drags o2_p_speeds o2_speeds o2_p_settings o2_settings o2_shut o2_coresIn o2_loaded o2_hot o2_made o2_width o2_p_taught v3 H.size N q_3 hq_3) (cwV 3 hts gX2_fill_X2_speedHere rfl rfl rfl ⟨rfl, nh2.1, nh2.2, pd_5⟩ ⟨Nat.le_of_ble_eq_true rfl, Nat.le_of_ble_eq_true rfl⟩) (qPV hK hG hP hD hS hA [0, 1, 2] (by decide) rfl (va_recv hK.1 hP (ci := 2) (q0 := 0) rfl rfl)) rfl rfl hl.1 rfl (lv_room (Nat.le_of_ble_eq_true rfl)) dX2_fill_35 ⟨Nat.zero_le _, Nat.zero_le _⟩) hP hD hS hA [0, 1, 2] rfl rfl rfl rfl (fun r_4 H locs hw hP hD hS => ?_)
          replace hw := hw.symm
          subst hw
          refine lv_iadd hx hb dX2_fill_38 ?_
          refine va_mmin hx hb (hml.trans hl.1.symm) hown L4 L5 L6 L7 (Nat.le_of_ble_eq_true rfl) (Nat.le_of_ble_eq_true rfl) (Nat.zero_le _) (Nat.zero_le _) dX2_fill_39 ?_
          refine lv_istore (lv' := [(5, .int (if (t_place + q_3) < 99 then t_place + q_3 else 99)), (0, .ref t_p), (1, .ref o1_p), (2, .ref o2_p), (3, .int v3), (4, .int v4)]) hx hb dX2_fill_42 hl (by decide) rfl (fun ls hl => ?_)
          refine lv_iconst (v := 0) hx hb dX2_fill_44 (by decide) ?_
          refine lv_istore (lv' := [(6, .int 0), (5, .int (if (t_place + q_3) < 99 then t_place + q_3 else 99)), (0, .ref t_p), (1, .ref o1_p), (2, .ref o2_p), (3, .int v3), (4, .int v4)]) hx hb dX2_fill_45 hl (by decide) rfl (fun ls hl => ?_)
          refine lv_aload_n hx hb dX2_fill_47 rfl (lv_at hl 2 rfl) ?_
          refine va_get (D := g.1) (ci := 2) (v := .int t_place) (C := RX2) (T := TX2) (N := 9) hx hb hts hin2 hown hK.1 hP 0 rfl rfl 4 (by decide) L3 (fun _ h9 => h9) rfl dX2_fill_48 ?_
          refine lv_istore (lv' := [(7, .int t_place), (6, .int 0), (5, .int (if (t_place + q_3) < 99 then t_place + q_3 else 99)), (0, .ref t_p), (1, .ref o1_p), (2, .ref o2_p), (3, .int v3), (4, .int v4)]) hx hb dX2_fill_51 hl (by decide) rfl (fun ls hl => ?_)
          exact w_53 (fun a0 a1 a2 a3 a4 a5 a6 a7 a8 a9 a10 a11 a12 a13 a14 a15 => f2_fill_3 N n a0 a1 a2 a3 a4 a5 a6 a7 a8 a9 a10 a11 a12 a13 a14 a15) ih N v3 v4 (if (t_place + q_3) < 99 then t_place + q_3 else 99) 0 t_place t_has t_firstAt t_fullAt t_pressures t_place t_fillTicks v4 t_why H locs ls hf hP hD hS (lv_sub hl [3, 4, 5, 6, 7, 2, 1, 0] rfl)
  have hl := lv_entry ([.ref t_p, .ref o1_p, .ref o2_p, .int l3]) (n := 8) (Nat.le_of_ble_eq_true rfl)
  rw [lg_entry_eq]
  generalize (lg_sl ([.ref t_p, .ref o1_p, .ref o2_p, .int l3]) ++ List.replicate (8 - (lg_sl ([.ref t_p, .ref o1_p, .ref o2_p, .int l3])).length) Slot.unset).toArray = ls at hl ⊢
  replace hl : lv_has ls 8 [(0, .ref t_p), (1, .ref o1_p), (2, .ref o2_p), (3, .int l3)] := hl
  rw [f2_fill] at hf
  have hgo : ∀ (H : Heap) (locs : List Loc), H = s.heap → locs = [] → va_P g.1 vwCl (fl [wk2 g t_p t_p_has t_has t_p_firstAt t_firstAt t_p_fullAt t_fullAt t_p_pressures t_pressures t_place t_fillTicks t_ticks t_coolTicks t_why, wk1 g o1_p o1_cavities o1_p_volumes o1_volumes o1_p_drags o1_drags o1_p_freezes o1_freezes o1_cores o1_p_ahead o1_ahead o1_stages o1_p_places o1_places o1_p_speeds o1_speeds o1_p_settings o1_settings, wk3 g o2_p o2_p_drags o2_drags o2_p_speeds o2_speeds o2_p_settings o2_settings o2_shut o2_coresIn o2_loaded o2_hot o2_made o2_width o2_p_taught]) H → va_S A s.heap H locs → W p l e ({ frames := 2, cells := 0, slots := 0, locals := 51 }) s m ([.ref t_p, .ref o1_p, .ref o2_p, .int l3] : List Value).toArray below meth c H locs 0 0 (MQ below (pQv g (fl [wk2 g t_p t_p_has res.1 t_p_firstAt res.2.1 t_p_fullAt res.2.2.1 t_p_pressures res.2.2.2.1 res.2.2.2.2.1 res.2.2.2.2.2.1 res.2.2.2.2.2.2.1 t_coolTicks res.2.2.2.2.2.2.2, wk1 g o1_p o1_cavities o1_p_volumes o1_volumes o1_p_drags o1_drags o1_p_freezes o1_freezes o1_cores o1_p_ahead o1_ahead o1_stages o1_p_places o1_places o1_p_speeds o1_speeds o1_p_settings o1_settings, wk3 g o2_p o2_p_drags o2_drags o2_p_speeds o2_speeds o2_p_settings o2_settings o2_shut o2_coresIn o2_loaded o2_hot o2_made o2_width o2_p_taught]) A) ([.ref t_p, .ref o1_p, .ref o2_p, .int l3] : List Value).toArray s 0 0 A) (F0 m 0 ls []) := by
    intro H locs hH hL hP hS
    refine lv_iconst (v := 1) hx hb dX2_fill_0 (by decide) ?_
    refine lv_istore (lv' := [(4, .int 1), (0, .ref t_p), (1, .ref o1_p), (2, .ref o2_p), (3, .int l3)]) hx hb dX2_fill_1 hl (by decide) rfl (fun ls hl => ?_)
    exact w_3  N l3 1 t_has t_firstAt t_fullAt t_pressures t_place t_fillTicks t_ticks t_why H locs ls hf hP hD hS (lv_sub hl [1, 2, 3, 4, 0] rfl)
  exact hgo s.heap [] rfl rfl hP hS
