set_option maxHeartbeats 4000000 in
set_option maxRecDepth 100000 in
theorem c2_told (l : Launch) (g : gG) (t_p : Nat) (t_p_has : Nat) (t_has : (Nat → Int32)) (t_p_firstAt : Nat) (t_firstAt : (Nat → Int32)) (t_p_fullAt : Nat) (t_fullAt : (Nat → Int32)) (t_p_pressures : Nat) (t_pressures : (Nat → Int32)) (t_place : Int32) (t_fillTicks : Int32) (t_ticks : Int32) (t_coolTicks : Int32) (t_why : Int32) (l1 : Int32) (sz : Nat) (N : Nat) (res : (Int32)) (hf : f2_told N l1 t_fullAt t_pressures t_place t_fillTicks t_ticks t_coolTicks t_why = some res) : Met l yX2_told wsX2_told ({ frames := 2, cells := 0, slots := 0, locals := 44 }) (pP g [.ref t_p, .int l1] sz (fl [wk2 g t_p t_p_has t_has t_p_firstAt t_firstAt t_p_fullAt t_fullAt t_p_pressures t_pressures t_place t_fillTicks t_ticks t_coolTicks t_why])) (pQi g (fun r => r = res) (fl [wk2 g t_p t_p_has t_has t_p_firstAt t_firstAt t_p_fullAt t_fullAt t_p_pressures t_pressures t_place t_fillTicks t_ticks t_coolTicks t_why]) (va_A (fl [wk2 g t_p t_p_has t_has t_p_firstAt t_firstAt t_p_fullAt t_fullAt t_p_pressures t_pressures t_place t_fillTicks t_ticks t_coolTicks t_why]) sz)) 0 0 (va_A (fl [wk2 g t_p t_p_has t_has t_p_firstAt t_firstAt t_p_fullAt t_fullAt t_p_pressures t_pressures t_place t_fillTicks t_ticks t_coolTicks t_why]) sz) := by
  refine Met.ofW (cc := cX2_told) (maxL := 2) (ret := (some .int)) (by decide) rfl ?_
  intro p e s m args below meth c s₁ B hml hv
  obtain ⟨rfl, hsz, hP, hK, hD0, hG⟩ := hv
  have hx := B.exec
  have hb := B.bytes
  have hr := B.returns
  have hts := atoms_spec (ws := wsX2_told) B.pre
  have hown : s.vm.findClass RX2 = some m.cls := findClass_of_methodNamed B.named
  have hlocks := B.notSynchronized
  subst hsz
  have hD := hD0.self (sz := s.heap.size)
  generalize hAe : va_A (fl [wk2 g t_p t_p_has t_has t_p_firstAt t_firstAt t_p_fullAt t_fullAt t_p_pressures t_pressures t_place t_fillTicks t_ticks t_coolTicks t_why]) s.heap.size = A at hD hG ⊢
  have hA : ∀ q : Nat, s.heap.size ≤ q → A q := fun q h => by rw [← hAe]; exact Or.inr h
  have hS : va_S A s.heap s.heap [] := va_S.rf
  have hin2 : ∀ w ∈ u_ws RX2 TX2 9, w ∈ wsX2_told := by decide +kernel
  have L1 := hts (Cond.fieldLink RX2 28 "MouldShots$Shot" "fillTicks" "I") (by decide +kernel)
  have L2 := hts (Cond.fieldLink RX2 31 "MouldShots$Shot" "ticks" "I") (by decide +kernel)
  have L3 := hts (Cond.fieldLink RX2 37 "MouldShots$Shot" "why" "I") (by decide +kernel)
  have L4 := hts (Cond.fieldLink RX2 24 "MouldShots$Shot" "place" "I") (by decide +kernel)
  have hl := lv_entry ([.ref t_p, .int l1]) (n := 2) (Nat.le_of_ble_eq_true rfl)
  rw [lg_entry_eq]
  generalize (lg_sl ([.ref t_p, .int l1]) ++ List.replicate (2 - (lg_sl ([.ref t_p, .int l1])).length) Slot.unset).toArray = ls at hl ⊢
  replace hl : lv_has ls 2 [(0, .ref t_p), (1, .int l1)] := hl
  rw [f2_told] at hf
  have hgo : ∀ (H : Heap) (locs : List Loc), H = s.heap → locs = [] → va_P g.1 vwCl (fl [wk2 g t_p t_p_has t_has t_p_firstAt t_firstAt t_p_fullAt t_fullAt t_p_pressures t_pressures t_place t_fillTicks t_ticks t_coolTicks t_why]) H → va_S A s.heap H locs → W p l e ({ frames := 2, cells := 0, slots := 0, locals := 44 }) s m ([.ref t_p, .int l1] : List Value).toArray below meth c H locs 0 0 (MQ below (pQi g (fun r => r = res) (fl [wk2 g t_p t_p_has t_has t_p_firstAt t_firstAt t_p_fullAt t_fullAt t_p_pressures t_pressures t_place t_fillTicks t_ticks t_coolTicks t_why]) A) ([.ref t_p, .int l1] : List Value).toArray s 0 0 A) (F0 m 0 ls []) := by
    intro H locs hH hL hP hS
    refine lv_iload_n hx hb dX2_told_0 rfl (lv_at hl 1 rfl) ?_
    by_cases c_1 : l1 = 0
    · replace hf := (if_pos c_1).symm.trans hf
      refine lv_tableIn (tgt := 44) hx hb dX2_told_1 (by rw [c_1]; decide) (by rw [c_1]; decide) (by rw [c_1]; rfl) (by decide) ?_
      refine lv_aload_n hx hb dX2_told_44 rfl (lv_at hl 0 rfl) ?_
      refine va_get (D := g.1) (ci := 2) (v := .int t_fillTicks) (C := RX2) (T := TX2) (N := 9) hx hb hts hin2 hown hK.1 hP 0 rfl rfl 5 (by decide) L1 (fun _ h9 => h9) rfl dX2_told_45 ?_
      replace hf := Option.some.inj hf
      subst hf
      exact W.iret (v := t_fillTicks) hx hb hr (fun t ht hW => ⟨⟨_, (), rfl, rfl, by show va_P g.1 vwCl _ t.heap; rw [ht]; exact hP⟩, hS.F ht⟩) hS.2.2 dX2_told_48 hlocks
    · replace hf := (if_neg c_1).symm.trans hf
      by_cases c_2 : l1 = 1
      · replace hf := (if_pos c_2).symm.trans hf
        refine lv_tableIn (tgt := 49) hx hb dX2_told_1 (by rw [c_2]; decide) (by rw [c_2]; decide) (by rw [c_2]; rfl) (by decide) ?_
        refine lv_aload_n hx hb dX2_told_49 rfl (lv_at hl 0 rfl) ?_
        refine va_get (D := g.1) (ci := 2) (v := .int t_ticks) (C := RX2) (T := TX2) (N := 9) hx hb hts hin2 hown hK.1 hP 0 rfl rfl 6 (by decide) L2 (fun _ h9 => h9) rfl dX2_told_50 ?_
        replace hf := Option.some.inj hf
        subst hf
        exact W.iret (v := t_ticks) hx hb hr (fun t ht hW => ⟨⟨_, (), rfl, rfl, by show va_P g.1 vwCl _ t.heap; rw [ht]; exact hP⟩, hS.F ht⟩) hS.2.2 dX2_told_53 hlocks
      · replace hf := (if_neg c_2).symm.trans hf
        by_cases c_3 : l1 = 2
        · replace hf := (if_pos c_3).symm.trans hf
          refine lv_tableIn (tgt := 54) hx hb dX2_told_1 (by rw [c_3]; decide) (by rw [c_3]; decide) (by rw [c_3]; rfl) (by decide) ?_
          refine lv_aload_n hx hb dX2_told_54 rfl (lv_at hl 0 rfl) ?_
          refine va_get (D := g.1) (ci := 2) (v := .int t_why) (C := RX2) (T := TX2) (N := 9) hx hb hts hin2 hown hK.1 hP 0 rfl rfl 8 (by decide) L3 (fun _ h9 => h9) rfl dX2_told_55 ?_
          replace hf := Option.some.inj hf
          subst hf
          exact W.iret (v := t_why) hx hb hr (fun t ht hW => ⟨⟨_, (), rfl, rfl, by show va_P g.1 vwCl _ t.heap; rw [ht]; exact hP⟩, hS.F ht⟩) hS.2.2 dX2_told_58 hlocks
        · replace hf := (if_neg c_3).symm.trans hf
          by_cases c_4 : l1 = 3
          · replace hf := (if_pos c_4).symm.trans hf
            refine lv_tableIn (tgt := 59) hx hb dX2_told_1 (by rw [c_4]; decide) (by rw [c_4]; decide) (by rw [c_4]; rfl) (by decide) ?_
            refine lv_bipush (v := 99) hx hb dX2_told_59 (by decide) ?_
            refine lv_aload_n hx hb dX2_told_61 rfl (lv_at hl 0 rfl) ?_
            refine va_get (D := g.1) (ci := 2) (v := .int t_place) (C := RX2) (T := TX2) (N := 9) hx hb hts hin2 hown hK.1 hP 0 rfl rfl 4 (by decide) L4 (fun _ h9 => h9) rfl dX2_told_62 ?_
            refine lv_isub hx hb dX2_told_65 ?_
            replace hf := Option.some.inj hf
            subst hf
            exact W.iret (v := 99 - t_place) hx hb hr (fun t ht hW => ⟨⟨_, (), rfl, rfl, by show va_P g.1 vwCl _ t.heap; rw [ht]; exact hP⟩, hS.F ht⟩) hS.2.2 dX2_told_66 hlocks
          · replace hf := (if_neg c_4).symm.trans hf
            by_cases c_5 : l1 = 4
            · replace hf := (if_pos c_5).symm.trans hf
              refine lv_tableIn (tgt := 67) hx hb dX2_told_1 (by rw [c_5]; decide) (by rw [c_5]; decide) (by rw [c_5]; rfl) (by decide) ?_
              refine lv_aload_n hx hb dX2_told_67 rfl (lv_at hl 0 rfl) ?_
              obtain ⟨q_6, hq_6, hf⟩ := bd_some hf
              refine bft_i (bn := [wk2 g t_p t_p_has t_has t_p_firstAt t_firstAt t_p_fullAt t_fullAt t_p_pressures t_pressures t_place t_fillTicks t_ticks t_coolTicks t_why]) (L := [[t_p, t_p_has, t_p_firstAt, t_p_fullAt, t_p_pressures]]) (va_runV (As := []) (rest := []) ⟨hx, hb, hml, hown, hts⟩ (c2_balance l g t_p t_p_has t_has t_p_firstAt t_firstAt t_p_fullAt t_fullAt t_p_pressures t_pressures t_place t_fillTicks t_ticks t_coolTicks t_why H.size N q_6 hq_6) (cwV 0 hts gX2_told_X2_balance rfl rfl rfl ⟨rfl, nh2.1, nh2.2, pd_12⟩ ⟨Nat.le_of_ble_eq_true rfl, Nat.le_of_ble_eq_true rfl⟩) (qPV hK hG hP hD hS hA [0] (by decide) rfl (va_recv hK.1 hP (ci := 2) (q0 := 0) rfl rfl)) rfl rfl hl.1 rfl (lv_room (Nat.le_of_ble_eq_true rfl)) dX2_told_68 ⟨Nat.zero_le _, Nat.zero_le _⟩) hP hD hS hA [0] rfl rfl rfl rfl (fun r_7 H locs hw hP hD hS => ?_)
              replace hw := hw.symm
              subst hw
              replace hf := Option.some.inj hf
              subst hf
              exact W.iret (v := q_6) hx hb hr (fun t ht hW => ⟨⟨_, (), rfl, rfl, by show va_P g.1 vwCl _ t.heap; rw [ht]; exact hP⟩, hS.F ht⟩) hS.2.2 dX2_told_71 hlocks
            · replace hf := (if_neg c_5).symm.trans hf
              by_cases c_8 : l1 = 5
              · replace hf := (if_pos c_8).symm.trans hf
                refine lv_tableIn (tgt := 72) hx hb dX2_told_1 (by rw [c_8]; decide) (by rw [c_8]; decide) (by rw [c_8]; rfl) (by decide) ?_
                refine lv_aload_n hx hb dX2_told_72 rfl (lv_at hl 0 rfl) ?_
                obtain ⟨q_9, hq_9, hf⟩ := bd_some hf
                refine bft_i (bn := [wk2 g t_p t_p_has t_has t_p_firstAt t_firstAt t_p_fullAt t_fullAt t_p_pressures t_pressures t_place t_fillTicks t_ticks t_coolTicks t_why]) (L := [[t_p, t_p_has, t_p_firstAt, t_p_fullAt, t_p_pressures]]) (va_runV (As := []) (rest := []) ⟨hx, hb, hml, hown, hts⟩ (c2_whole l g t_p t_p_has t_has t_p_firstAt t_firstAt t_p_fullAt t_fullAt t_p_pressures t_pressures t_place t_fillTicks t_ticks t_coolTicks t_why H.size N q_9 hq_9) (cwV 0 hts gX2_told_X2_whole rfl rfl rfl ⟨rfl, nh2.1, nh2.2, pd_12⟩ ⟨Nat.le_of_ble_eq_true rfl, Nat.le_of_ble_eq_true rfl⟩) (qPV hK hG hP hD hS hA [0] (by decide) rfl (va_recv hK.1 hP (ci := 2) (q0 := 0) rfl rfl)) rfl rfl hl.1 rfl (lv_room (Nat.le_of_ble_eq_true rfl)) dX2_told_73 ⟨Nat.zero_le _, Nat.zero_le _⟩) hP hD hS hA [0] rfl rfl rfl rfl (fun r_10 H locs hw hP hD hS => ?_)
                replace hw := hw.symm
                subst hw
                replace hf := Option.some.inj hf
                subst hf
                exact W.iret (v := t_ticks + t_coolTicks) hx hb hr (fun t ht hW => ⟨⟨_, (), rfl, rfl, by show va_P g.1 vwCl _ t.heap; rw [ht]; exact hP⟩, hS.F ht⟩) hS.2.2 dX2_told_76 hlocks
              · replace hf := (if_neg c_8).symm.trans hf
                by_cases c_11 : l1 = 6
                · replace hf := (if_pos c_11).symm.trans hf
                  refine lv_tableIn (tgt := 77) hx hb dX2_told_1 (by rw [c_11]; decide) (by rw [c_11]; decide) (by rw [c_11]; rfl) (by decide) ?_
                  refine lv_aload_n hx hb dX2_told_77 rfl (lv_at hl 0 rfl) ?_
                  obtain ⟨q_12, hq_12, hf⟩ := bd_some hf
                  refine bft_i (bn := [wk2 g t_p t_p_has t_has t_p_firstAt t_firstAt t_p_fullAt t_fullAt t_p_pressures t_pressures t_place t_fillTicks t_ticks t_coolTicks t_why]) (L := [[t_p, t_p_has, t_p_firstAt, t_p_fullAt, t_p_pressures]]) (va_runV (As := []) (rest := []) ⟨hx, hb, hml, hown, hts⟩ (c2_greatestPressure l g t_p t_p_has t_has t_p_firstAt t_firstAt t_p_fullAt t_fullAt t_p_pressures t_pressures t_place t_fillTicks t_ticks t_coolTicks t_why H.size N q_12 hq_12) (cwV 0 hts gX2_told_X2_greatestPressure rfl rfl rfl ⟨rfl, nh2.1, nh2.2, pd_12⟩ ⟨Nat.le_of_ble_eq_true rfl, Nat.le_of_ble_eq_true rfl⟩) (qPV hK hG hP hD hS hA [0] (by decide) rfl (va_recv hK.1 hP (ci := 2) (q0 := 0) rfl rfl)) rfl rfl hl.1 rfl (lv_room (Nat.le_of_ble_eq_true rfl)) dX2_told_78 ⟨Nat.zero_le _, Nat.zero_le _⟩) hP hD hS hA [0] rfl rfl rfl rfl (fun r_13 H locs hw hP hD hS => ?_)
                  replace hw := hw.symm
                  subst hw
                  replace hf := Option.some.inj hf
                  subst hf
                  exact W.iret (v := q_12) hx hb hr (fun t ht hW => ⟨⟨_, (), rfl, rfl, by show va_P g.1 vwCl _ t.heap; rw [ht]; exact hP⟩, hS.F ht⟩) hS.2.2 dX2_told_81 hlocks
                · replace hf := (if_neg c_11).symm.trans hf
                  refine lv_tableOut (tgt := 82) hx hb dX2_told_1 (tab_out7 c_1 c_2 c_3 c_4 c_5 c_8 c_11) (by decide) ?_
                  refine lv_iconst (v := (-1)) hx hb dX2_told_82 (by decide) ?_
                  replace hf := Option.some.inj hf
                  subst hf
                  exact W.iret (v := (-1)) hx hb hr (fun t ht hW => ⟨⟨_, (), rfl, rfl, by show va_P g.1 vwCl _ t.heap; rw [ht]; exact hP⟩, hS.F ht⟩) hS.2.2 dX2_told_83 hlocks
  exact hgo s.heap [] rfl rfl hP hS
