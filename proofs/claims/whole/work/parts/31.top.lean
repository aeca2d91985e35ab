set_option maxHeartbeats 4000000 in
set_option maxRecDepth 100000 in
theorem c5_undo (l : Launch) (g : gG) (t_p : Nat) (t_p_text : Nat) (t_p_plan : Nat) (t_p_draft : Nat) (t_p_states : Nat) (t_sa : (Nat → Nat)) (t_at : Int32) (t_undoable : Int32) (t_p_shots : Nat) (t_ha : (Nat → Nat)) (t_p_trial : Nat) (sz : Nat) (N : Nat) (res : (Int32 × Int32 × Int32)) (hf : f5_undo N t_at t_undoable = some res) : Met l yX5_undo wsX5_undo ({ frames := 0, cells := 0, slots := 0, locals := 0 }) (pP g [.ref t_p] sz (fl [wk5 g t_p t_p_text t_p_plan t_p_draft t_p_states (fun i => some (t_sa i)) t_at t_undoable (t_sa (Int32.toNatClampNeg t_at)) t_p_shots (fun i => some (t_ha i)) t_p_trial])) (pQi g (fun r => r = res.1) (fl [wk5 g t_p t_p_text t_p_plan t_p_draft t_p_states (fun i => some (t_sa i)) res.2.1 res.2.2 (t_sa (Int32.toNatClampNeg res.2.1)) t_p_shots (fun i => some (t_ha i)) t_p_trial]) (va_A (fl [wk5 g t_p t_p_text t_p_plan t_p_draft t_p_states (fun i => some (t_sa i)) t_at t_undoable (t_sa (Int32.toNatClampNeg t_at)) t_p_shots (fun i => some (t_ha i)) t_p_trial]) sz)) 0 0 (va_A (fl [wk5 g t_p t_p_text t_p_plan t_p_draft t_p_states (fun i => some (t_sa i)) t_at t_undoable (t_sa (Int32.toNatClampNeg t_at)) t_p_shots (fun i => some (t_ha i)) t_p_trial]) sz) := by
  refine Met.ofW (cc := cX5_undo) (maxL := 1) (ret := (some .int)) (by decide) rfl ?_
  intro p e s m args below meth c s₁ B hml hv
  obtain ⟨rfl, hsz, hP, hK, hD0, hG⟩ := hv
  have hx := B.exec
  have hb := B.bytes
  have hr := B.returns
  have hts := atoms_spec (ws := wsX5_undo) B.pre
  have hown : s.vm.findClass RX5 = some m.cls := findClass_of_methodNamed B.named
  have hlocks := B.notSynchronized
  subst hsz
  have hD := hD0.self (sz := s.heap.size)
  generalize hAe : va_A (fl [wk5 g t_p t_p_text t_p_plan t_p_draft t_p_states (fun i => some (t_sa i)) t_at t_undoable (t_sa (Int32.toNatClampNeg t_at)) t_p_shots (fun i => some (t_ha i)) t_p_trial]) s.heap.size = A at hD hG ⊢
  have hA : ∀ q : Nat, s.heap.size ≤ q → A q := fun q h => by rw [← hAe]; exact Or.inr h
  have hS : va_S A s.heap s.heap [] := va_S.rf
  have hin5 : ∀ w ∈ u_ws RX5 TX5 9, w ∈ wsX5_undo := by decide +kernel
  have L1 := hts (Cond.fieldLink RX5 36 "MouldShots" "undoable" "I") (by decide +kernel)
  have L2 := hts (Cond.fieldLink RX5 32 "MouldShots" "at" "I") (by decide +kernel)
  have L3 := hts (Cond.fieldLink RX5 28 "MouldShots" "states" "[LMouldShots$State;") (by decide +kernel)
  have L4 := hts (Cond.fieldLink RX5 40 "MouldShots" "now" "LMouldShots$State;") (by decide +kernel)
  have hl := lv_entry ([.ref t_p]) (n := 1) (Nat.le_of_ble_eq_true rfl)
  rw [lg_entry_eq]
  generalize (lg_sl ([.ref t_p]) ++ List.replicate (1 - (lg_sl ([.ref t_p])).length) Slot.unset).toArray = ls at hl ⊢
  replace hl : lv_has ls 1 [(0, .ref t_p)] := hl
  rw [f5_undo] at hf
  have hgo : ∀ (H : Heap) (locs : List Loc), H = s.heap → locs = [] → va_P g.1 vwCl (fl [wk5 g t_p t_p_text t_p_plan t_p_draft t_p_states (fun i => some (t_sa i)) t_at t_undoable (t_sa (Int32.toNatClampNeg t_at)) t_p_shots (fun i => some (t_ha i)) t_p_trial]) H → va_S A s.heap H locs → W p l e ({ frames := 0, cells := 0, slots := 0, locals := 0 }) s m ([.ref t_p] : List Value).toArray below meth c H locs 0 0 (MQ below (pQi g (fun r => r = res.1) (fl [wk5 g t_p t_p_text t_p_plan t_p_draft t_p_states (fun i => some (t_sa i)) res.2.1 res.2.2 (t_sa (Int32.toNatClampNeg res.2.1)) t_p_shots (fun i => some (t_ha i)) t_p_trial]) A) ([.ref t_p] : List Value).toArray s 0 0 A) (F0 m 0 ls []) := by
    intro H locs hH hL hP hS
    refine lv_aload_n hx hb dX5_undo_0 rfl (lv_at hl 0 rfl) ?_
    refine va_get (D := g.1) (ci := 5) (v := .int t_undoable) (C := RX5) (T := TX5) (N := 9) hx hb hts hin5 hown hK.1 hP 0 rfl rfl 5 (by decide) L1 (fun _ h9 => h9) rfl dX5_undo_1 ?_
    refine lv_if_ne (tgt := 10) hx hb dX5_undo_4 (by decide) (fun c_1 => ?_) (fun c_1 => ?_)
    · replace hf := (if_neg c_1).symm.trans hf
      refine lv_aload_n hx hb dX5_undo_10 rfl (lv_at hl 0 rfl) ?_
      refine lv_dup hx hb dX5_undo_11 rfl ?_
      refine va_get (D := g.1) (ci := 5) (v := .int t_undoable) (C := RX5) (T := TX5) (N := 9) hx hb hts hin5 hown hK.1 hP 0 rfl rfl 5 (by decide) L1 (fun _ h9 => h9) rfl dX5_undo_12 ?_
      refine lv_iconst (v := 1) hx hb dX5_undo_15 (by decide) ?_
      refine lv_isub hx hb dX5_undo_16 ?_
      refine va_put (D := g.1) (ci := 5) (v := .int (t_undoable - 1)) (ty := .int) (C := RX5) (T := TX5) (N := 9) hx hb hts hin5 tyX5 tyX5_ok nmX5 hown hK.1 hP hD hS 0 rfl rfl 5 (by decide) L1 (fun _ h9 => h9) rfl (by decide +kernel) rfl rfl (Nat.le_of_ble_eq_true rfl) dX5_undo_17 (fun H locs hP hD hS => ?_)
      replace hP : va_P g.1 vwCl (fl [wk5 g t_p t_p_text t_p_plan t_p_draft t_p_states (fun i => some (t_sa i)) t_at (t_undoable - 1) (t_sa (Int32.toNatClampNeg t_at)) t_p_shots (fun i => some (t_ha i)) t_p_trial]) H := hP
      replace hD : va_D A (fl [wk5 g t_p t_p_text t_p_plan t_p_draft t_p_states (fun i => some (t_sa i)) t_at (t_undoable - 1) (t_sa (Int32.toNatClampNeg t_at)) t_p_shots (fun i => some (t_ha i)) t_p_trial]) := hD
      refine lv_aload_n hx hb dX5_undo_20 rfl (lv_at hl 0 rfl) ?_
      refine lv_aload_n hx hb dX5_undo_21 rfl (lv_at hl 0 rfl) ?_
      refine va_get (D := g.1) (ci := 5) (v := .int t_at) (C := RX5) (T := TX5) (N := 9) hx hb hts hin5 hown hK.1 hP 0 rfl rfl 4 (by decide) L2 (fun _ h9 => h9) rfl dX5_undo_22 ?_
      refine lv_iconst (v := 5) hx hb dX5_undo_25 (by decide) ?_
      refine lv_iadd hx hb dX5_undo_26 ?_
      refine lv_iconst (v := 1) hx hb dX5_undo_27 (by decide) ?_
      refine lv_isub hx hb dX5_undo_28 ?_
      refine lv_iconst (v := 5) hx hb dX5_undo_29 (by decide) ?_
      refine lv_irem hx hb dX5_undo_30 (by decide) ?_
      refine va_put (D := g.1) (ci := 5) (v := .int (((t_at + 5) - 1) - ((t_at + 5) - 1) / 5 * 5)) (ty := .int) (C := RX5) (T := TX5) (N := 9) hx hb hts hin5 tyX5 tyX5_ok nmX5 hown hK.1 hP hD hS 0 rfl rfl 4 (by decide) L2 (fun _ h9 => h9) rfl (by decide +kernel) rfl rfl (Nat.le_of_ble_eq_true rfl) dX5_undo_31 (fun H locs hP hD hS => ?_)
      replace hP : va_P g.1 vwCl (fl [wk5 g t_p t_p_text t_p_plan t_p_draft t_p_states (fun i => some (t_sa i)) (((t_at + 5) - 1) - ((t_at + 5) - 1) / 5 * 5) (t_undoable - 1) (t_sa (Int32.toNatClampNeg t_at)) t_p_shots (fun i => some (t_ha i)) t_p_trial]) H := hP
      replace hD : va_D A (fl [wk5 g t_p t_p_text t_p_plan t_p_draft t_p_states (fun i => some (t_sa i)) (((t_at + 5) - 1) - ((t_at + 5) - 1) / 5 * 5) (t_undoable - 1) (t_sa (Int32.toNatClampNeg t_at)) t_p_shots (fun i => some (t_ha i)) t_p_trial]) := hD
      refine lv_aload_n hx hb dX5_undo_34 rfl (lv_at hl 0 rfl) ?_
      refine lv_aload_n hx hb dX5_undo_35 rfl (lv_at hl 0 rfl) ?_
      refine va_get (D := g.1) (ci := 5) (v := .ref t_p_states) (C := RX5) (T := TX5) (N := 9) hx hb hts hin5 hown hK.1 hP 0 rfl rfl 3 (by decide) L3 (fun _ h9 => h9) rfl dX5_undo_36 ?_
      refine lv_aload_n hx hb dX5_undo_39 rfl (lv_at hl 0 rfl) ?_
      refine va_get (D := g.1) (ci := 5) (v := .int (((t_at + 5) - 1) - ((t_at + 5) - 1) / 5 * 5)) (C := RX5) (T := TX5) (N := 9) hx hb hts hin5 hown hK.1 hP 0 rfl rfl 4 (by decide) L2 (fun _ h9 => h9) rfl dX5_undo_40 ?_
      obtain ⟨h_2, hf⟩ := if_some hf
      refine va_aldq hx hb hK.1 hP 1 1 rfl rfl (ok_in h_2) dX5_undo_43 ?_
      refine W.eq (g2 := F0 m 44 ls [.ref (t_sa (Int32.toNatClampNeg (((t_at + 5) - 1) - ((t_at + 5) - 1) / 5 * 5))), .ref t_p]) rfl ?_
      refine va_put (D := g.1) (ci := 5) (v := .ref (t_sa (Int32.toNatClampNeg (((t_at + 5) - 1) - ((t_at + 5) - 1) / 5 * 5)))) (ty := .object "MouldShots$State") (C := RX5) (T := TX5) (N := 9) hx hb hts hin5 tyX5 tyX5_ok nmX5 hown hK.1 hP hD hS 0 rfl rfl 6 (by decide) L4 (fun _ h9 => h9) rfl (by decide +kernel) rfl rfl (Nat.le_of_ble_eq_true rfl) dX5_undo_44 (fun H locs hP hD hS => ?_)
      replace hP : va_P g.1 vwCl (fl [wk5 g t_p t_p_text t_p_plan t_p_draft t_p_states (fun i => some (t_sa i)) (((t_at + 5) - 1) - ((t_at + 5) - 1) / 5 * 5) (t_undoable - 1) (t_sa (Int32.toNatClampNeg (((t_at + 5) - 1) - ((t_at + 5) - 1) / 5 * 5))) t_p_shots (fun i => some (t_ha i)) t_p_trial]) H := hP
      replace hD : va_D A (fl [wk5 g t_p t_p_text t_p_plan t_p_draft t_p_states (fun i => some (t_sa i)) (((t_at + 5) - 1) - ((t_at + 5) - 1) / 5 * 5) (t_undoable - 1) (t_sa (Int32.toNatClampNeg (((t_at + 5) - 1) - ((t_at + 5) - 1) / 5 * 5))) t_p_shots (fun i => some (t_ha i)) t_p_trial]) := hD
      refine lv_aload_n hx hb dX5_undo_47 rfl (lv_at hl 0 rfl) ?_
      refine va_get (D := g.1) (ci := 5) (v := .int (t_undoable - 1)) (C := RX5) (T := TX5) (N := 9) hx hb hts hin5 hown hK.1 hP 0 rfl rfl 5 (by decide) L1 (fun _ h9 => h9) rfl dX5_undo_48 ?_
      replace hf := Option.some.inj hf
      subst hf
      exact W.iret (v := t_undoable - 1) hx hb hr (fun t ht hW => ⟨⟨_, (), rfl, rfl, by show va_P g.1 vwCl _ t.heap; rw [ht]; exact hP⟩, hS.F ht⟩) hS.2.2 dX5_undo_51 hlocks
    · replace hf := (if_pos c_1).symm.trans hf
      refine lv_bipush (v := (-2)) hx hb dX5_undo_7 (by decide) ?_
      replace hf := Option.some.inj hf
      subst hf
      exact W.iret (v := (-2)) hx hb hr (fun t ht hW => ⟨⟨_, (), rfl, rfl, by show va_P g.1 vwCl _ t.heap; rw [ht]; exact hP⟩, hS.F ht⟩) hS.2.2 dX5_undo_9 hlocks
  exact hgo s.heap [] rfl rfl hP hS

set_option maxHeartbeats 4000000 in
set_option maxRecDepth 100000 in
theorem c5_isShot (l : Launch) (g : gG) (t_p : Nat) (t_p_text : Nat) (t_p_plan : Nat) (t_p_draft : Nat) (t_p_states : Nat) (t_sa : (Nat → Nat)) (t_at : Int32) (t_undoable : Int32) (t_p_shots : Nat) (t_ha : (Nat → Nat)) (t_p_trial : Nat) (s_p_drags : Nat) (s_drags : (Nat → Int32)) (s_p_speeds : Nat) (s_speeds : (Nat → Int32)) (s_p_settings : Nat) (s_settings : (Nat → Int32)) (s_shut : Int32) (s_coresIn : Int32) (s_loaded : Int32) (s_hot : Int32) (s_made : Int32) (s_width : Int32) (s_p_taught : Nat) (l1 : Int32) (sz : Nat) (N : Nat) (res : (Int32)) (hf : f5_isShot N l1 s_made = some res) : Met l yX5_isShot wsX5_isShot ({ frames := 2, cells := 0, slots := 0, locals := 41 }) (pP g [.ref t_p, .int l1] sz (fl [wk5 g t_p t_p_text t_p_plan t_p_draft t_p_states (fun i => some (t_sa i)) t_at t_undoable (t_sa (Int32.toNatClampNeg t_at)) t_p_shots (fun i => some (t_ha i)) t_p_trial, wk3 g (t_sa (Int32.toNatClampNeg t_at)) s_p_drags s_drags s_p_speeds s_speeds s_p_settings s_settings s_shut s_coresIn s_loaded s_hot s_made s_width s_p_taught])) (pQi g (fun r => r = res) (fl [wk5 g t_p t_p_text t_p_plan t_p_draft t_p_states (fun i => some (t_sa i)) t_at t_undoable (t_sa (Int32.toNatClampNeg t_at)) t_p_shots (fun i => some (t_ha i)) t_p_trial, wk3 g (t_sa (Int32.toNatClampNeg t_at)) s_p_drags s_drags s_p_speeds s_speeds s_p_settings s_settings s_shut s_coresIn s_loaded s_hot s_made s_width s_p_taught]) (va_A (fl [wk5 g t_p t_p_text t_p_plan t_p_draft t_p_states (fun i => some (t_sa i)) t_at t_undoable (t_sa (Int32.toNatClampNeg t_at)) t_p_shots (fun i => some (t_ha i)) t_p_trial, wk3 g (t_sa (Int32.toNatClampNeg t_at)) s_p_drags s_drags s_p_speeds s_speeds s_p_settings s_settings s_shut s_coresIn s_loaded s_hot s_made s_width s_p_taught]) sz)) 0 0 (va_A (fl [wk5 g t_p t_p_text t_p_plan t_p_draft t_p_states (fun i => some (t_sa i)) t_at t_undoable (t_sa (Int32.toNatClampNeg t_at)) t_p_shots (fun i => some (t_ha i)) t_p_trial, wk3 g (t_sa (Int32.toNatClampNeg t_at)) s_p_drags s_drags s_p_speeds s_speeds s_p_settings s_settings s_shut s_coresIn s_loaded s_hot s_made s_width s_p_taught]) sz) := by
  refine Met.ofW (cc := cX5_isShot) (maxL := 2) (ret := (some .boolean)) (by decide) rfl ?_
  intro p e s m args below meth c s₁ B hml hv
  obtain ⟨rfl, hsz, hP, hK, hD0, hG⟩ := hv
  have hx := B.exec
  have hb := B.bytes
  have hr := B.returns
  have hts := atoms_spec (ws := wsX5_isShot) B.pre
  have hown : s.vm.findClass RX5 = some m.cls := findClass_of_methodNamed B.named
  have hlocks := B.notSynchronized
  subst hsz
  have hD := hD0.self (sz := s.heap.size)
  generalize hAe : va_A (fl [wk5 g t_p t_p_text t_p_plan t_p_draft t_p_states (fun i => some (t_sa i)) t_at t_undoable (t_sa (Int32.toNatClampNeg t_at)) t_p_shots (fun i => some (t_ha i)) t_p_trial, wk3 g (t_sa (Int32.toNatClampNeg t_at)) s_p_drags s_drags s_p_speeds s_speeds s_p_settings s_settings s_shut s_coresIn s_loaded s_hot s_made s_width s_p_taught]) s.heap.size = A at hD hG ⊢
  have hA : ∀ q : Nat, s.heap.size ≤ q → A q := fun q h => by rw [← hAe]; exact Or.inr h
  have hS : va_S A s.heap s.heap [] := va_S.rf
  have hl := lv_entry ([.ref t_p, .int l1]) (n := 2) (Nat.le_of_ble_eq_true rfl)
  rw [lg_entry_eq]
  generalize (lg_sl ([.ref t_p, .int l1]) ++ List.replicate (2 - (lg_sl ([.ref t_p, .int l1])).length) Slot.unset).toArray = ls at hl ⊢
  replace hl : lv_has ls 2 [(0, .ref t_p), (1, .int l1)] := hl
  rw [f5_isShot] at hf
  have hgo : ∀ (H : Heap) (locs : List Loc), H = s.heap → locs = [] → va_P g.1 vwCl (fl [wk5 g t_p t_p_text t_p_plan t_p_draft t_p_states (fun i => some (t_sa i)) t_at t_undoable (t_sa (Int32.toNatClampNeg t_at)) t_p_shots (fun i => some (t_ha i)) t_p_trial, wk3 g (t_sa (Int32.toNatClampNeg t_at)) s_p_drags s_drags s_p_speeds s_speeds s_p_settings s_settings s_shut s_coresIn s_loaded s_hot s_made s_width s_p_taught]) H → va_S A s.heap H locs → W p l e ({ frames := 2, cells := 0, slots := 0, locals := 41 }) s m ([.ref t_p, .int l1] : List Value).toArray below meth c H locs 0 0 (MQ below (pQi g (fun r => r = res) (fl [wk5 g t_p t_p_text t_p_plan t_p_draft t_p_states (fun i => some (t_sa i)) t_at t_undoable (t_sa (Int32.toNatClampNeg t_at)) t_p_shots (fun i => some (t_ha i)) t_p_trial, wk3 g (t_sa (Int32.toNatClampNeg t_at)) s_p_drags s_drags s_p_speeds s_speeds s_p_settings s_settings s_shut s_coresIn s_loaded s_hot s_made s_width s_p_taught]) A) ([.ref t_p, .int l1] : List Value).toArray s 0 0 A) (F0 m 0 ls []) := by
    intro H locs hH hL hP hS
    refine lv_iload_n hx hb dX5_isShot_0 rfl (lv_at hl 1 rfl) ?_
    refine lv_if_lt (tgt := 16) hx hb dX5_isShot_1 (by decide) (fun c_1 => ?_) (fun c_1 => ?_)
    · replace hf := (if_pos c_1).symm.trans hf
      refine lv_iconst (v := 0) hx hb dX5_isShot_16 (by decide) ?_
      replace hf := Option.some.inj hf
      subst hf
      exact W.zret (v := 0) hx hb hr rfl (fun t ht hW => ⟨⟨_, (), rfl, rfl, by show va_P g.1 vwCl _ t.heap; rw [ht]; exact hP⟩, hS.F ht⟩) hS.2.2 dX5_isShot_17 hlocks
    · replace hf := (if_neg c_1).symm.trans hf
      refine lv_iload_n hx hb dX5_isShot_4 rfl (lv_at hl 1 rfl) ?_
      refine lv_aload_n hx hb dX5_isShot_5 rfl (lv_at hl 0 rfl) ?_
      obtain ⟨q_2, hq_2, hf⟩ := bd_some hf
      refine bft_i (bn := [wk5 g t_p t_p_text t_p_plan t_p_draft t_p_states (fun i => some (t_sa i)) t_at t_undoable (t_sa (Int32.toNatClampNeg t_at)) t_p_shots (fun i => some (t_ha i)) t_p_trial, wk3 g (t_sa (Int32.toNatClampNeg t_at)) s_p_drags s_drags s_p_speeds s_speeds s_p_settings s_settings s_shut s_coresIn s_loaded s_hot s_made s_width s_p_taught]) (L := [[t_p, t_p_states, t_p_shots], [(t_sa (Int32.toNatClampNeg t_at)), s_p_drags, s_p_speeds, s_p_settings]]) (va_runV (As := []) (rest := [.int l1]) ⟨hx, hb, hml, hown, hts⟩ (c5_keptShots l g t_p t_p_text t_p_plan t_p_draft t_p_states t_sa t_at t_undoable t_p_shots t_ha t_p_trial s_p_drags s_drags s_p_speeds s_speeds s_p_settings s_settings s_shut s_coresIn s_loaded s_hot s_made s_width s_p_taught H.size N q_2 hq_2) (cwV 0 hts gX5_isShot_X5_keptShots rfl rfl rfl ⟨rfl, nh5.1, nh5.2, pd_12⟩ ⟨Nat.le_of_ble_eq_true rfl, Nat.le_of_ble_eq_true rfl⟩) (qPV hK hG hP hD hS hA [0, 1] (by decide) rfl (va_recv hK.1 hP (ci := 5) (q0 := 0) rfl rfl)) rfl rfl hl.1 rfl (lv_room (Nat.le_of_ble_eq_true rfl)) dX5_isShot_6 ⟨Nat.zero_le _, Nat.zero_le _⟩) hP hD hS hA [0, 1] rfl rfl rfl rfl (fun r_3 H locs hw hP hD hS => ?_)
      replace hw := hw.symm
      subst hw
      refine lv_icmp_ge (tgt := 16) hx hb dX5_isShot_9 (by decide) (fun c_4 => ?_) (fun c_4 => ?_)
      · replace hf := (if_pos c_4).symm.trans hf
        refine lv_iconst (v := 0) hx hb dX5_isShot_16 (by decide) ?_
        replace hf := Option.some.inj hf
        subst hf
        exact W.zret (v := 0) hx hb hr rfl (fun t ht hW => ⟨⟨_, (), rfl, rfl, by show va_P g.1 vwCl _ t.heap; rw [ht]; exact hP⟩, hS.F ht⟩) hS.2.2 dX5_isShot_17 hlocks
      · replace hf := (if_neg c_4).symm.trans hf
        refine lv_iconst (v := 1) hx hb dX5_isShot_12 (by decide) ?_
        refine lv_goto (tgt := 17) hx hb dX5_isShot_13 (by decide) ?_
        replace hf := Option.some.inj hf
        subst hf
        exact W.zret (v := 1) hx hb hr rfl (fun t ht hW => ⟨⟨_, (), rfl, rfl, by show va_P g.1 vwCl _ t.heap; rw [ht]; exact hP⟩, hS.F ht⟩) hS.2.2 dX5_isShot_17 hlocks
  exact hgo s.heap [] rfl rfl hP hS

set_option maxHeartbeats 4000000 in
set_option maxRecDepth 100000 in
theorem c5_teach (l : Launch) (g : gG) (t_p : Nat) (t_p_text : Nat) (t_p_plan : Nat) (t_p_draft : Nat) (t_p_states : Nat) (t_sa : (Nat → Nat)) (t_at : Int32) (t_undoable : Int32) (t_p_shots : Nat) (t_ha : (Nat → Nat)) (t_p_trial : Nat) (n_cavities : Int32) (n_p_volumes : Nat) (n_volumes : (Nat → Int32)) (n_p_drags : Nat) (n_drags : (Nat → Int32)) (n_p_freezes : Nat) (n_freezes : (Nat → Int32)) (n_cores : Int32) (n_p_ahead : Nat) (n_ahead : (Nat → Int32)) (n_stages : Int32) (n_p_places : Nat) (n_places : (Nat → Int32)) (n_p_speeds : Nat) (n_speeds : (Nat → Int32)) (n_p_settings : Nat) (n_settings : (Nat → Int32)) (s_p_drags : Nat) (s_drags : (Nat → Int32)) (s_p_speeds : Nat) (s_speeds : (Nat → Int32)) (s_p_settings : Nat) (s_settings : (Nat → Int32)) (s_shut : Int32) (s_coresIn : Int32) (s_loaded : Int32) (s_hot : Int32) (s_made : Int32) (s_width : Int32) (s_p_taught : Nat) (sB_teachers : Int32) (sB_shortest : Int32) (sB_longest : Int32) (sB_p_least : Nat) (sB_least : (Nat → Int32)) (sB_p_greatest : Nat) (sB_greatest : (Nat → Int32)) (u_p_drags : Nat) (u_drags : (Nat → Int32)) (u_p_speeds : Nat) (u_speeds : (Nat → Int32)) (u_p_settings : Nat) (u_settings : (Nat → Int32)) (u_shut : Int32) (u_coresIn : Int32) (u_loaded : Int32) (u_hot : Int32) (u_made : Int32) (u_width : Int32) (u_p_taught : Nat) (uB_teachers : Int32) (uB_shortest : Int32) (uB_longest : Int32) (uB_p_least : Nat) (uB_least : (Nat → Int32)) (uB_p_greatest : Nat) (uB_greatest : (Nat → Int32)) (h_p_has : Nat) (h_has : (Nat → Int32)) (h_p_firstAt : Nat) (h_firstAt : (Nat → Int32)) (h_p_fullAt : Nat) (h_fullAt : (Nat → Int32)) (h_p_pressures : Nat) (h_pressures : (Nat → Int32)) (h_place : Int32) (h_fillTicks : Int32) (h_ticks : Int32) (h_coolTicks : Int32) (h_why : Int32) (l1 : Int32) (sz : Nat) (N : Nat) (res : (Int32 × Int32 × Int32 × (Nat → Int32) × (Nat → Int32) × (Nat → Int32) × Int32 × Int32 × Int32 × Int32 × Int32 × Int32 × Int32 × Int32 × Int32 × (Nat → Int32) × (Nat → Int32))) (hf : f5_teach N l1 t_at t_undoable n_cavities n_volumes s_drags s_speeds s_settings s_shut s_coresIn s_loaded s_hot s_made s_width sB_teachers sB_shortest sB_longest sB_least sB_greatest u_drags u_speeds u_settings u_shut u_coresIn u_loaded u_hot u_made u_width uB_teachers uB_shortest uB_longest uB_least uB_greatest h_has h_pressures h_ticks = some res) : Met l yX5_teach wsX5_teach ({ frames := 4, cells := 0, slots := 0, locals := 105 }) (pP g [.ref t_p, .int l1] sz (fl [wk5 g t_p t_p_text t_p_plan t_p_draft t_p_states (fun i => some (t_sa i)) t_at t_undoable (t_sa (Int32.toNatClampNeg t_at)) t_p_shots (fun i => some (t_ha i)) t_p_trial, wk1 g t_p_plan n_cavities n_p_volumes n_volumes n_p_drags n_drags n_p_freezes n_freezes n_cores n_p_ahead n_ahead n_stages n_p_places n_places n_p_speeds n_speeds n_p_settings n_settings, wk3 g (t_sa (Int32.toNatClampNeg t_at)) s_p_drags s_drags s_p_speeds s_speeds s_p_settings s_settings s_shut s_coresIn s_loaded s_hot s_made s_width s_p_taught, wk0 g s_p_taught sB_teachers sB_shortest sB_longest sB_p_least sB_least sB_p_greatest sB_greatest, wk3 g (t_sa (Int32.toNatClampNeg ((t_at + 1) - (t_at + 1) / 5 * 5))) u_p_drags u_drags u_p_speeds u_speeds u_p_settings u_settings u_shut u_coresIn u_loaded u_hot u_made u_width u_p_taught, wk0 g u_p_taught uB_teachers uB_shortest uB_longest uB_p_least uB_least uB_p_greatest uB_greatest, wk2 g (t_ha (Int32.toNatClampNeg (fmodJ ((s_made - (if 12 < s_made then 12 else s_made)) + l1) 16))) h_p_has h_has h_p_firstAt h_firstAt h_p_fullAt h_fullAt h_p_pressures h_pressures h_place h_fillTicks h_ticks h_coolTicks h_why])) (pQi g (fun r => r = res.1) (fl [wk5 g t_p t_p_text t_p_plan t_p_draft t_p_states (fun i => some (t_sa i)) res.2.1 res.2.2.1 (t_sa (Int32.toNatClampNeg res.2.1)) t_p_shots (fun i => some (t_ha i)) t_p_trial, wk1 g t_p_plan n_cavities n_p_volumes n_volumes n_p_drags n_drags n_p_freezes n_freezes n_cores n_p_ahead n_ahead n_stages n_p_places n_places n_p_speeds n_speeds n_p_settings n_settings, wk3 g (t_sa (Int32.toNatClampNeg t_at)) s_p_drags s_drags s_p_speeds s_speeds s_p_settings s_settings s_shut s_coresIn s_loaded s_hot s_made s_width s_p_taught, wk0 g s_p_taught sB_teachers sB_shortest sB_longest sB_p_least sB_least sB_p_greatest sB_greatest, wk3 g (t_sa (Int32.toNatClampNeg ((t_at + 1) - (t_at + 1) / 5 * 5))) u_p_drags res.2.2.2.1 u_p_speeds res.2.2.2.2.1 u_p_settings res.2.2.2.2.2.1 res.2.2.2.2.2.2.1 res.2.2.2.2.2.2.2.1 res.2.2.2.2.2.2.2.2.1 res.2.2.2.2.2.2.2.2.2.1 res.2.2.2.2.2.2.2.2.2.2.1 res.2.2.2.2.2.2.2.2.2.2.2.1 u_p_taught, wk0 g u_p_taught res.2.2.2.2.2.2.2.2.2.2.2.2.1 res.2.2.2.2.2.2.2.2.2.2.2.2.2.1 res.2.2.2.2.2.2.2.2.2.2.2.2.2.2.1 uB_p_least res.2.2.2.2.2.2.2.2.2.2.2.2.2.2.2.1 uB_p_greatest res.2.2.2.2.2.2.2.2.2.2.2.2.2.2.2.2, wk2 g (t_ha (Int32.toNatClampNeg (fmodJ ((s_made - (if 12 < s_made then 12 else s_made)) + l1) 16))) h_p_has h_has h_p_firstAt h_firstAt h_p_fullAt h_fullAt h_p_pressures h_pressures h_place h_fillTicks h_ticks h_coolTicks h_why]) (va_A (fl [wk5 g t_p t_p_text t_p_plan t_p_draft t_p_states (fun i => some (t_sa i)) t_at t_undoable (t_sa (Int32.toNatClampNeg t_at)) t_p_shots (fun i => some (t_ha i)) t_p_trial, wk1 g t_p_plan n_cavities n_p_volumes n_volumes n_p_drags n_drags n_p_freezes n_freezes n_cores n_p_ahead n_ahead n_stages n_p_places n_places n_p_speeds n_speeds n_p_settings n_settings, wk3 g (t_sa (Int32.toNatClampNeg t_at)) s_p_drags s_drags s_p_speeds s_speeds s_p_settings s_settings s_shut s_coresIn s_loaded s_hot s_made s_width s_p_taught, wk0 g s_p_taught sB_teachers sB_shortest sB_longest sB_p_least sB_least sB_p_greatest sB_greatest, wk3 g (t_sa (Int32.toNatClampNeg ((t_at + 1) - (t_at + 1) / 5 * 5))) u_p_drags u_drags u_p_speeds u_speeds u_p_settings u_settings u_shut u_coresIn u_loaded u_hot u_made u_width u_p_taught, wk0 g u_p_taught uB_teachers uB_shortest uB_longest uB_p_least uB_least uB_p_greatest uB_greatest, wk2 g (t_ha (Int32.toNatClampNeg (fmodJ ((s_made - (if 12 < s_made then 12 else s_made)) + l1) 16))) h_p_has h_has h_p_firstAt h_firstAt h_p_fullAt h_fullAt h_p_pressures h_pressures h_place h_fillTicks h_ticks h_coolTicks h_why]) sz)) 0 0 (va_A (fl [wk5 g t_p t_p_text t_p_plan t_p_draft t_p_states (fun i => some (t_sa i)) t_at t_undoable (t_sa (Int32.toNatClampNeg t_at)) t_p_shots (fun i => some (t_ha i)) t_p_trial, wk1 g t_p_plan n_cavities n_p_volumes n_volumes n_p_drags n_drags n_p_freezes n_freezes n_cores n_p_ahead n_ahead n_stages n_p_places n_places n_p_speeds n_speeds n_p_settings n_settings, wk3 g (t_sa (Int32.toNatClampNeg t_at)) s_p_drags s_drags s_p_speeds s_speeds s_p_settings s_settings s_shut s_coresIn s_loaded s_hot s_made s_width s_p_taught, wk0 g s_p_taught sB_teachers sB_shortest sB_longest sB_p_least sB_least sB_p_greatest sB_greatest, wk3 g (t_sa (Int32.toNatClampNeg ((t_at + 1) - (t_at + 1) / 5 * 5))) u_p_drags u_drags u_p_speeds u_speeds u_p_settings u_settings u_shut u_coresIn u_loaded u_hot u_made u_width u_p_taught, wk0 g u_p_taught uB_teachers uB_shortest uB_longest uB_p_least uB_least uB_p_greatest uB_greatest, wk2 g (t_ha (Int32.toNatClampNeg (fmodJ ((s_made - (if 12 < s_made then 12 else s_made)) + l1) 16))) h_p_has h_has h_p_firstAt h_firstAt h_p_fullAt h_fullAt h_p_pressures h_pressures h_place h_fillTicks h_ticks h_coolTicks h_why]) sz) := by
  refine Met.ofW (cc := cX5_teach) (maxL := 3) (ret := (some .int)) (by decide) rfl ?_
  intro p e s m args below meth c s₁ B hml hv
  obtain ⟨rfl, hsz, hP, hK, hD0, hG⟩ := hv
  have hx := B.exec
  have hb := B.bytes
  have hr := B.returns
  have hts := atoms_spec (ws := wsX5_teach) B.pre
  have hown : s.vm.findClass RX5 = some m.cls := findClass_of_methodNamed B.named
  have hlocks := B.notSynchronized
  subst hsz
  have hD := hD0.self (sz := s.heap.size)
  generalize hAe : va_A (fl [wk5 g t_p t_p_text t_p_plan t_p_draft t_p_states (fun i => some (t_sa i)) t_at t_undoable (t_sa (Int32.toNatClampNeg t_at)) t_p_shots (fun i => some (t_ha i)) t_p_trial, wk1 g t_p_plan n_cavities n_p_volumes n_volumes n_p_drags n_drags n_p_freezes n_freezes n_cores n_p_ahead n_ahead n_stages n_p_places n_places n_p_speeds n_speeds n_p_settings n_settings, wk3 g (t_sa (Int32.toNatClampNeg t_at)) s_p_drags s_drags s_p_speeds s_speeds s_p_settings s_settings s_shut s_coresIn s_loaded s_hot s_made s_width s_p_taught, wk0 g s_p_taught sB_teachers sB_shortest sB_longest sB_p_least sB_least sB_p_greatest sB_greatest, wk3 g (t_sa (Int32.toNatClampNeg ((t_at + 1) - (t_at + 1) / 5 * 5))) u_p_drags u_drags u_p_speeds u_speeds u_p_settings u_settings u_shut u_coresIn u_loaded u_hot u_made u_width u_p_taught, wk0 g u_p_taught uB_teachers uB_shortest uB_longest uB_p_least uB_least uB_p_greatest uB_greatest, wk2 g (t_ha (Int32.toNatClampNeg (fmodJ ((s_made - (if 12 < s_made then 12 else s_made)) + l1) 16))) h_p_has h_has h_p_firstAt h_firstAt h_p_fullAt h_fullAt h_p_pressures h_pressures h_place h_fillTicks h_ticks h_coolTicks h_why]) s.heap.size = A at hD hG ⊢
  have hA : ∀ q : Nat, s.heap.size ≤ q → A q := fun q h => by rw [← hAe]; exact Or.inr h
  have hS : va_S A s.heap s.heap [] := va_S.rf
  have hin0 : ∀ w ∈ u_ws RX0 TX0 5, w ∈ wsX5_teach := by decide +kernel
  have hin3 : ∀ w ∈ u_ws RX3 TX3 10, w ∈ wsX5_teach := by decide +kernel
  have hin5 : ∀ w ∈ u_ws RX5 TX5 9, w ∈ wsX5_teach := by decide +kernel
  have L1 := hts (Cond.fieldLink RX5 19 "MouldShots" "plan" "LMouldShots$Plan;") (by decide +kernel)
  have L2 := hts (Cond.initialized RX2) (by decide +kernel)
  have L3 := hts (Cond.instanceMethod yX2_isShort) (by decide +kernel)
  have L4 := hts (Cond.selects RX2 yX2_isShort yX2_isShort) (by decide +kernel)
  have L5 := hts (Cond.fieldLink RX5 40 "MouldShots" "now" "LMouldShots$State;") (by decide +kernel)
  have L6 := hts (Cond.initialized RX0) (by decide +kernel)
  have L7 := hts (Cond.instanceMethod yX0_learn) (by decide +kernel)
  have L8 := hts (Cond.selects RX0 yX0_learn yX0_learn) (by decide +kernel)
  have hl := lv_entry ([.ref t_p, .int l1]) (n := 3) (Nat.le_of_ble_eq_true rfl)
  rw [lg_entry_eq]
  generalize (lg_sl ([.ref t_p, .int l1]) ++ List.replicate (3 - (lg_sl ([.ref t_p, .int l1])).length) Slot.unset).toArray = ls at hl ⊢
  replace hl : lv_has ls 3 [(0, .ref t_p), (1, .int l1)] := hl
  rw [f5_teach] at hf
  have hgo : ∀ (H : Heap) (locs : List Loc), H = s.heap → locs = [] → va_P g.1 vwCl (fl [wk5 g t_p t_p_text t_p_plan t_p_draft t_p_states (fun i => some (t_sa i)) t_at t_undoable (t_sa (Int32.toNatClampNeg t_at)) t_p_shots (fun i => some (t_ha i)) t_p_trial, wk1 g t_p_plan n_cavities n_p_volumes n_volumes n_p_drags n_drags n_p_freezes n_freezes n_cores n_p_ahead n_ahead n_stages n_p_places n_places n_p_speeds n_speeds n_p_settings n_settings, wk3 g (t_sa (Int32.toNatClampNeg t_at)) s_p_drags s_drags s_p_speeds s_speeds s_p_settings s_settings s_shut s_coresIn s_loaded s_hot s_made s_width s_p_taught, wk0 g s_p_taught sB_teachers sB_shortest sB_longest sB_p_least sB_least sB_p_greatest sB_greatest, wk3 g (t_sa (Int32.toNatClampNeg ((t_at + 1) - (t_at + 1) / 5 * 5))) u_p_drags u_drags u_p_speeds u_speeds u_p_settings u_settings u_shut u_coresIn u_loaded u_hot u_made u_width u_p_taught, wk0 g u_p_taught uB_teachers uB_shortest uB_longest uB_p_least uB_least uB_p_greatest uB_greatest, wk2 g (t_ha (Int32.toNatClampNeg (fmodJ ((s_made - (if 12 < s_made then 12 else s_made)) + l1) 16))) h_p_has h_has h_p_firstAt h_firstAt h_p_fullAt h_fullAt h_p_pressures h_pressures h_place h_fillTicks h_ticks h_coolTicks h_why]) H → va_S A s.heap H locs → W p l e ({ frames := 4, cells := 0, slots := 0, locals := 105 }) s m ([.ref t_p, .int l1] : List Value).toArray below meth c H locs 0 0 (MQ below (pQi g (fun r => r = res.1) (fl [wk5 g t_p t_p_text t_p_plan t_p_draft t_p_states (fun i => some (t_sa i)) res.2.1 res.2.2.1 (t_sa (Int32.toNatClampNeg res.2.1)) t_p_shots (fun i => some (t_ha i)) t_p_trial, wk1 g t_p_plan n_cavities n_p_volumes n_volumes n_p_drags n_drags n_p_freezes n_freezes n_cores n_p_ahead n_ahead n_stages n_p_places n_places n_p_speeds n_speeds n_p_settings n_settings, wk3 g (t_sa (Int32.toNatClampNeg t_at)) s_p_drags s_drags s_p_speeds s_speeds s_p_settings s_settings s_shut s_coresIn s_loaded s_hot s_made s_width s_p_taught, wk0 g s_p_taught sB_teachers sB_shortest sB_longest sB_p_least sB_least sB_p_greatest sB_greatest, wk3 g (t_sa (Int32.toNatClampNeg ((t_at + 1) - (t_at + 1) / 5 * 5))) u_p_drags res.2.2.2.1 u_p_speeds res.2.2.2.2.1 u_p_settings res.2.2.2.2.2.1 res.2.2.2.2.2.2.1 res.2.2.2.2.2.2.2.1 res.2.2.2.2.2.2.2.2.1 res.2.2.2.2.2.2.2.2.2.1 res.2.2.2.2.2.2.2.2.2.2.1 res.2.2.2.2.2.2.2.2.2.2.2.1 u_p_taught, wk0 g u_p_taught res.2.2.2.2.2.2.2.2.2.2.2.2.1 res.2.2.2.2.2.2.2.2.2.2.2.2.2.1 res.2.2.2.2.2.2.2.2.2.2.2.2.2.2.1 uB_p_least res.2.2.2.2.2.2.2.2.2.2.2.2.2.2.2.1 uB_p_greatest res.2.2.2.2.2.2.2.2.2.2.2.2.2.2.2.2, wk2 g (t_ha (Int32.toNatClampNeg (fmodJ ((s_made - (if 12 < s_made then 12 else s_made)) + l1) 16))) h_p_has h_has h_p_firstAt h_firstAt h_p_fullAt h_fullAt h_p_pressures h_pressures h_place h_fillTicks h_ticks h_coolTicks h_why]) A) ([.ref t_p, .int l1] : List Value).toArray s 0 0 A) (F0 m 0 ls []) := by
    intro H locs hH hL hP hS
    refine lv_aload_n hx hb dX5_teach_0 rfl (lv_at hl 0 rfl) ?_
    refine lv_iload_n hx hb dX5_teach_1 rfl (lv_at hl 1 rfl) ?_
    obtain ⟨q_1, hq_1, hf⟩ := bd_some hf
    refine bft_i (bn := [wk5 g t_p t_p_text t_p_plan t_p_draft t_p_states (fun i => some (t_sa i)) t_at t_undoable (t_sa (Int32.toNatClampNeg t_at)) t_p_shots (fun i => some (t_ha i)) t_p_trial, wk1 g t_p_plan n_cavities n_p_volumes n_volumes n_p_drags n_drags n_p_freezes n_freezes n_cores n_p_ahead n_ahead n_stages n_p_places n_places n_p_speeds n_speeds n_p_settings n_settings, wk3 g (t_sa (Int32.toNatClampNeg t_at)) s_p_drags s_drags s_p_speeds s_speeds s_p_settings s_settings s_shut s_coresIn s_loaded s_hot s_made s_width s_p_taught, wk0 g s_p_taught sB_teachers sB_shortest sB_longest sB_p_least sB_least sB_p_greatest sB_greatest, wk3 g (t_sa (Int32.toNatClampNeg ((t_at + 1) - (t_at + 1) / 5 * 5))) u_p_drags u_drags u_p_speeds u_speeds u_p_settings u_settings u_shut u_coresIn u_loaded u_hot u_made u_width u_p_taught, wk0 g u_p_taught uB_teachers uB_shortest uB_longest uB_p_least uB_least uB_p_greatest uB_greatest, wk2 g (t_ha (Int32.toNatClampNeg (fmodJ ((s_made - (if 12 < s_made then 12 else s_made)) + l1) 16))) h_p_has h_has h_p_firstAt h_firstAt h_p_fullAt h_fullAt h_p_pressures h_pressures h_place h_fillTicks h_ticks h_coolTicks h_why]) (L := [[t_p, t_p_states, t_p_shots], [(t_sa (Int32.toNatClampNeg t_at)), s_p_drags, s_p_speeds, s_p_settings]]) (va_runV (As := [.int l1]) (rest := []) ⟨hx, hb, hml, hown, hts⟩ (c5_isShot l g t_p t_p_text t_p_plan t_p_draft t_p_states t_sa t_at t_undoable t_p_shots t_ha t_p_trial s_p_drags s_drags s_p_speeds s_speeds s_p_settings s_settings s_shut s_coresIn s_loaded s_hot s_made s_width s_p_taught l1 H.size N q_1 hq_1) (cwV 1 hts gX5_teach_X5_isShot rfl rfl rfl ⟨rfl, nh5.1, nh5.2, pd_1⟩ ⟨Nat.le_of_ble_eq_true rfl, Nat.le_of_ble_eq_true rfl⟩) (qPV hK hG hP hD hS hA [0, 2] (by decide) rfl (va_recv hK.1 hP (ci := 5) (q0 := 0) rfl rfl)) rfl rfl hl.1 rfl (lv_room (Nat.le_of_ble_eq_true rfl)) dX5_teach_2 ⟨Nat.zero_le _, Nat.zero_le _⟩) hP hD hS hA [0, 2] rfl rfl rfl rfl (fun r_2 H locs hw hP hD hS => ?_)
    replace hw := hw.symm
    subst hw
    refine lv_if_ne (tgt := 10) hx hb dX5_teach_5 (by decide) (fun c_3 => ?_) (fun c_3 => ?_)
    · replace hf := (if_neg c_3).symm.trans hf
      refine lv_aload_n hx hb dX5_teach_10 rfl (lv_at hl 0 rfl) ?_
      refine lv_iload_n hx hb dX5_teach_11 rfl (lv_at hl 1 rfl) ?_
      obtain ⟨q_4, hq_4, hf⟩ := bd_some hf
      refine bft_r (bn := [wk5 g t_p t_p_text t_p_plan t_p_draft t_p_states (fun i => some (t_sa i)) t_at t_undoable (t_sa (Int32.toNatClampNeg t_at)) t_p_shots (fun i => some (t_ha i)) t_p_trial, wk1 g t_p_plan n_cavities n_p_volumes n_volumes n_p_drags n_drags n_p_freezes n_freezes n_cores n_p_ahead n_ahead n_stages n_p_places n_places n_p_speeds n_speeds n_p_settings n_settings, wk3 g (t_sa (Int32.toNatClampNeg t_at)) s_p_drags s_drags s_p_speeds s_speeds s_p_settings s_settings s_shut s_coresIn s_loaded s_hot s_made s_width s_p_taught, wk0 g s_p_taught sB_teachers sB_shortest sB_longest sB_p_least sB_least sB_p_greatest sB_greatest, wk3 g (t_sa (Int32.toNatClampNeg ((t_at + 1) - (t_at + 1) / 5 * 5))) u_p_drags u_drags u_p_speeds u_speeds u_p_settings u_settings u_shut u_coresIn u_loaded u_hot u_made u_width u_p_taught, wk0 g u_p_taught uB_teachers uB_shortest uB_longest uB_p_least uB_least uB_p_greatest uB_greatest, wk2 g (t_ha (Int32.toNatClampNeg (fmodJ ((s_made - (if 12 < s_made then 12 else s_made)) + l1) 16))) h_p_has h_has h_p_firstAt h_firstAt h_p_fullAt h_fullAt h_p_pressures h_pressures h_place h_fillTicks h_ticks h_coolTicks h_why]) (L := [[t_p, t_p_states, t_p_shots], [(t_sa (Int32.toNatClampNeg t_at)), s_p_drags, s_p_speeds, s_p_settings]]) (va_runV (As := [.int l1]) (rest := []) ⟨hx, hb, hml, hown, hts⟩ (c5_keptShot l g t_p t_p_text t_p_plan t_p_draft t_p_states t_sa t_at t_undoable t_p_shots t_ha t_p_trial s_p_drags s_drags s_p_speeds s_speeds s_p_settings s_settings s_shut s_coresIn s_loaded s_hot s_made s_width s_p_taught l1 H.size N q_4 hq_4) (cwV 1 hts gX5_teach_X5_keptShot rfl rfl rfl ⟨rfl, nh5.1, nh5.2, pd_23⟩ ⟨Nat.le_of_ble_eq_true rfl, Nat.le_of_ble_eq_true rfl⟩) (qPV hK hG hP hD hS hA [0, 2] (by decide) rfl (va_recv hK.1 hP (ci := 5) (q0 := 0) rfl rfl)) rfl rfl hl.1 rfl (lv_room (Nat.le_of_ble_eq_true rfl)) dX5_teach_12 ⟨Nat.zero_le _, Nat.zero_le _⟩) hP hD hS hA [0, 2] rfl rfl rfl rfl (fun H locs hP hD hS => ?_)
      refine lv_astore_n (lv' := [(2, .ref (t_ha (Int32.toNatClampNeg (fmodJ ((s_made - (if 12 < s_made then 12 else s_made)) + l1) 16)))), (0, .ref t_p), (1, .int l1)]) hx hb dX5_teach_15 rfl hl (by decide) rfl (fun ls hl => ?_)
      refine lv_aload_n hx hb dX5_teach_16 rfl (lv_at hl 0 rfl) ?_
      refine lv_aload_n hx hb dX5_teach_17 rfl (lv_at hl 1 rfl) ?_
      refine va_get (D := g.1) (ci := 5) (v := .ref t_p_plan) (C := RX5) (T := TX5) (N := 9) hx hb hts hin5 hown hK.1 hP 0 rfl rfl 1 (by decide) L1 (fun _ h9 => h9) rfl dX5_teach_18 ?_
      obtain ⟨q_5, hq_5, hf⟩ := bd_some hf
      refine bft_i (bn := [wk5 g t_p t_p_text t_p_plan t_p_draft t_p_states (fun i => some (t_sa i)) t_at t_undoable (t_sa (Int32.toNatClampNeg t_at)) t_p_shots (fun i => some (t_ha i)) t_p_trial, wk1 g t_p_plan n_cavities n_p_volumes n_volumes n_p_drags n_drags n_p_freezes n_freezes n_cores n_p_ahead n_ahead n_stages n_p_places n_places n_p_speeds n_speeds n_p_settings n_settings, wk3 g (t_sa (Int32.toNatClampNeg t_at)) s_p_drags s_drags s_p_speeds s_speeds s_p_settings s_settings s_shut s_coresIn s_loaded s_hot s_made s_width s_p_taught, wk0 g s_p_taught sB_teachers sB_shortest sB_longest sB_p_least sB_least sB_p_greatest sB_greatest, wk3 g (t_sa (Int32.toNatClampNeg ((t_at + 1) - (t_at + 1) / 5 * 5))) u_p_drags u_drags u_p_speeds u_speeds u_p_settings u_settings u_shut u_coresIn u_loaded u_hot u_made u_width u_p_taught, wk0 g u_p_taught uB_teachers uB_shortest uB_longest uB_p_least uB_least uB_p_greatest uB_greatest, wk2 g (t_ha (Int32.toNatClampNeg (fmodJ ((s_made - (if 12 < s_made then 12 else s_made)) + l1) 16))) h_p_has h_has h_p_firstAt h_firstAt h_p_fullAt h_fullAt h_p_pressures h_pressures h_place h_fillTicks h_ticks h_coolTicks h_why]) (L := [[(t_ha (Int32.toNatClampNeg (fmodJ ((s_made - (if 12 < s_made then 12 else s_made)) + l1) 16))), h_p_has, h_p_firstAt, h_p_fullAt, h_p_pressures], [t_p_plan, n_p_volumes, n_p_drags, n_p_freezes, n_p_ahead, n_p_places, n_p_speeds, n_p_settings]]) (va_runVN (As := [.ref t_p_plan]) (rest := []) ⟨hx, hb, hml, hown, hts⟩ (c2_isShort l g (t_ha (Int32.toNatClampNeg (fmodJ ((s_made - (if 12 < s_made then 12 else s_made)) + l1) 16))) h_p_has h_has h_p_firstAt h_firstAt h_p_fullAt h_fullAt h_p_pressures h_pressures h_place h_fillTicks h_ticks h_coolTicks h_why t_p_plan n_cavities n_p_volumes n_volumes n_p_drags n_drags n_p_freezes n_freezes n_cores n_p_ahead n_ahead n_stages n_p_places n_places n_p_speeds n_speeds n_p_settings n_settings H.size N q_5 hq_5) ⟨va_cnB 1 hts gX5_teach_X2_isShort_n204 rfl rfl rfl (hK.nw _ 49 rfl) L2 ⟨nh2.1, nh2.2, pd_24⟩ ⟨Nat.le_of_ble_eq_true rfl, Nat.le_of_ble_eq_true rfl⟩, L3, L4⟩ (qPV hK hG hP hD hS hA [6, 1] (by decide) rfl (va_recv hK.1 hP (ci := 2) (q0 := 25) rfl rfl)) rfl rfl hl.1 rfl (lv_room (Nat.le_of_ble_eq_true rfl)) dX5_teach_21 ⟨Nat.zero_le _, Nat.zero_le _⟩) hP hD hS hA [6, 1] rfl rfl rfl rfl (fun r_6 H locs hw hP hD hS => ?_)
      replace hw := hw.symm
      subst hw
      refine lv_if_eq (tgt := 30) hx hb dX5_teach_24 (by decide) (fun c_7 => ?_) (fun c_7 => ?_)
      · replace hf := (if_pos c_7).symm.trans hf
        refine lv_aload_n hx hb dX5_teach_30 rfl (lv_at hl 1 rfl) ?_
        obtain ⟨q_8, hq_8, hf⟩ := bd_some hf
        refine bft_v (bn := [wk5 g t_p t_p_text t_p_plan t_p_draft t_p_states (fun i => some (t_sa i)) ((t_at + 1) - (t_at + 1) / 5 * 5) (if 4 < (t_undoable + 1) then 4 else t_undoable + 1) (t_sa (Int32.toNatClampNeg ((t_at + 1) - (t_at + 1) / 5 * 5))) t_p_shots (fun i => some (t_ha i)) t_p_trial, wk1 g t_p_plan n_cavities n_p_volumes n_volumes n_p_drags n_drags n_p_freezes n_freezes n_cores n_p_ahead n_ahead n_stages n_p_places n_places n_p_speeds n_speeds n_p_settings n_settings, wk3 g (t_sa (Int32.toNatClampNeg t_at)) s_p_drags s_drags s_p_speeds s_speeds s_p_settings s_settings s_shut s_coresIn s_loaded s_hot s_made s_width s_p_taught, wk0 g s_p_taught sB_teachers sB_shortest sB_longest sB_p_least sB_least sB_p_greatest sB_greatest, wk3 g (t_sa (Int32.toNatClampNeg ((t_at + 1) - (t_at + 1) / 5 * 5))) u_p_drags (va_cpy s_drags u_drags (Int32.toNatClampNeg 0) (Int32.toNatClampNeg 0) (Int32.toNatClampNeg 6)) u_p_speeds (va_cpy s_speeds u_speeds (Int32.toNatClampNeg 0) (Int32.toNatClampNeg 0) (Int32.toNatClampNeg 4)) u_p_settings (va_cpy s_settings u_settings (Int32.toNatClampNeg 0) (Int32.toNatClampNeg 0) (Int32.toNatClampNeg 6)) s_shut s_coresIn s_loaded s_hot s_made s_width u_p_taught, wk0 g u_p_taught sB_teachers sB_shortest sB_longest uB_p_least (va_cpy sB_least uB_least (Int32.toNatClampNeg 0) (Int32.toNatClampNeg 0) (Int32.toNatClampNeg 60)) uB_p_greatest (va_cpy sB_greatest uB_greatest (Int32.toNatClampNeg 0) (Int32.toNatClampNeg 0) (Int32.toNatClampNeg 60)), wk2 g (t_ha (Int32.toNatClampNeg (fmodJ ((s_made - (if 12 < s_made then 12 else s_made)) + l1) 16))) h_p_has h_has h_p_firstAt h_firstAt h_p_fullAt h_fullAt h_p_pressures h_pressures h_place h_fillTicks h_ticks h_coolTicks h_why]) (L := [[t_p, t_p_states, t_p_shots], [(t_sa (Int32.toNatClampNeg t_at)), s_p_drags, s_p_speeds, s_p_settings], [s_p_taught, sB_p_least, sB_p_greatest], [(t_sa (Int32.toNatClampNeg ((t_at + 1) - (t_at + 1) / 5 * 5))), u_p_drags, u_p_speeds, u_p_settings], [u_p_taught, uB_p_least, uB_p_greatest]]) (va_runV (As := []) (rest := []) ⟨hx, hb, hml, hown, hts⟩ (c5_startChange l g t_p t_p_text t_p_plan t_p_draft t_p_states t_sa t_at t_undoable t_p_shots t_ha t_p_trial s_p_drags s_drags s_p_speeds s_speeds s_p_settings s_settings s_shut s_coresIn s_loaded s_hot s_made s_width s_p_taught sB_teachers sB_shortest sB_longest sB_p_least sB_least sB_p_greatest sB_greatest u_p_drags u_drags u_p_speeds u_speeds u_p_settings u_settings u_shut u_coresIn u_loaded u_hot u_made u_width u_p_taught uB_teachers uB_shortest uB_longest uB_p_least uB_least uB_p_greatest uB_greatest H.size N q_8 hq_8) (cwV 0 hts gX5_teach_X5_startChange rfl rfl rfl ⟨rfl, nh5.1, nh5.2, pd_9⟩ ⟨Nat.le_of_ble_eq_true rfl, Nat.le_of_ble_eq_true rfl⟩) (qPV hK hG hP hD hS hA [0, 2, 3, 4, 5] (by decide) rfl (va_recv hK.1 hP (ci := 5) (q0 := 0) rfl rfl)) rfl rfl hl.1 rfl (lv_room (Nat.le_of_ble_eq_true rfl)) dX5_teach_31 ⟨Nat.zero_le _, Nat.zero_le _⟩) hP hD hS hA [0, 2, 3, 4, 5] rfl rfl rfl rfl (fun H locs hP hD hS => ?_)
        refine lv_aload_n hx hb dX5_teach_34 rfl (lv_at hl 1 rfl) ?_
        refine va_get (D := g.1) (ci := 5) (v := .ref (t_sa (Int32.toNatClampNeg ((t_at + 1) - (t_at + 1) / 5 * 5)))) (C := RX5) (T := TX5) (N := 9) hx hb hts hin5 hown hK.1 hP 0 rfl rfl 6 (by decide) L5 (fun _ h9 => h9) rfl dX5_teach_35 ?_
        refine va_getN (D := g.1) (ci := 3) (v := .ref u_p_taught) (C := RX3) (T := TX3) (N := 10) hx hb hts hin3 hown hK.1 hP 18 rfl rfl 9 (by decide) (hK.use _ 12 rfl) (fun _ h9 => h9) rfl dX5_teach_38 ?_
        refine lv_aload_n hx hb dX5_teach_41 rfl (lv_at hl 0 rfl) ?_
        obtain ⟨q_9, hq_9, hf⟩ := bd_some hf
        refine bft_v (bn := [wk5 g t_p t_p_text t_p_plan t_p_draft t_p_states (fun i => some (t_sa i)) ((t_at + 1) - (t_at + 1) / 5 * 5) (if 4 < (t_undoable + 1) then 4 else t_undoable + 1) (t_sa (Int32.toNatClampNeg ((t_at + 1) - (t_at + 1) / 5 * 5))) t_p_shots (fun i => some (t_ha i)) t_p_trial, wk1 g t_p_plan n_cavities n_p_volumes n_volumes n_p_drags n_drags n_p_freezes n_freezes n_cores n_p_ahead n_ahead n_stages n_p_places n_places n_p_speeds n_speeds n_p_settings n_settings, wk3 g (t_sa (Int32.toNatClampNeg t_at)) s_p_drags s_drags s_p_speeds s_speeds s_p_settings s_settings s_shut s_coresIn s_loaded s_hot s_made s_width s_p_taught, wk0 g s_p_taught sB_teachers sB_shortest sB_longest sB_p_least sB_least sB_p_greatest sB_greatest, wk3 g (t_sa (Int32.toNatClampNeg ((t_at + 1) - (t_at + 1) / 5 * 5))) u_p_drags (va_cpy s_drags u_drags (Int32.toNatClampNeg 0) (Int32.toNatClampNeg 0) (Int32.toNatClampNeg 6)) u_p_speeds (va_cpy s_speeds u_speeds (Int32.toNatClampNeg 0) (Int32.toNatClampNeg 0) (Int32.toNatClampNeg 4)) u_p_settings (va_cpy s_settings u_settings (Int32.toNatClampNeg 0) (Int32.toNatClampNeg 0) (Int32.toNatClampNeg 6)) s_shut s_coresIn s_loaded s_hot s_made s_width u_p_taught, wk0 g u_p_taught q_9.1 q_9.2.1 q_9.2.2.1 uB_p_least q_9.2.2.2.1 uB_p_greatest q_9.2.2.2.2, wk2 g (t_ha (Int32.toNatClampNeg (fmodJ ((s_made - (if 12 < s_made then 12 else s_made)) + l1) 16))) h_p_has h_has h_p_firstAt h_firstAt h_p_fullAt h_fullAt h_p_pressures h_pressures h_place h_fillTicks h_ticks h_coolTicks h_why]) (L := [[u_p_taught, uB_p_least, uB_p_greatest], [(t_ha (Int32.toNatClampNeg (fmodJ ((s_made - (if 12 < s_made then 12 else s_made)) + l1) 16))), h_p_has, h_p_firstAt, h_p_fullAt, h_p_pressures]]) (va_runVN (As := [.ref (t_ha (Int32.toNatClampNeg (fmodJ ((s_made - (if 12 < s_made then 12 else s_made)) + l1) 16)))]) (rest := []) ⟨hx, hb, hml, hown, hts⟩ (c0_learn l g u_p_taught sB_teachers sB_shortest sB_longest uB_p_least (va_cpy sB_least uB_least (Int32.toNatClampNeg 0) (Int32.toNatClampNeg 0) (Int32.toNatClampNeg 60)) uB_p_greatest (va_cpy sB_greatest uB_greatest (Int32.toNatClampNeg 0) (Int32.toNatClampNeg 0) (Int32.toNatClampNeg 60)) (t_ha (Int32.toNatClampNeg (fmodJ ((s_made - (if 12 < s_made then 12 else s_made)) + l1) 16))) h_p_has h_has h_p_firstAt h_firstAt h_p_fullAt h_fullAt h_p_pressures h_pressures h_place h_fillTicks h_ticks h_coolTicks h_why H.size N q_9 hq_9) ⟨va_cnB 1 hts gX5_teach_X0_learn_n212 rfl rfl rfl (hK.nw _ 50 rfl) L6 ⟨nh0.1, nh0.2, pd_25⟩ ⟨Nat.le_of_ble_eq_true rfl, Nat.le_of_ble_eq_true rfl⟩, L7, L8⟩ (qPV hK hG hP hD hS hA [5, 6] (by decide) rfl (va_recv hK.1 hP (ci := 0) (q0 := 22) rfl rfl)) rfl rfl hl.1 rfl (lv_room (Nat.le_of_ble_eq_true rfl)) dX5_teach_42 ⟨Nat.zero_le _, Nat.zero_le _⟩) hP hD hS hA [5, 6] rfl rfl rfl rfl (fun H locs hP hD hS => ?_)
        refine lv_aload_n hx hb dX5_teach_45 rfl (lv_at hl 1 rfl) ?_
        refine va_get (D := g.1) (ci := 5) (v := .ref (t_sa (Int32.toNatClampNeg ((t_at + 1) - (t_at + 1) / 5 * 5)))) (C := RX5) (T := TX5) (N := 9) hx hb hts hin5 hown hK.1 hP 0 rfl rfl 6 (by decide) L5 (fun _ h9 => h9) rfl dX5_teach_46 ?_
        refine va_getN (D := g.1) (ci := 3) (v := .ref u_p_taught) (C := RX3) (T := TX3) (N := 10) hx hb hts hin3 hown hK.1 hP 18 rfl rfl 9 (by decide) (hK.use _ 12 rfl) (fun _ h9 => h9) rfl dX5_teach_49 ?_
        refine va_getN (D := g.1) (ci := 0) (v := .int q_9.1) (C := RX0) (T := TX0) (N := 5) hx hb hts hin0 hown hK.1 hP 22 rfl rfl 0 (by decide) (hK.use _ 13 rfl) (fun _ h9 => h9) rfl dX5_teach_52 ?_
        replace hf := Option.some.inj hf
        subst hf
        exact W.iret (v := q_9.1) hx hb hr (fun t ht hW => ⟨⟨_, (), rfl, rfl, by show va_P g.1 vwCl _ t.heap; rw [ht]; exact hP⟩, hS.F ht⟩) hS.2.2 dX5_teach_55 hlocks
      · replace hf := (if_neg c_7).symm.trans hf
        refine lv_bipush (v := (-2)) hx hb dX5_teach_27 (by decide) ?_
        replace hf := Option.some.inj hf
        subst hf
        exact W.iret (v := (-2)) hx hb hr (fun t ht hW => ⟨⟨_, (), rfl, rfl, by show va_P g.1 vwCl _ t.heap; rw [ht]; exact hP⟩, hS.F ht⟩) hS.2.2 dX5_teach_29 hlocks
    · replace hf := (if_pos c_3).symm.trans hf
      refine lv_iconst (v := (-1)) hx hb dX5_teach_8 (by decide) ?_
      replace hf := Option.some.inj hf
      subst hf
      exact W.iret (v := (-1)) hx hb hr (fun t ht hW => ⟨⟨_, (), rfl, rfl, by show va_P g.1 vwCl _ t.heap; rw [ht]; exact hP⟩, hS.F ht⟩) hS.2.2 dX5_teach_9 hlocks
  exact hgo s.heap [] rfl rfl hP hS

set_option maxHeartbeats 4000000 in
set_option maxRecDepth 100000 in
theorem c5_forget (l : Launch) (g : gG) (t_p : Nat) (t_p_text : Nat) (t_p_plan : Nat) (t_p_draft : Nat) (t_p_states : Nat) (t_sa : (Nat → Nat)) (t_at : Int32) (t_undoable : Int32) (t_p_shots : Nat) (t_ha : (Nat → Nat)) (t_p_trial : Nat) (s_p_drags : Nat) (s_drags : (Nat → Int32)) (s_p_speeds : Nat) (s_speeds : (Nat → Int32)) (s_p_settings : Nat) (s_settings : (Nat → Int32)) (s_shut : Int32) (s_coresIn : Int32) (s_loaded : Int32) (s_hot : Int32) (s_made : Int32) (s_width : Int32) (s_p_taught : Nat) (sB_teachers : Int32) (sB_shortest : Int32) (sB_longest : Int32) (sB_p_least : Nat) (sB_least : (Nat → Int32)) (sB_p_greatest : Nat) (sB_greatest : (Nat → Int32)) (u_p_drags : Nat) (u_drags : (Nat → Int32)) (u_p_speeds : Nat) (u_speeds : (Nat → Int32)) (u_p_settings : Nat) (u_settings : (Nat → Int32)) (u_shut : Int32) (u_coresIn : Int32) (u_loaded : Int32) (u_hot : Int32) (u_made : Int32) (u_width : Int32) (u_p_taught : Nat) (uB_teachers : Int32) (uB_shortest : Int32) (uB_longest : Int32) (uB_p_least : Nat) (uB_least : (Nat → Int32)) (uB_p_greatest : Nat) (uB_greatest : (Nat → Int32)) (sz : Nat) (N : Nat) (res : (Int32 × Int32 × Int32 × (Nat → Int32) × (Nat → Int32) × (Nat → Int32) × Int32 × Int32 × Int32 × Int32 × Int32 × Int32 × Int32 × Int32 × Int32 × (Nat → Int32) × (Nat → Int32))) (hf : f5_forget N t_at t_undoable s_drags s_speeds s_settings s_shut s_coresIn s_loaded s_hot s_made s_width sB_teachers sB_least sB_greatest u_drags u_speeds u_settings u_shut u_coresIn u_loaded u_hot u_made u_width uB_teachers uB_shortest uB_longest uB_least uB_greatest = some res) : Met l yX5_forget wsX5_forget ({ frames := 4, cells := 0, slots := 0, locals := 105 }) (pP g [.ref t_p] sz (fl [wk5 g t_p t_p_text t_p_plan t_p_draft t_p_states (fun i => some (t_sa i)) t_at t_undoable (t_sa (Int32.toNatClampNeg t_at)) t_p_shots (fun i => some (t_ha i)) t_p_trial, wk3 g (t_sa (Int32.toNatClampNeg t_at)) s_p_drags s_drags s_p_speeds s_speeds s_p_settings s_settings s_shut s_coresIn s_loaded s_hot s_made s_width s_p_taught, wk0 g s_p_taught sB_teachers sB_shortest sB_longest sB_p_least sB_least sB_p_greatest sB_greatest, wk3 g (t_sa (Int32.toNatClampNeg ((t_at + 1) - (t_at + 1) / 5 * 5))) u_p_drags u_drags u_p_speeds u_speeds u_p_settings u_settings u_shut u_coresIn u_loaded u_hot u_made u_width u_p_taught, wk0 g u_p_taught uB_teachers uB_shortest uB_longest uB_p_least uB_least uB_p_greatest uB_greatest])) (pQi g (fun r => r = res.1) (fl [wk5 g t_p t_p_text t_p_plan t_p_draft t_p_states (fun i => some (t_sa i)) res.2.1 res.2.2.1 (t_sa (Int32.toNatClampNeg res.2.1)) t_p_shots (fun i => some (t_ha i)) t_p_trial, wk3 g (t_sa (Int32.toNatClampNeg t_at)) s_p_drags s_drags s_p_speeds s_speeds s_p_settings s_settings s_shut s_coresIn s_loaded s_hot s_made s_width s_p_taught, wk0 g s_p_taught sB_teachers sB_shortest sB_longest sB_p_least sB_least sB_p_greatest sB_greatest, wk3 g (t_sa (Int32.toNatClampNeg ((t_at + 1) - (t_at + 1) / 5 * 5))) u_p_drags res.2.2.2.1 u_p_speeds res.2.2.2.2.1 u_p_settings res.2.2.2.2.2.1 res.2.2.2.2.2.2.1 res.2.2.2.2.2.2.2.1 res.2.2.2.2.2.2.2.2.1 res.2.2.2.2.2.2.2.2.2.1 res.2.2.2.2.2.2.2.2.2.2.1 res.2.2.2.2.2.2.2.2.2.2.2.1 u_p_taught, wk0 g u_p_taught res.2.2.2.2.2.2.2.2.2.2.2.2.1 res.2.2.2.2.2.2.2.2.2.2.2.2.2.1 res.2.2.2.2.2.2.2.2.2.2.2.2.2.2.1 uB_p_least res.2.2.2.2.2.2.2.2.2.2.2.2.2.2.2.1 uB_p_greatest res.2.2.2.2.2.2.2.2.2.2.2.2.2.2.2.2]) (va_A (fl [wk5 g t_p t_p_text t_p_plan t_p_draft t_p_states (fun i => some (t_sa i)) t_at t_undoable (t_sa (Int32.toNatClampNeg t_at)) t_p_shots (fun i => some (t_ha i)) t_p_trial, wk3 g (t_sa (Int32.toNatClampNeg t_at)) s_p_drags s_drags s_p_speeds s_speeds s_p_settings s_settings s_shut s_coresIn s_loaded s_hot s_made s_width s_p_taught, wk0 g s_p_taught sB_teachers sB_shortest sB_longest sB_p_least sB_least sB_p_greatest sB_greatest, wk3 g (t_sa (Int32.toNatClampNeg ((t_at + 1) - (t_at + 1) / 5 * 5))) u_p_drags u_drags u_p_speeds u_speeds u_p_settings u_settings u_shut u_coresIn u_loaded u_hot u_made u_width u_p_taught, wk0 g u_p_taught uB_teachers uB_shortest uB_longest uB_p_least uB_least uB_p_greatest uB_greatest]) sz)) 0 0 (va_A (fl [wk5 g t_p t_p_text t_p_plan t_p_draft t_p_states (fun i => some (t_sa i)) t_at t_undoable (t_sa (Int32.toNatClampNeg t_at)) t_p_shots (fun i => some (t_ha i)) t_p_trial, wk3 g (t_sa (Int32.toNatClampNeg t_at)) s_p_drags s_drags s_p_speeds s_speeds s_p_settings s_settings s_shut s_coresIn s_loaded s_hot s_made s_width s_p_taught, wk0 g s_p_taught sB_teachers sB_shortest sB_longest sB_p_least sB_least sB_p_greatest sB_greatest, wk3 g (t_sa (Int32.toNatClampNeg ((t_at + 1) - (t_at + 1) / 5 * 5))) u_p_drags u_drags u_p_speeds u_speeds u_p_settings u_settings u_shut u_coresIn u_loaded u_hot u_made u_width u_p_taught, wk0 g u_p_taught uB_teachers uB_shortest uB_longest uB_p_least uB_least uB_p_greatest uB_greatest]) sz) := by
  refine Met.ofW (cc := cX5_forget) (maxL := 2) (ret := (some .int)) (by decide) rfl ?_
  intro p e s m args below meth c s₁ B hml hv
  obtain ⟨rfl, hsz, hP, hK, hD0, hG⟩ := hv
  have hx := B.exec
  have hb := B.bytes
  have hr := B.returns
  have hts := atoms_spec (ws := wsX5_forget) B.pre
  have hown : s.vm.findClass RX5 = some m.cls := findClass_of_methodNamed B.named
  have hlocks := B.notSynchronized
  subst hsz
  have hD := hD0.self (sz := s.heap.size)
  generalize hAe : va_A (fl [wk5 g t_p t_p_text t_p_plan t_p_draft t_p_states (fun i => some (t_sa i)) t_at t_undoable (t_sa (Int32.toNatClampNeg t_at)) t_p_shots (fun i => some (t_ha i)) t_p_trial, wk3 g (t_sa (Int32.toNatClampNeg t_at)) s_p_drags s_drags s_p_speeds s_speeds s_p_settings s_settings s_shut s_coresIn s_loaded s_hot s_made s_width s_p_taught, wk0 g s_p_taught sB_teachers sB_shortest sB_longest sB_p_least sB_least sB_p_greatest sB_greatest, wk3 g (t_sa (Int32.toNatClampNeg ((t_at + 1) - (t_at + 1) / 5 * 5))) u_p_drags u_drags u_p_speeds u_speeds u_p_settings u_settings u_shut u_coresIn u_loaded u_hot u_made u_width u_p_taught, wk0 g u_p_taught uB_teachers uB_shortest uB_longest uB_p_least uB_least uB_p_greatest uB_greatest]) s.heap.size = A at hD hG ⊢
  have hA : ∀ q : Nat, s.heap.size ≤ q → A q := fun q h => by rw [← hAe]; exact Or.inr h
  have hS : va_S A s.heap s.heap [] := va_S.rf
  have hin0 : ∀ w ∈ u_ws RX0 TX0 5, w ∈ wsX5_forget := by decide +kernel
  have hin3 : ∀ w ∈ u_ws RX3 TX3 10, w ∈ wsX5_forget := by decide +kernel
  have hin5 : ∀ w ∈ u_ws RX5 TX5 9, w ∈ wsX5_forget := by decide +kernel
  have L1 := hts (Cond.fieldLink RX5 40 "MouldShots" "now" "LMouldShots$State;") (by decide +kernel)
  have L2 := hts (Cond.initialized RX0) (by decide +kernel)
  have L3 := hts (Cond.instanceMethod yX0_clear) (by decide +kernel)
  have L4 := hts (Cond.selects RX0 yX0_clear yX0_clear) (by decide +kernel)
  have hl := lv_entry ([.ref t_p]) (n := 2) (Nat.le_of_ble_eq_true rfl)
  rw [lg_entry_eq]
  generalize (lg_sl ([.ref t_p]) ++ List.replicate (2 - (lg_sl ([.ref t_p])).length) Slot.unset).toArray = ls at hl ⊢
  replace hl : lv_has ls 2 [(0, .ref t_p)] := hl
  rw [f5_forget] at hf
  have hgo : ∀ (H : Heap) (locs : List Loc), H = s.heap → locs = [] → va_P g.1 vwCl (fl [wk5 g t_p t_p_text t_p_plan t_p_draft t_p_states (fun i => some (t_sa i)) t_at t_undoable (t_sa (Int32.toNatClampNeg t_at)) t_p_shots (fun i => some (t_ha i)) t_p_trial, wk3 g (t_sa (Int32.toNatClampNeg t_at)) s_p_drags s_drags s_p_speeds s_speeds s_p_settings s_settings s_shut s_coresIn s_loaded s_hot s_made s_width s_p_taught, wk0 g s_p_taught sB_teachers sB_shortest sB_longest sB_p_least sB_least sB_p_greatest sB_greatest, wk3 g (t_sa (Int32.toNatClampNeg ((t_at + 1) - (t_at + 1) / 5 * 5))) u_p_drags u_drags u_p_speeds u_speeds u_p_settings u_settings u_shut u_coresIn u_loaded u_hot u_made u_width u_p_taught, wk0 g u_p_taught uB_teachers uB_shortest uB_longest uB_p_least uB_least uB_p_greatest uB_greatest]) H → va_S A s.heap H locs → W p l e ({ frames := 4, cells := 0, slots := 0, locals := 105 }) s m ([.ref t_p] : List Value).toArray below meth c H locs 0 0 (MQ below (pQi g (fun r => r = res.1) (fl [wk5 g t_p t_p_text t_p_plan t_p_draft t_p_states (fun i => some (t_sa i)) res.2.1 res.2.2.1 (t_sa (Int32.toNatClampNeg res.2.1)) t_p_shots (fun i => some (t_ha i)) t_p_trial, wk3 g (t_sa (Int32.toNatClampNeg t_at)) s_p_drags s_drags s_p_speeds s_speeds s_p_settings s_settings s_shut s_coresIn s_loaded s_hot s_made s_width s_p_taught, wk0 g s_p_taught sB_teachers sB_shortest sB_longest sB_p_least sB_least sB_p_greatest sB_greatest, wk3 g (t_sa (Int32.toNatClampNeg ((t_at + 1) - (t_at + 1) / 5 * 5))) u_p_drags res.2.2.2.1 u_p_speeds res.2.2.2.2.1 u_p_settings res.2.2.2.2.2.1 res.2.2.2.2.2.2.1 res.2.2.2.2.2.2.2.1 res.2.2.2.2.2.2.2.2.1 res.2.2.2.2.2.2.2.2.2.1 res.2.2.2.2.2.2.2.2.2.2.1 res.2.2.2.2.2.2.2.2.2.2.2.1 u_p_taught, wk0 g u_p_taught res.2.2.2.2.2.2.2.2.2.2.2.2.1 res.2.2.2.2.2.2.2.2.2.2.2.2.2.1 res.2.2.2.2.2.2.2.2.2.2.2.2.2.2.1 uB_p_least res.2.2.2.2.2.2.2.2.2.2.2.2.2.2.2.1 uB_p_greatest res.2.2.2.2.2.2.2.2.2.2.2.2.2.2.2.2]) A) ([.ref t_p] : List Value).toArray s 0 0 A) (F0 m 0 ls []) := by
    intro H locs hH hL hP hS
    refine lv_aload_n hx hb dX5_forget_0 rfl (lv_at hl 0 rfl) ?_
    refine va_get (D := g.1) (ci := 5) (v := .ref (t_sa (Int32.toNatClampNeg t_at))) (C := RX5) (T := TX5) (N := 9) hx hb hts hin5 hown hK.1 hP 0 rfl rfl 6 (by decide) L1 (fun _ h9 => h9) rfl dX5_forget_1 ?_
    refine va_getN (D := g.1) (ci := 3) (v := .ref s_p_taught) (C := RX3) (T := TX3) (N := 10) hx hb hts hin3 hown hK.1 hP 3 rfl rfl 9 (by decide) (hK.use _ 12 rfl) (fun _ h9 => h9) rfl dX5_forget_4 ?_
    refine va_getN (D := g.1) (ci := 0) (v := .int sB_teachers) (C := RX0) (T := TX0) (N := 5) hx hb hts hin0 hown hK.1 hP 7 rfl rfl 0 (by decide) (hK.use _ 13 rfl) (fun _ h9 => h9) rfl dX5_forget_7 ?_
    refine lv_istore_n (lv' := [(1, .int sB_teachers), (0, .ref t_p)]) hx hb dX5_forget_10 rfl hl (by decide) rfl (fun ls hl => ?_)
    refine lv_iload_n hx hb dX5_forget_11 rfl (lv_at hl 0 rfl) ?_
    refine lv_if_ne (tgt := 18) hx hb dX5_forget_12 (by decide) (fun c_1 => ?_) (fun c_1 => ?_)
    · replace hf := (if_neg c_1).symm.trans hf
      refine lv_aload_n hx hb dX5_forget_18 rfl (lv_at hl 1 rfl) ?_
      obtain ⟨q_2, hq_2, hf⟩ := bd_some hf
      refine bft_v (bn := [wk5 g t_p t_p_text t_p_plan t_p_draft t_p_states (fun i => some (t_sa i)) ((t_at + 1) - (t_at + 1) / 5 * 5) (if 4 < (t_undoable + 1) then 4 else t_undoable + 1) (t_sa (Int32.toNatClampNeg ((t_at + 1) - (t_at + 1) / 5 * 5))) t_p_shots (fun i => some (t_ha i)) t_p_trial, wk3 g (t_sa (Int32.toNatClampNeg t_at)) s_p_drags s_drags s_p_speeds s_speeds s_p_settings s_settings s_shut s_coresIn s_loaded s_hot s_made s_width s_p_taught, wk0 g s_p_taught sB_teachers sB_shortest sB_longest sB_p_least sB_least sB_p_greatest sB_greatest, wk3 g (t_sa (Int32.toNatClampNeg ((t_at + 1) - (t_at + 1) / 5 * 5))) u_p_drags (va_cpy s_drags u_drags (Int32.toNatClampNeg 0) (Int32.toNatClampNeg 0) (Int32.toNatClampNeg 6)) u_p_speeds (va_cpy s_speeds u_speeds (Int32.toNatClampNeg 0) (Int32.toNatClampNeg 0) (Int32.toNatClampNeg 4)) u_p_settings (va_cpy s_settings u_settings (Int32.toNatClampNeg 0) (Int32.toNatClampNeg 0) (Int32.toNatClampNeg 6)) s_shut s_coresIn s_loaded s_hot s_made s_width u_p_taught, wk0 g u_p_taught sB_teachers sB_shortest sB_longest uB_p_least (va_cpy sB_least uB_least (Int32.toNatClampNeg 0) (Int32.toNatClampNeg 0) (Int32.toNatClampNeg 60)) uB_p_greatest (va_cpy sB_greatest uB_greatest (Int32.toNatClampNeg 0) (Int32.toNatClampNeg 0) (Int32.toNatClampNeg 60))]) (L := [[t_p, t_p_states, t_p_shots], [(t_sa (Int32.toNatClampNeg t_at)), s_p_drags, s_p_speeds, s_p_settings], [s_p_taught, sB_p_least, sB_p_greatest], [(t_sa (Int32.toNatClampNeg ((t_at + 1) - (t_at + 1) / 5 * 5))), u_p_drags, u_p_speeds, u_p_settings], [u_p_taught, uB_p_least, uB_p_greatest]]) (va_runV (As := []) (rest := []) ⟨hx, hb, hml, hown, hts⟩ (c5_startChange l g t_p t_p_text t_p_plan t_p_draft t_p_states t_sa t_at t_undoable t_p_shots t_ha t_p_trial s_p_drags s_drags s_p_speeds s_speeds s_p_settings s_settings s_shut s_coresIn s_loaded s_hot s_made s_width s_p_taught sB_teachers sB_shortest sB_longest sB_p_least sB_least sB_p_greatest sB_greatest u_p_drags u_drags u_p_speeds u_speeds u_p_settings u_settings u_shut u_coresIn u_loaded u_hot u_made u_width u_p_taught uB_teachers uB_shortest uB_longest uB_p_least uB_least uB_p_greatest uB_greatest H.size N q_2 hq_2) (cwV 0 hts gX5_forget_X5_startChange rfl rfl rfl ⟨rfl, nh5.1, nh5.2, pd_9⟩ ⟨Nat.le_of_ble_eq_true rfl, Nat.le_of_ble_eq_true rfl⟩) (qPV hK hG hP hD hS hA [0, 1, 2, 3, 4] (by decide) rfl (va_recv hK.1 hP (ci := 5) (q0 := 0) rfl rfl)) rfl rfl hl.1 rfl (lv_room (Nat.le_of_ble_eq_true rfl)) dX5_forget_19 ⟨Nat.zero_le _, Nat.zero_le _⟩) hP hD hS hA [0, 1, 2, 3, 4] rfl rfl rfl rfl (fun H locs hP hD hS => ?_)
      refine lv_aload_n hx hb dX5_forget_22 rfl (lv_at hl 1 rfl) ?_
      refine va_get (D := g.1) (ci := 5) (v := .ref (t_sa (Int32.toNatClampNeg ((t_at + 1) - (t_at + 1) / 5 * 5)))) (C := RX5) (T := TX5) (N := 9) hx hb hts hin5 hown hK.1 hP 0 rfl rfl 6 (by decide) L1 (fun _ h9 => h9) rfl dX5_forget_23 ?_
      refine va_getN (D := g.1) (ci := 3) (v := .ref u_p_taught) (C := RX3) (T := TX3) (N := 10) hx hb hts hin3 hown hK.1 hP 10 rfl rfl 9 (by decide) (hK.use _ 12 rfl) (fun _ h9 => h9) rfl dX5_forget_26 ?_
      obtain ⟨q_3, hq_3, hf⟩ := bd_some hf
      refine bft_v (bn := [wk5 g t_p t_p_text t_p_plan t_p_draft t_p_states (fun i => some (t_sa i)) ((t_at + 1) - (t_at + 1) / 5 * 5) (if 4 < (t_undoable + 1) then 4 else t_undoable + 1) (t_sa (Int32.toNatClampNeg ((t_at + 1) - (t_at + 1) / 5 * 5))) t_p_shots (fun i => some (t_ha i)) t_p_trial, wk3 g (t_sa (Int32.toNatClampNeg t_at)) s_p_drags s_drags s_p_speeds s_speeds s_p_settings s_settings s_shut s_coresIn s_loaded s_hot s_made s_width s_p_taught, wk0 g s_p_taught sB_teachers sB_shortest sB_longest sB_p_least sB_least sB_p_greatest sB_greatest, wk3 g (t_sa (Int32.toNatClampNeg ((t_at + 1) - (t_at + 1) / 5 * 5))) u_p_drags (va_cpy s_drags u_drags (Int32.toNatClampNeg 0) (Int32.toNatClampNeg 0) (Int32.toNatClampNeg 6)) u_p_speeds (va_cpy s_speeds u_speeds (Int32.toNatClampNeg 0) (Int32.toNatClampNeg 0) (Int32.toNatClampNeg 4)) u_p_settings (va_cpy s_settings u_settings (Int32.toNatClampNeg 0) (Int32.toNatClampNeg 0) (Int32.toNatClampNeg 6)) s_shut s_coresIn s_loaded s_hot s_made s_width u_p_taught, wk0 g u_p_taught 0 0 0 uB_p_least (va_cpy sB_least uB_least (Int32.toNatClampNeg 0) (Int32.toNatClampNeg 0) (Int32.toNatClampNeg 60)) uB_p_greatest (va_cpy sB_greatest uB_greatest (Int32.toNatClampNeg 0) (Int32.toNatClampNeg 0) (Int32.toNatClampNeg 60))]) (L := [[u_p_taught, uB_p_least, uB_p_greatest]]) (va_runVN (As := []) (rest := []) ⟨hx, hb, hml, hown, hts⟩ (c0_clear l g u_p_taught sB_teachers sB_shortest sB_longest uB_p_least (va_cpy sB_least uB_least (Int32.toNatClampNeg 0) (Int32.toNatClampNeg 0) (Int32.toNatClampNeg 60)) uB_p_greatest (va_cpy sB_greatest uB_greatest (Int32.toNatClampNeg 0) (Int32.toNatClampNeg 0) (Int32.toNatClampNeg 60)) H.size N q_3 hq_3) ⟨va_cnB 0 hts gX5_forget_X0_clear_n221 rfl rfl rfl (hK.nw _ 51 rfl) L2 ⟨nh0.1, nh0.2, pd_9⟩ ⟨Nat.le_of_ble_eq_true rfl, Nat.le_of_ble_eq_true rfl⟩, L3, L4⟩ (qPV hK hG hP hD hS hA [4] (by decide) rfl (va_recv hK.1 hP (ci := 0) (q0 := 14) rfl rfl)) rfl rfl hl.1 rfl (lv_room (Nat.le_of_ble_eq_true rfl)) dX5_forget_29 ⟨Nat.zero_le _, Nat.zero_le _⟩) hP hD hS hA [4] rfl rfl rfl rfl (fun H locs hP hD hS => ?_)
      refine lv_iload_n hx hb dX5_forget_32 rfl (lv_at hl 0 rfl) ?_
      replace hf := Option.some.inj hf
      subst hf
      exact W.iret (v := sB_teachers) hx hb hr (fun t ht hW => ⟨⟨_, (), rfl, rfl, by show va_P g.1 vwCl _ t.heap; rw [ht]; exact hP⟩, hS.F ht⟩) hS.2.2 dX5_forget_33 hlocks
    · replace hf := (if_pos c_1).symm.trans hf
      refine lv_bipush (v := (-2)) hx hb dX5_forget_15 (by decide) ?_
      replace hf := Option.some.inj hf
      subst hf
      exact W.iret (v := (-2)) hx hb hr (fun t ht hW => ⟨⟨_, (), rfl, rfl, by show va_P g.1 vwCl _ t.heap; rw [ht]; exact hP⟩, hS.F ht⟩) hS.2.2 dX5_forget_17 hlocks
  exact hgo s.heap [] rfl rfl hP hS

set_option maxHeartbeats 4000000 in
set_option maxRecDepth 100000 in
theorem c5_wide (l : Launch) (g : gG) (t_p : Nat) (t_p_text : Nat) (t_p_plan : Nat) (t_p_draft : Nat) (t_p_states : Nat) (t_sa : (Nat → Nat)) (t_at : Int32) (t_undoable : Int32) (t_p_shots : Nat) (t_ha : (Nat → Nat)) (t_p_trial : Nat) (s_p_drags : Nat) (s_drags : (Nat → Int32)) (s_p_speeds : Nat) (s_speeds : (Nat → Int32)) (s_p_settings : Nat) (s_settings : (Nat → Int32)) (s_shut : Int32) (s_coresIn : Int32) (s_loaded : Int32) (s_hot : Int32) (s_made : Int32) (s_width : Int32) (s_p_taught : Nat) (sB_teachers : Int32) (sB_shortest : Int32) (sB_longest : Int32) (sB_p_least : Nat) (sB_least : (Nat → Int32)) (sB_p_greatest : Nat) (sB_greatest : (Nat → Int32)) (u_p_drags : Nat) (u_drags : (Nat → Int32)) (u_p_speeds : Nat) (u_speeds : (Nat → Int32)) (u_p_settings : Nat) (u_settings : (Nat → Int32)) (u_shut : Int32) (u_coresIn : Int32) (u_loaded : Int32) (u_hot : Int32) (u_made : Int32) (u_width : Int32) (u_p_taught : Nat) (uB_teachers : Int32) (uB_shortest : Int32) (uB_longest : Int32) (uB_p_least : Nat) (uB_least : (Nat → Int32)) (uB_p_greatest : Nat) (uB_greatest : (Nat → Int32)) (l1 : Int32) (sz : Nat) (N : Nat) (res : (Int32 × Int32 × Int32 × (Nat → Int32) × (Nat → Int32) × (Nat → Int32) × Int32 × Int32 × Int32 × Int32 × Int32 × Int32 × Int32 × Int32 × Int32 × (Nat → Int32) × (Nat → Int32))) (hf : f5_wide N l1 t_at t_undoable s_drags s_speeds s_settings s_shut s_coresIn s_loaded s_hot s_made s_width sB_teachers sB_shortest sB_longest sB_least sB_greatest u_drags u_speeds u_settings u_shut u_coresIn u_loaded u_hot u_made u_width uB_teachers uB_shortest uB_longest uB_least uB_greatest = some res) : Met l yX5_wide wsX5_wide ({ frames := 4, cells := 0, slots := 0, locals := 105 }) (pP g [.ref t_p, .int l1] sz (fl [wk5 g t_p t_p_text t_p_plan t_p_draft t_p_states (fun i => some (t_sa i)) t_at t_undoable (t_sa (Int32.toNatClampNeg t_at)) t_p_shots (fun i => some (t_ha i)) t_p_trial, wk3 g (t_sa (Int32.toNatClampNeg t_at)) s_p_drags s_drags s_p_speeds s_speeds s_p_settings s_settings s_shut s_coresIn s_loaded s_hot s_made s_width s_p_taught, wk0 g s_p_taught sB_teachers sB_shortest sB_longest sB_p_least sB_least sB_p_greatest sB_greatest, wk3 g (t_sa (Int32.toNatClampNeg ((t_at + 1) - (t_at + 1) / 5 * 5))) u_p_drags u_drags u_p_speeds u_speeds u_p_settings u_settings u_shut u_coresIn u_loaded u_hot u_made u_width u_p_taught, wk0 g u_p_taught uB_teachers uB_shortest uB_longest uB_p_least uB_least uB_p_greatest uB_greatest])) (pQi g (fun r => r = res.1) (fl [wk5 g t_p t_p_text t_p_plan t_p_draft t_p_states (fun i => some (t_sa i)) res.2.1 res.2.2.1 (t_sa (Int32.toNatClampNeg res.2.1)) t_p_shots (fun i => some (t_ha i)) t_p_trial, wk3 g (t_sa (Int32.toNatClampNeg t_at)) s_p_drags s_drags s_p_speeds s_speeds s_p_settings s_settings s_shut s_coresIn s_loaded s_hot s_made s_width s_p_taught, wk0 g s_p_taught sB_teachers sB_shortest sB_longest sB_p_least sB_least sB_p_greatest sB_greatest, wk3 g (t_sa (Int32.toNatClampNeg ((t_at + 1) - (t_at + 1) / 5 * 5))) u_p_drags res.2.2.2.1 u_p_speeds res.2.2.2.2.1 u_p_settings res.2.2.2.2.2.1 res.2.2.2.2.2.2.1 res.2.2.2.2.2.2.2.1 res.2.2.2.2.2.2.2.2.1 res.2.2.2.2.2.2.2.2.2.1 res.2.2.2.2.2.2.2.2.2.2.1 res.2.2.2.2.2.2.2.2.2.2.2.1 u_p_taught, wk0 g u_p_taught res.2.2.2.2.2.2.2.2.2.2.2.2.1 res.2.2.2.2.2.2.2.2.2.2.2.2.2.1 res.2.2.2.2.2.2.2.2.2.2.2.2.2.2.1 uB_p_least res.2.2.2.2.2.2.2.2.2.2.2.2.2.2.2.1 uB_p_greatest res.2.2.2.2.2.2.2.2.2.2.2.2.2.2.2.2]) (va_A (fl [wk5 g t_p t_p_text t_p_plan t_p_draft t_p_states (fun i => some (t_sa i)) t_at t_undoable (t_sa (Int32.toNatClampNeg t_at)) t_p_shots (fun i => some (t_ha i)) t_p_trial, wk3 g (t_sa (Int32.toNatClampNeg t_at)) s_p_drags s_drags s_p_speeds s_speeds s_p_settings s_settings s_shut s_coresIn s_loaded s_hot s_made s_width s_p_taught, wk0 g s_p_taught sB_teachers sB_shortest sB_longest sB_p_least sB_least sB_p_greatest sB_greatest, wk3 g (t_sa (Int32.toNatClampNeg ((t_at + 1) - (t_at + 1) / 5 * 5))) u_p_drags u_drags u_p_speeds u_speeds u_p_settings u_settings u_shut u_coresIn u_loaded u_hot u_made u_width u_p_taught, wk0 g u_p_taught uB_teachers uB_shortest uB_longest uB_p_least uB_least uB_p_greatest uB_greatest]) sz)) 0 0 (va_A (fl [wk5 g t_p t_p_text t_p_plan t_p_draft t_p_states (fun i => some (t_sa i)) t_at t_undoable (t_sa (Int32.toNatClampNeg t_at)) t_p_shots (fun i => some (t_ha i)) t_p_trial, wk3 g (t_sa (Int32.toNatClampNeg t_at)) s_p_drags s_drags s_p_speeds s_speeds s_p_settings s_settings s_shut s_coresIn s_loaded s_hot s_made s_width s_p_taught, wk0 g s_p_taught sB_teachers sB_shortest sB_longest sB_p_least sB_least sB_p_greatest sB_greatest, wk3 g (t_sa (Int32.toNatClampNeg ((t_at + 1) - (t_at + 1) / 5 * 5))) u_p_drags u_drags u_p_speeds u_speeds u_p_settings u_settings u_shut u_coresIn u_loaded u_hot u_made u_width u_p_taught, wk0 g u_p_taught uB_teachers uB_shortest uB_longest uB_p_least uB_least uB_p_greatest uB_greatest]) sz) := by
  refine Met.ofW (cc := cX5_wide) (maxL := 3) (ret := (some .int)) (by decide) rfl ?_
  intro p e s m args below meth c s₁ B hml hv
  obtain ⟨rfl, hsz, hP, hK, hD0, hG⟩ := hv
  have hx := B.exec
  have hb := B.bytes
  have hr := B.returns
  have hts := atoms_spec (ws := wsX5_wide) B.pre
  have hown : s.vm.findClass RX5 = some m.cls := findClass_of_methodNamed B.named
  have hlocks := B.notSynchronized
  subst hsz
  have hD := hD0.self (sz := s.heap.size)
  generalize hAe : va_A (fl [wk5 g t_p t_p_text t_p_plan t_p_draft t_p_states (fun i => some (t_sa i)) t_at t_undoable (t_sa (Int32.toNatClampNeg t_at)) t_p_shots (fun i => some (t_ha i)) t_p_trial, wk3 g (t_sa (Int32.toNatClampNeg t_at)) s_p_drags s_drags s_p_speeds s_speeds s_p_settings s_settings s_shut s_coresIn s_loaded s_hot s_made s_width s_p_taught, wk0 g s_p_taught sB_teachers sB_shortest sB_longest sB_p_least sB_least sB_p_greatest sB_greatest, wk3 g (t_sa (Int32.toNatClampNeg ((t_at + 1) - (t_at + 1) / 5 * 5))) u_p_drags u_drags u_p_speeds u_speeds u_p_settings u_settings u_shut u_coresIn u_loaded u_hot u_made u_width u_p_taught, wk0 g u_p_taught uB_teachers uB_shortest uB_longest uB_p_least uB_least uB_p_greatest uB_greatest]) s.heap.size = A at hD hG ⊢
  have hA : ∀ q : Nat, s.heap.size ≤ q → A q := fun q h => by rw [← hAe]; exact Or.inr h
  have hS : va_S A s.heap s.heap [] := va_S.rf
  have hin3 : ∀ w ∈ u_ws RX3 TX3 10, w ∈ wsX5_wide := by decide +kernel
  have hin5 : ∀ w ∈ u_ws RX5 TX5 9, w ∈ wsX5_wide := by decide +kernel
  have L1 := hts (Cond.fieldLink RX5 40 "MouldShots" "now" "LMouldShots$State;") (by decide +kernel)
  have hl := lv_entry ([.ref t_p, .int l1]) (n := 3) (Nat.le_of_ble_eq_true rfl)
  rw [lg_entry_eq]
  generalize (lg_sl ([.ref t_p, .int l1]) ++ List.replicate (3 - (lg_sl ([.ref t_p, .int l1])).length) Slot.unset).toArray = ls at hl ⊢
  replace hl : lv_has ls 3 [(0, .ref t_p), (1, .int l1)] := hl
  rw [f5_wide] at hf
  have hgo : ∀ (H : Heap) (locs : List Loc), H = s.heap → locs = [] → va_P g.1 vwCl (fl [wk5 g t_p t_p_text t_p_plan t_p_draft t_p_states (fun i => some (t_sa i)) t_at t_undoable (t_sa (Int32.toNatClampNeg t_at)) t_p_shots (fun i => some (t_ha i)) t_p_trial, wk3 g (t_sa (Int32.toNatClampNeg t_at)) s_p_drags s_drags s_p_speeds s_speeds s_p_settings s_settings s_shut s_coresIn s_loaded s_hot s_made s_width s_p_taught, wk0 g s_p_taught sB_teachers sB_shortest sB_longest sB_p_least sB_least sB_p_greatest sB_greatest, wk3 g (t_sa (Int32.toNatClampNeg ((t_at + 1) - (t_at + 1) / 5 * 5))) u_p_drags u_drags u_p_speeds u_speeds u_p_settings u_settings u_shut u_coresIn u_loaded u_hot u_made u_width u_p_taught, wk0 g u_p_taught uB_teachers uB_shortest uB_longest uB_p_least uB_least uB_p_greatest uB_greatest]) H → va_S A s.heap H locs → W p l e ({ frames := 4, cells := 0, slots := 0, locals := 105 }) s m ([.ref t_p, .int l1] : List Value).toArray below meth c H locs 0 0 (MQ below (pQi g (fun r => r = res.1) (fl [wk5 g t_p t_p_text t_p_plan t_p_draft t_p_states (fun i => some (t_sa i)) res.2.1 res.2.2.1 (t_sa (Int32.toNatClampNeg res.2.1)) t_p_shots (fun i => some (t_ha i)) t_p_trial, wk3 g (t_sa (Int32.toNatClampNeg t_at)) s_p_drags s_drags s_p_speeds s_speeds s_p_settings s_settings s_shut s_coresIn s_loaded s_hot s_made s_width s_p_taught, wk0 g s_p_taught sB_teachers sB_shortest sB_longest sB_p_least sB_least sB_p_greatest sB_greatest, wk3 g (t_sa (Int32.toNatClampNeg ((t_at + 1) - (t_at + 1) / 5 * 5))) u_p_drags res.2.2.2.1 u_p_speeds res.2.2.2.2.1 u_p_settings res.2.2.2.2.2.1 res.2.2.2.2.2.2.1 res.2.2.2.2.2.2.2.1 res.2.2.2.2.2.2.2.2.1 res.2.2.2.2.2.2.2.2.2.1 res.2.2.2.2.2.2.2.2.2.2.1 res.2.2.2.2.2.2.2.2.2.2.2.1 u_p_taught, wk0 g u_p_taught res.2.2.2.2.2.2.2.2.2.2.2.2.1 res.2.2.2.2.2.2.2.2.2.2.2.2.2.1 res.2.2.2.2.2.2.2.2.2.2.2.2.2.2.1 uB_p_least res.2.2.2.2.2.2.2.2.2.2.2.2.2.2.2.1 uB_p_greatest res.2.2.2.2.2.2.2.2.2.2.2.2.2.2.2.2]) A) ([.ref t_p, .int l1] : List Value).toArray s 0 0 A) (F0 m 0 ls []) := by
    intro H locs hH hL hP hS
    refine lv_iload_n hx hb dX5_wide_0 rfl (lv_at hl 1 rfl) ?_
    refine lv_if_lt (tgt := 10) hx hb dX5_wide_1 (by decide) (fun c_1 => ?_) (fun c_1 => ?_)
    · replace hf := (if_pos c_1).symm.trans hf
      refine lv_iconst (v := (-1)) hx hb dX5_wide_10 (by decide) ?_
      replace hf := Option.some.inj hf
      subst hf
      exact W.iret (v := (-1)) hx hb hr (fun t ht hW => ⟨⟨_, (), rfl, rfl, by show va_P g.1 vwCl _ t.heap; rw [ht]; exact hP⟩, hS.F ht⟩) hS.2.2 dX5_wide_11 hlocks
    · replace hf := (if_neg c_1).symm.trans hf
      refine lv_iload_n hx hb dX5_wide_4 rfl (lv_at hl 1 rfl) ?_
      refine lv_bipush (v := 20) hx hb dX5_wide_5 (by decide) ?_
      refine lv_icmp_le (tgt := 12) hx hb dX5_wide_7 (by decide) (fun c_2 => ?_) (fun c_2 => ?_)
      · replace hf := (if_pos c_2).symm.trans hf
        refine lv_aload_n hx hb dX5_wide_12 rfl (lv_at hl 0 rfl) ?_
        refine va_get (D := g.1) (ci := 5) (v := .ref (t_sa (Int32.toNatClampNeg t_at))) (C := RX5) (T := TX5) (N := 9) hx hb hts hin5 hown hK.1 hP 0 rfl rfl 6 (by decide) L1 (fun _ h9 => h9) rfl dX5_wide_13 ?_
        refine va_getN (D := g.1) (ci := 3) (v := .int s_width) (C := RX3) (T := TX3) (N := 10) hx hb hts hin3 hown hK.1 hP 3 rfl rfl 8 (by decide) (hK.use _ 14 rfl) (fun _ h9 => h9) rfl dX5_wide_16 ?_
        refine lv_istore_n (lv' := [(2, .int s_width), (0, .ref t_p), (1, .int l1)]) hx hb dX5_wide_19 rfl hl (by decide) rfl (fun ls hl => ?_)
        refine lv_iload_n hx hb dX5_wide_20 rfl (lv_at hl 0 rfl) ?_
        refine lv_iload_n hx hb dX5_wide_21 rfl (lv_at hl 2 rfl) ?_
        refine lv_icmp_ne (tgt := 28) hx hb dX5_wide_22 (by decide) (fun c_3 => ?_) (fun c_3 => ?_)
        · replace hf := (if_neg c_3).symm.trans hf
          refine lv_aload_n hx hb dX5_wide_28 rfl (lv_at hl 1 rfl) ?_
          obtain ⟨q_4, hq_4, hf⟩ := bd_some hf
          refine bft_v (bn := [wk5 g t_p t_p_text t_p_plan t_p_draft t_p_states (fun i => some (t_sa i)) ((t_at + 1) - (t_at + 1) / 5 * 5) (if 4 < (t_undoable + 1) then 4 else t_undoable + 1) (t_sa (Int32.toNatClampNeg ((t_at + 1) - (t_at + 1) / 5 * 5))) t_p_shots (fun i => some (t_ha i)) t_p_trial, wk3 g (t_sa (Int32.toNatClampNeg t_at)) s_p_drags s_drags s_p_speeds s_speeds s_p_settings s_settings s_shut s_coresIn s_loaded s_hot s_made s_width s_p_taught, wk0 g s_p_taught sB_teachers sB_shortest sB_longest sB_p_least sB_least sB_p_greatest sB_greatest, wk3 g (t_sa (Int32.toNatClampNeg ((t_at + 1) - (t_at + 1) / 5 * 5))) u_p_drags (va_cpy s_drags u_drags (Int32.toNatClampNeg 0) (Int32.toNatClampNeg 0) (Int32.toNatClampNeg 6)) u_p_speeds (va_cpy s_speeds u_speeds (Int32.toNatClampNeg 0) (Int32.toNatClampNeg 0) (Int32.toNatClampNeg 4)) u_p_settings (va_cpy s_settings u_settings (Int32.toNatClampNeg 0) (Int32.toNatClampNeg 0) (Int32.toNatClampNeg 6)) s_shut s_coresIn s_loaded s_hot s_made s_width u_p_taught, wk0 g u_p_taught sB_teachers sB_shortest sB_longest uB_p_least (va_cpy sB_least uB_least (Int32.toNatClampNeg 0) (Int32.toNatClampNeg 0) (Int32.toNatClampNeg 60)) uB_p_greatest (va_cpy sB_greatest uB_greatest (Int32.toNatClampNeg 0) (Int32.toNatClampNeg 0) (Int32.toNatClampNeg 60))]) (L := [[t_p, t_p_states, t_p_shots], [(t_sa (Int32.toNatClampNeg t_at)), s_p_drags, s_p_speeds, s_p_settings], [s_p_taught, sB_p_least, sB_p_greatest], [(t_sa (Int32.toNatClampNeg ((t_at + 1) - (t_at + 1) / 5 * 5))), u_p_drags, u_p_speeds, u_p_settings], [u_p_taught, uB_p_least, uB_p_greatest]]) (va_runV (As := []) (rest := []) ⟨hx, hb, hml, hown, hts⟩ (c5_startChange l g t_p t_p_text t_p_plan t_p_draft t_p_states t_sa t_at t_undoable t_p_shots t_ha t_p_trial s_p_drags s_drags s_p_speeds s_speeds s_p_settings s_settings s_shut s_coresIn s_loaded s_hot s_made s_width s_p_taught sB_teachers sB_shortest sB_longest sB_p_least sB_least sB_p_greatest sB_greatest u_p_drags u_drags u_p_speeds u_speeds u_p_settings u_settings u_shut u_coresIn u_loaded u_hot u_made u_width u_p_taught uB_teachers uB_shortest uB_longest uB_p_least uB_least uB_p_greatest uB_greatest H.size N q_4 hq_4) (cwV 0 hts gX5_wide_X5_startChange rfl rfl rfl ⟨rfl, nh5.1, nh5.2, pd_9⟩ ⟨Nat.le_of_ble_eq_true rfl, Nat.le_of_ble_eq_true rfl⟩) (qPV hK hG hP hD hS hA [0, 1, 2, 3, 4] (by decide) rfl (va_recv hK.1 hP (ci := 5) (q0 := 0) rfl rfl)) rfl rfl hl.1 rfl (lv_room (Nat.le_of_ble_eq_true rfl)) dX5_wide_29 ⟨Nat.zero_le _, Nat.zero_le _⟩) hP hD hS hA [0, 1, 2, 3, 4] rfl rfl rfl rfl (fun H locs hP hD hS => ?_)
          refine lv_aload_n hx hb dX5_wide_32 rfl (lv_at hl 1 rfl) ?_
          refine va_get (D := g.1) (ci := 5) (v := .ref (t_sa (Int32.toNatClampNeg ((t_at + 1) - (t_at + 1) / 5 * 5)))) (C := RX5) (T := TX5) (N := 9) hx hb hts hin5 hown hK.1 hP 0 rfl rfl 6 (by decide) L1 (fun _ h9 => h9) rfl dX5_wide_33 ?_
          refine lv_iload_n hx hb dX5_wide_36 rfl (lv_at hl 2 rfl) ?_
          refine va_putN (D := g.1) (ci := 3) (v := .int l1) (ty := .int) (C := RX3) (T := TX3) (N := 10) hx hb hts hin3 tyX3 tyX3_ok nmX3 hown hK.1 hP hD hS 10 rfl rfl 8 (by decide) (hK.use _ 14 rfl) (fun _ h9 => h9) rfl (by decide +kernel) rfl rfl (Nat.le_of_ble_eq_true rfl) dX5_wide_37 (fun H locs hP hD hS => ?_)
          replace hP : va_P g.1 vwCl (fl [wk5 g t_p t_p_text t_p_plan t_p_draft t_p_states (fun i => some (t_sa i)) ((t_at + 1) - (t_at + 1) / 5 * 5) (if 4 < (t_undoable + 1) then 4 else t_undoable + 1) (t_sa (Int32.toNatClampNeg ((t_at + 1) - (t_at + 1) / 5 * 5))) t_p_shots (fun i => some (t_ha i)) t_p_trial, wk3 g (t_sa (Int32.toNatClampNeg t_at)) s_p_drags s_drags s_p_speeds s_speeds s_p_settings s_settings s_shut s_coresIn s_loaded s_hot s_made s_width s_p_taught, wk0 g s_p_taught sB_teachers sB_shortest sB_longest sB_p_least sB_least sB_p_greatest sB_greatest, wk3 g (t_sa (Int32.toNatClampNeg ((t_at + 1) - (t_at + 1) / 5 * 5))) u_p_drags (va_cpy s_drags u_drags (Int32.toNatClampNeg 0) (Int32.toNatClampNeg 0) (Int32.toNatClampNeg 6)) u_p_speeds (va_cpy s_speeds u_speeds (Int32.toNatClampNeg 0) (Int32.toNatClampNeg 0) (Int32.toNatClampNeg 4)) u_p_settings (va_cpy s_settings u_settings (Int32.toNatClampNeg 0) (Int32.toNatClampNeg 0) (Int32.toNatClampNeg 6)) s_shut s_coresIn s_loaded s_hot s_made l1 u_p_taught, wk0 g u_p_taught sB_teachers sB_shortest sB_longest uB_p_least (va_cpy sB_least uB_least (Int32.toNatClampNeg 0) (Int32.toNatClampNeg 0) (Int32.toNatClampNeg 60)) uB_p_greatest (va_cpy sB_greatest uB_greatest (Int32.toNatClampNeg 0) (Int32.toNatClampNeg 0) (Int32.toNatClampNeg 60))]) H := hP
          replace hD : va_D A (fl [wk5 g t_p t_p_text t_p_plan t_p_draft t_p_states (fun i => some (t_sa i)) ((t_at + 1) - (t_at + 1) / 5 * 5) (if 4 < (t_undoable + 1) then 4 else t_undoable + 1) (t_sa (Int32.toNatClampNeg ((t_at + 1) - (t_at + 1) / 5 * 5))) t_p_shots (fun i => some (t_ha i)) t_p_trial, wk3 g (t_sa (Int32.toNatClampNeg t_at)) s_p_drags s_drags s_p_speeds s_speeds s_p_settings s_settings s_shut s_coresIn s_loaded s_hot s_made s_width s_p_taught, wk0 g s_p_taught sB_teachers sB_shortest sB_longest sB_p_least sB_least sB_p_greatest sB_greatest, wk3 g (t_sa (Int32.toNatClampNeg ((t_at + 1) - (t_at + 1) / 5 * 5))) u_p_drags (va_cpy s_drags u_drags (Int32.toNatClampNeg 0) (Int32.toNatClampNeg 0) (Int32.toNatClampNeg 6)) u_p_speeds (va_cpy s_speeds u_speeds (Int32.toNatClampNeg 0) (Int32.toNatClampNeg 0) (Int32.toNatClampNeg 4)) u_p_settings (va_cpy s_settings u_settings (Int32.toNatClampNeg 0) (Int32.toNatClampNeg 0) (Int32.toNatClampNeg 6)) s_shut s_coresIn s_loaded s_hot s_made l1 u_p_taught, wk0 g u_p_taught sB_teachers sB_shortest sB_longest uB_p_least (va_cpy sB_least uB_least (Int32.toNatClampNeg 0) (Int32.toNatClampNeg 0) (Int32.toNatClampNeg 60)) uB_p_greatest (va_cpy sB_greatest uB_greatest (Int32.toNatClampNeg 0) (Int32.toNatClampNeg 0) (Int32.toNatClampNeg 60))]) := hD
          refine lv_iload_n hx hb dX5_wide_40 rfl (lv_at hl 0 rfl) ?_
          replace hf := Option.some.inj hf
          subst hf
          exact W.iret (v := s_width) hx hb hr (fun t ht hW => ⟨⟨_, (), rfl, rfl, by show va_P g.1 vwCl _ t.heap; rw [ht]; exact hP⟩, hS.F ht⟩) hS.2.2 dX5_wide_41 hlocks
        · replace hf := (if_pos c_3).symm.trans hf
          refine lv_bipush (v := (-2)) hx hb dX5_wide_25 (by decide) ?_
          replace hf := Option.some.inj hf
          subst hf
          exact W.iret (v := (-2)) hx hb hr (fun t ht hW => ⟨⟨_, (), rfl, rfl, by show va_P g.1 vwCl _ t.heap; rw [ht]; exact hP⟩, hS.F ht⟩) hS.2.2 dX5_wide_27 hlocks
      · replace hf := (if_neg c_2).symm.trans hf
        refine lv_iconst (v := (-1)) hx hb dX5_wide_10 (by decide) ?_
        replace hf := Option.some.inj hf
        subst hf
        exact W.iret (v := (-1)) hx hb hr (fun t ht hW => ⟨⟨_, (), rfl, rfl, by show va_P g.1 vwCl _ t.heap; rw [ht]; exact hP⟩, hS.F ht⟩) hS.2.2 dX5_wide_11 hlocks
  exact hgo s.heap [] rfl rfl hP hS

set_option maxHeartbeats 4000000 in
set_option maxRecDepth 100000 in
theorem c5_isTick (l : Launch) (g : gG) (l0 : Int32) (sz : Nat) (N : Nat) (res : (Int32)) (hf : f5_isTick N l0 = some res) : Met l yX5_isTick wsX5_isTick ({ frames := 0, cells := 0, slots := 0, locals := 0 }) (pP g [.int l0] sz []) (pQi g (fun r => r = res) [] (va_A [] sz)) 0 0 (va_A [] sz) := by
  refine Met.ofW (cc := cX5_isTick) (maxL := 1) (ret := (some .boolean)) (by decide) rfl ?_
  intro p e s m args below meth c s₁ B hml hv
  obtain ⟨rfl, hsz, hP, hK, hD0, hG⟩ := hv
  have hx := B.exec
  have hb := B.bytes
  have hr := B.returns
  have hts := atoms_spec (ws := wsX5_isTick) B.pre
  have hown : s.vm.findClass RX5 = some m.cls := findClass_of_methodNamed B.named
  have hlocks := B.notSynchronized
  subst hsz
  have hD := hD0.self (sz := s.heap.size)
  generalize hAe : va_A [] s.heap.size = A at hD hG ⊢
  have hA : ∀ q : Nat, s.heap.size ≤ q → A q := fun q h => by rw [← hAe]; exact Or.inr h
  have hS : va_S A s.heap s.heap [] := va_S.rf
  have hl := lv_entry ([.int l0]) (n := 1) (Nat.le_of_ble_eq_true rfl)
  rw [lg_entry_eq]
  generalize (lg_sl ([.int l0]) ++ List.replicate (1 - (lg_sl ([.int l0])).length) Slot.unset).toArray = ls at hl ⊢
  replace hl : lv_has ls 1 [(0, .int l0)] := hl
  rw [f5_isTick] at hf
  have hgo : ∀ (H : Heap) (locs : List Loc), H = s.heap → locs = [] → va_P g.1 vwCl [] H → va_S A s.heap H locs → W p l e ({ frames := 0, cells := 0, slots := 0, locals := 0 }) s m ([.int l0] : List Value).toArray below meth c H locs 0 0 (MQ below (pQi g (fun r => r = res) [] A) ([.int l0] : List Value).toArray s 0 0 A) (F0 m 0 ls []) := by
    intro H locs hH hL hP hS
    refine lv_iload_n hx hb dX5_isTick_0 rfl (lv_at hl 0 rfl) ?_
    refine lv_iconst (v := 1) hx hb dX5_isTick_1 (by decide) ?_
    refine lv_icmp_lt (tgt := 15) hx hb dX5_isTick_2 (by decide) (fun c_1 => ?_) (fun c_1 => ?_)
    · replace hf := (if_pos c_1).symm.trans hf
      refine lv_iconst (v := 0) hx hb dX5_isTick_15 (by decide) ?_
      replace hf := Option.some.inj hf
      subst hf
      exact W.zret (v := 0) hx hb hr rfl (fun t ht hW => ⟨⟨_, (), rfl, rfl, by show va_P g.1 vwCl _ t.heap; rw [ht]; exact hP⟩, hS.F ht⟩) hS.2.2 dX5_isTick_16 hlocks
    · replace hf := (if_neg c_1).symm.trans hf
      refine lv_iload_n hx hb dX5_isTick_5 rfl (lv_at hl 0 rfl) ?_
      refine lv_bipush (v := 60) hx hb dX5_isTick_6 (by decide) ?_
      refine lv_icmp_gt (tgt := 15) hx hb dX5_isTick_8 (by decide) (fun c_2 => ?_) (fun c_2 => ?_)
      · replace hf := (if_pos c_2).symm.trans hf
        refine lv_iconst (v := 0) hx hb dX5_isTick_15 (by decide) ?_
        replace hf := Option.some.inj hf
        subst hf
        exact W.zret (v := 0) hx hb hr rfl (fun t ht hW => ⟨⟨_, (), rfl, rfl, by show va_P g.1 vwCl _ t.heap; rw [ht]; exact hP⟩, hS.F ht⟩) hS.2.2 dX5_isTick_16 hlocks
      · replace hf := (if_neg c_2).symm.trans hf
        refine lv_iconst (v := 1) hx hb dX5_isTick_11 (by decide) ?_
        refine lv_goto (tgt := 16) hx hb dX5_isTick_12 (by decide) ?_
        replace hf := Option.some.inj hf
        subst hf
        exact W.zret (v := 1) hx hb hr rfl (fun t ht hW => ⟨⟨_, (), rfl, rfl, by show va_P g.1 vwCl _ t.heap; rw [ht]; exact hP⟩, hS.F ht⟩) hS.2.2 dX5_isTick_16 hlocks
  exact hgo s.heap [] rfl rfl hP hS

set_option maxHeartbeats 4000000 in
set_option maxRecDepth 100000 in
theorem c5_band (l : Launch) (g : gG) (t_p : Nat) (t_p_text : Nat) (t_p_plan : Nat) (t_p_draft : Nat) (t_p_states : Nat) (t_sa : (Nat → Nat)) (t_at : Int32) (t_undoable : Int32) (t_p_shots : Nat) (t_ha : (Nat → Nat)) (t_p_trial : Nat) (s_p_drags : Nat) (s_drags : (Nat → Int32)) (s_p_speeds : Nat) (s_speeds : (Nat → Int32)) (s_p_settings : Nat) (s_settings : (Nat → Int32)) (s_shut : Int32) (s_coresIn : Int32) (s_loaded : Int32) (s_hot : Int32) (s_made : Int32) (s_width : Int32) (s_p_taught : Nat) (sB_teachers : Int32) (sB_shortest : Int32) (sB_longest : Int32) (sB_p_least : Nat) (sB_least : (Nat → Int32)) (sB_p_greatest : Nat) (sB_greatest : (Nat → Int32)) (l1 : Int32) (l2 : Int32) (sz : Nat) (N : Nat) (res : (Int32)) (hf : f5_band N l1 l2 sB_longest sB_least sB_greatest = some res) : Met l yX5_band wsX5_band ({ frames := 1, cells := 0, slots := 0, locals := 20 }) (pP g [.ref t_p, .int l1, .int l2] sz (fl [wk5 g t_p t_p_text t_p_plan t_p_draft t_p_states (fun i => some (t_sa i)) t_at t_undoable (t_sa (Int32.toNatClampNeg t_at)) t_p_shots (fun i => some (t_ha i)) t_p_trial, wk3 g (t_sa (Int32.toNatClampNeg t_at)) s_p_drags s_drags s_p_speeds s_speeds s_p_settings s_settings s_shut s_coresIn s_loaded s_hot s_made s_width s_p_taught, wk0 g s_p_taught sB_teachers sB_shortest sB_longest sB_p_least sB_least sB_p_greatest sB_greatest])) (pQi g (fun r => r = res) (fl [wk5 g t_p t_p_text t_p_plan t_p_draft t_p_states (fun i => some (t_sa i)) t_at t_undoable (t_sa (Int32.toNatClampNeg t_at)) t_p_shots (fun i => some (t_ha i)) t_p_trial, wk3 g (t_sa (Int32.toNatClampNeg t_at)) s_p_drags s_drags s_p_speeds s_speeds s_p_settings s_settings s_shut s_coresIn s_loaded s_hot s_made s_width s_p_taught, wk0 g s_p_taught sB_teachers sB_shortest sB_longest sB_p_least sB_least sB_p_greatest sB_greatest]) (va_A (fl [wk5 g t_p t_p_text t_p_plan t_p_draft t_p_states (fun i => some (t_sa i)) t_at t_undoable (t_sa (Int32.toNatClampNeg t_at)) t_p_shots (fun i => some (t_ha i)) t_p_trial, wk3 g (t_sa (Int32.toNatClampNeg t_at)) s_p_drags s_drags s_p_speeds s_speeds s_p_settings s_settings s_shut s_coresIn s_loaded s_hot s_made s_width s_p_taught, wk0 g s_p_taught sB_teachers sB_shortest sB_longest sB_p_least sB_least sB_p_greatest sB_greatest]) sz)) 0 0 (va_A (fl [wk5 g t_p t_p_text t_p_plan t_p_draft t_p_states (fun i => some (t_sa i)) t_at t_undoable (t_sa (Int32.toNatClampNeg t_at)) t_p_shots (fun i => some (t_ha i)) t_p_trial, wk3 g (t_sa (Int32.toNatClampNeg t_at)) s_p_drags s_drags s_p_speeds s_speeds s_p_settings s_settings s_shut s_coresIn s_loaded s_hot s_made s_width s_p_taught, wk0 g s_p_taught sB_teachers sB_shortest sB_longest sB_p_least sB_least sB_p_greatest sB_greatest]) sz) := by
  refine Met.ofW (cc := cX5_band) (maxL := 3) (ret := (some .int)) (by decide) rfl ?_
  intro p e s m args below meth c s₁ B hml hv
  obtain ⟨rfl, hsz, hP, hK, hD0, hG⟩ := hv
  have hx := B.exec
  have hb := B.bytes
  have hr := B.returns
  have hts := atoms_spec (ws := wsX5_band) B.pre
  have hown : s.vm.findClass RX5 = some m.cls := findClass_of_methodNamed B.named
  have hlocks := B.notSynchronized
  subst hsz
  have hD := hD0.self (sz := s.heap.size)
  generalize hAe : va_A (fl [wk5 g t_p t_p_text t_p_plan t_p_draft t_p_states (fun i => some (t_sa i)) t_at t_undoable (t_sa (Int32.toNatClampNeg t_at)) t_p_shots (fun i => some (t_ha i)) t_p_trial, wk3 g (t_sa (Int32.toNatClampNeg t_at)) s_p_drags s_drags s_p_speeds s_speeds s_p_settings s_settings s_shut s_coresIn s_loaded s_hot s_made s_width s_p_taught, wk0 g s_p_taught sB_teachers sB_shortest sB_longest sB_p_least sB_least sB_p_greatest sB_greatest]) s.heap.size = A at hD hG ⊢
  have hA : ∀ q : Nat, s.heap.size ≤ q → A q := fun q h => by rw [← hAe]; exact Or.inr h
  have hS : va_S A s.heap s.heap [] := va_S.rf
  have hin0 : ∀ w ∈ u_ws RX0 TX0 5, w ∈ wsX5_band := by decide +kernel
  have hin3 : ∀ w ∈ u_ws RX3 TX3 10, w ∈ wsX5_band := by decide +kernel
  have hin5 : ∀ w ∈ u_ws RX5 TX5 9, w ∈ wsX5_band := by decide +kernel
  have L1 := hts (Cond.fieldLink RX5 40 "MouldShots" "now" "LMouldShots$State;") (by decide +kernel)
  have hl := lv_entry ([.ref t_p, .int l1, .int l2]) (n := 3) (Nat.le_of_ble_eq_true rfl)
  rw [lg_entry_eq]
  generalize (lg_sl ([.ref t_p, .int l1, .int l2]) ++ List.replicate (3 - (lg_sl ([.ref t_p, .int l1, .int l2])).length) Slot.unset).toArray = ls at hl ⊢
  replace hl : lv_has ls 3 [(0, .ref t_p), (1, .int l1), (2, .int l2)] := hl
  rw [f5_band] at hf
  have hgo : ∀ (H : Heap) (locs : List Loc), H = s.heap → locs = [] → va_P g.1 vwCl (fl [wk5 g t_p t_p_text t_p_plan t_p_draft t_p_states (fun i => some (t_sa i)) t_at t_undoable (t_sa (Int32.toNatClampNeg t_at)) t_p_shots (fun i => some (t_ha i)) t_p_trial, wk3 g (t_sa (Int32.toNatClampNeg t_at)) s_p_drags s_drags s_p_speeds s_speeds s_p_settings s_settings s_shut s_coresIn s_loaded s_hot s_made s_width s_p_taught, wk0 g s_p_taught sB_teachers sB_shortest sB_longest sB_p_least sB_least sB_p_greatest sB_greatest]) H → va_S A s.heap H locs → W p l e ({ frames := 1, cells := 0, slots := 0, locals := 20 }) s m ([.ref t_p, .int l1, .int l2] : List Value).toArray below meth c H locs 0 0 (MQ below (pQi g (fun r => r = res) (fl [wk5 g t_p t_p_text t_p_plan t_p_draft t_p_states (fun i => some (t_sa i)) t_at t_undoable (t_sa (Int32.toNatClampNeg t_at)) t_p_shots (fun i => some (t_ha i)) t_p_trial, wk3 g (t_sa (Int32.toNatClampNeg t_at)) s_p_drags s_drags s_p_speeds s_speeds s_p_settings s_settings s_shut s_coresIn s_loaded s_hot s_made s_width s_p_taught, wk0 g s_p_taught sB_teachers sB_shortest sB_longest sB_p_least sB_least sB_p_greatest sB_greatest]) A) ([.ref t_p, .int l1, .int l2] : List Value).toArray s 0 0 A) (F0 m 0 ls []) := by
    intro H locs hH hL hP hS
    refine lv_iload_n hx hb dX5_band_0 rfl (lv_at hl 1 rfl) ?_
    obtain ⟨q_1, hq_1, hf⟩ := bd_some hf
    refine aft_i (wn := (fl [wk5 g t_p t_p_text t_p_plan t_p_draft t_p_states (fun i => some (t_sa i)) t_at t_undoable (t_sa (Int32.toNatClampNeg t_at)) t_p_shots (fun i => some (t_ha i)) t_p_trial, wk3 g (t_sa (Int32.toNatClampNeg t_at)) s_p_drags s_drags s_p_speeds s_speeds s_p_settings s_settings s_shut s_coresIn s_loaded s_hot s_made s_width s_p_taught, wk0 g s_p_taught sB_teachers sB_shortest sB_longest sB_p_least sB_least sB_p_greatest sB_greatest])) (va_runS (As := [.int l1]) (rest := []) ⟨hx, hb, hml, hown, hts⟩ (c5_isTick l g l1 H.size N q_1 hq_1) (va_cwS 1 hts gX5_band_X5_isTick rfl rfl rfl ⟨nh5.1, nh5.2, pd_1⟩ ⟨Nat.le_of_ble_eq_true rfl, Nat.le_of_ble_eq_true rfl⟩) (pPS hK hG hP hD hS hA [] (by decide) rfl) rfl rfl hl.1 rfl (lv_room (Nat.le_of_ble_eq_true rfl)) dX5_band_1 ⟨Nat.zero_le _, Nat.zero_le _⟩) hP hD hS hA [] rfl rfl rfl (fun r_2 H locs hw hP hD hS => ?_)
    replace hw := hw.symm
    subst hw
    refine lv_if_eq (tgt := 14) hx hb dX5_band_4 (by decide) (fun c_3 => ?_) (fun c_3 => ?_)
    · replace hf := (if_pos c_3).symm.trans hf
      refine lv_iconst (v := (-1)) hx hb dX5_band_14 (by decide) ?_
      replace hf := Option.some.inj hf
      subst hf
      exact W.iret (v := (-1)) hx hb hr (fun t ht hW => ⟨⟨_, (), rfl, rfl, by show va_P g.1 vwCl _ t.heap; rw [ht]; exact hP⟩, hS.F ht⟩) hS.2.2 dX5_band_15 hlocks
    · replace hf := (if_neg c_3).symm.trans hf
      refine lv_iload_n hx hb dX5_band_7 rfl (lv_at hl 2 rfl) ?_
      obtain ⟨q_4, hq_4, hf⟩ := bd_some hf
      refine aft_i (wn := (fl [wk5 g t_p t_p_text t_p_plan t_p_draft t_p_states (fun i => some (t_sa i)) t_at t_undoable (t_sa (Int32.toNatClampNeg t_at)) t_p_shots (fun i => some (t_ha i)) t_p_trial, wk3 g (t_sa (Int32.toNatClampNeg t_at)) s_p_drags s_drags s_p_speeds s_speeds s_p_settings s_settings s_shut s_coresIn s_loaded s_hot s_made s_width s_p_taught, wk0 g s_p_taught sB_teachers sB_shortest sB_longest sB_p_least sB_least sB_p_greatest sB_greatest])) (va_runS (As := [.int l2]) (rest := []) ⟨hx, hb, hml, hown, hts⟩ (c5_isFlag l g l2 H.size N q_4 hq_4) (va_cwS 1 hts gX5_band_X5_isFlag rfl rfl rfl ⟨nh5.1, nh5.2, pd_1⟩ ⟨Nat.le_of_ble_eq_true rfl, Nat.le_of_ble_eq_true rfl⟩) (pPS hK hG hP hD hS hA [] (by decide) rfl) rfl rfl hl.1 rfl (lv_room (Nat.le_of_ble_eq_true rfl)) dX5_band_8 ⟨Nat.zero_le _, Nat.zero_le _⟩) hP hD hS hA [] rfl rfl rfl (fun r_5 H locs hw hP hD hS => ?_)
      replace hw := hw.symm
      subst hw
      refine lv_if_ne (tgt := 16) hx hb dX5_band_11 (by decide) (fun c_6 => ?_) (fun c_6 => ?_)
      · replace hf := (if_neg c_6).symm.trans hf
        refine lv_iload_n hx hb dX5_band_16 rfl (lv_at hl 1 rfl) ?_
        refine lv_aload_n hx hb dX5_band_17 rfl (lv_at hl 0 rfl) ?_
        refine va_get (D := g.1) (ci := 5) (v := .ref (t_sa (Int32.toNatClampNeg t_at))) (C := RX5) (T := TX5) (N := 9) hx hb hts hin5 hown hK.1 hP 0 rfl rfl 6 (by decide) L1 (fun _ h9 => h9) rfl dX5_band_18 ?_
        refine va_getN (D := g.1) (ci := 3) (v := .ref s_p_taught) (C := RX3) (T := TX3) (N := 10) hx hb hts hin3 hown hK.1 hP 3 rfl rfl 9 (by decide) (hK.use _ 12 rfl) (fun _ h9 => h9) rfl dX5_band_21 ?_
        refine va_getN (D := g.1) (ci := 0) (v := .int sB_longest) (C := RX0) (T := TX0) (N := 5) hx hb hts hin0 hown hK.1 hP 7 rfl rfl 2 (by decide) (hK.use _ 15 rfl) (fun _ h9 => h9) rfl dX5_band_24 ?_
        refine lv_icmp_le (tgt := 33) hx hb dX5_band_27 (by decide) (fun c_7 => ?_) (fun c_7 => ?_)
        · replace hf := (if_pos c_7).symm.trans hf
          refine lv_iload_n hx hb dX5_band_33 rfl (lv_at hl 2 rfl) ?_
          refine lv_if_ne (tgt := 54) hx hb dX5_band_34 (by decide) (fun c_8 => ?_) (fun c_8 => ?_)
          · replace hf := (if_neg c_8).symm.trans hf
            refine lv_aload_n hx hb dX5_band_54 rfl (lv_at hl 0 rfl) ?_
            refine va_get (D := g.1) (ci := 5) (v := .ref (t_sa (Int32.toNatClampNeg t_at))) (C := RX5) (T := TX5) (N := 9) hx hb hts hin5 hown hK.1 hP 0 rfl rfl 6 (by decide) L1 (fun _ h9 => h9) rfl dX5_band_55 ?_
            refine va_getN (D := g.1) (ci := 3) (v := .ref s_p_taught) (C := RX3) (T := TX3) (N := 10) hx hb hts hin3 hown hK.1 hP 3 rfl rfl 9 (by decide) (hK.use _ 12 rfl) (fun _ h9 => h9) rfl dX5_band_58 ?_
            refine va_getN (D := g.1) (ci := 0) (v := .ref sB_p_greatest) (C := RX0) (T := TX0) (N := 5) hx hb hts hin0 hown hK.1 hP 7 rfl rfl 4 (by decide) (hK.use _ 17 rfl) (fun _ h9 => h9) rfl dX5_band_61 ?_
            refine lv_iload_n hx hb dX5_band_64 rfl (lv_at hl 1 rfl) ?_
            refine lv_iconst (v := 1) hx hb dX5_band_65 (by decide) ?_
            refine lv_isub hx hb dX5_band_66 ?_
            obtain ⟨h_9, hf⟩ := if_some hf
            refine va_iald hx hb hK.1 hP 9 0 rfl rfl (ok_in h_9) dX5_band_67 ?_
            replace hf := Option.some.inj hf
            subst hf
            exact W.iret (v := sB_greatest (Int32.toNatClampNeg (l1 - 1))) hx hb hr (fun t ht hW => ⟨⟨_, (), rfl, rfl, by show va_P g.1 vwCl _ t.heap; rw [ht]; exact hP⟩, hS.F ht⟩) hS.2.2 dX5_band_68 hlocks
          · replace hf := (if_pos c_8).symm.trans hf
            refine lv_aload_n hx hb dX5_band_37 rfl (lv_at hl 0 rfl) ?_
            refine va_get (D := g.1) (ci := 5) (v := .ref (t_sa (Int32.toNatClampNeg t_at))) (C := RX5) (T := TX5) (N := 9) hx hb hts hin5 hown hK.1 hP 0 rfl rfl 6 (by decide) L1 (fun _ h9 => h9) rfl dX5_band_38 ?_
            refine va_getN (D := g.1) (ci := 3) (v := .ref s_p_taught) (C := RX3) (T := TX3) (N := 10) hx hb hts hin3 hown hK.1 hP 3 rfl rfl 9 (by decide) (hK.use _ 12 rfl) (fun _ h9 => h9) rfl dX5_band_41 ?_
            refine va_getN (D := g.1) (ci := 0) (v := .ref sB_p_least) (C := RX0) (T := TX0) (N := 5) hx hb hts hin0 hown hK.1 hP 7 rfl rfl 3 (by decide) (hK.use _ 16 rfl) (fun _ h9 => h9) rfl dX5_band_44 ?_
            refine lv_iload_n hx hb dX5_band_47 rfl (lv_at hl 1 rfl) ?_
            refine lv_iconst (v := 1) hx hb dX5_band_48 (by decide) ?_
            refine lv_isub hx hb dX5_band_49 ?_
            obtain ⟨h_10, hf⟩ := if_some hf
            refine va_iald hx hb hK.1 hP 8 0 rfl rfl (ok_in h_10) dX5_band_50 ?_
            refine lv_goto (tgt := 68) hx hb dX5_band_51 (by decide) ?_
            replace hf := Option.some.inj hf
            subst hf
            exact W.iret (v := sB_least (Int32.toNatClampNeg (l1 - 1))) hx hb hr (fun t ht hW => ⟨⟨_, (), rfl, rfl, by show va_P g.1 vwCl _ t.heap; rw [ht]; exact hP⟩, hS.F ht⟩) hS.2.2 dX5_band_68 hlocks
        · replace hf := (if_neg c_7).symm.trans hf
          refine lv_bipush (v := (-4)) hx hb dX5_band_30 (by decide) ?_
          replace hf := Option.some.inj hf
          subst hf
          exact W.iret (v := (-4)) hx hb hr (fun t ht hW => ⟨⟨_, (), rfl, rfl, by show va_P g.1 vwCl _ t.heap; rw [ht]; exact hP⟩, hS.F ht⟩) hS.2.2 dX5_band_32 hlocks
      · replace hf := (if_pos c_6).symm.trans hf
        refine lv_iconst (v := (-1)) hx hb dX5_band_14 (by decide) ?_
        replace hf := Option.some.inj hf
        subst hf
        exact W.iret (v := (-1)) hx hb hr (fun t ht hW => ⟨⟨_, (), rfl, rfl, by show va_P g.1 vwCl _ t.heap; rw [ht]; exact hP⟩, hS.F ht⟩) hS.2.2 dX5_band_15 hlocks
  exact hgo s.heap [] rfl rfl hP hS

set_option maxHeartbeats 4000000 in
set_option maxRecDepth 100000 in
theorem c5_isBad (l : Launch) (g : gG) (t_p : Nat) (t_p_text : Nat) (t_p_plan : Nat) (t_p_draft : Nat) (t_p_states : Nat) (t_sa : (Nat → Nat)) (t_at : Int32) (t_undoable : Int32) (t_p_shots : Nat) (t_ha : (Nat → Nat)) (t_p_trial : Nat) (n_cavities : Int32) (n_p_volumes : Nat) (n_volumes : (Nat → Int32)) (n_p_drags : Nat) (n_drags : (Nat → Int32)) (n_p_freezes : Nat) (n_freezes : (Nat → Int32)) (n_cores : Int32) (n_p_ahead : Nat) (n_ahead : (Nat → Int32)) (n_stages : Int32) (n_p_places : Nat) (n_places : (Nat → Int32)) (n_p_speeds : Nat) (n_speeds : (Nat → Int32)) (n_p_settings : Nat) (n_settings : (Nat → Int32)) (s_p_drags : Nat) (s_drags : (Nat → Int32)) (s_p_speeds : Nat) (s_speeds : (Nat → Int32)) (s_p_settings : Nat) (s_settings : (Nat → Int32)) (s_shut : Int32) (s_coresIn : Int32) (s_loaded : Int32) (s_hot : Int32) (s_made : Int32) (s_width : Int32) (s_p_taught : Nat) (sB_teachers : Int32) (sB_shortest : Int32) (sB_longest : Int32) (sB_p_least : Nat) (sB_least : (Nat → Int32)) (sB_p_greatest : Nat) (sB_greatest : (Nat → Int32)) (h_p : Nat) (h_p_has : Nat) (h_has : (Nat → Int32)) (h_p_firstAt : Nat) (h_firstAt : (Nat → Int32)) (h_p_fullAt : Nat) (h_fullAt : (Nat → Int32)) (h_p_pressures : Nat) (h_pressures : (Nat → Int32)) (h_place : Int32) (h_fillTicks : Int32) (h_ticks : Int32) (h_coolTicks : Int32) (h_why : Int32) (sz : Nat) (N : Nat) (res : (Int32)) (hf : f5_isBad N n_cavities n_volumes s_width sB_teachers sB_shortest sB_longest sB_least sB_greatest h_has h_pressures h_ticks = some res) : Met l yX5_isBad wsX5_isBad ({ frames := 2, cells := 0, slots := 0, locals := 47 }) (pP g [.ref t_p, .ref h_p] sz (fl [wk5 g t_p t_p_text t_p_plan t_p_draft t_p_states (fun i => some (t_sa i)) t_at t_undoable (t_sa (Int32.toNatClampNeg t_at)) t_p_shots (fun i => some (t_ha i)) t_p_trial, wk1 g t_p_plan n_cavities n_p_volumes n_volumes n_p_drags n_drags n_p_freezes n_freezes n_cores n_p_ahead n_ahead n_stages n_p_places n_places n_p_speeds n_speeds n_p_settings n_settings, wk3 g (t_sa (Int32.toNatClampNeg t_at)) s_p_drags s_drags s_p_speeds s_speeds s_p_settings s_settings s_shut s_coresIn s_loaded s_hot s_made s_width s_p_taught, wk0 g s_p_taught sB_teachers sB_shortest sB_longest sB_p_least sB_least sB_p_greatest sB_greatest, wk2 g h_p h_p_has h_has h_p_firstAt h_firstAt h_p_fullAt h_fullAt h_p_pressures h_pressures h_place h_fillTicks h_ticks h_coolTicks h_why])) (pQi g (fun r => r = res) (fl [wk5 g t_p t_p_text t_p_plan t_p_draft t_p_states (fun i => some (t_sa i)) t_at t_undoable (t_sa (Int32.toNatClampNeg t_at)) t_p_shots (fun i => some (t_ha i)) t_p_trial, wk1 g t_p_plan n_cavities n_p_volumes n_volumes n_p_drags n_drags n_p_freezes n_freezes n_cores n_p_ahead n_ahead n_stages n_p_places n_places n_p_speeds n_speeds n_p_settings n_settings, wk3 g (t_sa (Int32.toNatClampNeg t_at)) s_p_drags s_drags s_p_speeds s_speeds s_p_settings s_settings s_shut s_coresIn s_loaded s_hot s_made s_width s_p_taught, wk0 g s_p_taught sB_teachers sB_shortest sB_longest sB_p_least sB_least sB_p_greatest sB_greatest, wk2 g h_p h_p_has h_has h_p_firstAt h_firstAt h_p_fullAt h_fullAt h_p_pressures h_pressures h_place h_fillTicks h_ticks h_coolTicks h_why]) (va_A (fl [wk5 g t_p t_p_text t_p_plan t_p_draft t_p_states (fun i => some (t_sa i)) t_at t_undoable (t_sa (Int32.toNatClampNeg t_at)) t_p_shots (fun i => some (t_ha i)) t_p_trial, wk1 g t_p_plan n_cavities n_p_volumes n_volumes n_p_drags n_drags n_p_freezes n_freezes n_cores n_p_ahead n_ahead n_stages n_p_places n_places n_p_speeds n_speeds n_p_settings n_settings, wk3 g (t_sa (Int32.toNatClampNeg t_at)) s_p_drags s_drags s_p_speeds s_speeds s_p_settings s_settings s_shut s_coresIn s_loaded s_hot s_made s_width s_p_taught, wk0 g s_p_taught sB_teachers sB_shortest sB_longest sB_p_least sB_least sB_p_greatest sB_greatest, wk2 g h_p h_p_has h_has h_p_firstAt h_firstAt h_p_fullAt h_fullAt h_p_pressures h_pressures h_place h_fillTicks h_ticks h_coolTicks h_why]) sz)) 0 0 (va_A (fl [wk5 g t_p t_p_text t_p_plan t_p_draft t_p_states (fun i => some (t_sa i)) t_at t_undoable (t_sa (Int32.toNatClampNeg t_at)) t_p_shots (fun i => some (t_ha i)) t_p_trial, wk1 g t_p_plan n_cavities n_p_volumes n_volumes n_p_drags n_drags n_p_freezes n_freezes n_cores n_p_ahead n_ahead n_stages n_p_places n_places n_p_speeds n_speeds n_p_settings n_settings, wk3 g (t_sa (Int32.toNatClampNeg t_at)) s_p_drags s_drags s_p_speeds s_speeds s_p_settings s_settings s_shut s_coresIn s_loaded s_hot s_made s_width s_p_taught, wk0 g s_p_taught sB_teachers sB_shortest sB_longest sB_p_least sB_least sB_p_greatest sB_greatest, wk2 g h_p h_p_has h_has h_p_firstAt h_firstAt h_p_fullAt h_fullAt h_p_pressures h_pressures h_place h_fillTicks h_ticks h_coolTicks h_why]) sz) := by
  refine Met.ofW (cc := cX5_isBad) (maxL := 2) (ret := (some .boolean)) (by decide) rfl ?_
  intro p e s m args below meth c s₁ B hml hv
  obtain ⟨rfl, hsz, hP, hK, hD0, hG⟩ := hv
  have hx := B.exec
  have hb := B.bytes
  have hr := B.returns
  have hts := atoms_spec (ws := wsX5_isBad) B.pre
  have hown : s.vm.findClass RX5 = some m.cls := findClass_of_methodNamed B.named
  have hlocks := B.notSynchronized
  subst hsz
  have hD := hD0.self (sz := s.heap.size)
  generalize hAe : va_A (fl [wk5 g t_p t_p_text t_p_plan t_p_draft t_p_states (fun i => some (t_sa i)) t_at t_undoable (t_sa (Int32.toNatClampNeg t_at)) t_p_shots (fun i => some (t_ha i)) t_p_trial, wk1 g t_p_plan n_cavities n_p_volumes n_volumes n_p_drags n_drags n_p_freezes n_freezes n_cores n_p_ahead n_ahead n_stages n_p_places n_places n_p_speeds n_speeds n_p_settings n_settings, wk3 g (t_sa (Int32.toNatClampNeg t_at)) s_p_drags s_drags s_p_speeds s_speeds s_p_settings s_settings s_shut s_coresIn s_loaded s_hot s_made s_width s_p_taught, wk0 g s_p_taught sB_teachers sB_shortest sB_longest sB_p_least sB_least sB_p_greatest sB_greatest, wk2 g h_p h_p_has h_has h_p_firstAt h_firstAt h_p_fullAt h_fullAt h_p_pressures h_pressures h_place h_fillTicks h_ticks h_coolTicks h_why]) s.heap.size = A at hD hG ⊢
  have hA : ∀ q : Nat, s.heap.size ≤ q → A q := fun q h => by rw [← hAe]; exact Or.inr h
  have hS : va_S A s.heap s.heap [] := va_S.rf
  have hin3 : ∀ w ∈ u_ws RX3 TX3 10, w ∈ wsX5_isBad := by decide +kernel
  have hin5 : ∀ w ∈ u_ws RX5 TX5 9, w ∈ wsX5_isBad := by decide +kernel
  have L1 := hts (Cond.fieldLink RX5 19 "MouldShots" "plan" "LMouldShots$Plan;") (by decide +kernel)
  have L2 := hts (Cond.initialized RX2) (by decide +kernel)
  have L3 := hts (Cond.instanceMethod yX2_isFarOff) (by decide +kernel)
  have L4 := hts (Cond.selects RX2 yX2_isFarOff yX2_isFarOff) (by decide +kernel)
  have L5 := hts (Cond.fieldLink RX5 40 "MouldShots" "now" "LMouldShots$State;") (by decide +kernel)
  have L6 := hts (Cond.initialized RX0) (by decide +kernel)
  have L7 := hts (Cond.instanceMethod yX0_rejects) (by decide +kernel)
  have L8 := hts (Cond.selects RX0 yX0_rejects yX0_rejects) (by decide +kernel)
  have hl := lv_entry ([.ref t_p, .ref h_p]) (n := 2) (Nat.le_of_ble_eq_true rfl)
  rw [lg_entry_eq]
  generalize (lg_sl ([.ref t_p, .ref h_p]) ++ List.replicate (2 - (lg_sl ([.ref t_p, .ref h_p])).length) Slot.unset).toArray = ls at hl ⊢
  replace hl : lv_has ls 2 [(0, .ref t_p), (1, .ref h_p)] := hl
  rw [f5_isBad] at hf
  have hgo : ∀ (H : Heap) (locs : List Loc), H = s.heap → locs = [] → va_P g.1 vwCl (fl [wk5 g t_p t_p_text t_p_plan t_p_draft t_p_states (fun i => some (t_sa i)) t_at t_undoable (t_sa (Int32.toNatClampNeg t_at)) t_p_shots (fun i => some (t_ha i)) t_p_trial, wk1 g t_p_plan n_cavities n_p_volumes n_volumes n_p_drags n_drags n_p_freezes n_freezes n_cores n_p_ahead n_ahead n_stages n_p_places n_places n_p_speeds n_speeds n_p_settings n_settings, wk3 g (t_sa (Int32.toNatClampNeg t_at)) s_p_drags s_drags s_p_speeds s_speeds s_p_settings s_settings s_shut s_coresIn s_loaded s_hot s_made s_width s_p_taught, wk0 g s_p_taught sB_teachers sB_shortest sB_longest sB_p_least sB_least sB_p_greatest sB_greatest, wk2 g h_p h_p_has h_has h_p_firstAt h_firstAt h_p_fullAt h_fullAt h_p_pressures h_pressures h_place h_fillTicks h_ticks h_coolTicks h_why]) H → va_S A s.heap H locs → W p l e ({ frames := 2, cells := 0, slots := 0, locals := 47 }) s m ([.ref t_p, .ref h_p] : List Value).toArray below meth c H locs 0 0 (MQ below (pQi g (fun r => r = res) (fl [wk5 g t_p t_p_text t_p_plan t_p_draft t_p_states (fun i => some (t_sa i)) t_at t_undoable (t_sa (Int32.toNatClampNeg t_at)) t_p_shots (fun i => some (t_ha i)) t_p_trial, wk1 g t_p_plan n_cavities n_p_volumes n_volumes n_p_drags n_drags n_p_freezes n_freezes n_cores n_p_ahead n_ahead n_stages n_p_places n_places n_p_speeds n_speeds n_p_settings n_settings, wk3 g (t_sa (Int32.toNatClampNeg t_at)) s_p_drags s_drags s_p_speeds s_speeds s_p_settings s_settings s_shut s_coresIn s_loaded s_hot s_made s_width s_p_taught, wk0 g s_p_taught sB_teachers sB_shortest sB_longest sB_p_least sB_least sB_p_greatest sB_greatest, wk2 g h_p h_p_has h_has h_p_firstAt h_firstAt h_p_fullAt h_fullAt h_p_pressures h_pressures h_place h_fillTicks h_ticks h_coolTicks h_why]) A) ([.ref t_p, .ref h_p] : List Value).toArray s 0 0 A) (F0 m 0 ls []) := by
    intro H locs hH hL hP hS
    refine lv_aload_n hx hb dX5_isBad_0 rfl (lv_at hl 1 rfl) ?_
    refine lv_aload_n hx hb dX5_isBad_1 rfl (lv_at hl 0 rfl) ?_
    refine va_get (D := g.1) (ci := 5) (v := .ref t_p_plan) (C := RX5) (T := TX5) (N := 9) hx hb hts hin5 hown hK.1 hP 0 rfl rfl 1 (by decide) L1 (fun _ h9 => h9) rfl dX5_isBad_2 ?_
    obtain ⟨q_1, hq_1, hf⟩ := bd_some hf
    refine bft_i (bn := [wk5 g t_p t_p_text t_p_plan t_p_draft t_p_states (fun i => some (t_sa i)) t_at t_undoable (t_sa (Int32.toNatClampNeg t_at)) t_p_shots (fun i => some (t_ha i)) t_p_trial, wk1 g t_p_plan n_cavities n_p_volumes n_volumes n_p_drags n_drags n_p_freezes n_freezes n_cores n_p_ahead n_ahead n_stages n_p_places n_places n_p_speeds n_speeds n_p_settings n_settings, wk3 g (t_sa (Int32.toNatClampNeg t_at)) s_p_drags s_drags s_p_speeds s_speeds s_p_settings s_settings s_shut s_coresIn s_loaded s_hot s_made s_width s_p_taught, wk0 g s_p_taught sB_teachers sB_shortest sB_longest sB_p_least sB_least sB_p_greatest sB_greatest, wk2 g h_p h_p_has h_has h_p_firstAt h_firstAt h_p_fullAt h_fullAt h_p_pressures h_pressures h_place h_fillTicks h_ticks h_coolTicks h_why]) (L := [[h_p, h_p_has, h_p_firstAt, h_p_fullAt, h_p_pressures], [t_p_plan, n_p_volumes, n_p_drags, n_p_freezes, n_p_ahead, n_p_places, n_p_speeds, n_p_settings]]) (va_runVN (As := [.ref t_p_plan]) (rest := []) ⟨hx, hb, hml, hown, hts⟩ (c2_isFarOff l g h_p h_p_has h_has h_p_firstAt h_firstAt h_p_fullAt h_fullAt h_p_pressures h_pressures h_place h_fillTicks h_ticks h_coolTicks h_why t_p_plan n_cavities n_p_volumes n_volumes n_p_drags n_drags n_p_freezes n_freezes n_cores n_p_ahead n_ahead n_stages n_p_places n_places n_p_speeds n_speeds n_p_settings n_settings H.size N q_1 hq_1) ⟨va_cnB 1 hts gX5_isBad_X2_isFarOff_n248 rfl rfl rfl (hK.nw _ 54 rfl) L2 ⟨nh2.1, nh2.2, pd_24⟩ ⟨Nat.le_of_ble_eq_true rfl, Nat.le_of_ble_eq_true rfl⟩, L3, L4⟩ (qPV hK hG hP hD hS hA [4, 1] (by decide) rfl (va_recv hK.1 hP (ci := 2) (q0 := 18) rfl rfl)) rfl rfl hl.1 rfl (lv_room (Nat.le_of_ble_eq_true rfl)) dX5_isBad_5 ⟨Nat.zero_le _, Nat.zero_le _⟩) hP hD hS hA [4, 1] rfl rfl rfl rfl (fun r_2 H locs hw hP hD hS => ?_)
    replace hw := hw.symm
    subst hw
    refine lv_if_ne (tgt := 32) hx hb dX5_isBad_8 (by decide) (fun c_3 => ?_) (fun c_3 => ?_)
    · replace hf := (if_neg c_3).symm.trans hf
      refine lv_iconst (v := 1) hx hb dX5_isBad_32 (by decide) ?_
      refine lv_goto (tgt := 37) hx hb dX5_isBad_33 (by decide) ?_
      replace hf := Option.some.inj hf
      subst hf
      exact W.zret (v := 1) hx hb hr rfl (fun t ht hW => ⟨⟨_, (), rfl, rfl, by show va_P g.1 vwCl _ t.heap; rw [ht]; exact hP⟩, hS.F ht⟩) hS.2.2 dX5_isBad_37 hlocks
    · replace hf := (if_pos c_3).symm.trans hf
      refine lv_aload_n hx hb dX5_isBad_11 rfl (lv_at hl 0 rfl) ?_
      refine va_get (D := g.1) (ci := 5) (v := .ref (t_sa (Int32.toNatClampNeg t_at))) (C := RX5) (T := TX5) (N := 9) hx hb hts hin5 hown hK.1 hP 0 rfl rfl 6 (by decide) L5 (fun _ h9 => h9) rfl dX5_isBad_12 ?_
      refine va_getN (D := g.1) (ci := 3) (v := .ref s_p_taught) (C := RX3) (T := TX3) (N := 10) hx hb hts hin3 hown hK.1 hP 11 rfl rfl 9 (by decide) (hK.use _ 12 rfl) (fun _ h9 => h9) rfl dX5_isBad_15 ?_
      refine lv_aload_n hx hb dX5_isBad_18 rfl (lv_at hl 1 rfl) ?_
      refine lv_aload_n hx hb dX5_isBad_19 rfl (lv_at hl 0 rfl) ?_
      refine va_get (D := g.1) (ci := 5) (v := .ref (t_sa (Int32.toNatClampNeg t_at))) (C := RX5) (T := TX5) (N := 9) hx hb hts hin5 hown hK.1 hP 0 rfl rfl 6 (by decide) L5 (fun _ h9 => h9) rfl dX5_isBad_20 ?_
      refine va_getN (D := g.1) (ci := 3) (v := .int s_width) (C := RX3) (T := TX3) (N := 10) hx hb hts hin3 hown hK.1 hP 11 rfl rfl 8 (by decide) (hK.use _ 14 rfl) (fun _ h9 => h9) rfl dX5_isBad_23 ?_
      obtain ⟨q_4, hq_4, hf⟩ := bd_some hf
      refine bft_i (bn := [wk5 g t_p t_p_text t_p_plan t_p_draft t_p_states (fun i => some (t_sa i)) t_at t_undoable (t_sa (Int32.toNatClampNeg t_at)) t_p_shots (fun i => some (t_ha i)) t_p_trial, wk1 g t_p_plan n_cavities n_p_volumes n_volumes n_p_drags n_drags n_p_freezes n_freezes n_cores n_p_ahead n_ahead n_stages n_p_places n_places n_p_speeds n_speeds n_p_settings n_settings, wk3 g (t_sa (Int32.toNatClampNeg t_at)) s_p_drags s_drags s_p_speeds s_speeds s_p_settings s_settings s_shut s_coresIn s_loaded s_hot s_made s_width s_p_taught, wk0 g s_p_taught sB_teachers sB_shortest sB_longest sB_p_least sB_least sB_p_greatest sB_greatest, wk2 g h_p h_p_has h_has h_p_firstAt h_firstAt h_p_fullAt h_fullAt h_p_pressures h_pressures h_place h_fillTicks h_ticks h_coolTicks h_why]) (L := [[s_p_taught, sB_p_least, sB_p_greatest], [h_p, h_p_has, h_p_firstAt, h_p_fullAt, h_p_pressures]]) (va_runVN (As := [.ref h_p, .int s_width]) (rest := []) ⟨hx, hb, hml, hown, hts⟩ (c0_rejects l g s_p_taught sB_teachers sB_shortest sB_longest sB_p_least sB_least sB_p_greatest sB_greatest h_p h_p_has h_has h_p_firstAt h_firstAt h_p_fullAt h_fullAt h_p_pressures h_pressures h_place h_fillTicks h_ticks h_coolTicks h_why s_width H.size N q_4 hq_4) ⟨va_cnB 2 hts gX5_isBad_X0_rejects_n251 rfl rfl rfl (hK.nw _ 55 rfl) L6 ⟨nh0.1, nh0.2, pd_26⟩ ⟨Nat.le_of_ble_eq_true rfl, Nat.le_of_ble_eq_true rfl⟩, L7, L8⟩ (qPV hK hG hP hD hS hA [3, 4] (by decide) rfl (va_recv hK.1 hP (ci := 0) (q0 := 15) rfl rfl)) rfl rfl hl.1 rfl (lv_room (Nat.le_of_ble_eq_true rfl)) dX5_isBad_26 ⟨Nat.zero_le _, Nat.zero_le _⟩) hP hD hS hA [3, 4] rfl rfl rfl rfl (fun r_5 H locs hw hP hD hS => ?_)
      replace hw := hw.symm
      subst hw
      refine lv_if_eq (tgt := 36) hx hb dX5_isBad_29 (by decide) (fun c_6 => ?_) (fun c_6 => ?_)
      · replace hf := (if_pos c_6).symm.trans hf
        refine lv_iconst (v := 0) hx hb dX5_isBad_36 (by decide) ?_
        replace hf := Option.some.inj hf
        subst hf
        exact W.zret (v := 0) hx hb hr rfl (fun t ht hW => ⟨⟨_, (), rfl, rfl, by show va_P g.1 vwCl _ t.heap; rw [ht]; exact hP⟩, hS.F ht⟩) hS.2.2 dX5_isBad_37 hlocks
      · replace hf := (if_neg c_6).symm.trans hf
        refine lv_iconst (v := 1) hx hb dX5_isBad_32 (by decide) ?_
        refine lv_goto (tgt := 37) hx hb dX5_isBad_33 (by decide) ?_
        replace hf := Option.some.inj hf
        subst hf
        exact W.zret (v := 1) hx hb hr rfl (fun t ht hW => ⟨⟨_, (), rfl, rfl, by show va_P g.1 vwCl _ t.heap; rw [ht]; exact hP⟩, hS.F ht⟩) hS.2.2 dX5_isBad_37 hlocks
  exact hgo s.heap [] rfl rfl hP hS

set_option maxHeartbeats 4000000 in
set_option maxRecDepth 100000 in
theorem c5_shot (l : Launch) (g : gG) (t_p : Nat) (t_p_text : Nat) (t_p_plan : Nat) (t_p_draft : Nat) (t_p_states : Nat) (t_sa : (Nat → Nat)) (t_at : Int32) (t_undoable : Int32) (t_p_shots : Nat) (t_ha : (Nat → Nat)) (t_p_trial : Nat) (n_cavities : Int32) (n_p_volumes : Nat) (n_volumes : (Nat → Int32)) (n_p_drags : Nat) (n_drags : (Nat → Int32)) (n_p_freezes : Nat) (n_freezes : (Nat → Int32)) (n_cores : Int32) (n_p_ahead : Nat) (n_ahead : (Nat → Int32)) (n_stages : Int32) (n_p_places : Nat) (n_places : (Nat → Int32)) (n_p_speeds : Nat) (n_speeds : (Nat → Int32)) (n_p_settings : Nat) (n_settings : (Nat → Int32)) (s_p_drags : Nat) (s_drags : (Nat → Int32)) (s_p_speeds : Nat) (s_speeds : (Nat → Int32)) (s_p_settings : Nat) (s_settings : (Nat → Int32)) (s_shut : Int32) (s_coresIn : Int32) (s_loaded : Int32) (s_hot : Int32) (s_made : Int32) (s_width : Int32) (s_p_taught : Nat) (sB_teachers : Int32) (sB_shortest : Int32) (sB_longest : Int32) (sB_p_least : Nat) (sB_least : (Nat → Int32)) (sB_p_greatest : Nat) (sB_greatest : (Nat → Int32)) (h_p_has : Nat) (h_has : (Nat → Int32)) (h_p_firstAt : Nat) (h_firstAt : (Nat → Int32)) (h_p_fullAt : Nat) (h_fullAt : (Nat → Int32)) (h_p_pressures : Nat) (h_pressures : (Nat → Int32)) (h_place : Int32) (h_fillTicks : Int32) (h_ticks : Int32) (h_coolTicks : Int32) (h_why : Int32) (l1 : Int32) (l2 : Int32) (sz : Nat) (N : Nat) (res : (Int32)) (hf : f5_shot N l1 l2 n_cavities n_volumes s_made s_width sB_teachers sB_shortest sB_longest sB_least sB_greatest h_has h_fullAt h_pressures h_place h_fillTicks h_ticks h_coolTicks h_why = some res) : Met l yX5_shot wsX5_shot ({ frames := 3, cells := 0, slots := 0, locals := 68 }) (pP g [.ref t_p, .int l1, .int l2] sz (fl [wk5 g t_p t_p_text t_p_plan t_p_draft t_p_states (fun i => some (t_sa i)) t_at t_undoable (t_sa (Int32.toNatClampNeg t_at)) t_p_shots (fun i => some (t_ha i)) t_p_trial, wk1 g t_p_plan n_cavities n_p_volumes n_volumes n_p_drags n_drags n_p_freezes n_freezes n_cores n_p_ahead n_ahead n_stages n_p_places n_places n_p_speeds n_speeds n_p_settings n_settings, wk3 g (t_sa (Int32.toNatClampNeg t_at)) s_p_drags s_drags s_p_speeds s_speeds s_p_settings s_settings s_shut s_coresIn s_loaded s_hot s_made s_width s_p_taught, wk0 g s_p_taught sB_teachers sB_shortest sB_longest sB_p_least sB_least sB_p_greatest sB_greatest, wk2 g (t_ha (Int32.toNatClampNeg (fmodJ ((s_made - (if 12 < s_made then 12 else s_made)) + l1) 16))) h_p_has h_has h_p_firstAt h_firstAt h_p_fullAt h_fullAt h_p_pressures h_pressures h_place h_fillTicks h_ticks h_coolTicks h_why])) (pQi g (fun r => r = res) (fl [wk5 g t_p t_p_text t_p_plan t_p_draft t_p_states (fun i => some (t_sa i)) t_at t_undoable (t_sa (Int32.toNatClampNeg t_at)) t_p_shots (fun i => some (t_ha i)) t_p_trial, wk1 g t_p_plan n_cavities n_p_volumes n_volumes n_p_drags n_drags n_p_freezes n_freezes n_cores n_p_ahead n_ahead n_stages n_p_places n_places n_p_speeds n_speeds n_p_settings n_settings, wk3 g (t_sa (Int32.toNatClampNeg t_at)) s_p_drags s_drags s_p_speeds s_speeds s_p_settings s_settings s_shut s_coresIn s_loaded s_hot s_made s_width s_p_taught, wk0 g s_p_taught sB_teachers sB_shortest sB_longest sB_p_least sB_least sB_p_greatest sB_greatest, wk2 g (t_ha (Int32.toNatClampNeg (fmodJ ((s_made - (if 12 < s_made then 12 else s_made)) + l1) 16))) h_p_has h_has h_p_firstAt h_firstAt h_p_fullAt h_fullAt h_p_pressures h_pressures h_place h_fillTicks h_ticks h_coolTicks h_why]) (va_A (fl [wk5 g t_p t_p_text t_p_plan t_p_draft t_p_states (fun i => some (t_sa i)) t_at t_undoable (t_sa (Int32.toNatClampNeg t_at)) t_p_shots (fun i => some (t_ha i)) t_p_trial, wk1 g t_p_plan n_cavities n_p_volumes n_volumes n_p_drags n_drags n_p_freezes n_freezes n_cores n_p_ahead n_ahead n_stages n_p_places n_places n_p_speeds n_speeds n_p_settings n_settings, wk3 g (t_sa (Int32.toNatClampNeg t_at)) s_p_drags s_drags s_p_speeds s_speeds s_p_settings s_settings s_shut s_coresIn s_loaded s_hot s_made s_width s_p_taught, wk0 g s_p_taught sB_teachers sB_shortest sB_longest sB_p_least sB_least sB_p_greatest sB_greatest, wk2 g (t_ha (Int32.toNatClampNeg (fmodJ ((s_made - (if 12 < s_made then 12 else s_made)) + l1) 16))) h_p_has h_has h_p_firstAt h_firstAt h_p_fullAt h_fullAt h_p_pressures h_pressures h_place h_fillTicks h_ticks h_coolTicks h_why]) sz)) 0 0 (va_A (fl [wk5 g t_p t_p_text t_p_plan t_p_draft t_p_states (fun i => some (t_sa i)) t_at t_undoable (t_sa (Int32.toNatClampNeg t_at)) t_p_shots (fun i => some (t_ha i)) t_p_trial, wk1 g t_p_plan n_cavities n_p_volumes n_volumes n_p_drags n_drags n_p_freezes n_freezes n_cores n_p_ahead n_ahead n_stages n_p_places n_places n_p_speeds n_speeds n_p_settings n_settings, wk3 g (t_sa (Int32.toNatClampNeg t_at)) s_p_drags s_drags s_p_speeds s_speeds s_p_settings s_settings s_shut s_coresIn s_loaded s_hot s_made s_width s_p_taught, wk0 g s_p_taught sB_teachers sB_shortest sB_longest sB_p_least sB_least sB_p_greatest sB_greatest, wk2 g (t_ha (Int32.toNatClampNeg (fmodJ ((s_made - (if 12 < s_made then 12 else s_made)) + l1) 16))) h_p_has h_has h_p_firstAt h_firstAt h_p_fullAt h_fullAt h_p_pressures h_pressures h_place h_fillTicks h_ticks h_coolTicks h_why]) sz) := by
  refine Met.ofW (cc := cX5_shot) (maxL := 4) (ret := (some .int)) (by decide) rfl ?_
  intro p e s m args below meth c s₁ B hml hv
  obtain ⟨rfl, hsz, hP, hK, hD0, hG⟩ := hv
  have hx := B.exec
  have hb := B.bytes
  have hr := B.returns
  have hts := atoms_spec (ws := wsX5_shot) B.pre
  have hown : s.vm.findClass RX5 = some m.cls := findClass_of_methodNamed B.named
  have hlocks := B.notSynchronized
  subst hsz
  have hD := hD0.self (sz := s.heap.size)
  generalize hAe : va_A (fl [wk5 g t_p t_p_text t_p_plan t_p_draft t_p_states (fun i => some (t_sa i)) t_at t_undoable (t_sa (Int32.toNatClampNeg t_at)) t_p_shots (fun i => some (t_ha i)) t_p_trial, wk1 g t_p_plan n_cavities n_p_volumes n_volumes n_p_drags n_drags n_p_freezes n_freezes n_cores n_p_ahead n_ahead n_stages n_p_places n_places n_p_speeds n_speeds n_p_settings n_settings, wk3 g (t_sa (Int32.toNatClampNeg t_at)) s_p_drags s_drags s_p_speeds s_speeds s_p_settings s_settings s_shut s_coresIn s_loaded s_hot s_made s_width s_p_taught, wk0 g s_p_taught sB_teachers sB_shortest sB_longest sB_p_least sB_least sB_p_greatest sB_greatest, wk2 g (t_ha (Int32.toNatClampNeg (fmodJ ((s_made - (if 12 < s_made then 12 else s_made)) + l1) 16))) h_p_has h_has h_p_firstAt h_firstAt h_p_fullAt h_fullAt h_p_pressures h_pressures h_place h_fillTicks h_ticks h_coolTicks h_why]) s.heap.size = A at hD hG ⊢
  have hA : ∀ q : Nat, s.heap.size ≤ q → A q := fun q h => by rw [← hAe]; exact Or.inr h
  have hS : va_S A s.heap s.heap [] := va_S.rf
  have hin0 : ∀ w ∈ u_ws RX0 TX0 5, w ∈ wsX5_shot := by decide +kernel
  have hin3 : ∀ w ∈ u_ws RX3 TX3 10, w ∈ wsX5_shot := by decide +kernel
  have hin5 : ∀ w ∈ u_ws RX5 TX5 9, w ∈ wsX5_shot := by decide +kernel
  have L1 := hts (Cond.initialized RX2) (by decide +kernel)
  have L2 := hts (Cond.instanceMethod yX2_told) (by decide +kernel)
  have L3 := hts (Cond.selects RX2 yX2_told yX2_told) (by decide +kernel)
  have L4 := hts (Cond.fieldLink RX5 40 "MouldShots" "now" "LMouldShots$State;") (by decide +kernel)
  have L5 := hts (Cond.initialized RX0) (by decide +kernel)
  have L6 := hts (Cond.instanceMethod yX0_amissIn) (by decide +kernel)
  have L7 := hts (Cond.selects RX0 yX0_amissIn yX0_amissIn) (by decide +kernel)
  have hl := lv_entry ([.ref t_p, .int l1, .int l2]) (n := 4) (Nat.le_of_ble_eq_true rfl)
  rw [lg_entry_eq]
  generalize (lg_sl ([.ref t_p, .int l1, .int l2]) ++ List.replicate (4 - (lg_sl ([.ref t_p, .int l1, .int l2])).length) Slot.unset).toArray = ls at hl ⊢
  replace hl : lv_has ls 4 [(0, .ref t_p), (1, .int l1), (2, .int l2)] := hl
  rw [f5_shot] at hf
  have hgo : ∀ (H : Heap) (locs : List Loc), H = s.heap → locs = [] → va_P g.1 vwCl (fl [wk5 g t_p t_p_text t_p_plan t_p_draft t_p_states (fun i => some (t_sa i)) t_at t_undoable (t_sa (Int32.toNatClampNeg t_at)) t_p_shots (fun i => some (t_ha i)) t_p_trial, wk1 g t_p_plan n_cavities n_p_volumes n_volumes n_p_drags n_drags n_p_freezes n_freezes n_cores n_p_ahead n_ahead n_stages n_p_places n_places n_p_speeds n_speeds n_p_settings n_settings, wk3 g (t_sa (Int32.toNatClampNeg t_at)) s_p_drags s_drags s_p_speeds s_speeds s_p_settings s_settings s_shut s_coresIn s_loaded s_hot s_made s_width s_p_taught, wk0 g s_p_taught sB_teachers sB_shortest sB_longest sB_p_least sB_least sB_p_greatest sB_greatest, wk2 g (t_ha (Int32.toNatClampNeg (fmodJ ((s_made - (if 12 < s_made then 12 else s_made)) + l1) 16))) h_p_has h_has h_p_firstAt h_firstAt h_p_fullAt h_fullAt h_p_pressures h_pressures h_place h_fillTicks h_ticks h_coolTicks h_why]) H → va_S A s.heap H locs → W p l e ({ frames := 3, cells := 0, slots := 0, locals := 68 }) s m ([.ref t_p, .int l1, .int l2] : List Value).toArray below meth c H locs 0 0 (MQ below (pQi g (fun r => r = res) (fl [wk5 g t_p t_p_text t_p_plan t_p_draft t_p_states (fun i => some (t_sa i)) t_at t_undoable (t_sa (Int32.toNatClampNeg t_at)) t_p_shots (fun i => some (t_ha i)) t_p_trial, wk1 g t_p_plan n_cavities n_p_volumes n_volumes n_p_drags n_drags n_p_freezes n_freezes n_cores n_p_ahead n_ahead n_stages n_p_places n_places n_p_speeds n_speeds n_p_settings n_settings, wk3 g (t_sa (Int32.toNatClampNeg t_at)) s_p_drags s_drags s_p_speeds s_speeds s_p_settings s_settings s_shut s_coresIn s_loaded s_hot s_made s_width s_p_taught, wk0 g s_p_taught sB_teachers sB_shortest sB_longest sB_p_least sB_least sB_p_greatest sB_greatest, wk2 g (t_ha (Int32.toNatClampNeg (fmodJ ((s_made - (if 12 < s_made then 12 else s_made)) + l1) 16))) h_p_has h_has h_p_firstAt h_firstAt h_p_fullAt h_fullAt h_p_pressures h_pressures h_place h_fillTicks h_ticks h_coolTicks h_why]) A) ([.ref t_p, .int l1, .int l2] : List Value).toArray s 0 0 A) (F0 m 0 ls []) := by
    intro H locs hH hL hP hS
    refine lv_aload_n hx hb dX5_shot_0 rfl (lv_at hl 0 rfl) ?_
    refine lv_iload_n hx hb dX5_shot_1 rfl (lv_at hl 1 rfl) ?_
    obtain ⟨q_1, hq_1, hf⟩ := bd_some hf
    refine bft_i (bn := [wk5 g t_p t_p_text t_p_plan t_p_draft t_p_states (fun i => some (t_sa i)) t_at t_undoable (t_sa (Int32.toNatClampNeg t_at)) t_p_shots (fun i => some (t_ha i)) t_p_trial, wk1 g t_p_plan n_cavities n_p_volumes n_volumes n_p_drags n_drags n_p_freezes n_freezes n_cores n_p_ahead n_ahead n_stages n_p_places n_places n_p_speeds n_speeds n_p_settings n_settings, wk3 g (t_sa (Int32.toNatClampNeg t_at)) s_p_drags s_drags s_p_speeds s_speeds s_p_settings s_settings s_shut s_coresIn s_loaded s_hot s_made s_width s_p_taught, wk0 g s_p_taught sB_teachers sB_shortest sB_longest sB_p_least sB_least sB_p_greatest sB_greatest, wk2 g (t_ha (Int32.toNatClampNeg (fmodJ ((s_made - (if 12 < s_made then 12 else s_made)) + l1) 16))) h_p_has h_has h_p_firstAt h_firstAt h_p_fullAt h_fullAt h_p_pressures h_pressures h_place h_fillTicks h_ticks h_coolTicks h_why]) (L := [[t_p, t_p_states, t_p_shots], [(t_sa (Int32.toNatClampNeg t_at)), s_p_drags, s_p_speeds, s_p_settings]]) (va_runV (As := [.int l1]) (rest := []) ⟨hx, hb, hml, hown, hts⟩ (c5_isShot l g t_p t_p_text t_p_plan t_p_draft t_p_states t_sa t_at t_undoable t_p_shots t_ha t_p_trial s_p_drags s_drags s_p_speeds s_speeds s_p_settings s_settings s_shut s_coresIn s_loaded s_hot s_made s_width s_p_taught l1 H.size N q_1 hq_1) (cwV 1 hts gX5_shot_X5_isShot rfl rfl rfl ⟨rfl, nh5.1, nh5.2, pd_1⟩ ⟨Nat.le_of_ble_eq_true rfl, Nat.le_of_ble_eq_true rfl⟩) (qPV hK hG hP hD hS hA [0, 2] (by decide) rfl (va_recv hK.1 hP (ci := 5) (q0 := 0) rfl rfl)) rfl rfl hl.1 rfl (lv_room (Nat.le_of_ble_eq_true rfl)) dX5_shot_2 ⟨Nat.zero_le _, Nat.zero_le _⟩) hP hD hS hA [0, 2] rfl rfl rfl rfl (fun r_2 H locs hw hP hD hS => ?_)
    replace hw := hw.symm
    subst hw
    refine lv_if_eq (tgt := 18) hx hb dX5_shot_5 (by decide) (fun c_3 => ?_) (fun c_3 => ?_)
    · replace hf := (if_pos c_3).symm.trans hf
      refine lv_iconst (v := (-1)) hx hb dX5_shot_18 (by decide) ?_
      replace hf := Option.some.inj hf
      subst hf
      exact W.iret (v := (-1)) hx hb hr (fun t ht hW => ⟨⟨_, (), rfl, rfl, by show va_P g.1 vwCl _ t.heap; rw [ht]; exact hP⟩, hS.F ht⟩) hS.2.2 dX5_shot_19 hlocks
    · replace hf := (if_neg c_3).symm.trans hf
      refine lv_iload_n hx hb dX5_shot_8 rfl (lv_at hl 2 rfl) ?_
      refine lv_if_lt (tgt := 18) hx hb dX5_shot_9 (by decide) (fun c_4 => ?_) (fun c_4 => ?_)
      · replace hf := (if_pos c_4).symm.trans hf
        refine lv_iconst (v := (-1)) hx hb dX5_shot_18 (by decide) ?_
        replace hf := Option.some.inj hf
        subst hf
        exact W.iret (v := (-1)) hx hb hr (fun t ht hW => ⟨⟨_, (), rfl, rfl, by show va_P g.1 vwCl _ t.heap; rw [ht]; exact hP⟩, hS.F ht⟩) hS.2.2 dX5_shot_19 hlocks
      · replace hf := (if_neg c_4).symm.trans hf
        refine lv_iload_n hx hb dX5_shot_12 rfl (lv_at hl 2 rfl) ?_
        refine lv_bipush (v := 8) hx hb dX5_shot_13 (by decide) ?_
        refine lv_icmp_le (tgt := 20) hx hb dX5_shot_15 (by decide) (fun c_5 => ?_) (fun c_5 => ?_)
        · replace hf := (if_pos c_5).symm.trans hf
          refine lv_aload_n hx hb dX5_shot_20 rfl (lv_at hl 0 rfl) ?_
          refine lv_iload_n hx hb dX5_shot_21 rfl (lv_at hl 1 rfl) ?_
          obtain ⟨q_6, hq_6, hf⟩ := bd_some hf
          refine bft_r (bn := [wk5 g t_p t_p_text t_p_plan t_p_draft t_p_states (fun i => some (t_sa i)) t_at t_undoable (t_sa (Int32.toNatClampNeg t_at)) t_p_shots (fun i => some (t_ha i)) t_p_trial, wk1 g t_p_plan n_cavities n_p_volumes n_volumes n_p_drags n_drags n_p_freezes n_freezes n_cores n_p_ahead n_ahead n_stages n_p_places n_places n_p_speeds n_speeds n_p_settings n_settings, wk3 g (t_sa (Int32.toNatClampNeg t_at)) s_p_drags s_drags s_p_speeds s_speeds s_p_settings s_settings s_shut s_coresIn s_loaded s_hot s_made s_width s_p_taught, wk0 g s_p_taught sB_teachers sB_shortest sB_longest sB_p_least sB_least sB_p_greatest sB_greatest, wk2 g (t_ha (Int32.toNatClampNeg (fmodJ ((s_made - (if 12 < s_made then 12 else s_made)) + l1) 16))) h_p_has h_has h_p_firstAt h_firstAt h_p_fullAt h_fullAt h_p_pressures h_pressures h_place h_fillTicks h_ticks h_coolTicks h_why]) (L := [[t_p, t_p_states, t_p_shots], [(t_sa (Int32.toNatClampNeg t_at)), s_p_drags, s_p_speeds, s_p_settings]]) (va_runV (As := [.int l1]) (rest := []) ⟨hx, hb, hml, hown, hts⟩ (c5_keptShot l g t_p t_p_text t_p_plan t_p_draft t_p_states t_sa t_at t_undoable t_p_shots t_ha t_p_trial s_p_drags s_drags s_p_speeds s_speeds s_p_settings s_settings s_shut s_coresIn s_loaded s_hot s_made s_width s_p_taught l1 H.size N q_6 hq_6) (cwV 1 hts gX5_shot_X5_keptShot rfl rfl rfl ⟨rfl, nh5.1, nh5.2, pd_23⟩ ⟨Nat.le_of_ble_eq_true rfl, Nat.le_of_ble_eq_true rfl⟩) (qPV hK hG hP hD hS hA [0, 2] (by decide) rfl (va_recv hK.1 hP (ci := 5) (q0 := 0) rfl rfl)) rfl rfl hl.1 rfl (lv_room (Nat.le_of_ble_eq_true rfl)) dX5_shot_22 ⟨Nat.zero_le _, Nat.zero_le _⟩) hP hD hS hA [0, 2] rfl rfl rfl rfl (fun H locs hP hD hS => ?_)
          refine lv_astore_n (lv' := [(3, .ref (t_ha (Int32.toNatClampNeg (fmodJ ((s_made - (if 12 < s_made then 12 else s_made)) + l1) 16)))), (0, .ref t_p), (1, .int l1), (2, .int l2)]) hx hb dX5_shot_25 rfl hl (by decide) rfl (fun ls hl => ?_)
          refine lv_iload_n hx hb dX5_shot_26 rfl (lv_at hl 3 rfl) ?_
          refine lv_bipush (v := 7) hx hb dX5_shot_27 (by decide) ?_
          refine lv_icmp_ne (tgt := 69) hx hb dX5_shot_29 (by decide) (fun c_7 => ?_) (fun c_7 => ?_)
          · replace hf := (if_neg c_7).symm.trans hf
            refine lv_iload_n hx hb dX5_shot_69 rfl (lv_at hl 3 rfl) ?_
            refine lv_bipush (v := 8) hx hb dX5_shot_70 (by decide) ?_
            refine lv_icmp_ne (tgt := 89) hx hb dX5_shot_72 (by decide) (fun c_8 => ?_) (fun c_8 => ?_)
            · replace hf := (if_neg c_8).symm.trans hf
              refine lv_aload_n hx hb dX5_shot_89 rfl (lv_at hl 0 rfl) ?_
              refine lv_iload_n hx hb dX5_shot_90 rfl (lv_at hl 3 rfl) ?_
              obtain ⟨q_9, hq_9, hf⟩ := bd_some hf
              refine bft_i (bn := [wk5 g t_p t_p_text t_p_plan t_p_draft t_p_states (fun i => some (t_sa i)) t_at t_undoable (t_sa (Int32.toNatClampNeg t_at)) t_p_shots (fun i => some (t_ha i)) t_p_trial, wk1 g t_p_plan n_cavities n_p_volumes n_volumes n_p_drags n_drags n_p_freezes n_freezes n_cores n_p_ahead n_ahead n_stages n_p_places n_places n_p_speeds n_speeds n_p_settings n_settings, wk3 g (t_sa (Int32.toNatClampNeg t_at)) s_p_drags s_drags s_p_speeds s_speeds s_p_settings s_settings s_shut s_coresIn s_loaded s_hot s_made s_width s_p_taught, wk0 g s_p_taught sB_teachers sB_shortest sB_longest sB_p_least sB_least sB_p_greatest sB_greatest, wk2 g (t_ha (Int32.toNatClampNeg (fmodJ ((s_made - (if 12 < s_made then 12 else s_made)) + l1) 16))) h_p_has h_has h_p_firstAt h_firstAt h_p_fullAt h_fullAt h_p_pressures h_pressures h_place h_fillTicks h_ticks h_coolTicks h_why]) (L := [[(t_ha (Int32.toNatClampNeg (fmodJ ((s_made - (if 12 < s_made then 12 else s_made)) + l1) 16))), h_p_has, h_p_firstAt, h_p_fullAt, h_p_pressures]]) (va_runVN (As := [.int l2]) (rest := []) ⟨hx, hb, hml, hown, hts⟩ (c2_told l g (t_ha (Int32.toNatClampNeg (fmodJ ((s_made - (if 12 < s_made then 12 else s_made)) + l1) 16))) h_p_has h_has h_p_firstAt h_firstAt h_p_fullAt h_fullAt h_p_pressures h_pressures h_place h_fillTicks h_ticks h_coolTicks h_why l2 H.size N q_9 hq_9) ⟨va_cnB 1 hts gX5_shot_X2_told_n245 rfl rfl rfl (hK.nw _ 53 rfl) L1 ⟨nh2.1, nh2.2, pd_2⟩ ⟨Nat.le_of_ble_eq_true rfl, Nat.le_of_ble_eq_true rfl⟩, L2, L3⟩ (qPV hK hG hP hD hS hA [4] (by decide) rfl (va_recv hK.1 hP (ci := 2) (q0 := 18) rfl rfl)) rfl rfl hl.1 rfl (lv_room (Nat.le_of_ble_eq_true rfl)) dX5_shot_91 ⟨Nat.zero_le _, Nat.zero_le _⟩) hP hD hS hA [4] rfl rfl rfl rfl (fun r_10 H locs hw hP hD hS => ?_)
              replace hw := hw.symm
              subst hw
              replace hf := Option.some.inj hf
              subst hf
              exact W.iret (v := q_9) hx hb hr (fun t ht hW => ⟨⟨_, (), rfl, rfl, by show va_P g.1 vwCl _ t.heap; rw [ht]; exact hP⟩, hS.F ht⟩) hS.2.2 dX5_shot_94 hlocks
            · replace hf := (if_pos c_8).symm.trans hf
              refine lv_aload_n hx hb dX5_shot_75 rfl (lv_at hl 1 rfl) ?_
              refine lv_aload_n hx hb dX5_shot_76 rfl (lv_at hl 0 rfl) ?_
              obtain ⟨q_11, hq_11, hf⟩ := bd_some hf
              refine bft_i (bn := [wk5 g t_p t_p_text t_p_plan t_p_draft t_p_states (fun i => some (t_sa i)) t_at t_undoable (t_sa (Int32.toNatClampNeg t_at)) t_p_shots (fun i => some (t_ha i)) t_p_trial, wk1 g t_p_plan n_cavities n_p_volumes n_volumes n_p_drags n_drags n_p_freezes n_freezes n_cores n_p_ahead n_ahead n_stages n_p_places n_places n_p_speeds n_speeds n_p_settings n_settings, wk3 g (t_sa (Int32.toNatClampNeg t_at)) s_p_drags s_drags s_p_speeds s_speeds s_p_settings s_settings s_shut s_coresIn s_loaded s_hot s_made s_width s_p_taught, wk0 g s_p_taught sB_teachers sB_shortest sB_longest sB_p_least sB_least sB_p_greatest sB_greatest, wk2 g (t_ha (Int32.toNatClampNeg (fmodJ ((s_made - (if 12 < s_made then 12 else s_made)) + l1) 16))) h_p_has h_has h_p_firstAt h_firstAt h_p_fullAt h_fullAt h_p_pressures h_pressures h_place h_fillTicks h_ticks h_coolTicks h_why]) (L := [[t_p, t_p_states, t_p_shots], [t_p_plan, n_p_volumes, n_p_drags, n_p_freezes, n_p_ahead, n_p_places, n_p_speeds, n_p_settings], [(t_sa (Int32.toNatClampNeg t_at)), s_p_drags, s_p_speeds, s_p_settings], [s_p_taught, sB_p_least, sB_p_greatest], [(t_ha (Int32.toNatClampNeg (fmodJ ((s_made - (if 12 < s_made then 12 else s_made)) + l1) 16))), h_p_has, h_p_firstAt, h_p_fullAt, h_p_pressures]]) (va_runV (As := [.ref (t_ha (Int32.toNatClampNeg (fmodJ ((s_made - (if 12 < s_made then 12 else s_made)) + l1) 16)))]) (rest := []) ⟨hx, hb, hml, hown, hts⟩ (c5_isBad l g t_p t_p_text t_p_plan t_p_draft t_p_states t_sa t_at t_undoable t_p_shots t_ha t_p_trial n_cavities n_p_volumes n_volumes n_p_drags n_drags n_p_freezes n_freezes n_cores n_p_ahead n_ahead n_stages n_p_places n_places n_p_speeds n_speeds n_p_settings n_settings s_p_drags s_drags s_p_speeds s_speeds s_p_settings s_settings s_shut s_coresIn s_loaded s_hot s_made s_width s_p_taught sB_teachers sB_shortest sB_longest sB_p_least sB_least sB_p_greatest sB_greatest (t_ha (Int32.toNatClampNeg (fmodJ ((s_made - (if 12 < s_made then 12 else s_made)) + l1) 16))) h_p_has h_has h_p_firstAt h_firstAt h_p_fullAt h_fullAt h_p_pressures h_pressures h_place h_fillTicks h_ticks h_coolTicks h_why H.size N q_11 hq_11) (cwV 1 hts gX5_shot_X5_isBad rfl rfl rfl ⟨rfl, nh5.1, nh5.2, pd_27⟩ ⟨Nat.le_of_ble_eq_true rfl, Nat.le_of_ble_eq_true rfl⟩) (qPV hK hG hP hD hS hA [0, 1, 2, 3, 4] (by decide) rfl (va_recv hK.1 hP (ci := 5) (q0 := 0) rfl rfl)) rfl rfl hl.1 rfl (lv_room (Nat.le_of_ble_eq_true rfl)) dX5_shot_77 ⟨Nat.zero_le _, Nat.zero_le _⟩) hP hD hS hA [0, 1, 2, 3, 4] rfl rfl rfl rfl (fun r_12 H locs hw hP hD hS => ?_)
              replace hw := hw.symm
              subst hw
              refine lv_if_eq (tgt := 87) hx hb dX5_shot_80 (by decide) (fun c_13 => ?_) (fun c_13 => ?_)
              · replace hf := (if_pos c_13).symm.trans hf
                refine lv_iconst (v := 0) hx hb dX5_shot_87 (by decide) ?_
                replace hf := Option.some.inj hf
                subst hf
                exact W.iret (v := 0) hx hb hr (fun t ht hW => ⟨⟨_, (), rfl, rfl, by show va_P g.1 vwCl _ t.heap; rw [ht]; exact hP⟩, hS.F ht⟩) hS.2.2 dX5_shot_88 hlocks
              · replace hf := (if_neg c_13).symm.trans hf
                refine lv_iconst (v := 1) hx hb dX5_shot_83 (by decide) ?_
                refine lv_goto (tgt := 88) hx hb dX5_shot_84 (by decide) ?_
                replace hf := Option.some.inj hf
                subst hf
                exact W.iret (v := 1) hx hb hr (fun t ht hW => ⟨⟨_, (), rfl, rfl, by show va_P g.1 vwCl _ t.heap; rw [ht]; exact hP⟩, hS.F ht⟩) hS.2.2 dX5_shot_88 hlocks
          · replace hf := (if_pos c_7).symm.trans hf
            refine lv_aload_n hx hb dX5_shot_32 rfl (lv_at hl 1 rfl) ?_
            refine va_get (D := g.1) (ci := 5) (v := .ref (t_sa (Int32.toNatClampNeg t_at))) (C := RX5) (T := TX5) (N := 9) hx hb hts hin5 hown hK.1 hP 0 rfl rfl 6 (by decide) L4 (fun _ h9 => h9) rfl dX5_shot_33 ?_
            refine va_getN (D := g.1) (ci := 3) (v := .ref s_p_taught) (C := RX3) (T := TX3) (N := 10) hx hb hts hin3 hown hK.1 hP 11 rfl rfl 9 (by decide) (hK.use _ 12 rfl) (fun _ h9 => h9) rfl dX5_shot_36 ?_
            refine va_getN (D := g.1) (ci := 0) (v := .int sB_teachers) (C := RX0) (T := TX0) (N := 5) hx hb hts hin0 hown hK.1 hP 15 rfl rfl 0 (by decide) (hK.use _ 13 rfl) (fun _ h9 => h9) rfl dX5_shot_39 ?_
            refine lv_if_ne (tgt := 50) hx hb dX5_shot_42 (by decide) (fun c_14 => ?_) (fun c_14 => ?_)
            · replace hf := (if_neg c_14).symm.trans hf
              refine lv_aload_n hx hb dX5_shot_50 rfl (lv_at hl 1 rfl) ?_
              refine va_get (D := g.1) (ci := 5) (v := .ref (t_sa (Int32.toNatClampNeg t_at))) (C := RX5) (T := TX5) (N := 9) hx hb hts hin5 hown hK.1 hP 0 rfl rfl 6 (by decide) L4 (fun _ h9 => h9) rfl dX5_shot_51 ?_
              refine va_getN (D := g.1) (ci := 3) (v := .ref s_p_taught) (C := RX3) (T := TX3) (N := 10) hx hb hts hin3 hown hK.1 hP 11 rfl rfl 9 (by decide) (hK.use _ 12 rfl) (fun _ h9 => h9) rfl dX5_shot_54 ?_
              refine lv_aload_n hx hb dX5_shot_57 rfl (lv_at hl 0 rfl) ?_
              refine lv_aload_n hx hb dX5_shot_58 rfl (lv_at hl 1 rfl) ?_
              refine va_get (D := g.1) (ci := 5) (v := .ref (t_sa (Int32.toNatClampNeg t_at))) (C := RX5) (T := TX5) (N := 9) hx hb hts hin5 hown hK.1 hP 0 rfl rfl 6 (by decide) L4 (fun _ h9 => h9) rfl dX5_shot_59 ?_
              refine va_getN (D := g.1) (ci := 3) (v := .int s_width) (C := RX3) (T := TX3) (N := 10) hx hb hts hin3 hown hK.1 hP 11 rfl rfl 8 (by decide) (hK.use _ 14 rfl) (fun _ h9 => h9) rfl dX5_shot_62 ?_
              obtain ⟨q_15, hq_15, hf⟩ := bd_some hf
              refine bft_i (bn := [wk5 g t_p t_p_text t_p_plan t_p_draft t_p_states (fun i => some (t_sa i)) t_at t_undoable (t_sa (Int32.toNatClampNeg t_at)) t_p_shots (fun i => some (t_ha i)) t_p_trial, wk1 g t_p_plan n_cavities n_p_volumes n_volumes n_p_drags n_drags n_p_freezes n_freezes n_cores n_p_ahead n_ahead n_stages n_p_places n_places n_p_speeds n_speeds n_p_settings n_settings, wk3 g (t_sa (Int32.toNatClampNeg t_at)) s_p_drags s_drags s_p_speeds s_speeds s_p_settings s_settings s_shut s_coresIn s_loaded s_hot s_made s_width s_p_taught, wk0 g s_p_taught sB_teachers sB_shortest sB_longest sB_p_least sB_least sB_p_greatest sB_greatest, wk2 g (t_ha (Int32.toNatClampNeg (fmodJ ((s_made - (if 12 < s_made then 12 else s_made)) + l1) 16))) h_p_has h_has h_p_firstAt h_firstAt h_p_fullAt h_fullAt h_p_pressures h_pressures h_place h_fillTicks h_ticks h_coolTicks h_why]) (L := [[s_p_taught, sB_p_least, sB_p_greatest], [(t_ha (Int32.toNatClampNeg (fmodJ ((s_made - (if 12 < s_made then 12 else s_made)) + l1) 16))), h_p_has, h_p_firstAt, h_p_fullAt, h_p_pressures]]) (va_runVN (As := [.ref (t_ha (Int32.toNatClampNeg (fmodJ ((s_made - (if 12 < s_made then 12 else s_made)) + l1) 16))), .int s_width]) (rest := []) ⟨hx, hb, hml, hown, hts⟩ (c0_amissIn l g s_p_taught sB_teachers sB_shortest sB_longest sB_p_least sB_least sB_p_greatest sB_greatest (t_ha (Int32.toNatClampNeg (fmodJ ((s_made - (if 12 < s_made then 12 else s_made)) + l1) 16))) h_p_has h_has h_p_firstAt h_firstAt h_p_fullAt h_fullAt h_p_pressures h_pressures h_place h_fillTicks h_ticks h_coolTicks h_why s_width H.size N q_15 hq_15) ⟨va_cnB 2 hts gX5_shot_X0_amissIn_n237 rfl rfl rfl (hK.nw _ 52 rfl) L5 ⟨nh0.1, nh0.2, pd_0⟩ ⟨Nat.le_of_ble_eq_true rfl, Nat.le_of_ble_eq_true rfl⟩, L6, L7⟩ (qPV hK hG hP hD hS hA [3, 4] (by decide) rfl (va_recv hK.1 hP (ci := 0) (q0 := 15) rfl rfl)) rfl rfl hl.1 rfl (lv_room (Nat.le_of_ble_eq_true rfl)) dX5_shot_65 ⟨Nat.zero_le _, Nat.zero_le _⟩) hP hD hS hA [3, 4] rfl rfl rfl rfl (fun r_16 H locs hw hP hD hS => ?_)
              replace hw := hw.symm
              subst hw
              replace hf := Option.some.inj hf
              subst hf
              exact W.iret (v := q_15) hx hb hr (fun t ht hW => ⟨⟨_, (), rfl, rfl, by show va_P g.1 vwCl _ t.heap; rw [ht]; exact hP⟩, hS.F ht⟩) hS.2.2 dX5_shot_68 hlocks
            · replace hf := (if_pos c_14).symm.trans hf
              refine lv_bipush (v := (-4)) hx hb dX5_shot_45 (by decide) ?_
              refine lv_goto (tgt := 68) hx hb dX5_shot_47 (by decide) ?_
              replace hf := Option.some.inj hf
              subst hf
              exact W.iret (v := (-4)) hx hb hr (fun t ht hW => ⟨⟨_, (), rfl, rfl, by show va_P g.1 vwCl _ t.heap; rw [ht]; exact hP⟩, hS.F ht⟩) hS.2.2 dX5_shot_68 hlocks
        · replace hf := (if_neg c_5).symm.trans hf
          refine lv_iconst (v := (-1)) hx hb dX5_shot_18 (by decide) ?_
          replace hf := Option.some.inj hf
          subst hf
          exact W.iret (v := (-1)) hx hb hr (fun t ht hW => ⟨⟨_, (), rfl, rfl, by show va_P g.1 vwCl _ t.heap; rw [ht]; exact hP⟩, hS.F ht⟩) hS.2.2 dX5_shot_19 hlocks
  exact hgo s.heap [] rfl rfl hP hS

set_option maxHeartbeats 4000000 in
set_option maxRecDepth 100000 in
theorem c5_curve (l : Launch) (g : gG) (t_p : Nat) (t_p_text : Nat) (t_p_plan : Nat) (t_p_draft : Nat) (t_p_states : Nat) (t_sa : (Nat → Nat)) (t_at : Int32) (t_undoable : Int32) (t_p_shots : Nat) (t_ha : (Nat → Nat)) (t_p_trial : Nat) (s_p_drags : Nat) (s_drags : (Nat → Int32)) (s_p_speeds : Nat) (s_speeds : (Nat → Int32)) (s_p_settings : Nat) (s_settings : (Nat → Int32)) (s_shut : Int32) (s_coresIn : Int32) (s_loaded : Int32) (s_hot : Int32) (s_made : Int32) (s_width : Int32) (s_p_taught : Nat) (h_p_has : Nat) (h_has : (Nat → Int32)) (h_p_firstAt : Nat) (h_firstAt : (Nat → Int32)) (h_p_fullAt : Nat) (h_fullAt : (Nat → Int32)) (h_p_pressures : Nat) (h_pressures : (Nat → Int32)) (h_place : Int32) (h_fillTicks : Int32) (h_ticks : Int32) (h_coolTicks : Int32) (h_why : Int32) (l1 : Int32) (l2 : Int32) (sz : Nat) (N : Nat) (res : (Int32)) (hf : f5_curve N l1 l2 s_made h_pressures h_ticks = some res) : Met l yX5_curve wsX5_curve ({ frames := 3, cells := 0, slots := 0, locals := 62 }) (pP g [.ref t_p, .int l1, .int l2] sz (fl [wk5 g t_p t_p_text t_p_plan t_p_draft t_p_states (fun i => some (t_sa i)) t_at t_undoable (t_sa (Int32.toNatClampNeg t_at)) t_p_shots (fun i => some (t_ha i)) t_p_trial, wk3 g (t_sa (Int32.toNatClampNeg t_at)) s_p_drags s_drags s_p_speeds s_speeds s_p_settings s_settings s_shut s_coresIn s_loaded s_hot s_made s_width s_p_taught, wk2 g (t_ha (Int32.toNatClampNeg (fmodJ ((s_made - (if 12 < s_made then 12 else s_made)) + l1) 16))) h_p_has h_has h_p_firstAt h_firstAt h_p_fullAt h_fullAt h_p_pressures h_pressures h_place h_fillTicks h_ticks h_coolTicks h_why])) (pQi g (fun r => r = res) (fl [wk5 g t_p t_p_text t_p_plan t_p_draft t_p_states (fun i => some (t_sa i)) t_at t_undoable (t_sa (Int32.toNatClampNeg t_at)) t_p_shots (fun i => some (t_ha i)) t_p_trial, wk3 g (t_sa (Int32.toNatClampNeg t_at)) s_p_drags s_drags s_p_speeds s_speeds s_p_settings s_settings s_shut s_coresIn s_loaded s_hot s_made s_width s_p_taught, wk2 g (t_ha (Int32.toNatClampNeg (fmodJ ((s_made - (if 12 < s_made then 12 else s_made)) + l1) 16))) h_p_has h_has h_p_firstAt h_firstAt h_p_fullAt h_fullAt h_p_pressures h_pressures h_place h_fillTicks h_ticks h_coolTicks h_why]) (va_A (fl [wk5 g t_p t_p_text t_p_plan t_p_draft t_p_states (fun i => some (t_sa i)) t_at t_undoable (t_sa (Int32.toNatClampNeg t_at)) t_p_shots (fun i => some (t_ha i)) t_p_trial, wk3 g (t_sa (Int32.toNatClampNeg t_at)) s_p_drags s_drags s_p_speeds s_speeds s_p_settings s_settings s_shut s_coresIn s_loaded s_hot s_made s_width s_p_taught, wk2 g (t_ha (Int32.toNatClampNeg (fmodJ ((s_made - (if 12 < s_made then 12 else s_made)) + l1) 16))) h_p_has h_has h_p_firstAt h_firstAt h_p_fullAt h_fullAt h_p_pressures h_pressures h_place h_fillTicks h_ticks h_coolTicks h_why]) sz)) 0 0 (va_A (fl [wk5 g t_p t_p_text t_p_plan t_p_draft t_p_states (fun i => some (t_sa i)) t_at t_undoable (t_sa (Int32.toNatClampNeg t_at)) t_p_shots (fun i => some (t_ha i)) t_p_trial, wk3 g (t_sa (Int32.toNatClampNeg t_at)) s_p_drags s_drags s_p_speeds s_speeds s_p_settings s_settings s_shut s_coresIn s_loaded s_hot s_made s_width s_p_taught, wk2 g (t_ha (Int32.toNatClampNeg (fmodJ ((s_made - (if 12 < s_made then 12 else s_made)) + l1) 16))) h_p_has h_has h_p_firstAt h_firstAt h_p_fullAt h_fullAt h_p_pressures h_pressures h_place h_fillTicks h_ticks h_coolTicks h_why]) sz) := by
  refine Met.ofW (cc := cX5_curve) (maxL := 4) (ret := (some .int)) (by decide) rfl ?_
  intro p e s m args below meth c s₁ B hml hv
  obtain ⟨rfl, hsz, hP, hK, hD0, hG⟩ := hv
  have hx := B.exec
  have hb := B.bytes
  have hr := B.returns
  have hts := atoms_spec (ws := wsX5_curve) B.pre
  have hown : s.vm.findClass RX5 = some m.cls := findClass_of_methodNamed B.named
  have hlocks := B.notSynchronized
  subst hsz
  have hD := hD0.self (sz := s.heap.size)
  generalize hAe : va_A (fl [wk5 g t_p t_p_text t_p_plan t_p_draft t_p_states (fun i => some (t_sa i)) t_at t_undoable (t_sa (Int32.toNatClampNeg t_at)) t_p_shots (fun i => some (t_ha i)) t_p_trial, wk3 g (t_sa (Int32.toNatClampNeg t_at)) s_p_drags s_drags s_p_speeds s_speeds s_p_settings s_settings s_shut s_coresIn s_loaded s_hot s_made s_width s_p_taught, wk2 g (t_ha (Int32.toNatClampNeg (fmodJ ((s_made - (if 12 < s_made then 12 else s_made)) + l1) 16))) h_p_has h_has h_p_firstAt h_firstAt h_p_fullAt h_fullAt h_p_pressures h_pressures h_place h_fillTicks h_ticks h_coolTicks h_why]) s.heap.size = A at hD hG ⊢
  have hA : ∀ q : Nat, s.heap.size ≤ q → A q := fun q h => by rw [← hAe]; exact Or.inr h
  have hS : va_S A s.heap s.heap [] := va_S.rf
  have hin2 : ∀ w ∈ u_ws RX2 TX2 9, w ∈ wsX5_curve := by decide +kernel
  have hl := lv_entry ([.ref t_p, .int l1, .int l2]) (n := 4) (Nat.le_of_ble_eq_true rfl)
  rw [lg_entry_eq]
  generalize (lg_sl ([.ref t_p, .int l1, .int l2]) ++ List.replicate (4 - (lg_sl ([.ref t_p, .int l1, .int l2])).length) Slot.unset).toArray = ls at hl ⊢
  replace hl : lv_has ls 4 [(0, .ref t_p), (1, .int l1), (2, .int l2)] := hl
  rw [f5_curve] at hf
  have hgo : ∀ (H : Heap) (locs : List Loc), H = s.heap → locs = [] → va_P g.1 vwCl (fl [wk5 g t_p t_p_text t_p_plan t_p_draft t_p_states (fun i => some (t_sa i)) t_at t_undoable (t_sa (Int32.toNatClampNeg t_at)) t_p_shots (fun i => some (t_ha i)) t_p_trial, wk3 g (t_sa (Int32.toNatClampNeg t_at)) s_p_drags s_drags s_p_speeds s_speeds s_p_settings s_settings s_shut s_coresIn s_loaded s_hot s_made s_width s_p_taught, wk2 g (t_ha (Int32.toNatClampNeg (fmodJ ((s_made - (if 12 < s_made then 12 else s_made)) + l1) 16))) h_p_has h_has h_p_firstAt h_firstAt h_p_fullAt h_fullAt h_p_pressures h_pressures h_place h_fillTicks h_ticks h_coolTicks h_why]) H → va_S A s.heap H locs → W p l e ({ frames := 3, cells := 0, slots := 0, locals := 62 }) s m ([.ref t_p, .int l1, .int l2] : List Value).toArray below meth c H locs 0 0 (MQ below (pQi g (fun r => r = res) (fl [wk5 g t_p t_p_text t_p_plan t_p_draft t_p_states (fun i => some (t_sa i)) t_at t_undoable (t_sa (Int32.toNatClampNeg t_at)) t_p_shots (fun i => some (t_ha i)) t_p_trial, wk3 g (t_sa (Int32.toNatClampNeg t_at)) s_p_drags s_drags s_p_speeds s_speeds s_p_settings s_settings s_shut s_coresIn s_loaded s_hot s_made s_width s_p_taught, wk2 g (t_ha (Int32.toNatClampNeg (fmodJ ((s_made - (if 12 < s_made then 12 else s_made)) + l1) 16))) h_p_has h_has h_p_firstAt h_firstAt h_p_fullAt h_fullAt h_p_pressures h_pressures h_place h_fillTicks h_ticks h_coolTicks h_why]) A) ([.ref t_p, .int l1, .int l2] : List Value).toArray s 0 0 A) (F0 m 0 ls []) := by
    intro H locs hH hL hP hS
    refine lv_aload_n hx hb dX5_curve_0 rfl (lv_at hl 0 rfl) ?_
    refine lv_iload_n hx hb dX5_curve_1 rfl (lv_at hl 1 rfl) ?_
    obtain ⟨q_1, hq_1, hf⟩ := bd_some hf
    refine bft_i (bn := [wk5 g t_p t_p_text t_p_plan t_p_draft t_p_states (fun i => some (t_sa i)) t_at t_undoable (t_sa (Int32.toNatClampNeg t_at)) t_p_shots (fun i => some (t_ha i)) t_p_trial, wk3 g (t_sa (Int32.toNatClampNeg t_at)) s_p_drags s_drags s_p_speeds s_speeds s_p_settings s_settings s_shut s_coresIn s_loaded s_hot s_made s_width s_p_taught, wk2 g (t_ha (Int32.toNatClampNeg (fmodJ ((s_made - (if 12 < s_made then 12 else s_made)) + l1) 16))) h_p_has h_has h_p_firstAt h_firstAt h_p_fullAt h_fullAt h_p_pressures h_pressures h_place h_fillTicks h_ticks h_coolTicks h_why]) (L := [[t_p, t_p_states, t_p_shots], [(t_sa (Int32.toNatClampNeg t_at)), s_p_drags, s_p_speeds, s_p_settings]]) (va_runV (As := [.int l1]) (rest := []) ⟨hx, hb, hml, hown, hts⟩ (c5_isShot l g t_p t_p_text t_p_plan t_p_draft t_p_states t_sa t_at t_undoable t_p_shots t_ha t_p_trial s_p_drags s_drags s_p_speeds s_speeds s_p_settings s_settings s_shut s_coresIn s_loaded s_hot s_made s_width s_p_taught l1 H.size N q_1 hq_1) (cwV 1 hts gX5_curve_X5_isShot rfl rfl rfl ⟨rfl, nh5.1, nh5.2, pd_1⟩ ⟨Nat.le_of_ble_eq_true rfl, Nat.le_of_ble_eq_true rfl⟩) (qPV hK hG hP hD hS hA [0, 1] (by decide) rfl (va_recv hK.1 hP (ci := 5) (q0 := 0) rfl rfl)) rfl rfl hl.1 rfl (lv_room (Nat.le_of_ble_eq_true rfl)) dX5_curve_2 ⟨Nat.zero_le _, Nat.zero_le _⟩) hP hD hS hA [0, 1] rfl rfl rfl rfl (fun r_2 H locs hw hP hD hS => ?_)
    replace hw := hw.symm
    subst hw
    refine lv_if_eq (tgt := 15) hx hb dX5_curve_5 (by decide) (fun c_3 => ?_) (fun c_3 => ?_)
    · replace hf := (if_pos c_3).symm.trans hf
      refine lv_iconst (v := (-1)) hx hb dX5_curve_15 (by decide) ?_
      replace hf := Option.some.inj hf
      subst hf
      exact W.iret (v := (-1)) hx hb hr (fun t ht hW => ⟨⟨_, (), rfl, rfl, by show va_P g.1 vwCl _ t.heap; rw [ht]; exact hP⟩, hS.F ht⟩) hS.2.2 dX5_curve_16 hlocks
    · replace hf := (if_neg c_3).symm.trans hf
      refine lv_iload_n hx hb dX5_curve_8 rfl (lv_at hl 2 rfl) ?_
      obtain ⟨q_4, hq_4, hf⟩ := bd_some hf
      refine aft_i (wn := (fl [wk5 g t_p t_p_text t_p_plan t_p_draft t_p_states (fun i => some (t_sa i)) t_at t_undoable (t_sa (Int32.toNatClampNeg t_at)) t_p_shots (fun i => some (t_ha i)) t_p_trial, wk3 g (t_sa (Int32.toNatClampNeg t_at)) s_p_drags s_drags s_p_speeds s_speeds s_p_settings s_settings s_shut s_coresIn s_loaded s_hot s_made s_width s_p_taught, wk2 g (t_ha (Int32.toNatClampNeg (fmodJ ((s_made - (if 12 < s_made then 12 else s_made)) + l1) 16))) h_p_has h_has h_p_firstAt h_firstAt h_p_fullAt h_fullAt h_p_pressures h_pressures h_place h_fillTicks h_ticks h_coolTicks h_why])) (va_runS (As := [.int l2]) (rest := []) ⟨hx, hb, hml, hown, hts⟩ (c5_isTick l g l2 H.size N q_4 hq_4) (va_cwS 1 hts gX5_curve_X5_isTick rfl rfl rfl ⟨nh5.1, nh5.2, pd_1⟩ ⟨Nat.le_of_ble_eq_true rfl, Nat.le_of_ble_eq_true rfl⟩) (pPS hK hG hP hD hS hA [] (by decide) rfl) rfl rfl hl.1 rfl (lv_room (Nat.le_of_ble_eq_true rfl)) dX5_curve_9 ⟨Nat.zero_le _, Nat.zero_le _⟩) hP hD hS hA [] rfl rfl rfl (fun r_5 H locs hw hP hD hS => ?_)
      replace hw := hw.symm
      subst hw
      refine lv_if_ne (tgt := 17) hx hb dX5_curve_12 (by decide) (fun c_6 => ?_) (fun c_6 => ?_)
      · replace hf := (if_neg c_6).symm.trans hf
        refine lv_aload_n hx hb dX5_curve_17 rfl (lv_at hl 0 rfl) ?_
        refine lv_iload_n hx hb dX5_curve_18 rfl (lv_at hl 1 rfl) ?_
        obtain ⟨q_7, hq_7, hf⟩ := bd_some hf
        refine bft_r (bn := [wk5 g t_p t_p_text t_p_plan t_p_draft t_p_states (fun i => some (t_sa i)) t_at t_undoable (t_sa (Int32.toNatClampNeg t_at)) t_p_shots (fun i => some (t_ha i)) t_p_trial, wk3 g (t_sa (Int32.toNatClampNeg t_at)) s_p_drags s_drags s_p_speeds s_speeds s_p_settings s_settings s_shut s_coresIn s_loaded s_hot s_made s_width s_p_taught, wk2 g (t_ha (Int32.toNatClampNeg (fmodJ ((s_made - (if 12 < s_made then 12 else s_made)) + l1) 16))) h_p_has h_has h_p_firstAt h_firstAt h_p_fullAt h_fullAt h_p_pressures h_pressures h_place h_fillTicks h_ticks h_coolTicks h_why]) (L := [[t_p, t_p_states, t_p_shots], [(t_sa (Int32.toNatClampNeg t_at)), s_p_drags, s_p_speeds, s_p_settings]]) (va_runV (As := [.int l1]) (rest := []) ⟨hx, hb, hml, hown, hts⟩ (c5_keptShot l g t_p t_p_text t_p_plan t_p_draft t_p_states t_sa t_at t_undoable t_p_shots t_ha t_p_trial s_p_drags s_drags s_p_speeds s_speeds s_p_settings s_settings s_shut s_coresIn s_loaded s_hot s_made s_width s_p_taught l1 H.size N q_7 hq_7) (cwV 1 hts gX5_curve_X5_keptShot rfl rfl rfl ⟨rfl, nh5.1, nh5.2, pd_23⟩ ⟨Nat.le_of_ble_eq_true rfl, Nat.le_of_ble_eq_true rfl⟩) (qPV hK hG hP hD hS hA [0, 1] (by decide) rfl (va_recv hK.1 hP (ci := 5) (q0 := 0) rfl rfl)) rfl rfl hl.1 rfl (lv_room (Nat.le_of_ble_eq_true rfl)) dX5_curve_19 ⟨Nat.zero_le _, Nat.zero_le _⟩) hP hD hS hA [0, 1] rfl rfl rfl rfl (fun H locs hP hD hS => ?_)
        refine lv_astore_n (lv' := [(3, .ref (t_ha (Int32.toNatClampNeg (fmodJ ((s_made - (if 12 < s_made then 12 else s_made)) + l1) 16)))), (0, .ref t_p), (1, .int l1), (2, .int l2)]) hx hb dX5_curve_22 rfl hl (by decide) rfl (fun ls hl => ?_)
        refine lv_iload_n hx hb dX5_curve_23 rfl (lv_at hl 3 rfl) ?_
        refine lv_aload_n hx hb dX5_curve_24 rfl (lv_at hl 0 rfl) ?_
        refine va_getN (D := g.1) (ci := 2) (v := .int h_ticks) (C := RX2) (T := TX2) (N := 9) hx hb hts hin2 hown hK.1 hP 7 rfl rfl 6 (by decide) (hK.use _ 18 rfl) (fun _ h9 => h9) rfl dX5_curve_25 ?_
        refine lv_icmp_le (tgt := 36) hx hb dX5_curve_28 (by decide) (fun c_8 => ?_) (fun c_8 => ?_)
        · replace hf := (if_pos c_8).symm.trans hf
          refine lv_aload_n hx hb dX5_curve_36 rfl (lv_at hl 0 rfl) ?_
          refine va_getN (D := g.1) (ci := 2) (v := .ref h_p_pressures) (C := RX2) (T := TX2) (N := 9) hx hb hts hin2 hown hK.1 hP 7 rfl rfl 3 (by decide) (hK.use _ 19 rfl) (fun _ h9 => h9) rfl dX5_curve_37 ?_
          refine lv_iload_n hx hb dX5_curve_40 rfl (lv_at hl 3 rfl) ?_
          refine lv_iconst (v := 1) hx hb dX5_curve_41 (by decide) ?_
          refine lv_isub hx hb dX5_curve_42 ?_
          obtain ⟨h_9, hf⟩ := if_some hf
          refine va_iald hx hb hK.1 hP 11 0 rfl rfl (ok_in h_9) dX5_curve_43 ?_
          replace hf := Option.some.inj hf
          subst hf
          exact W.iret (v := h_pressures (Int32.toNatClampNeg (l2 - 1))) hx hb hr (fun t ht hW => ⟨⟨_, (), rfl, rfl, by show va_P g.1 vwCl _ t.heap; rw [ht]; exact hP⟩, hS.F ht⟩) hS.2.2 dX5_curve_44 hlocks
        · replace hf := (if_neg c_8).symm.trans hf
          refine lv_bipush (v := (-4)) hx hb dX5_curve_31 (by decide) ?_
          refine lv_goto (tgt := 44) hx hb dX5_curve_33 (by decide) ?_
          replace hf := Option.some.inj hf
          subst hf
          exact W.iret (v := (-4)) hx hb hr (fun t ht hW => ⟨⟨_, (), rfl, rfl, by show va_P g.1 vwCl _ t.heap; rw [ht]; exact hP⟩, hS.F ht⟩) hS.2.2 dX5_curve_44 hlocks
      · replace hf := (if_pos c_6).symm.trans hf
        refine lv_iconst (v := (-1)) hx hb dX5_curve_15 (by decide) ?_
        replace hf := Option.some.inj hf
        subst hf
        exact W.iret (v := (-1)) hx hb hr (fun t ht hW => ⟨⟨_, (), rfl, rfl, by show va_P g.1 vwCl _ t.heap; rw [ht]; exact hP⟩, hS.F ht⟩) hS.2.2 dX5_curve_16 hlocks
  exact hgo s.heap [] rfl rfl hP hS

set_option maxHeartbeats 4000000 in
set_option maxRecDepth 100000 in
theorem c5_cavity (l : Launch) (g : gG) (t_p : Nat) (t_p_text : Nat) (t_p_plan : Nat) (t_p_draft : Nat) (t_p_states : Nat) (t_sa : (Nat → Nat)) (t_at : Int32) (t_undoable : Int32) (t_p_shots : Nat) (t_ha : (Nat → Nat)) (t_p_trial : Nat) (n_cavities : Int32) (n_p_volumes : Nat) (n_volumes : (Nat → Int32)) (n_p_drags : Nat) (n_drags : (Nat → Int32)) (n_p_freezes : Nat) (n_freezes : (Nat → Int32)) (n_cores : Int32) (n_p_ahead : Nat) (n_ahead : (Nat → Int32)) (n_stages : Int32) (n_p_places : Nat) (n_places : (Nat → Int32)) (n_p_speeds : Nat) (n_speeds : (Nat → Int32)) (n_p_settings : Nat) (n_settings : (Nat → Int32)) (s_p_drags : Nat) (s_drags : (Nat → Int32)) (s_p_speeds : Nat) (s_speeds : (Nat → Int32)) (s_p_settings : Nat) (s_settings : (Nat → Int32)) (s_shut : Int32) (s_coresIn : Int32) (s_loaded : Int32) (s_hot : Int32) (s_made : Int32) (s_width : Int32) (s_p_taught : Nat) (l1 : Int32) (l2 : Int32) (sz : Nat) (N : Nat) (res : (Int32)) (hf : f5_cavity N l1 l2 n_cavities n_volumes n_freezes s_drags = some res) : Met l yX5_cavity wsX5_cavity ({ frames := 1, cells := 0, slots := 0, locals := 21 }) (pP g [.ref t_p, .int l1, .int l2] sz (fl [wk5 g t_p t_p_text t_p_plan t_p_draft t_p_states (fun i => some (t_sa i)) t_at t_undoable (t_sa (Int32.toNatClampNeg t_at)) t_p_shots (fun i => some (t_ha i)) t_p_trial, wk1 g t_p_plan n_cavities n_p_volumes n_volumes n_p_drags n_drags n_p_freezes n_freezes n_cores n_p_ahead n_ahead n_stages n_p_places n_places n_p_speeds n_speeds n_p_settings n_settings, wk3 g (t_sa (Int32.toNatClampNeg t_at)) s_p_drags s_drags s_p_speeds s_speeds s_p_settings s_settings s_shut s_coresIn s_loaded s_hot s_made s_width s_p_taught])) (pQi g (fun r => r = res) (fl [wk5 g t_p t_p_text t_p_plan t_p_draft t_p_states (fun i => some (t_sa i)) t_at t_undoable (t_sa (Int32.toNatClampNeg t_at)) t_p_shots (fun i => some (t_ha i)) t_p_trial, wk1 g t_p_plan n_cavities n_p_volumes n_volumes n_p_drags n_drags n_p_freezes n_freezes n_cores n_p_ahead n_ahead n_stages n_p_places n_places n_p_speeds n_speeds n_p_settings n_settings, wk3 g (t_sa (Int32.toNatClampNeg t_at)) s_p_drags s_drags s_p_speeds s_speeds s_p_settings s_settings s_shut s_coresIn s_loaded s_hot s_made s_width s_p_taught]) (va_A (fl [wk5 g t_p t_p_text t_p_plan t_p_draft t_p_states (fun i => some (t_sa i)) t_at t_undoable (t_sa (Int32.toNatClampNeg t_at)) t_p_shots (fun i => some (t_ha i)) t_p_trial, wk1 g t_p_plan n_cavities n_p_volumes n_volumes n_p_drags n_drags n_p_freezes n_freezes n_cores n_p_ahead n_ahead n_stages n_p_places n_places n_p_speeds n_speeds n_p_settings n_settings, wk3 g (t_sa (Int32.toNatClampNeg t_at)) s_p_drags s_drags s_p_speeds s_speeds s_p_settings s_settings s_shut s_coresIn s_loaded s_hot s_made s_width s_p_taught]) sz)) 0 0 (va_A (fl [wk5 g t_p t_p_text t_p_plan t_p_draft t_p_states (fun i => some (t_sa i)) t_at t_undoable (t_sa (Int32.toNatClampNeg t_at)) t_p_shots (fun i => some (t_ha i)) t_p_trial, wk1 g t_p_plan n_cavities n_p_volumes n_volumes n_p_drags n_drags n_p_freezes n_freezes n_cores n_p_ahead n_ahead n_stages n_p_places n_places n_p_speeds n_speeds n_p_settings n_settings, wk3 g (t_sa (Int32.toNatClampNeg t_at)) s_p_drags s_drags s_p_speeds s_speeds s_p_settings s_settings s_shut s_coresIn s_loaded s_hot s_made s_width s_p_taught]) sz) := by
  refine Met.ofW (cc := cX5_cavity) (maxL := 3) (ret := (some .int)) (by decide) rfl ?_
  intro p e s m args below meth c s₁ B hml hv
  obtain ⟨rfl, hsz, hP, hK, hD0, hG⟩ := hv
  have hx := B.exec
  have hb := B.bytes
  have hr := B.returns
  have hts := atoms_spec (ws := wsX5_cavity) B.pre
  have hown : s.vm.findClass RX5 = some m.cls := findClass_of_methodNamed B.named
  have hlocks := B.notSynchronized
  subst hsz
  have hD := hD0.self (sz := s.heap.size)
  generalize hAe : va_A (fl [wk5 g t_p t_p_text t_p_plan t_p_draft t_p_states (fun i => some (t_sa i)) t_at t_undoable (t_sa (Int32.toNatClampNeg t_at)) t_p_shots (fun i => some (t_ha i)) t_p_trial, wk1 g t_p_plan n_cavities n_p_volumes n_volumes n_p_drags n_drags n_p_freezes n_freezes n_cores n_p_ahead n_ahead n_stages n_p_places n_places n_p_speeds n_speeds n_p_settings n_settings, wk3 g (t_sa (Int32.toNatClampNeg t_at)) s_p_drags s_drags s_p_speeds s_speeds s_p_settings s_settings s_shut s_coresIn s_loaded s_hot s_made s_width s_p_taught]) s.heap.size = A at hD hG ⊢
  have hA : ∀ q : Nat, s.heap.size ≤ q → A q := fun q h => by rw [← hAe]; exact Or.inr h
  have hS : va_S A s.heap s.heap [] := va_S.rf
  have hin1 : ∀ w ∈ u_ws RX1 TX1 10, w ∈ wsX5_cavity := by decide +kernel
  have hin3 : ∀ w ∈ u_ws RX3 TX3 10, w ∈ wsX5_cavity := by decide +kernel
  have hin5 : ∀ w ∈ u_ws RX5 TX5 9, w ∈ wsX5_cavity := by decide +kernel
  have L1 := hts (Cond.fieldLink RX5 19 "MouldShots" "plan" "LMouldShots$Plan;") (by decide +kernel)
  have L2 := hts (Cond.fieldLink RX5 40 "MouldShots" "now" "LMouldShots$State;") (by decide +kernel)
  have hl := lv_entry ([.ref t_p, .int l1, .int l2]) (n := 3) (Nat.le_of_ble_eq_true rfl)
  rw [lg_entry_eq]
  generalize (lg_sl ([.ref t_p, .int l1, .int l2]) ++ List.replicate (3 - (lg_sl ([.ref t_p, .int l1, .int l2])).length) Slot.unset).toArray = ls at hl ⊢
  replace hl : lv_has ls 3 [(0, .ref t_p), (1, .int l1), (2, .int l2)] := hl
  rw [f5_cavity] at hf
  have hgo : ∀ (H : Heap) (locs : List Loc), H = s.heap → locs = [] → va_P g.1 vwCl (fl [wk5 g t_p t_p_text t_p_plan t_p_draft t_p_states (fun i => some (t_sa i)) t_at t_undoable (t_sa (Int32.toNatClampNeg t_at)) t_p_shots (fun i => some (t_ha i)) t_p_trial, wk1 g t_p_plan n_cavities n_p_volumes n_volumes n_p_drags n_drags n_p_freezes n_freezes n_cores n_p_ahead n_ahead n_stages n_p_places n_places n_p_speeds n_speeds n_p_settings n_settings, wk3 g (t_sa (Int32.toNatClampNeg t_at)) s_p_drags s_drags s_p_speeds s_speeds s_p_settings s_settings s_shut s_coresIn s_loaded s_hot s_made s_width s_p_taught]) H → va_S A s.heap H locs → W p l e ({ frames := 1, cells := 0, slots := 0, locals := 21 }) s m ([.ref t_p, .int l1, .int l2] : List Value).toArray below meth c H locs 0 0 (MQ below (pQi g (fun r => r = res) (fl [wk5 g t_p t_p_text t_p_plan t_p_draft t_p_states (fun i => some (t_sa i)) t_at t_undoable (t_sa (Int32.toNatClampNeg t_at)) t_p_shots (fun i => some (t_ha i)) t_p_trial, wk1 g t_p_plan n_cavities n_p_volumes n_volumes n_p_drags n_drags n_p_freezes n_freezes n_cores n_p_ahead n_ahead n_stages n_p_places n_places n_p_speeds n_speeds n_p_settings n_settings, wk3 g (t_sa (Int32.toNatClampNeg t_at)) s_p_drags s_drags s_p_speeds s_speeds s_p_settings s_settings s_shut s_coresIn s_loaded s_hot s_made s_width s_p_taught]) A) ([.ref t_p, .int l1, .int l2] : List Value).toArray s 0 0 A) (F0 m 0 ls []) := by
    intro H locs hH hL hP hS
    refine lv_aload_n hx hb dX5_cavity_0 rfl (lv_at hl 0 rfl) ?_
    refine lv_iload_n hx hb dX5_cavity_1 rfl (lv_at hl 1 rfl) ?_
    obtain ⟨q_1, hq_1, hf⟩ := bd_some hf
    refine bft_i (bn := [wk5 g t_p t_p_text t_p_plan t_p_draft t_p_states (fun i => some (t_sa i)) t_at t_undoable (t_sa (Int32.toNatClampNeg t_at)) t_p_shots (fun i => some (t_ha i)) t_p_trial, wk1 g t_p_plan n_cavities n_p_volumes n_volumes n_p_drags n_drags n_p_freezes n_freezes n_cores n_p_ahead n_ahead n_stages n_p_places n_places n_p_speeds n_speeds n_p_settings n_settings, wk3 g (t_sa (Int32.toNatClampNeg t_at)) s_p_drags s_drags s_p_speeds s_speeds s_p_settings s_settings s_shut s_coresIn s_loaded s_hot s_made s_width s_p_taught]) (L := [[t_p, t_p_states, t_p_shots], [t_p_plan, n_p_volumes, n_p_drags, n_p_freezes, n_p_ahead, n_p_places, n_p_speeds, n_p_settings]]) (va_runV (As := [.int l1]) (rest := []) ⟨hx, hb, hml, hown, hts⟩ (c5_isCavity l g t_p t_p_text t_p_plan t_p_draft t_p_states t_sa t_at t_undoable t_p_shots t_ha t_p_trial n_cavities n_p_volumes n_volumes n_p_drags n_drags n_p_freezes n_freezes n_cores n_p_ahead n_ahead n_stages n_p_places n_places n_p_speeds n_speeds n_p_settings n_settings l1 H.size N q_1 hq_1) (cwV 1 hts gX5_cavity_X5_isCavity rfl rfl rfl ⟨rfl, nh5.1, nh5.2, pd_1⟩ ⟨Nat.le_of_ble_eq_true rfl, Nat.le_of_ble_eq_true rfl⟩) (qPV hK hG hP hD hS hA [0, 1] (by decide) rfl (va_recv hK.1 hP (ci := 5) (q0 := 0) rfl rfl)) rfl rfl hl.1 rfl (lv_room (Nat.le_of_ble_eq_true rfl)) dX5_cavity_2 ⟨Nat.zero_le _, Nat.zero_le _⟩) hP hD hS hA [0, 1] rfl rfl rfl rfl (fun r_2 H locs hw hP hD hS => ?_)
    replace hw := hw.symm
    subst hw
    refine lv_if_ne (tgt := 10) hx hb dX5_cavity_5 (by decide) (fun c_3 => ?_) (fun c_3 => ?_)
    · replace hf := (if_neg c_3).symm.trans hf
      refine lv_iload_n hx hb dX5_cavity_10 rfl (lv_at hl 2 rfl) ?_
      by_cases c_4 : l2 = 0
      · replace hf := (if_pos c_4).symm.trans hf
        refine lv_tableIn (tgt := 36) hx hb dX5_cavity_11 (by rw [c_4]; decide) (by rw [c_4]; decide) (by rw [c_4]; rfl) (by decide) ?_
        refine lv_aload_n hx hb dX5_cavity_36 rfl (lv_at hl 0 rfl) ?_
        refine va_get (D := g.1) (ci := 5) (v := .ref t_p_plan) (C := RX5) (T := TX5) (N := 9) hx hb hts hin5 hown hK.1 hP 0 rfl rfl 1 (by decide) L1 (fun _ h9 => h9) rfl dX5_cavity_37 ?_
        refine va_getN (D := g.1) (ci := 1) (v := .ref n_p_volumes) (C := RX1) (T := TX1) (N := 10) hx hb hts hin1 hown hK.1 hP 3 rfl rfl 1 (by decide) (hK.use _ 20 rfl) (fun _ h9 => h9) rfl dX5_cavity_40 ?_
        refine lv_iload_n hx hb dX5_cavity_43 rfl (lv_at hl 1 rfl) ?_
        obtain ⟨h_5, hf⟩ := if_some hf
        refine va_iald hx hb hK.1 hP 4 0 rfl rfl (ok_in h_5) dX5_cavity_44 ?_
        replace hf := Option.some.inj hf
        subst hf
        exact W.iret (v := n_volumes (Int32.toNatClampNeg l1)) hx hb hr (fun t ht hW => ⟨⟨_, (), rfl, rfl, by show va_P g.1 vwCl _ t.heap; rw [ht]; exact hP⟩, hS.F ht⟩) hS.2.2 dX5_cavity_45 hlocks
      · replace hf := (if_neg c_4).symm.trans hf
        by_cases c_6 : l2 = 1
        · replace hf := (if_pos c_6).symm.trans hf
          refine lv_tableIn (tgt := 46) hx hb dX5_cavity_11 (by rw [c_6]; decide) (by rw [c_6]; decide) (by rw [c_6]; rfl) (by decide) ?_
          refine lv_aload_n hx hb dX5_cavity_46 rfl (lv_at hl 0 rfl) ?_
          refine va_get (D := g.1) (ci := 5) (v := .ref (t_sa (Int32.toNatClampNeg t_at))) (C := RX5) (T := TX5) (N := 9) hx hb hts hin5 hown hK.1 hP 0 rfl rfl 6 (by decide) L2 (fun _ h9 => h9) rfl dX5_cavity_47 ?_
          refine va_getN (D := g.1) (ci := 3) (v := .ref s_p_drags) (C := RX3) (T := TX3) (N := 10) hx hb hts hin3 hown hK.1 hP 11 rfl rfl 0 (by decide) (hK.use _ 6 rfl) (fun _ h9 => h9) rfl dX5_cavity_50 ?_
          refine lv_iload_n hx hb dX5_cavity_53 rfl (lv_at hl 1 rfl) ?_
          obtain ⟨h_7, hf⟩ := if_some hf
          refine va_iald hx hb hK.1 hP 12 0 rfl rfl (ok_in h_7) dX5_cavity_54 ?_
          replace hf := Option.some.inj hf
          subst hf
          exact W.iret (v := s_drags (Int32.toNatClampNeg l1)) hx hb hr (fun t ht hW => ⟨⟨_, (), rfl, rfl, by show va_P g.1 vwCl _ t.heap; rw [ht]; exact hP⟩, hS.F ht⟩) hS.2.2 dX5_cavity_55 hlocks
        · replace hf := (if_neg c_6).symm.trans hf
          by_cases c_8 : l2 = 2
          · replace hf := (if_pos c_8).symm.trans hf
            refine lv_tableIn (tgt := 56) hx hb dX5_cavity_11 (by rw [c_8]; decide) (by rw [c_8]; decide) (by rw [c_8]; rfl) (by decide) ?_
            refine lv_aload_n hx hb dX5_cavity_56 rfl (lv_at hl 0 rfl) ?_
            refine va_get (D := g.1) (ci := 5) (v := .ref t_p_plan) (C := RX5) (T := TX5) (N := 9) hx hb hts hin5 hown hK.1 hP 0 rfl rfl 1 (by decide) L1 (fun _ h9 => h9) rfl dX5_cavity_57 ?_
            refine va_getN (D := g.1) (ci := 1) (v := .ref n_p_freezes) (C := RX1) (T := TX1) (N := 10) hx hb hts hin1 hown hK.1 hP 3 rfl rfl 3 (by decide) (hK.use _ 21 rfl) (fun _ h9 => h9) rfl dX5_cavity_60 ?_
            refine lv_iload_n hx hb dX5_cavity_63 rfl (lv_at hl 1 rfl) ?_
            obtain ⟨h_9, hf⟩ := if_some hf
            refine va_iald hx hb hK.1 hP 6 0 rfl rfl (ok_in h_9) dX5_cavity_64 ?_
            replace hf := Option.some.inj hf
            subst hf
            exact W.iret (v := n_freezes (Int32.toNatClampNeg l1)) hx hb hr (fun t ht hW => ⟨⟨_, (), rfl, rfl, by show va_P g.1 vwCl _ t.heap; rw [ht]; exact hP⟩, hS.F ht⟩) hS.2.2 dX5_cavity_65 hlocks
          · replace hf := (if_neg c_8).symm.trans hf
            refine lv_tableOut (tgt := 66) hx hb dX5_cavity_11 (tab_out3 c_4 c_6 c_8) (by decide) ?_
            refine lv_iconst (v := (-1)) hx hb dX5_cavity_66 (by decide) ?_
            replace hf := Option.some.inj hf
            subst hf
            exact W.iret (v := (-1)) hx hb hr (fun t ht hW => ⟨⟨_, (), rfl, rfl, by show va_P g.1 vwCl _ t.heap; rw [ht]; exact hP⟩, hS.F ht⟩) hS.2.2 dX5_cavity_67 hlocks
    · replace hf := (if_pos c_3).symm.trans hf
      refine lv_iconst (v := (-1)) hx hb dX5_cavity_8 (by decide) ?_
      replace hf := Option.some.inj hf
      subst hf
      exact W.iret (v := (-1)) hx hb hr (fun t ht hW => ⟨⟨_, (), rfl, rfl, by show va_P g.1 vwCl _ t.heap; rw [ht]; exact hP⟩, hS.F ht⟩) hS.2.2 dX5_cavity_9 hlocks
  exact hgo s.heap [] rfl rfl hP hS

set_option maxHeartbeats 4000000 in
set_option maxRecDepth 100000 in
theorem c5_filled (l : Launch) (g : gG) (t_p : Nat) (t_p_text : Nat) (t_p_plan : Nat) (t_p_draft : Nat) (t_p_states : Nat) (t_sa : (Nat → Nat)) (t_at : Int32) (t_undoable : Int32) (t_p_shots : Nat) (t_ha : (Nat → Nat)) (t_p_trial : Nat) (n_cavities : Int32) (n_p_volumes : Nat) (n_volumes : (Nat → Int32)) (n_p_drags : Nat) (n_drags : (Nat → Int32)) (n_p_freezes : Nat) (n_freezes : (Nat → Int32)) (n_cores : Int32) (n_p_ahead : Nat) (n_ahead : (Nat → Int32)) (n_stages : Int32) (n_p_places : Nat) (n_places : (Nat → Int32)) (n_p_speeds : Nat) (n_speeds : (Nat → Int32)) (n_p_settings : Nat) (n_settings : (Nat → Int32)) (s_p_drags : Nat) (s_drags : (Nat → Int32)) (s_p_speeds : Nat) (s_speeds : (Nat → Int32)) (s_p_settings : Nat) (s_settings : (Nat → Int32)) (s_shut : Int32) (s_coresIn : Int32) (s_loaded : Int32) (s_hot : Int32) (s_made : Int32) (s_width : Int32) (s_p_taught : Nat) (h_p_has : Nat) (h_has : (Nat → Int32)) (h_p_firstAt : Nat) (h_firstAt : (Nat → Int32)) (h_p_fullAt : Nat) (h_fullAt : (Nat → Int32)) (h_p_pressures : Nat) (h_pressures : (Nat → Int32)) (h_place : Int32) (h_fillTicks : Int32) (h_ticks : Int32) (h_coolTicks : Int32) (h_why : Int32) (l1 : Int32) (l2 : Int32) (l3 : Int32) (sz : Nat) (N : Nat) (res : (Int32)) (hf : f5_filled N l1 l2 l3 n_cavities n_volumes s_made h_has h_firstAt h_fullAt = some res) : Met l yX5_filled wsX5_filled ({ frames := 3, cells := 0, slots := 0, locals := 62 }) (pP g [.ref t_p, .int l1, .int l2, .int l3] sz (fl [wk5 g t_p t_p_text t_p_plan t_p_draft t_p_states (fun i => some (t_sa i)) t_at t_undoable (t_sa (Int32.toNatClampNeg t_at)) t_p_shots (fun i => some (t_ha i)) t_p_trial, wk1 g t_p_plan n_cavities n_p_volumes n_volumes n_p_drags n_drags n_p_freezes n_freezes n_cores n_p_ahead n_ahead n_stages n_p_places n_places n_p_speeds n_speeds n_p_settings n_settings, wk3 g (t_sa (Int32.toNatClampNeg t_at)) s_p_drags s_drags s_p_speeds s_speeds s_p_settings s_settings s_shut s_coresIn s_loaded s_hot s_made s_width s_p_taught, wk2 g (t_ha (Int32.toNatClampNeg (fmodJ ((s_made - (if 12 < s_made then 12 else s_made)) + l1) 16))) h_p_has h_has h_p_firstAt h_firstAt h_p_fullAt h_fullAt h_p_pressures h_pressures h_place h_fillTicks h_ticks h_coolTicks h_why])) (pQi g (fun r => r = res) (fl [wk5 g t_p t_p_text t_p_plan t_p_draft t_p_states (fun i => some (t_sa i)) t_at t_undoable (t_sa (Int32.toNatClampNeg t_at)) t_p_shots (fun i => some (t_ha i)) t_p_trial, wk1 g t_p_plan n_cavities n_p_volumes n_volumes n_p_drags n_drags n_p_freezes n_freezes n_cores n_p_ahead n_ahead n_stages n_p_places n_places n_p_speeds n_speeds n_p_settings n_settings, wk3 g (t_sa (Int32.toNatClampNeg t_at)) s_p_drags s_drags s_p_speeds s_speeds s_p_settings s_settings s_shut s_coresIn s_loaded s_hot s_made s_width s_p_taught, wk2 g (t_ha (Int32.toNatClampNeg (fmodJ ((s_made - (if 12 < s_made then 12 else s_made)) + l1) 16))) h_p_has h_has h_p_firstAt h_firstAt h_p_fullAt h_fullAt h_p_pressures h_pressures h_place h_fillTicks h_ticks h_coolTicks h_why]) (va_A (fl [wk5 g t_p t_p_text t_p_plan t_p_draft t_p_states (fun i => some (t_sa i)) t_at t_undoable (t_sa (Int32.toNatClampNeg t_at)) t_p_shots (fun i => some (t_ha i)) t_p_trial, wk1 g t_p_plan n_cavities n_p_volumes n_volumes n_p_drags n_drags n_p_freezes n_freezes n_cores n_p_ahead n_ahead n_stages n_p_places n_places n_p_speeds n_speeds n_p_settings n_settings, wk3 g (t_sa (Int32.toNatClampNeg t_at)) s_p_drags s_drags s_p_speeds s_speeds s_p_settings s_settings s_shut s_coresIn s_loaded s_hot s_made s_width s_p_taught, wk2 g (t_ha (Int32.toNatClampNeg (fmodJ ((s_made - (if 12 < s_made then 12 else s_made)) + l1) 16))) h_p_has h_has h_p_firstAt h_firstAt h_p_fullAt h_fullAt h_p_pressures h_pressures h_place h_fillTicks h_ticks h_coolTicks h_why]) sz)) 0 0 (va_A (fl [wk5 g t_p t_p_text t_p_plan t_p_draft t_p_states (fun i => some (t_sa i)) t_at t_undoable (t_sa (Int32.toNatClampNeg t_at)) t_p_shots (fun i => some (t_ha i)) t_p_trial, wk1 g t_p_plan n_cavities n_p_volumes n_volumes n_p_drags n_drags n_p_freezes n_freezes n_cores n_p_ahead n_ahead n_stages n_p_places n_places n_p_speeds n_speeds n_p_settings n_settings, wk3 g (t_sa (Int32.toNatClampNeg t_at)) s_p_drags s_drags s_p_speeds s_speeds s_p_settings s_settings s_shut s_coresIn s_loaded s_hot s_made s_width s_p_taught, wk2 g (t_ha (Int32.toNatClampNeg (fmodJ ((s_made - (if 12 < s_made then 12 else s_made)) + l1) 16))) h_p_has h_has h_p_firstAt h_firstAt h_p_fullAt h_fullAt h_p_pressures h_pressures h_place h_fillTicks h_ticks h_coolTicks h_why]) sz) := by
  refine Met.ofW (cc := cX5_filled) (maxL := 7) (ret := (some .int)) (by decide) rfl ?_
  intro p e s m args below meth c s₁ B hml hv
  obtain ⟨rfl, hsz, hP, hK, hD0, hG⟩ := hv
  have hx := B.exec
  have hb := B.bytes
  have hr := B.returns
  have hts := atoms_spec (ws := wsX5_filled) B.pre
  have hown : s.vm.findClass RX5 = some m.cls := findClass_of_methodNamed B.named
  have hlocks := B.notSynchronized
  subst hsz
  have hD := hD0.self (sz := s.heap.size)
  generalize hAe : va_A (fl [wk5 g t_p t_p_text t_p_plan t_p_draft t_p_states (fun i => some (t_sa i)) t_at t_undoable (t_sa (Int32.toNatClampNeg t_at)) t_p_shots (fun i => some (t_ha i)) t_p_trial, wk1 g t_p_plan n_cavities n_p_volumes n_volumes n_p_drags n_drags n_p_freezes n_freezes n_cores n_p_ahead n_ahead n_stages n_p_places n_places n_p_speeds n_speeds n_p_settings n_settings, wk3 g (t_sa (Int32.toNatClampNeg t_at)) s_p_drags s_drags s_p_speeds s_speeds s_p_settings s_settings s_shut s_coresIn s_loaded s_hot s_made s_width s_p_taught, wk2 g (t_ha (Int32.toNatClampNeg (fmodJ ((s_made - (if 12 < s_made then 12 else s_made)) + l1) 16))) h_p_has h_has h_p_firstAt h_firstAt h_p_fullAt h_fullAt h_p_pressures h_pressures h_place h_fillTicks h_ticks h_coolTicks h_why]) s.heap.size = A at hD hG ⊢
  have hA : ∀ q : Nat, s.heap.size ≤ q → A q := fun q h => by rw [← hAe]; exact Or.inr h
  have hS : va_S A s.heap s.heap [] := va_S.rf
  have hin1 : ∀ w ∈ u_ws RX1 TX1 10, w ∈ wsX5_filled := by decide +kernel
  have hin2 : ∀ w ∈ u_ws RX2 TX2 9, w ∈ wsX5_filled := by decide +kernel
  have hin5 : ∀ w ∈ u_ws RX5 TX5 9, w ∈ wsX5_filled := by decide +kernel
  have L1 := hts (Cond.fieldLink RX5 19 "MouldShots" "plan" "LMouldShots$Plan;") (by decide +kernel)
  have L2 := hts (Cond.methodLink RX5 270 Lib.Math.max.name) (by decide +kernel)
  have L3 := hts (Cond.static Lib.Math.max.name) (by decide +kernel)
  have L4 := hts (Cond.initialized "java/lang/Math") (by decide +kernel)
  have L5 := hts (Cond.code Lib.Math.max.name Lib.Math.max.code 2 (some .int)) (by decide +kernel)
  have hl := lv_entry ([.ref t_p, .int l1, .int l2, .int l3]) (n := 7) (Nat.le_of_ble_eq_true rfl)
  rw [lg_entry_eq]
  generalize (lg_sl ([.ref t_p, .int l1, .int l2, .int l3]) ++ List.replicate (7 - (lg_sl ([.ref t_p, .int l1, .int l2, .int l3])).length) Slot.unset).toArray = ls at hl ⊢
  replace hl : lv_has ls 7 [(0, .ref t_p), (1, .int l1), (2, .int l2), (3, .int l3)] := hl
  rw [f5_filled] at hf
  have hgo : ∀ (H : Heap) (locs : List Loc), H = s.heap → locs = [] → va_P g.1 vwCl (fl [wk5 g t_p t_p_text t_p_plan t_p_draft t_p_states (fun i => some (t_sa i)) t_at t_undoable (t_sa (Int32.toNatClampNeg t_at)) t_p_shots (fun i => some (t_ha i)) t_p_trial, wk1 g t_p_plan n_cavities n_p_volumes n_volumes n_p_drags n_drags n_p_freezes n_freezes n_cores n_p_ahead n_ahead n_stages n_p_places n_places n_p_speeds n_speeds n_p_settings n_settings, wk3 g (t_sa (Int32.toNatClampNeg t_at)) s_p_drags s_drags s_p_speeds s_speeds s_p_settings s_settings s_shut s_coresIn s_loaded s_hot s_made s_width s_p_taught, wk2 g (t_ha (Int32.toNatClampNeg (fmodJ ((s_made - (if 12 < s_made then 12 else s_made)) + l1) 16))) h_p_has h_has h_p_firstAt h_firstAt h_p_fullAt h_fullAt h_p_pressures h_pressures h_place h_fillTicks h_ticks h_coolTicks h_why]) H → va_S A s.heap H locs → W p l e ({ frames := 3, cells := 0, slots := 0, locals := 62 }) s m ([.ref t_p, .int l1, .int l2, .int l3] : List Value).toArray below meth c H locs 0 0 (MQ below (pQi g (fun r => r = res) (fl [wk5 g t_p t_p_text t_p_plan t_p_draft t_p_states (fun i => some (t_sa i)) t_at t_undoable (t_sa (Int32.toNatClampNeg t_at)) t_p_shots (fun i => some (t_ha i)) t_p_trial, wk1 g t_p_plan n_cavities n_p_volumes n_volumes n_p_drags n_drags n_p_freezes n_freezes n_cores n_p_ahead n_ahead n_stages n_p_places n_places n_p_speeds n_speeds n_p_settings n_settings, wk3 g (t_sa (Int32.toNatClampNeg t_at)) s_p_drags s_drags s_p_speeds s_speeds s_p_settings s_settings s_shut s_coresIn s_loaded s_hot s_made s_width s_p_taught, wk2 g (t_ha (Int32.toNatClampNeg (fmodJ ((s_made - (if 12 < s_made then 12 else s_made)) + l1) 16))) h_p_has h_has h_p_firstAt h_firstAt h_p_fullAt h_fullAt h_p_pressures h_pressures h_place h_fillTicks h_ticks h_coolTicks h_why]) A) ([.ref t_p, .int l1, .int l2, .int l3] : List Value).toArray s 0 0 A) (F0 m 0 ls []) := by
    intro H locs hH hL hP hS
    refine lv_aload_n hx hb dX5_filled_0 rfl (lv_at hl 0 rfl) ?_
    refine lv_iload_n hx hb dX5_filled_1 rfl (lv_at hl 1 rfl) ?_
    obtain ⟨q_1, hq_1, hf⟩ := bd_some hf
    refine bft_i (bn := [wk5 g t_p t_p_text t_p_plan t_p_draft t_p_states (fun i => some (t_sa i)) t_at t_undoable (t_sa (Int32.toNatClampNeg t_at)) t_p_shots (fun i => some (t_ha i)) t_p_trial, wk1 g t_p_plan n_cavities n_p_volumes n_volumes n_p_drags n_drags n_p_freezes n_freezes n_cores n_p_ahead n_ahead n_stages n_p_places n_places n_p_speeds n_speeds n_p_settings n_settings, wk3 g (t_sa (Int32.toNatClampNeg t_at)) s_p_drags s_drags s_p_speeds s_speeds s_p_settings s_settings s_shut s_coresIn s_loaded s_hot s_made s_width s_p_taught, wk2 g (t_ha (Int32.toNatClampNeg (fmodJ ((s_made - (if 12 < s_made then 12 else s_made)) + l1) 16))) h_p_has h_has h_p_firstAt h_firstAt h_p_fullAt h_fullAt h_p_pressures h_pressures h_place h_fillTicks h_ticks h_coolTicks h_why]) (L := [[t_p, t_p_states, t_p_shots], [(t_sa (Int32.toNatClampNeg t_at)), s_p_drags, s_p_speeds, s_p_settings]]) (va_runV (As := [.int l1]) (rest := []) ⟨hx, hb, hml, hown, hts⟩ (c5_isShot l g t_p t_p_text t_p_plan t_p_draft t_p_states t_sa t_at t_undoable t_p_shots t_ha t_p_trial s_p_drags s_drags s_p_speeds s_speeds s_p_settings s_settings s_shut s_coresIn s_loaded s_hot s_made s_width s_p_taught l1 H.size N q_1 hq_1) (cwV 1 hts gX5_filled_X5_isShot rfl rfl rfl ⟨rfl, nh5.1, nh5.2, pd_1⟩ ⟨Nat.le_of_ble_eq_true rfl, Nat.le_of_ble_eq_true rfl⟩) (qPV hK hG hP hD hS hA [0, 2] (by decide) rfl (va_recv hK.1 hP (ci := 5) (q0 := 0) rfl rfl)) rfl rfl hl.1 rfl (lv_room (Nat.le_of_ble_eq_true rfl)) dX5_filled_2 ⟨Nat.zero_le _, Nat.zero_le _⟩) hP hD hS hA [0, 2] rfl rfl rfl rfl (fun r_2 H locs hw hP hD hS => ?_)
    replace hw := hw.symm
    subst hw
    refine lv_if_eq (tgt := 16) hx hb dX5_filled_5 (by decide) (fun c_3 => ?_) (fun c_3 => ?_)
    · replace hf := (if_pos c_3).symm.trans hf
      refine lv_iconst (v := (-1)) hx hb dX5_filled_16 (by decide) ?_
      replace hf := Option.some.inj hf
      subst hf
      exact W.iret (v := (-1)) hx hb hr (fun t ht hW => ⟨⟨_, (), rfl, rfl, by show va_P g.1 vwCl _ t.heap; rw [ht]; exact hP⟩, hS.F ht⟩) hS.2.2 dX5_filled_17 hlocks
    · replace hf := (if_neg c_3).symm.trans hf
      refine lv_aload_n hx hb dX5_filled_8 rfl (lv_at hl 0 rfl) ?_
      refine lv_iload_n hx hb dX5_filled_9 rfl (lv_at hl 2 rfl) ?_
      obtain ⟨q_4, hq_4, hf⟩ := bd_some hf
      refine bft_i (bn := [wk5 g t_p t_p_text t_p_plan t_p_draft t_p_states (fun i => some (t_sa i)) t_at t_undoable (t_sa (Int32.toNatClampNeg t_at)) t_p_shots (fun i => some (t_ha i)) t_p_trial, wk1 g t_p_plan n_cavities n_p_volumes n_volumes n_p_drags n_drags n_p_freezes n_freezes n_cores n_p_ahead n_ahead n_stages n_p_places n_places n_p_speeds n_speeds n_p_settings n_settings, wk3 g (t_sa (Int32.toNatClampNeg t_at)) s_p_drags s_drags s_p_speeds s_speeds s_p_settings s_settings s_shut s_coresIn s_loaded s_hot s_made s_width s_p_taught, wk2 g (t_ha (Int32.toNatClampNeg (fmodJ ((s_made - (if 12 < s_made then 12 else s_made)) + l1) 16))) h_p_has h_has h_p_firstAt h_firstAt h_p_fullAt h_fullAt h_p_pressures h_pressures h_place h_fillTicks h_ticks h_coolTicks h_why]) (L := [[t_p, t_p_states, t_p_shots], [t_p_plan, n_p_volumes, n_p_drags, n_p_freezes, n_p_ahead, n_p_places, n_p_speeds, n_p_settings]]) (va_runV (As := [.int l2]) (rest := []) ⟨hx, hb, hml, hown, hts⟩ (c5_isCavity l g t_p t_p_text t_p_plan t_p_draft t_p_states t_sa t_at t_undoable t_p_shots t_ha t_p_trial n_cavities n_p_volumes n_volumes n_p_drags n_drags n_p_freezes n_freezes n_cores n_p_ahead n_ahead n_stages n_p_places n_places n_p_speeds n_speeds n_p_settings n_settings l2 H.size N q_4 hq_4) (cwV 1 hts gX5_filled_X5_isCavity rfl rfl rfl ⟨rfl, nh5.1, nh5.2, pd_1⟩ ⟨Nat.le_of_ble_eq_true rfl, Nat.le_of_ble_eq_true rfl⟩) (qPV hK hG hP hD hS hA [0, 1] (by decide) rfl (va_recv hK.1 hP (ci := 5) (q0 := 0) rfl rfl)) rfl rfl hl.1 rfl (lv_room (Nat.le_of_ble_eq_true rfl)) dX5_filled_10 ⟨Nat.zero_le _, Nat.zero_le _⟩) hP hD hS hA [0, 1] rfl rfl rfl rfl (fun r_5 H locs hw hP hD hS => ?_)
      replace hw := hw.symm
      subst hw
      refine lv_if_ne (tgt := 18) hx hb dX5_filled_13 (by decide) (fun c_6 => ?_) (fun c_6 => ?_)
      · replace hf := (if_neg c_6).symm.trans hf
        refine lv_aload_n hx hb dX5_filled_18 rfl (lv_at hl 0 rfl) ?_
        refine lv_iload_n hx hb dX5_filled_19 rfl (lv_at hl 1 rfl) ?_
        obtain ⟨q_7, hq_7, hf⟩ := bd_some hf
        refine bft_r (bn := [wk5 g t_p t_p_text t_p_plan t_p_draft t_p_states (fun i => some (t_sa i)) t_at t_undoable (t_sa (Int32.toNatClampNeg t_at)) t_p_shots (fun i => some (t_ha i)) t_p_trial, wk1 g t_p_plan n_cavities n_p_volumes n_volumes n_p_drags n_drags n_p_freezes n_freezes n_cores n_p_ahead n_ahead n_stages n_p_places n_places n_p_speeds n_speeds n_p_settings n_settings, wk3 g (t_sa (Int32.toNatClampNeg t_at)) s_p_drags s_drags s_p_speeds s_speeds s_p_settings s_settings s_shut s_coresIn s_loaded s_hot s_made s_width s_p_taught, wk2 g (t_ha (Int32.toNatClampNeg (fmodJ ((s_made - (if 12 < s_made then 12 else s_made)) + l1) 16))) h_p_has h_has h_p_firstAt h_firstAt h_p_fullAt h_fullAt h_p_pressures h_pressures h_place h_fillTicks h_ticks h_coolTicks h_why]) (L := [[t_p, t_p_states, t_p_shots], [(t_sa (Int32.toNatClampNeg t_at)), s_p_drags, s_p_speeds, s_p_settings]]) (va_runV (As := [.int l1]) (rest := []) ⟨hx, hb, hml, hown, hts⟩ (c5_keptShot l g t_p t_p_text t_p_plan t_p_draft t_p_states t_sa t_at t_undoable t_p_shots t_ha t_p_trial s_p_drags s_drags s_p_speeds s_speeds s_p_settings s_settings s_shut s_coresIn s_loaded s_hot s_made s_width s_p_taught l1 H.size N q_7 hq_7) (cwV 1 hts gX5_filled_X5_keptShot rfl rfl rfl ⟨rfl, nh5.1, nh5.2, pd_23⟩ ⟨Nat.le_of_ble_eq_true rfl, Nat.le_of_ble_eq_true rfl⟩) (qPV hK hG hP hD hS hA [0, 2] (by decide) rfl (va_recv hK.1 hP (ci := 5) (q0 := 0) rfl rfl)) rfl rfl hl.1 rfl (lv_room (Nat.le_of_ble_eq_true rfl)) dX5_filled_20 ⟨Nat.zero_le _, Nat.zero_le _⟩) hP hD hS hA [0, 2] rfl rfl rfl rfl (fun H locs hP hD hS => ?_)
        refine lv_astore (lv' := [(4, .ref (t_ha (Int32.toNatClampNeg (fmodJ ((s_made - (if 12 < s_made then 12 else s_made)) + l1) 16)))), (0, .ref t_p), (1, .int l1), (2, .int l2), (3, .int l3)]) hx hb dX5_filled_23 hl (by decide) rfl (fun ls hl => ?_)
        refine lv_aload hx hb dX5_filled_25 (lv_at hl 0 rfl) ?_
        refine va_getN (D := g.1) (ci := 2) (v := .ref h_p_has) (C := RX2) (T := TX2) (N := 9) hx hb hts hin2 hown hK.1 hP 15 rfl rfl 0 (by decide) (hK.use _ 22 rfl) (fun _ h9 => h9) rfl dX5_filled_27 ?_
        refine lv_iload_n hx hb dX5_filled_30 rfl (lv_at hl 3 rfl) ?_
        obtain ⟨h_8, hf⟩ := if_some hf
        refine va_iald hx hb hK.1 hP 16 0 rfl rfl (ok_in h_8) dX5_filled_31 ?_
        refine lv_istore (lv' := [(5, .int (h_has (Int32.toNatClampNeg l2))), (4, .ref (t_ha (Int32.toNatClampNeg (fmodJ ((s_made - (if 12 < s_made then 12 else s_made)) + l1) 16)))), (0, .ref t_p), (1, .int l1), (2, .int l2), (3, .int l3)]) hx hb dX5_filled_32 hl (by decide) rfl (fun ls hl => ?_)
        refine lv_aload_n hx hb dX5_filled_34 rfl (lv_at hl 2 rfl) ?_
        refine va_get (D := g.1) (ci := 5) (v := .ref t_p_plan) (C := RX5) (T := TX5) (N := 9) hx hb hts hin5 hown hK.1 hP 0 rfl rfl 1 (by decide) L1 (fun _ h9 => h9) rfl dX5_filled_35 ?_
        refine va_getN (D := g.1) (ci := 1) (v := .ref n_p_volumes) (C := RX1) (T := TX1) (N := 10) hx hb hts hin1 hown hK.1 hP 3 rfl rfl 1 (by decide) (hK.use _ 20 rfl) (fun _ h9 => h9) rfl dX5_filled_38 ?_
        refine lv_iload_n hx hb dX5_filled_41 rfl (lv_at hl 4 rfl) ?_
        obtain ⟨h_9, hf⟩ := if_some hf
        refine va_iald hx hb hK.1 hP 4 0 rfl rfl (ok_in h_9) dX5_filled_42 ?_
        refine lv_istore (lv' := [(6, .int (n_volumes (Int32.toNatClampNeg l2))), (5, .int (h_has (Int32.toNatClampNeg l2))), (4, .ref (t_ha (Int32.toNatClampNeg (fmodJ ((s_made - (if 12 < s_made then 12 else s_made)) + l1) 16)))), (0, .ref t_p), (1, .int l1), (2, .int l2), (3, .int l3)]) hx hb dX5_filled_43 hl (by decide) rfl (fun ls hl => ?_)
        refine lv_iload_n hx hb dX5_filled_45 rfl (lv_at hl 6 rfl) ?_
        by_cases c_10 : l3 = 0
        · replace hf := (if_pos c_10).symm.trans hf
          refine lv_tableIn (tgt := 80) hx hb dX5_filled_46 (by rw [c_10]; decide) (by rw [c_10]; decide) (by rw [c_10]; rfl) (by decide) ?_
          refine lv_iload hx hb dX5_filled_80 (lv_at hl 1 rfl) ?_
          replace hf := Option.some.inj hf
          subst hf
          exact W.iret (v := h_has (Int32.toNatClampNeg l2)) hx hb hr (fun t ht hW => ⟨⟨_, (), rfl, rfl, by show va_P g.1 vwCl _ t.heap; rw [ht]; exact hP⟩, hS.F ht⟩) hS.2.2 dX5_filled_82 hlocks
        · replace hf := (if_neg c_10).symm.trans hf
          by_cases c_11 : l3 = 1
          · replace hf := (if_pos c_11).symm.trans hf
            refine lv_tableIn (tgt := 83) hx hb dX5_filled_46 (by rw [c_11]; decide) (by rw [c_11]; decide) (by rw [c_11]; rfl) (by decide) ?_
            refine lv_iconst (v := 0) hx hb dX5_filled_83 (by decide) ?_
            refine lv_iload hx hb dX5_filled_84 (lv_at hl 0 rfl) ?_
            refine lv_iload hx hb dX5_filled_86 (lv_at hl 1 rfl) ?_
            refine lv_isub hx hb dX5_filled_88 ?_
            refine va_mmax hx hb (hml.trans hl.1.symm) hown L2 L3 L4 L5 (Nat.le_of_ble_eq_true rfl) (Nat.le_of_ble_eq_true rfl) (Nat.zero_le _) (Nat.zero_le _) dX5_filled_89 ?_
            replace hf := Option.some.inj hf
            subst hf
            exact W.iret (v := if 0 < ((n_volumes (Int32.toNatClampNeg l2)) - (h_has (Int32.toNatClampNeg l2))) then (n_volumes (Int32.toNatClampNeg l2)) - (h_has (Int32.toNatClampNeg l2)) else 0) hx hb hr (fun t ht hW => ⟨⟨_, (), rfl, rfl, by show va_P g.1 vwCl _ t.heap; rw [ht]; exact hP⟩, hS.F ht⟩) hS.2.2 dX5_filled_92 hlocks
          · replace hf := (if_neg c_11).symm.trans hf
            by_cases c_12 : l3 = 2
            · replace hf := (if_pos c_12).symm.trans hf
              refine lv_tableIn (tgt := 93) hx hb dX5_filled_46 (by rw [c_12]; decide) (by rw [c_12]; decide) (by rw [c_12]; rfl) (by decide) ?_
              refine lv_iconst (v := 0) hx hb dX5_filled_93 (by decide) ?_
              refine lv_iload hx hb dX5_filled_94 (lv_at hl 1 rfl) ?_
              refine lv_iload hx hb dX5_filled_96 (lv_at hl 0 rfl) ?_
              refine lv_isub hx hb dX5_filled_98 ?_
              refine va_mmax hx hb (hml.trans hl.1.symm) hown L2 L3 L4 L5 (Nat.le_of_ble_eq_true rfl) (Nat.le_of_ble_eq_true rfl) (Nat.zero_le _) (Nat.zero_le _) dX5_filled_99 ?_
              replace hf := Option.some.inj hf
              subst hf
              exact W.iret (v := if 0 < ((h_has (Int32.toNatClampNeg l2)) - (n_volumes (Int32.toNatClampNeg l2))) then (h_has (Int32.toNatClampNeg l2)) - (n_volumes (Int32.toNatClampNeg l2)) else 0) hx hb hr (fun t ht hW => ⟨⟨_, (), rfl, rfl, by show va_P g.1 vwCl _ t.heap; rw [ht]; exact hP⟩, hS.F ht⟩) hS.2.2 dX5_filled_102 hlocks
            · replace hf := (if_neg c_12).symm.trans hf
              by_cases c_13 : l3 = 3
              · replace hf := (if_pos c_13).symm.trans hf
                refine lv_tableIn (tgt := 103) hx hb dX5_filled_46 (by rw [c_13]; decide) (by rw [c_13]; decide) (by rw [c_13]; rfl) (by decide) ?_
                refine lv_aload hx hb dX5_filled_103 (lv_at hl 2 rfl) ?_
                refine va_getN (D := g.1) (ci := 2) (v := .ref h_p_fullAt) (C := RX2) (T := TX2) (N := 9) hx hb hts hin2 hown hK.1 hP 15 rfl rfl 2 (by decide) (hK.use _ 23 rfl) (fun _ h9 => h9) rfl dX5_filled_105 ?_
                refine lv_iload_n hx hb dX5_filled_108 rfl (lv_at hl 5 rfl) ?_
                obtain ⟨h_14, hf⟩ := if_some hf
                refine va_iald hx hb hK.1 hP 18 0 rfl rfl (ok_in h_14) dX5_filled_109 ?_
                refine lv_if_ne (tgt := 118) hx hb dX5_filled_110 (by decide) (fun c_15 => ?_) (fun c_15 => ?_)
                · replace hf := (if_neg c_15).symm.trans hf
                  refine lv_aload hx hb dX5_filled_118 (lv_at hl 2 rfl) ?_
                  refine va_getN (D := g.1) (ci := 2) (v := .ref h_p_fullAt) (C := RX2) (T := TX2) (N := 9) hx hb hts hin2 hown hK.1 hP 15 rfl rfl 2 (by decide) (hK.use _ 23 rfl) (fun _ h9 => h9) rfl dX5_filled_120 ?_
                  refine lv_iload_n hx hb dX5_filled_123 rfl (lv_at hl 5 rfl) ?_
                  obtain ⟨h_16, hf⟩ := if_some hf
                  refine va_iald hx hb hK.1 hP 18 0 rfl rfl (ok_in h_16) dX5_filled_124 ?_
                  replace hf := Option.some.inj hf
                  subst hf
                  exact W.iret (v := h_fullAt (Int32.toNatClampNeg l2)) hx hb hr (fun t ht hW => ⟨⟨_, (), rfl, rfl, by show va_P g.1 vwCl _ t.heap; rw [ht]; exact hP⟩, hS.F ht⟩) hS.2.2 dX5_filled_125 hlocks
                · replace hf := (if_pos c_15).symm.trans hf
                  refine lv_bipush (v := (-4)) hx hb dX5_filled_113 (by decide) ?_
                  refine lv_goto (tgt := 125) hx hb dX5_filled_115 (by decide) ?_
                  replace hf := Option.some.inj hf
                  subst hf
                  exact W.iret (v := (-4)) hx hb hr (fun t ht hW => ⟨⟨_, (), rfl, rfl, by show va_P g.1 vwCl _ t.heap; rw [ht]; exact hP⟩, hS.F ht⟩) hS.2.2 dX5_filled_125 hlocks
              · replace hf := (if_neg c_13).symm.trans hf
                by_cases c_17 : l3 = 4
                · replace hf := (if_pos c_17).symm.trans hf
                  refine lv_tableIn (tgt := 126) hx hb dX5_filled_46 (by rw [c_17]; decide) (by rw [c_17]; decide) (by rw [c_17]; rfl) (by decide) ?_
                  refine lv_aload hx hb dX5_filled_126 (lv_at hl 2 rfl) ?_
                  refine va_getN (D := g.1) (ci := 2) (v := .ref h_p_firstAt) (C := RX2) (T := TX2) (N := 9) hx hb hts hin2 hown hK.1 hP 15 rfl rfl 1 (by decide) (hK.use _ 24 rfl) (fun _ h9 => h9) rfl dX5_filled_128 ?_
                  refine lv_iload_n hx hb dX5_filled_131 rfl (lv_at hl 5 rfl) ?_
                  obtain ⟨h_18, hf⟩ := if_some hf
                  refine va_iald hx hb hK.1 hP 17 0 rfl rfl (ok_in h_18) dX5_filled_132 ?_
                  refine lv_if_ne (tgt := 141) hx hb dX5_filled_133 (by decide) (fun c_19 => ?_) (fun c_19 => ?_)
                  · replace hf := (if_neg c_19).symm.trans hf
                    refine lv_aload hx hb dX5_filled_141 (lv_at hl 2 rfl) ?_
                    refine va_getN (D := g.1) (ci := 2) (v := .ref h_p_firstAt) (C := RX2) (T := TX2) (N := 9) hx hb hts hin2 hown hK.1 hP 15 rfl rfl 1 (by decide) (hK.use _ 24 rfl) (fun _ h9 => h9) rfl dX5_filled_143 ?_
                    refine lv_iload_n hx hb dX5_filled_146 rfl (lv_at hl 5 rfl) ?_
                    obtain ⟨h_20, hf⟩ := if_some hf
                    refine va_iald hx hb hK.1 hP 17 0 rfl rfl (ok_in h_20) dX5_filled_147 ?_
                    replace hf := Option.some.inj hf
                    subst hf
                    exact W.iret (v := h_firstAt (Int32.toNatClampNeg l2)) hx hb hr (fun t ht hW => ⟨⟨_, (), rfl, rfl, by show va_P g.1 vwCl _ t.heap; rw [ht]; exact hP⟩, hS.F ht⟩) hS.2.2 dX5_filled_148 hlocks
                  · replace hf := (if_pos c_19).symm.trans hf
                    refine lv_bipush (v := (-4)) hx hb dX5_filled_136 (by decide) ?_
                    refine lv_goto (tgt := 148) hx hb dX5_filled_138 (by decide) ?_
                    replace hf := Option.some.inj hf
                    subst hf
                    exact W.iret (v := (-4)) hx hb hr (fun t ht hW => ⟨⟨_, (), rfl, rfl, by show va_P g.1 vwCl _ t.heap; rw [ht]; exact hP⟩, hS.F ht⟩) hS.2.2 dX5_filled_148 hlocks
                · replace hf := (if_neg c_17).symm.trans hf
                  refine lv_tableOut (tgt := 149) hx hb dX5_filled_46 (tab_out5 c_10 c_11 c_12 c_13 c_17) (by decide) ?_
                  refine lv_iconst (v := (-1)) hx hb dX5_filled_149 (by decide) ?_
                  replace hf := Option.some.inj hf
                  subst hf
                  exact W.iret (v := (-1)) hx hb hr (fun t ht hW => ⟨⟨_, (), rfl, rfl, by show va_P g.1 vwCl _ t.heap; rw [ht]; exact hP⟩, hS.F ht⟩) hS.2.2 dX5_filled_150 hlocks
      · replace hf := (if_pos c_6).symm.trans hf
        refine lv_iconst (v := (-1)) hx hb dX5_filled_16 (by decide) ?_
        replace hf := Option.some.inj hf
        subst hf
        exact W.iret (v := (-1)) hx hb hr (fun t ht hW => ⟨⟨_, (), rfl, rfl, by show va_P g.1 vwCl _ t.heap; rw [ht]; exact hP⟩, hS.F ht⟩) hS.2.2 dX5_filled_17 hlocks
  exact hgo s.heap [] rfl rfl hP hS

set_option maxHeartbeats 4000000 in
set_option maxRecDepth 100000 in
theorem c5_tried (l : Launch) (g : gG) (t_p : Nat) (t_p_text : Nat) (t_p_plan : Nat) (t_p_draft : Nat) (t_p_states : Nat) (t_sa : (Nat → Nat)) (t_at : Int32) (t_undoable : Int32) (t_p_shots : Nat) (t_ha : (Nat → Nat)) (t_p_trial : Nat) (n_cavities : Int32) (n_p_volumes : Nat) (n_volumes : (Nat → Int32)) (n_p_drags : Nat) (n_drags : (Nat → Int32)) (n_p_freezes : Nat) (n_freezes : (Nat → Int32)) (n_cores : Int32) (n_p_ahead : Nat) (n_ahead : (Nat → Int32)) (n_stages : Int32) (n_p_places : Nat) (n_places : (Nat → Int32)) (n_p_speeds : Nat) (n_speeds : (Nat → Int32)) (n_p_settings : Nat) (n_settings : (Nat → Int32)) (s_p_drags : Nat) (s_drags : (Nat → Int32)) (s_p_speeds : Nat) (s_speeds : (Nat → Int32)) (s_p_settings : Nat) (s_settings : (Nat → Int32)) (s_shut : Int32) (s_coresIn : Int32) (s_loaded : Int32) (s_hot : Int32) (s_made : Int32) (s_width : Int32) (s_p_taught : Nat) (r_p_has : Nat) (r_has : (Nat → Int32)) (r_p_firstAt : Nat) (r_firstAt : (Nat → Int32)) (r_p_fullAt : Nat) (r_fullAt : (Nat → Int32)) (r_p_pressures : Nat) (r_pressures : (Nat → Int32)) (r_place : Int32) (r_fillTicks : Int32) (r_ticks : Int32) (r_coolTicks : Int32) (r_why : Int32) (l1 : Int32) (l2 : Int32) (sz : Nat) (N : Nat) (res : (Int32 × (Nat → Int32) × (Nat → Int32) × (Nat → Int32) × (Nat → Int32) × Int32 × Int32 × Int32 × Int32 × Int32)) (hf : f5_tried N l1 l2 n_cavities n_volumes n_freezes n_stages n_places s_drags s_speeds s_settings r_has r_firstAt r_fullAt r_pressures r_place r_fillTicks r_ticks r_coolTicks r_why = some res) : Met l yX5_tried wsX5_tried ({ frames := 4, cells := 0, slots := 0, locals := 101 }) (pP g [.ref t_p, .int l1, .int l2] sz (fl [wk5 g t_p t_p_text t_p_plan t_p_draft t_p_states (fun i => some (t_sa i)) t_at t_undoable (t_sa (Int32.toNatClampNeg t_at)) t_p_shots (fun i => some (t_ha i)) t_p_trial, wk1 g t_p_plan n_cavities n_p_volumes n_volumes n_p_drags n_drags n_p_freezes n_freezes n_cores n_p_ahead n_ahead n_stages n_p_places n_places n_p_speeds n_speeds n_p_settings n_settings, wk3 g (t_sa (Int32.toNatClampNeg t_at)) s_p_drags s_drags s_p_speeds s_speeds s_p_settings s_settings s_shut s_coresIn s_loaded s_hot s_made s_width s_p_taught, wk2 g t_p_trial r_p_has r_has r_p_firstAt r_firstAt r_p_fullAt r_fullAt r_p_pressures r_pressures r_place r_fillTicks r_ticks r_coolTicks r_why])) (pQi g (fun r => r = res.1) (fl [wk5 g t_p t_p_text t_p_plan t_p_draft t_p_states (fun i => some (t_sa i)) t_at t_undoable (t_sa (Int32.toNatClampNeg t_at)) t_p_shots (fun i => some (t_ha i)) t_p_trial, wk1 g t_p_plan n_cavities n_p_volumes n_volumes n_p_drags n_drags n_p_freezes n_freezes n_cores n_p_ahead n_ahead n_stages n_p_places n_places n_p_speeds n_speeds n_p_settings n_settings, wk3 g (t_sa (Int32.toNatClampNeg t_at)) s_p_drags s_drags s_p_speeds s_speeds s_p_settings s_settings s_shut s_coresIn s_loaded s_hot s_made s_width s_p_taught, wk2 g t_p_trial r_p_has res.2.1 r_p_firstAt res.2.2.1 r_p_fullAt res.2.2.2.1 r_p_pressures res.2.2.2.2.1 res.2.2.2.2.2.1 res.2.2.2.2.2.2.1 res.2.2.2.2.2.2.2.1 res.2.2.2.2.2.2.2.2.1 res.2.2.2.2.2.2.2.2.2]) (va_A (fl [wk5 g t_p t_p_text t_p_plan t_p_draft t_p_states (fun i => some (t_sa i)) t_at t_undoable (t_sa (Int32.toNatClampNeg t_at)) t_p_shots (fun i => some (t_ha i)) t_p_trial, wk1 g t_p_plan n_cavities n_p_volumes n_volumes n_p_drags n_drags n_p_freezes n_freezes n_cores n_p_ahead n_ahead n_stages n_p_places n_places n_p_speeds n_speeds n_p_settings n_settings, wk3 g (t_sa (Int32.toNatClampNeg t_at)) s_p_drags s_drags s_p_speeds s_speeds s_p_settings s_settings s_shut s_coresIn s_loaded s_hot s_made s_width s_p_taught, wk2 g t_p_trial r_p_has r_has r_p_firstAt r_firstAt r_p_fullAt r_fullAt r_p_pressures r_pressures r_place r_fillTicks r_ticks r_coolTicks r_why]) sz)) 0 0 (va_A (fl [wk5 g t_p t_p_text t_p_plan t_p_draft t_p_states (fun i => some (t_sa i)) t_at t_undoable (t_sa (Int32.toNatClampNeg t_at)) t_p_shots (fun i => some (t_ha i)) t_p_trial, wk1 g t_p_plan n_cavities n_p_volumes n_volumes n_p_drags n_drags n_p_freezes n_freezes n_cores n_p_ahead n_ahead n_stages n_p_places n_places n_p_speeds n_speeds n_p_settings n_settings, wk3 g (t_sa (Int32.toNatClampNeg t_at)) s_p_drags s_drags s_p_speeds s_speeds s_p_settings s_settings s_shut s_coresIn s_loaded s_hot s_made s_width s_p_taught, wk2 g t_p_trial r_p_has r_has r_p_firstAt r_firstAt r_p_fullAt r_fullAt r_p_pressures r_pressures r_place r_fillTicks r_ticks r_coolTicks r_why]) sz) := by
  refine Met.ofW (cc := cX5_tried) (maxL := 3) (ret := (some .int)) (by decide) rfl ?_
  intro p e s m args below meth c s₁ B hml hv
  obtain ⟨rfl, hsz, hP, hK, hD0, hG⟩ := hv
  have hx := B.exec
  have hb := B.bytes
  have hr := B.returns
  have hts := atoms_spec (ws := wsX5_tried) B.pre
  have hown : s.vm.findClass RX5 = some m.cls := findClass_of_methodNamed B.named
  have hlocks := B.notSynchronized
  subst hsz
  have hD := hD0.self (sz := s.heap.size)
  generalize hAe : va_A (fl [wk5 g t_p t_p_text t_p_plan t_p_draft t_p_states (fun i => some (t_sa i)) t_at t_undoable (t_sa (Int32.toNatClampNeg t_at)) t_p_shots (fun i => some (t_ha i)) t_p_trial, wk1 g t_p_plan n_cavities n_p_volumes n_volumes n_p_drags n_drags n_p_freezes n_freezes n_cores n_p_ahead n_ahead n_stages n_p_places n_places n_p_speeds n_speeds n_p_settings n_settings, wk3 g (t_sa (Int32.toNatClampNeg t_at)) s_p_drags s_drags s_p_speeds s_speeds s_p_settings s_settings s_shut s_coresIn s_loaded s_hot s_made s_width s_p_taught, wk2 g t_p_trial r_p_has r_has r_p_firstAt r_firstAt r_p_fullAt r_fullAt r_p_pressures r_pressures r_place r_fillTicks r_ticks r_coolTicks r_why]) s.heap.size = A at hD hG ⊢
  have hA : ∀ q : Nat, s.heap.size ≤ q → A q := fun q h => by rw [← hAe]; exact Or.inr h
  have hS : va_S A s.heap s.heap [] := va_S.rf
  have hin5 : ∀ w ∈ u_ws RX5 TX5 9, w ∈ wsX5_tried := by decide +kernel
  have L1 := hts (Cond.fieldLink RX5 51 "MouldShots" "trial" "LMouldShots$Shot;") (by decide +kernel)
  have L2 := hts (Cond.fieldLink RX5 19 "MouldShots" "plan" "LMouldShots$Plan;") (by decide +kernel)
  have L3 := hts (Cond.fieldLink RX5 40 "MouldShots" "now" "LMouldShots$State;") (by decide +kernel)
  have L4 := hts (Cond.initialized RX2) (by decide +kernel)
  have L5 := hts (Cond.instanceMethod yX2_make) (by decide +kernel)
  have L6 := hts (Cond.selects RX2 yX2_make yX2_make) (by decide +kernel)
  have L7 := hts (Cond.instanceMethod yX2_told) (by decide +kernel)
  have L8 := hts (Cond.selects RX2 yX2_told yX2_told) (by decide +kernel)
  have hl := lv_entry ([.ref t_p, .int l1, .int l2]) (n := 3) (Nat.le_of_ble_eq_true rfl)
  rw [lg_entry_eq]
  generalize (lg_sl ([.ref t_p, .int l1, .int l2]) ++ List.replicate (3 - (lg_sl ([.ref t_p, .int l1, .int l2])).length) Slot.unset).toArray = ls at hl ⊢
  replace hl : lv_has ls 3 [(0, .ref t_p), (1, .int l1), (2, .int l2)] := hl
  rw [f5_tried] at hf
  have hgo : ∀ (H : Heap) (locs : List Loc), H = s.heap → locs = [] → va_P g.1 vwCl (fl [wk5 g t_p t_p_text t_p_plan t_p_draft t_p_states (fun i => some (t_sa i)) t_at t_undoable (t_sa (Int32.toNatClampNeg t_at)) t_p_shots (fun i => some (t_ha i)) t_p_trial, wk1 g t_p_plan n_cavities n_p_volumes n_volumes n_p_drags n_drags n_p_freezes n_freezes n_cores n_p_ahead n_ahead n_stages n_p_places n_places n_p_speeds n_speeds n_p_settings n_settings, wk3 g (t_sa (Int32.toNatClampNeg t_at)) s_p_drags s_drags s_p_speeds s_speeds s_p_settings s_settings s_shut s_coresIn s_loaded s_hot s_made s_width s_p_taught, wk2 g t_p_trial r_p_has r_has r_p_firstAt r_firstAt r_p_fullAt r_fullAt r_p_pressures r_pressures r_place r_fillTicks r_ticks r_coolTicks r_why]) H → va_S A s.heap H locs → W p l e ({ frames := 4, cells := 0, slots := 0, locals := 101 }) s m ([.ref t_p, .int l1, .int l2] : List Value).toArray below meth c H locs 0 0 (MQ below (pQi g (fun r => r = res.1) (fl [wk5 g t_p t_p_text t_p_plan t_p_draft t_p_states (fun i => some (t_sa i)) t_at t_undoable (t_sa (Int32.toNatClampNeg t_at)) t_p_shots (fun i => some (t_ha i)) t_p_trial, wk1 g t_p_plan n_cavities n_p_volumes n_volumes n_p_drags n_drags n_p_freezes n_freezes n_cores n_p_ahead n_ahead n_stages n_p_places n_places n_p_speeds n_speeds n_p_settings n_settings, wk3 g (t_sa (Int32.toNatClampNeg t_at)) s_p_drags s_drags s_p_speeds s_speeds s_p_settings s_settings s_shut s_coresIn s_loaded s_hot s_made s_width s_p_taught, wk2 g t_p_trial r_p_has res.2.1 r_p_firstAt res.2.2.1 r_p_fullAt res.2.2.2.1 r_p_pressures res.2.2.2.2.1 res.2.2.2.2.2.1 res.2.2.2.2.2.2.1 res.2.2.2.2.2.2.2.1 res.2.2.2.2.2.2.2.2.1 res.2.2.2.2.2.2.2.2.2]) A) ([.ref t_p, .int l1, .int l2] : List Value).toArray s 0 0 A) (F0 m 0 ls []) := by
    intro H locs hH hL hP hS
    refine lv_iload_n hx hb dX5_tried_0 rfl (lv_at hl 1 rfl) ?_
    refine lv_bipush (v := (-8)) hx hb dX5_tried_1 (by decide) ?_
    refine lv_icmp_lt (tgt := 22) hx hb dX5_tried_3 (by decide) (fun c_1 => ?_) (fun c_1 => ?_)
    · replace hf := (if_pos c_1).symm.trans hf
      refine lv_iconst (v := (-1)) hx hb dX5_tried_22 (by decide) ?_
      replace hf := Option.some.inj hf
      subst hf
      exact W.iret (v := (-1)) hx hb hr (fun t ht hW => ⟨⟨_, (), rfl, rfl, by show va_P g.1 vwCl _ t.heap; rw [ht]; exact hP⟩, hS.F ht⟩) hS.2.2 dX5_tried_23 hlocks
    · replace hf := (if_neg c_1).symm.trans hf
      refine lv_iload_n hx hb dX5_tried_6 rfl (lv_at hl 1 rfl) ?_
      refine lv_bipush (v := 8) hx hb dX5_tried_7 (by decide) ?_
      refine lv_icmp_gt (tgt := 22) hx hb dX5_tried_9 (by decide) (fun c_2 => ?_) (fun c_2 => ?_)
      · replace hf := (if_pos c_2).symm.trans hf
        refine lv_iconst (v := (-1)) hx hb dX5_tried_22 (by decide) ?_
        replace hf := Option.some.inj hf
        subst hf
        exact W.iret (v := (-1)) hx hb hr (fun t ht hW => ⟨⟨_, (), rfl, rfl, by show va_P g.1 vwCl _ t.heap; rw [ht]; exact hP⟩, hS.F ht⟩) hS.2.2 dX5_tried_23 hlocks
      · replace hf := (if_neg c_2).symm.trans hf
        refine lv_iload_n hx hb dX5_tried_12 rfl (lv_at hl 2 rfl) ?_
        refine lv_if_lt (tgt := 22) hx hb dX5_tried_13 (by decide) (fun c_3 => ?_) (fun c_3 => ?_)
        · replace hf := (if_pos c_3).symm.trans hf
          refine lv_iconst (v := (-1)) hx hb dX5_tried_22 (by decide) ?_
          replace hf := Option.some.inj hf
          subst hf
          exact W.iret (v := (-1)) hx hb hr (fun t ht hW => ⟨⟨_, (), rfl, rfl, by show va_P g.1 vwCl _ t.heap; rw [ht]; exact hP⟩, hS.F ht⟩) hS.2.2 dX5_tried_23 hlocks
        · replace hf := (if_neg c_3).symm.trans hf
          refine lv_iload_n hx hb dX5_tried_16 rfl (lv_at hl 2 rfl) ?_
          refine lv_bipush (v := 6) hx hb dX5_tried_17 (by decide) ?_
          refine lv_icmp_le (tgt := 24) hx hb dX5_tried_19 (by decide) (fun c_4 => ?_) (fun c_4 => ?_)
          · replace hf := (if_pos c_4).symm.trans hf
            refine lv_aload_n hx hb dX5_tried_24 rfl (lv_at hl 0 rfl) ?_
            refine va_get (D := g.1) (ci := 5) (v := .ref t_p_trial) (C := RX5) (T := TX5) (N := 9) hx hb hts hin5 hown hK.1 hP 0 rfl rfl 8 (by decide) L1 (fun _ h9 => h9) rfl dX5_tried_25 ?_
            refine lv_aload_n hx hb dX5_tried_28 rfl (lv_at hl 0 rfl) ?_
            refine va_get (D := g.1) (ci := 5) (v := .ref t_p_plan) (C := RX5) (T := TX5) (N := 9) hx hb hts hin5 hown hK.1 hP 0 rfl rfl 1 (by decide) L2 (fun _ h9 => h9) rfl dX5_tried_29 ?_
            refine lv_aload_n hx hb dX5_tried_32 rfl (lv_at hl 0 rfl) ?_
            refine va_get (D := g.1) (ci := 5) (v := .ref (t_sa (Int32.toNatClampNeg t_at))) (C := RX5) (T := TX5) (N := 9) hx hb hts hin5 hown hK.1 hP 0 rfl rfl 6 (by decide) L3 (fun _ h9 => h9) rfl dX5_tried_33 ?_
            refine lv_iload_n hx hb dX5_tried_36 rfl (lv_at hl 1 rfl) ?_
            obtain ⟨q_5, hq_5, hf⟩ := bd_some hf
            refine bft_v (bn := [wk5 g t_p t_p_text t_p_plan t_p_draft t_p_states (fun i => some (t_sa i)) t_at t_undoable (t_sa (Int32.toNatClampNeg t_at)) t_p_shots (fun i => some (t_ha i)) t_p_trial, wk1 g t_p_plan n_cavities n_p_volumes n_volumes n_p_drags n_drags n_p_freezes n_freezes n_cores n_p_ahead n_ahead n_stages n_p_places n_places n_p_speeds n_speeds n_p_settings n_settings, wk3 g (t_sa (Int32.toNatClampNeg t_at)) s_p_drags s_drags s_p_speeds s_speeds s_p_settings s_settings s_shut s_coresIn s_loaded s_hot s_made s_width s_p_taught, wk2 g t_p_trial r_p_has q_5.1 r_p_firstAt q_5.2.1 r_p_fullAt q_5.2.2.1 r_p_pressures q_5.2.2.2.1 q_5.2.2.2.2.1 q_5.2.2.2.2.2.1 q_5.2.2.2.2.2.2.1 q_5.2.2.2.2.2.2.2.1 q_5.2.2.2.2.2.2.2.2]) (L := [[t_p_trial, r_p_has, r_p_firstAt, r_p_fullAt, r_p_pressures], [t_p_plan, n_p_volumes, n_p_drags, n_p_freezes, n_p_ahead, n_p_places, n_p_speeds, n_p_settings], [(t_sa (Int32.toNatClampNeg t_at)), s_p_drags, s_p_speeds, s_p_settings]]) (va_runVN (As := [.ref t_p_plan, .ref (t_sa (Int32.toNatClampNeg t_at)), .int l1]) (rest := []) ⟨hx, hb, hml, hown, hts⟩ (c2_make l g t_p_trial r_p_has r_has r_p_firstAt r_firstAt r_p_fullAt r_fullAt r_p_pressures r_pressures r_place r_fillTicks r_ticks r_coolTicks r_why t_p_plan n_cavities n_p_volumes n_volumes n_p_drags n_drags n_p_freezes n_freezes n_cores n_p_ahead n_ahead n_stages n_p_places n_places n_p_speeds n_speeds n_p_settings n_settings (t_sa (Int32.toNatClampNeg t_at)) s_p_drags s_drags s_p_speeds s_speeds s_p_settings s_settings s_shut s_coresIn s_loaded s_hot s_made s_width s_p_taught l1 H.size N q_5 hq_5) ⟨va_cnB 3 hts gX5_tried_X2_make_n175 rfl rfl rfl (hK.nw _ 45 rfl) L4 ⟨nh2.1, nh2.2, pd_10⟩ ⟨Nat.le_of_ble_eq_true rfl, Nat.le_of_ble_eq_true rfl⟩, L5, L6⟩ (qPV hK hG hP hD hS hA [3, 1, 2] (by decide) rfl (va_recv hK.1 hP (ci := 2) (q0 := 15) rfl rfl)) rfl rfl hl.1 rfl (lv_room (Nat.le_of_ble_eq_true rfl)) dX5_tried_37 ⟨Nat.zero_le _, Nat.zero_le _⟩) hP hD hS hA [3, 1, 2] rfl rfl rfl rfl (fun H locs hP hD hS => ?_)
            refine lv_aload_n hx hb dX5_tried_40 rfl (lv_at hl 0 rfl) ?_
            refine va_get (D := g.1) (ci := 5) (v := .ref t_p_trial) (C := RX5) (T := TX5) (N := 9) hx hb hts hin5 hown hK.1 hP 0 rfl rfl 8 (by decide) L1 (fun _ h9 => h9) rfl dX5_tried_41 ?_
            refine lv_iload_n hx hb dX5_tried_44 rfl (lv_at hl 2 rfl) ?_
            obtain ⟨q_6, hq_6, hf⟩ := bd_some hf
            refine bft_i (bn := [wk5 g t_p t_p_text t_p_plan t_p_draft t_p_states (fun i => some (t_sa i)) t_at t_undoable (t_sa (Int32.toNatClampNeg t_at)) t_p_shots (fun i => some (t_ha i)) t_p_trial, wk1 g t_p_plan n_cavities n_p_volumes n_volumes n_p_drags n_drags n_p_freezes n_freezes n_cores n_p_ahead n_ahead n_stages n_p_places n_places n_p_speeds n_speeds n_p_settings n_settings, wk3 g (t_sa (Int32.toNatClampNeg t_at)) s_p_drags s_drags s_p_speeds s_speeds s_p_settings s_settings s_shut s_coresIn s_loaded s_hot s_made s_width s_p_taught, wk2 g t_p_trial r_p_has q_5.1 r_p_firstAt q_5.2.1 r_p_fullAt q_5.2.2.1 r_p_pressures q_5.2.2.2.1 q_5.2.2.2.2.1 q_5.2.2.2.2.2.1 q_5.2.2.2.2.2.2.1 q_5.2.2.2.2.2.2.2.1 q_5.2.2.2.2.2.2.2.2]) (L := [[t_p_trial, r_p_has, r_p_firstAt, r_p_fullAt, r_p_pressures]]) (va_runVN (As := [.int l2]) (rest := []) ⟨hx, hb, hml, hown, hts⟩ (c2_told l g t_p_trial r_p_has q_5.1 r_p_firstAt q_5.2.1 r_p_fullAt q_5.2.2.1 r_p_pressures q_5.2.2.2.1 q_5.2.2.2.2.1 q_5.2.2.2.2.2.1 q_5.2.2.2.2.2.2.1 q_5.2.2.2.2.2.2.2.1 q_5.2.2.2.2.2.2.2.2 l2 H.size N q_6 hq_6) ⟨va_cnB 1 hts gX5_tried_X2_told_n245 rfl rfl rfl (hK.nw _ 53 rfl) L4 ⟨nh2.1, nh2.2, pd_2⟩ ⟨Nat.le_of_ble_eq_true rfl, Nat.le_of_ble_eq_true rfl⟩, L7, L8⟩ (qPV hK hG hP hD hS hA [3] (by decide) rfl (va_recv hK.1 hP (ci := 2) (q0 := 15) rfl rfl)) rfl rfl hl.1 rfl (lv_room (Nat.le_of_ble_eq_true rfl)) dX5_tried_45 ⟨Nat.zero_le _, Nat.zero_le _⟩) hP hD hS hA [3] rfl rfl rfl rfl (fun r_7 H locs hw hP hD hS => ?_)
            replace hw := hw.symm
            subst hw
            replace hf := Option.some.inj hf
            subst hf
            exact W.iret (v := q_6) hx hb hr (fun t ht hW => ⟨⟨_, (), rfl, rfl, by show va_P g.1 vwCl _ t.heap; rw [ht]; exact hP⟩, hS.F ht⟩) hS.2.2 dX5_tried_48 hlocks
          · replace hf := (if_neg c_4).symm.trans hf
            refine lv_iconst (v := (-1)) hx hb dX5_tried_22 (by decide) ?_
            replace hf := Option.some.inj hf
            subst hf
            exact W.iret (v := (-1)) hx hb hr (fun t ht hW => ⟨⟨_, (), rfl, rfl, by show va_P g.1 vwCl _ t.heap; rw [ht]; exact hP⟩, hS.F ht⟩) hS.2.2 dX5_tried_23 hlocks
  exact hgo s.heap [] rfl rfl hP hS

set_option maxHeartbeats 4000000 in
set_option maxRecDepth 100000 in
theorem c5_balanceWith (l : Launch) (g : gG) (t_p : Nat) (t_p_text : Nat) (t_p_plan : Nat) (t_p_draft : Nat) (t_p_states : Nat) (t_sa : (Nat → Nat)) (t_at : Int32) (t_undoable : Int32) (t_p_shots : Nat) (t_ha : (Nat → Nat)) (t_p_trial : Nat) (n_cavities : Int32) (n_p_volumes : Nat) (n_volumes : (Nat → Int32)) (n_p_drags : Nat) (n_drags : (Nat → Int32)) (n_p_freezes : Nat) (n_freezes : (Nat → Int32)) (n_cores : Int32) (n_p_ahead : Nat) (n_ahead : (Nat → Int32)) (n_stages : Int32) (n_p_places : Nat) (n_places : (Nat → Int32)) (n_p_speeds : Nat) (n_speeds : (Nat → Int32)) (n_p_settings : Nat) (n_settings : (Nat → Int32)) (s_p_drags : Nat) (s_drags : (Nat → Int32)) (s_p_speeds : Nat) (s_speeds : (Nat → Int32)) (s_p_settings : Nat) (s_settings : (Nat → Int32)) (s_shut : Int32) (s_coresIn : Int32) (s_loaded : Int32) (s_hot : Int32) (s_made : Int32) (s_width : Int32) (s_p_taught : Nat) (r_p_has : Nat) (r_has : (Nat → Int32)) (r_p_firstAt : Nat) (r_firstAt : (Nat → Int32)) (r_p_fullAt : Nat) (r_fullAt : (Nat → Int32)) (r_p_pressures : Nat) (r_pressures : (Nat → Int32)) (r_place : Int32) (r_fillTicks : Int32) (r_ticks : Int32) (r_coolTicks : Int32) (r_why : Int32) (l1 : Int32) (sz : Nat) (N : Nat) (res : (Int32 × (Nat → Int32) × (Nat → Int32) × (Nat → Int32) × (Nat → Int32) × Int32 × Int32 × Int32 × Int32 × Int32)) (hf : f5_balanceWith N l1 n_cavities n_volumes n_freezes n_stages n_places s_drags s_speeds s_settings r_has r_firstAt r_fullAt r_pressures = some res) : Met l yX5_balanceWith wsX5_balanceWith ({ frames := 4, cells := 0, slots := 0, locals := 101 }) (pP g [.ref t_p, .int l1] sz (fl [wk5 g t_p t_p_text t_p_plan t_p_draft t_p_states (fun i => some (t_sa i)) t_at t_undoable (t_sa (Int32.toNatClampNeg t_at)) t_p_shots (fun i => some (t_ha i)) t_p_trial, wk1 g t_p_plan n_cavities n_p_volumes n_volumes n_p_drags n_drags n_p_freezes n_freezes n_cores n_p_ahead n_ahead n_stages n_p_places n_places n_p_speeds n_speeds n_p_settings n_settings, wk3 g (t_sa (Int32.toNatClampNeg t_at)) s_p_drags s_drags s_p_speeds s_speeds s_p_settings s_settings s_shut s_coresIn s_loaded s_hot s_made s_width s_p_taught, wk2 g t_p_trial r_p_has r_has r_p_firstAt r_firstAt r_p_fullAt r_fullAt r_p_pressures r_pressures r_place r_fillTicks r_ticks r_coolTicks r_why])) (pQi g (fun r => r = res.1) (fl [wk5 g t_p t_p_text t_p_plan t_p_draft t_p_states (fun i => some (t_sa i)) t_at t_undoable (t_sa (Int32.toNatClampNeg t_at)) t_p_shots (fun i => some (t_ha i)) t_p_trial, wk1 g t_p_plan n_cavities n_p_volumes n_volumes n_p_drags n_drags n_p_freezes n_freezes n_cores n_p_ahead n_ahead n_stages n_p_places n_places n_p_speeds n_speeds n_p_settings n_settings, wk3 g (t_sa (Int32.toNatClampNeg t_at)) s_p_drags s_drags s_p_speeds s_speeds s_p_settings s_settings s_shut s_coresIn s_loaded s_hot s_made s_width s_p_taught, wk2 g t_p_trial r_p_has res.2.1 r_p_firstAt res.2.2.1 r_p_fullAt res.2.2.2.1 r_p_pressures res.2.2.2.2.1 res.2.2.2.2.2.1 res.2.2.2.2.2.2.1 res.2.2.2.2.2.2.2.1 res.2.2.2.2.2.2.2.2.1 res.2.2.2.2.2.2.2.2.2]) (va_A (fl [wk5 g t_p t_p_text t_p_plan t_p_draft t_p_states (fun i => some (t_sa i)) t_at t_undoable (t_sa (Int32.toNatClampNeg t_at)) t_p_shots (fun i => some (t_ha i)) t_p_trial, wk1 g t_p_plan n_cavities n_p_volumes n_volumes n_p_drags n_drags n_p_freezes n_freezes n_cores n_p_ahead n_ahead n_stages n_p_places n_places n_p_speeds n_speeds n_p_settings n_settings, wk3 g (t_sa (Int32.toNatClampNeg t_at)) s_p_drags s_drags s_p_speeds s_speeds s_p_settings s_settings s_shut s_coresIn s_loaded s_hot s_made s_width s_p_taught, wk2 g t_p_trial r_p_has r_has r_p_firstAt r_firstAt r_p_fullAt r_fullAt r_p_pressures r_pressures r_place r_fillTicks r_ticks r_coolTicks r_why]) sz)) 0 0 (va_A (fl [wk5 g t_p t_p_text t_p_plan t_p_draft t_p_states (fun i => some (t_sa i)) t_at t_undoable (t_sa (Int32.toNatClampNeg t_at)) t_p_shots (fun i => some (t_ha i)) t_p_trial, wk1 g t_p_plan n_cavities n_p_volumes n_volumes n_p_drags n_drags n_p_freezes n_freezes n_cores n_p_ahead n_ahead n_stages n_p_places n_places n_p_speeds n_speeds n_p_settings n_settings, wk3 g (t_sa (Int32.toNatClampNeg t_at)) s_p_drags s_drags s_p_speeds s_speeds s_p_settings s_settings s_shut s_coresIn s_loaded s_hot s_made s_width s_p_taught, wk2 g t_p_trial r_p_has r_has r_p_firstAt r_firstAt r_p_fullAt r_fullAt r_p_pressures r_pressures r_place r_fillTicks r_ticks r_coolTicks r_why]) sz) := by
  refine Met.ofW (cc := cX5_balanceWith) (maxL := 2) (ret := (some .int)) (by decide) rfl ?_
  intro p e s m args below meth c s₁ B hml hv
  obtain ⟨rfl, hsz, hP, hK, hD0, hG⟩ := hv
  have hx := B.exec
  have hb := B.bytes
  have hr := B.returns
  have hts := atoms_spec (ws := wsX5_balanceWith) B.pre
  have hown : s.vm.findClass RX5 = some m.cls := findClass_of_methodNamed B.named
  have hlocks := B.notSynchronized
  subst hsz
  have hD := hD0.self (sz := s.heap.size)
  generalize hAe : va_A (fl [wk5 g t_p t_p_text t_p_plan t_p_draft t_p_states (fun i => some (t_sa i)) t_at t_undoable (t_sa (Int32.toNatClampNeg t_at)) t_p_shots (fun i => some (t_ha i)) t_p_trial, wk1 g t_p_plan n_cavities n_p_volumes n_volumes n_p_drags n_drags n_p_freezes n_freezes n_cores n_p_ahead n_ahead n_stages n_p_places n_places n_p_speeds n_speeds n_p_settings n_settings, wk3 g (t_sa (Int32.toNatClampNeg t_at)) s_p_drags s_drags s_p_speeds s_speeds s_p_settings s_settings s_shut s_coresIn s_loaded s_hot s_made s_width s_p_taught, wk2 g t_p_trial r_p_has r_has r_p_firstAt r_firstAt r_p_fullAt r_fullAt r_p_pressures r_pressures r_place r_fillTicks r_ticks r_coolTicks r_why]) s.heap.size = A at hD hG ⊢
  have hA : ∀ q : Nat, s.heap.size ≤ q → A q := fun q h => by rw [← hAe]; exact Or.inr h
  have hS : va_S A s.heap s.heap [] := va_S.rf
  have hin5 : ∀ w ∈ u_ws RX5 TX5 9, w ∈ wsX5_balanceWith := by decide +kernel
  have L1 := hts (Cond.fieldLink RX5 51 "MouldShots" "trial" "LMouldShots$Shot;") (by decide +kernel)
  have L2 := hts (Cond.fieldLink RX5 19 "MouldShots" "plan" "LMouldShots$Plan;") (by decide +kernel)
  have L3 := hts (Cond.fieldLink RX5 40 "MouldShots" "now" "LMouldShots$State;") (by decide +kernel)
  have L4 := hts (Cond.initialized RX2) (by decide +kernel)
  have L5 := hts (Cond.instanceMethod yX2_make) (by decide +kernel)
  have L6 := hts (Cond.selects RX2 yX2_make yX2_make) (by decide +kernel)
  have L7 := hts (Cond.instanceMethod yX2_balance) (by decide +kernel)
  have L8 := hts (Cond.selects RX2 yX2_balance yX2_balance) (by decide +kernel)
  have hl := lv_entry ([.ref t_p, .int l1]) (n := 2) (Nat.le_of_ble_eq_true rfl)
  rw [lg_entry_eq]
  generalize (lg_sl ([.ref t_p, .int l1]) ++ List.replicate (2 - (lg_sl ([.ref t_p, .int l1])).length) Slot.unset).toArray = ls at hl ⊢
  replace hl : lv_has ls 2 [(0, .ref t_p), (1, .int l1)] := hl
  rw [f5_balanceWith] at hf
  have hgo : ∀ (H : Heap) (locs : List Loc), H = s.heap → locs = [] → va_P g.1 vwCl (fl [wk5 g t_p t_p_text t_p_plan t_p_draft t_p_states (fun i => some (t_sa i)) t_at t_undoable (t_sa (Int32.toNatClampNeg t_at)) t_p_shots (fun i => some (t_ha i)) t_p_trial, wk1 g t_p_plan n_cavities n_p_volumes n_volumes n_p_drags n_drags n_p_freezes n_freezes n_cores n_p_ahead n_ahead n_stages n_p_places n_places n_p_speeds n_speeds n_p_settings n_settings, wk3 g (t_sa (Int32.toNatClampNeg t_at)) s_p_drags s_drags s_p_speeds s_speeds s_p_settings s_settings s_shut s_coresIn s_loaded s_hot s_made s_width s_p_taught, wk2 g t_p_trial r_p_has r_has r_p_firstAt r_firstAt r_p_fullAt r_fullAt r_p_pressures r_pressures r_place r_fillTicks r_ticks r_coolTicks r_why]) H → va_S A s.heap H locs → W p l e ({ frames := 4, cells := 0, slots := 0, locals := 101 }) s m ([.ref t_p, .int l1] : List Value).toArray below meth c H locs 0 0 (MQ below (pQi g (fun r => r = res.1) (fl [wk5 g t_p t_p_text t_p_plan t_p_draft t_p_states (fun i => some (t_sa i)) t_at t_undoable (t_sa (Int32.toNatClampNeg t_at)) t_p_shots (fun i => some (t_ha i)) t_p_trial, wk1 g t_p_plan n_cavities n_p_volumes n_volumes n_p_drags n_drags n_p_freezes n_freezes n_cores n_p_ahead n_ahead n_stages n_p_places n_places n_p_speeds n_speeds n_p_settings n_settings, wk3 g (t_sa (Int32.toNatClampNeg t_at)) s_p_drags s_drags s_p_speeds s_speeds s_p_settings s_settings s_shut s_coresIn s_loaded s_hot s_made s_width s_p_taught, wk2 g t_p_trial r_p_has res.2.1 r_p_firstAt res.2.2.1 r_p_fullAt res.2.2.2.1 r_p_pressures res.2.2.2.2.1 res.2.2.2.2.2.1 res.2.2.2.2.2.2.1 res.2.2.2.2.2.2.2.1 res.2.2.2.2.2.2.2.2.1 res.2.2.2.2.2.2.2.2.2]) A) ([.ref t_p, .int l1] : List Value).toArray s 0 0 A) (F0 m 0 ls []) := by
    intro H locs hH hL hP hS
    refine lv_aload_n hx hb dX5_balanceWith_0 rfl (lv_at hl 0 rfl) ?_
    refine va_get (D := g.1) (ci := 5) (v := .ref t_p_trial) (C := RX5) (T := TX5) (N := 9) hx hb hts hin5 hown hK.1 hP 0 rfl rfl 8 (by decide) L1 (fun _ h9 => h9) rfl dX5_balanceWith_1 ?_
    refine lv_aload_n hx hb dX5_balanceWith_4 rfl (lv_at hl 0 rfl) ?_
    refine va_get (D := g.1) (ci := 5) (v := .ref t_p_plan) (C := RX5) (T := TX5) (N := 9) hx hb hts hin5 hown hK.1 hP 0 rfl rfl 1 (by decide) L2 (fun _ h9 => h9) rfl dX5_balanceWith_5 ?_
    refine lv_aload_n hx hb dX5_balanceWith_8 rfl (lv_at hl 0 rfl) ?_
    refine va_get (D := g.1) (ci := 5) (v := .ref (t_sa (Int32.toNatClampNeg t_at))) (C := RX5) (T := TX5) (N := 9) hx hb hts hin5 hown hK.1 hP 0 rfl rfl 6 (by decide) L3 (fun _ h9 => h9) rfl dX5_balanceWith_9 ?_
    refine lv_iload_n hx hb dX5_balanceWith_12 rfl (lv_at hl 1 rfl) ?_
    obtain ⟨q_1, hq_1, hf⟩ := bd_some hf
    refine bft_v (bn := [wk5 g t_p t_p_text t_p_plan t_p_draft t_p_states (fun i => some (t_sa i)) t_at t_undoable (t_sa (Int32.toNatClampNeg t_at)) t_p_shots (fun i => some (t_ha i)) t_p_trial, wk1 g t_p_plan n_cavities n_p_volumes n_volumes n_p_drags n_drags n_p_freezes n_freezes n_cores n_p_ahead n_ahead n_stages n_p_places n_places n_p_speeds n_speeds n_p_settings n_settings, wk3 g (t_sa (Int32.toNatClampNeg t_at)) s_p_drags s_drags s_p_speeds s_speeds s_p_settings s_settings s_shut s_coresIn s_loaded s_hot s_made s_width s_p_taught, wk2 g t_p_trial r_p_has q_1.1 r_p_firstAt q_1.2.1 r_p_fullAt q_1.2.2.1 r_p_pressures q_1.2.2.2.1 q_1.2.2.2.2.1 q_1.2.2.2.2.2.1 q_1.2.2.2.2.2.2.1 q_1.2.2.2.2.2.2.2.1 q_1.2.2.2.2.2.2.2.2]) (L := [[t_p_trial, r_p_has, r_p_firstAt, r_p_fullAt, r_p_pressures], [t_p_plan, n_p_volumes, n_p_drags, n_p_freezes, n_p_ahead, n_p_places, n_p_speeds, n_p_settings], [(t_sa (Int32.toNatClampNeg t_at)), s_p_drags, s_p_speeds, s_p_settings]]) (va_runVN (As := [.ref t_p_plan, .ref (t_sa (Int32.toNatClampNeg t_at)), .int l1]) (rest := []) ⟨hx, hb, hml, hown, hts⟩ (c2_make l g t_p_trial r_p_has r_has r_p_firstAt r_firstAt r_p_fullAt r_fullAt r_p_pressures r_pressures r_place r_fillTicks r_ticks r_coolTicks r_why t_p_plan n_cavities n_p_volumes n_volumes n_p_drags n_drags n_p_freezes n_freezes n_cores n_p_ahead n_ahead n_stages n_p_places n_places n_p_speeds n_speeds n_p_settings n_settings (t_sa (Int32.toNatClampNeg t_at)) s_p_drags s_drags s_p_speeds s_speeds s_p_settings s_settings s_shut s_coresIn s_loaded s_hot s_made s_width s_p_taught l1 H.size N q_1 hq_1) ⟨va_cnB 3 hts gX5_balanceWith_X2_make_n175 rfl rfl rfl (hK.nw _ 45 rfl) L4 ⟨nh2.1, nh2.2, pd_10⟩ ⟨Nat.le_of_ble_eq_true rfl, Nat.le_of_ble_eq_true rfl⟩, L5, L6⟩ (qPV hK hG hP hD hS hA [3, 1, 2] (by decide) rfl (va_recv hK.1 hP (ci := 2) (q0 := 15) rfl rfl)) rfl rfl hl.1 rfl (lv_room (Nat.le_of_ble_eq_true rfl)) dX5_balanceWith_13 ⟨Nat.zero_le _, Nat.zero_le _⟩) hP hD hS hA [3, 1, 2] rfl rfl rfl rfl (fun H locs hP hD hS => ?_)
    refine lv_aload_n hx hb dX5_balanceWith_16 rfl (lv_at hl 0 rfl) ?_
    refine va_get (D := g.1) (ci := 5) (v := .ref t_p_trial) (C := RX5) (T := TX5) (N := 9) hx hb hts hin5 hown hK.1 hP 0 rfl rfl 8 (by decide) L1 (fun _ h9 => h9) rfl dX5_balanceWith_17 ?_
    obtain ⟨q_2, hq_2, hf⟩ := bd_some hf
    refine bft_i (bn := [wk5 g t_p t_p_text t_p_plan t_p_draft t_p_states (fun i => some (t_sa i)) t_at t_undoable (t_sa (Int32.toNatClampNeg t_at)) t_p_shots (fun i => some (t_ha i)) t_p_trial, wk1 g t_p_plan n_cavities n_p_volumes n_volumes n_p_drags n_drags n_p_freezes n_freezes n_cores n_p_ahead n_ahead n_stages n_p_places n_places n_p_speeds n_speeds n_p_settings n_settings, wk3 g (t_sa (Int32.toNatClampNeg t_at)) s_p_drags s_drags s_p_speeds s_speeds s_p_settings s_settings s_shut s_coresIn s_loaded s_hot s_made s_width s_p_taught, wk2 g t_p_trial r_p_has q_1.1 r_p_firstAt q_1.2.1 r_p_fullAt q_1.2.2.1 r_p_pressures q_1.2.2.2.1 q_1.2.2.2.2.1 q_1.2.2.2.2.2.1 q_1.2.2.2.2.2.2.1 q_1.2.2.2.2.2.2.2.1 q_1.2.2.2.2.2.2.2.2]) (L := [[t_p_trial, r_p_has, r_p_firstAt, r_p_fullAt, r_p_pressures]]) (va_runVN (As := []) (rest := []) ⟨hx, hb, hml, hown, hts⟩ (c2_balance l g t_p_trial r_p_has q_1.1 r_p_firstAt q_1.2.1 r_p_fullAt q_1.2.2.1 r_p_pressures q_1.2.2.2.1 q_1.2.2.2.2.1 q_1.2.2.2.2.2.1 q_1.2.2.2.2.2.2.1 q_1.2.2.2.2.2.2.2.1 q_1.2.2.2.2.2.2.2.2 H.size N q_2 hq_2) ⟨va_cnB 0 hts gX5_balanceWith_X2_balance_n282 rfl rfl rfl (hK.nw _ 56 rfl) L4 ⟨nh2.1, nh2.2, pd_12⟩ ⟨Nat.le_of_ble_eq_true rfl, Nat.le_of_ble_eq_true rfl⟩, L7, L8⟩ (qPV hK hG hP hD hS hA [3] (by decide) rfl (va_recv hK.1 hP (ci := 2) (q0 := 15) rfl rfl)) rfl rfl hl.1 rfl (lv_room (Nat.le_of_ble_eq_true rfl)) dX5_balanceWith_20 ⟨Nat.zero_le _, Nat.zero_le _⟩) hP hD hS hA [3] rfl rfl rfl rfl (fun r_3 H locs hw hP hD hS => ?_)
    replace hw := hw.symm
    subst hw
    replace hf := Option.some.inj hf
    subst hf
    exact W.iret (v := q_2) hx hb hr (fun t ht hW => ⟨⟨_, (), rfl, rfl, by show va_P g.1 vwCl _ t.heap; rw [ht]; exact hP⟩, hS.F ht⟩) hS.2.2 dX5_balanceWith_23 hlocks
  exact hgo s.heap [] rfl rfl hP hS

set_option maxHeartbeats 4000000 in
set_option maxRecDepth 100000 in
theorem c5_even (l : Launch) (g : gG) (t_p : Nat) (t_p_text : Nat) (t_p_plan : Nat) (t_p_draft : Nat) (t_p_states : Nat) (t_sa : (Nat → Nat)) (t_at : Int32) (t_undoable : Int32) (t_p_shots : Nat) (t_ha : (Nat → Nat)) (t_p_trial : Nat) (n_cavities : Int32) (n_p_volumes : Nat) (n_volumes : (Nat → Int32)) (n_p_drags : Nat) (n_drags : (Nat → Int32)) (n_p_freezes : Nat) (n_freezes : (Nat → Int32)) (n_cores : Int32) (n_p_ahead : Nat) (n_ahead : (Nat → Int32)) (n_stages : Int32) (n_p_places : Nat) (n_places : (Nat → Int32)) (n_p_speeds : Nat) (n_speeds : (Nat → Int32)) (n_p_settings : Nat) (n_settings : (Nat → Int32)) (s_p_drags : Nat) (s_drags : (Nat → Int32)) (s_p_speeds : Nat) (s_speeds : (Nat → Int32)) (s_p_settings : Nat) (s_settings : (Nat → Int32)) (s_shut : Int32) (s_coresIn : Int32) (s_loaded : Int32) (s_hot : Int32) (s_made : Int32) (s_width : Int32) (s_p_taught : Nat) (r_p_has : Nat) (r_has : (Nat → Int32)) (r_p_firstAt : Nat) (r_firstAt : (Nat → Int32)) (r_p_fullAt : Nat) (r_fullAt : (Nat → Int32)) (r_p_pressures : Nat) (r_pressures : (Nat → Int32)) (r_place : Int32) (r_fillTicks : Int32) (r_ticks : Int32) (r_coolTicks : Int32) (r_why : Int32) (l1 : Int32) (sz : Nat) (N : Nat) (res : (Int32 × (Nat → Int32) × (Nat → Int32) × (Nat → Int32) × (Nat → Int32) × Int32 × Int32 × Int32 × Int32 × Int32)) (hf : f5_even N l1 n_cavities n_volumes n_freezes n_stages n_places s_drags s_speeds s_settings r_has r_firstAt r_fullAt r_pressures r_place r_fillTicks r_ticks r_coolTicks r_why = some res) : Met l yX5_even wsX5_even ({ frames := 5, cells := 0, slots := 0, locals := 122 }) (pP g [.ref t_p, .int l1] sz (fl [wk5 g t_p t_p_text t_p_plan t_p_draft t_p_states (fun i => some (t_sa i)) t_at t_undoable (t_sa (Int32.toNatClampNeg t_at)) t_p_shots (fun i => some (t_ha i)) t_p_trial, wk1 g t_p_plan n_cavities n_p_volumes n_volumes n_p_drags n_drags n_p_freezes n_freezes n_cores n_p_ahead n_ahead n_stages n_p_places n_places n_p_speeds n_speeds n_p_settings n_settings, wk3 g (t_sa (Int32.toNatClampNeg t_at)) s_p_drags s_drags s_p_speeds s_speeds s_p_settings s_settings s_shut s_coresIn s_loaded s_hot s_made s_width s_p_taught, wk2 g t_p_trial r_p_has r_has r_p_firstAt r_firstAt r_p_fullAt r_fullAt r_p_pressures r_pressures r_place r_fillTicks r_ticks r_coolTicks r_why])) (pQi g (fun r => r = res.1) (fl [wk5 g t_p t_p_text t_p_plan t_p_draft t_p_states (fun i => some (t_sa i)) t_at t_undoable (t_sa (Int32.toNatClampNeg t_at)) t_p_shots (fun i => some (t_ha i)) t_p_trial, wk1 g t_p_plan n_cavities n_p_volumes n_volumes n_p_drags n_drags n_p_freezes n_freezes n_cores n_p_ahead n_ahead n_stages n_p_places n_places n_p_speeds n_speeds n_p_settings n_settings, wk3 g (t_sa (Int32.toNatClampNeg t_at)) s_p_drags s_drags s_p_speeds s_speeds s_p_settings s_settings s_shut s_coresIn s_loaded s_hot s_made s_width s_p_taught, wk2 g t_p_trial r_p_has res.2.1 r_p_firstAt res.2.2.1 r_p_fullAt res.2.2.2.1 r_p_pressures res.2.2.2.2.1 res.2.2.2.2.2.1 res.2.2.2.2.2.2.1 res.2.2.2.2.2.2.2.1 res.2.2.2.2.2.2.2.2.1 res.2.2.2.2.2.2.2.2.2]) (va_A (fl [wk5 g t_p t_p_text t_p_plan t_p_draft t_p_states (fun i => some (t_sa i)) t_at t_undoable (t_sa (Int32.toNatClampNeg t_at)) t_p_shots (fun i => some (t_ha i)) t_p_trial, wk1 g t_p_plan n_cavities n_p_volumes n_volumes n_p_drags n_drags n_p_freezes n_freezes n_cores n_p_ahead n_ahead n_stages n_p_places n_places n_p_speeds n_speeds n_p_settings n_settings, wk3 g (t_sa (Int32.toNatClampNeg t_at)) s_p_drags s_drags s_p_speeds s_speeds s_p_settings s_settings s_shut s_coresIn s_loaded s_hot s_made s_width s_p_taught, wk2 g t_p_trial r_p_has r_has r_p_firstAt r_firstAt r_p_fullAt r_fullAt r_p_pressures r_pressures r_place r_fillTicks r_ticks r_coolTicks r_why]) sz)) 0 0 (va_A (fl [wk5 g t_p t_p_text t_p_plan t_p_draft t_p_states (fun i => some (t_sa i)) t_at t_undoable (t_sa (Int32.toNatClampNeg t_at)) t_p_shots (fun i => some (t_ha i)) t_p_trial, wk1 g t_p_plan n_cavities n_p_volumes n_volumes n_p_drags n_drags n_p_freezes n_freezes n_cores n_p_ahead n_ahead n_stages n_p_places n_places n_p_speeds n_speeds n_p_settings n_settings, wk3 g (t_sa (Int32.toNatClampNeg t_at)) s_p_drags s_drags s_p_speeds s_speeds s_p_settings s_settings s_shut s_coresIn s_loaded s_hot s_made s_width s_p_taught, wk2 g t_p_trial r_p_has r_has r_p_firstAt r_firstAt r_p_fullAt r_fullAt r_p_pressures r_pressures r_place r_fillTicks r_ticks r_coolTicks r_why]) sz) := by
  refine Met.ofW (cc := cX5_even) (maxL := 7) (ret := (some .int)) (by decide) rfl ?_
  intro p e s m args below meth c s₁ B hml hv
  obtain ⟨rfl, hsz, hP, hK, hD0, hG⟩ := hv
  have hx := B.exec
  have hb := B.bytes
  have hr := B.returns
  have hts := atoms_spec (ws := wsX5_even) B.pre
  have hown : s.vm.findClass RX5 = some m.cls := findClass_of_methodNamed B.named
  have hlocks := B.notSynchronized
  subst hsz
  have hD := hD0.self (sz := s.heap.size)
  generalize hAe : va_A (fl [wk5 g t_p t_p_text t_p_plan t_p_draft t_p_states (fun i => some (t_sa i)) t_at t_undoable (t_sa (Int32.toNatClampNeg t_at)) t_p_shots (fun i => some (t_ha i)) t_p_trial, wk1 g t_p_plan n_cavities n_p_volumes n_volumes n_p_drags n_drags n_p_freezes n_freezes n_cores n_p_ahead n_ahead n_stages n_p_places n_places n_p_speeds n_speeds n_p_settings n_settings, wk3 g (t_sa (Int32.toNatClampNeg t_at)) s_p_drags s_drags s_p_speeds s_speeds s_p_settings s_settings s_shut s_coresIn s_loaded s_hot s_made s_width s_p_taught, wk2 g t_p_trial r_p_has r_has r_p_firstAt r_firstAt r_p_fullAt r_fullAt r_p_pressures r_pressures r_place r_fillTicks r_ticks r_coolTicks r_why]) s.heap.size = A at hD hG ⊢
  have hA : ∀ q : Nat, s.heap.size ≤ q → A q := fun q h => by rw [← hAe]; exact Or.inr h
  have hS : va_S A s.heap s.heap [] := va_S.rf
  have w_49 : ∀ (k_20 : Int32 → Int32 → Int32 → Int32 → Int32 → (Nat → Int32) → (Nat → Int32) → Int32 → (Nat → Int32) → (Nat → Int32) → (Nat → Int32) → (Nat → Int32) → (Nat → Int32) → (Nat → Int32) → (Nat → Int32) → (Nat → Int32) → Int32 → Int32 → Int32 → Int32 → Int32 → Option (Int32 × (Nat → Int32) × (Nat → Int32) × (Nat → Int32) × (Nat → Int32) × Int32 × Int32 × Int32 × Int32 × Int32)), (∀ (v1 : Int32) (v2 : Int32) (v3 : Int32) (v4 : Int32) (r_has : (Nat → Int32)) (r_firstAt : (Nat → Int32)) (r_fullAt : (Nat → Int32)) (r_pressures : (Nat → Int32)) (r_place : Int32) (r_fillTicks : Int32) (r_ticks : Int32) (r_coolTicks : Int32) (r_why : Int32) (H : Heap) (locs : List Loc) (ls : Array Slot), k_20 v1 v2 v3 v4 n_cavities n_volumes n_freezes n_stages n_places s_drags s_speeds s_settings r_has r_firstAt r_fullAt r_pressures r_place r_fillTicks r_ticks r_coolTicks r_why = some res → va_P g.1 vwCl (fl [wk5 g t_p t_p_text t_p_plan t_p_draft t_p_states (fun i => some (t_sa i)) t_at t_undoable (t_sa (Int32.toNatClampNeg t_at)) t_p_shots (fun i => some (t_ha i)) t_p_trial, wk1 g t_p_plan n_cavities n_p_volumes n_volumes n_p_drags n_drags n_p_freezes n_freezes n_cores n_p_ahead n_ahead n_stages n_p_places n_places n_p_speeds n_speeds n_p_settings n_settings, wk3 g (t_sa (Int32.toNatClampNeg t_at)) s_p_drags s_drags s_p_speeds s_speeds s_p_settings s_settings s_shut s_coresIn s_loaded s_hot s_made s_width s_p_taught, wk2 g t_p_trial r_p_has r_has r_p_firstAt r_firstAt r_p_fullAt r_fullAt r_p_pressures r_pressures r_place r_fillTicks r_ticks r_coolTicks r_why]) H → va_D A (fl [wk5 g t_p t_p_text t_p_plan t_p_draft t_p_states (fun i => some (t_sa i)) t_at t_undoable (t_sa (Int32.toNatClampNeg t_at)) t_p_shots (fun i => some (t_ha i)) t_p_trial, wk1 g t_p_plan n_cavities n_p_volumes n_volumes n_p_drags n_drags n_p_freezes n_freezes n_cores n_p_ahead n_ahead n_stages n_p_places n_places n_p_speeds n_speeds n_p_settings n_settings, wk3 g (t_sa (Int32.toNatClampNeg t_at)) s_p_drags s_drags s_p_speeds s_speeds s_p_settings s_settings s_shut s_coresIn s_loaded s_hot s_made s_width s_p_taught, wk2 g t_p_trial r_p_has r_has r_p_firstAt r_firstAt r_p_fullAt r_fullAt r_p_pressures r_pressures r_place r_fillTicks r_ticks r_coolTicks r_why]) → va_S A s.heap H locs → lv_has ls 7 [(0, .ref t_p), (1, .int v1), (2, .int v2), (3, .int v3), (4, .int v4)] → W p l e ({ frames := 5, cells := 0, slots := 0, locals := 122 }) s m ([.ref t_p, .int l1] : List Value).toArray below meth c H locs 0 0 (MQ below (pQi g (fun r => r = res.1) (fl [wk5 g t_p t_p_text t_p_plan t_p_draft t_p_states (fun i => some (t_sa i)) t_at t_undoable (t_sa (Int32.toNatClampNeg t_at)) t_p_shots (fun i => some (t_ha i)) t_p_trial, wk1 g t_p_plan n_cavities n_p_volumes n_volumes n_p_drags n_drags n_p_freezes n_freezes n_cores n_p_ahead n_ahead n_stages n_p_places n_places n_p_speeds n_speeds n_p_settings n_settings, wk3 g (t_sa (Int32.toNatClampNeg t_at)) s_p_drags s_drags s_p_speeds s_speeds s_p_settings s_settings s_shut s_coresIn s_loaded s_hot s_made s_width s_p_taught, wk2 g t_p_trial r_p_has res.2.1 r_p_firstAt res.2.2.1 r_p_fullAt res.2.2.2.1 r_p_pressures res.2.2.2.2.1 res.2.2.2.2.2.1 res.2.2.2.2.2.2.1 res.2.2.2.2.2.2.2.1 res.2.2.2.2.2.2.2.2.1 res.2.2.2.2.2.2.2.2.2]) A) ([.ref t_p, .int l1] : List Value).toArray s 0 0 A) (F0 m 20 ls [])) → ∀ (v1 : Int32) (v2 : Int32) (v3 : Int32) (v4 : Int32) (r_has : (Nat → Int32)) (r_firstAt : (Nat → Int32)) (r_fullAt : (Nat → Int32)) (r_pressures : (Nat → Int32)) (r_place : Int32) (r_fillTicks : Int32) (r_ticks : Int32) (r_coolTicks : Int32) (r_why : Int32) (H : Heap) (locs : List Loc) (ls : Array Slot), f5_even_49 k_20 N v1 v2 v3 v4 n_cavities n_volumes n_freezes n_stages n_places s_drags s_speeds s_settings r_has r_firstAt r_fullAt r_pressures = some res → va_P g.1 vwCl (fl [wk5 g t_p t_p_text t_p_plan t_p_draft t_p_states (fun i => some (t_sa i)) t_at t_undoable (t_sa (Int32.toNatClampNeg t_at)) t_p_shots (fun i => some (t_ha i)) t_p_trial, wk1 g t_p_plan n_cavities n_p_volumes n_volumes n_p_drags n_drags n_p_freezes n_freezes n_cores n_p_ahead n_ahead n_stages n_p_places n_places n_p_speeds n_speeds n_p_settings n_settings, wk3 g (t_sa (Int32.toNatClampNeg t_at)) s_p_drags s_drags s_p_speeds s_speeds s_p_settings s_settings s_shut s_coresIn s_loaded s_hot s_made s_width s_p_taught, wk2 g t_p_trial r_p_has r_has r_p_firstAt r_firstAt r_p_fullAt r_fullAt r_p_pressures r_pressures r_place r_fillTicks r_ticks r_coolTicks r_why]) H → va_D A (fl [wk5 g t_p t_p_text t_p_plan t_p_draft t_p_states (fun i => some (t_sa i)) t_at t_undoable (t_sa (Int32.toNatClampNeg t_at)) t_p_shots (fun i => some (t_ha i)) t_p_trial, wk1 g t_p_plan n_cavities n_p_volumes n_volumes n_p_drags n_drags n_p_freezes n_freezes n_cores n_p_ahead n_ahead n_stages n_p_places n_places n_p_speeds n_speeds n_p_settings n_settings, wk3 g (t_sa (Int32.toNatClampNeg t_at)) s_p_drags s_drags s_p_speeds s_speeds s_p_settings s_settings s_shut s_coresIn s_loaded s_hot s_made s_width s_p_taught, wk2 g t_p_trial r_p_has r_has r_p_firstAt r_firstAt r_p_fullAt r_fullAt r_p_pressures r_pressures r_place r_fillTicks r_ticks r_coolTicks r_why]) → va_S A s.heap H locs → lv_has ls 7 [(0, .ref t_p), (1, .int v1), (2, .int v2), (3, .int v3), (4, .int v4)] → W p l e ({ frames := 5, cells := 0, slots := 0, locals := 122 }) s m ([.ref t_p, .int l1] : List Value).toArray below meth c H locs 0 0 (MQ below (pQi g (fun r => r = res.1) (fl [wk5 g t_p t_p_text t_p_plan t_p_draft t_p_states (fun i => some (t_sa i)) t_at t_undoable (t_sa (Int32.toNatClampNeg t_at)) t_p_shots (fun i => some (t_ha i)) t_p_trial, wk1 g t_p_plan n_cavities n_p_volumes n_volumes n_p_drags n_drags n_p_freezes n_freezes n_cores n_p_ahead n_ahead n_stages n_p_places n_places n_p_speeds n_speeds n_p_settings n_settings, wk3 g (t_sa (Int32.toNatClampNeg t_at)) s_p_drags s_drags s_p_speeds s_speeds s_p_settings s_settings s_shut s_coresIn s_loaded s_hot s_made s_width s_p_taught, wk2 g t_p_trial r_p_has res.2.1 r_p_firstAt res.2.2.1 r_p_fullAt res.2.2.2.1 r_p_pressures res.2.2.2.2.1 res.2.2.2.2.2.1 res.2.2.2.2.2.2.1 res.2.2.2.2.2.2.2.1 res.2.2.2.2.2.2.2.2.1 res.2.2.2.2.2.2.2.2.2]) A) ([.ref t_p, .int l1] : List Value).toArray s 0 0 A) (F0 m 49 ls []) := by
    intro k_20 hk_20 v1 v2 v3 v4 r_has r_firstAt r_fullAt r_pressures r_place r_fillTicks r_ticks r_coolTicks r_why H locs ls hf hP hD hS hl
    rw [f5_even_49] at hf
    refine lv_aload_n hx hb dX5_even_49 rfl (lv_at hl 0 rfl) ?_
    refine lv_iload hx hb dX5_even_50 (lv_at hl 4 rfl) ?_
    obtain ⟨q_11, hq_11, hf⟩ := bd_some hf
    refine bft_i (bn := [wk5 g t_p t_p_text t_p_plan t_p_draft t_p_states (fun i => some (t_sa i)) t_at t_undoable (t_sa (Int32.toNatClampNeg t_at)) t_p_shots (fun i => some (t_ha i)) t_p_trial, wk1 g t_p_plan n_cavities n_p_volumes n_volumes n_p_drags n_drags n_p_freezes n_freezes n_cores n_p_ahead n_ahead n_stages n_p_places n_places n_p_speeds n_speeds n_p_settings n_settings, wk3 g (t_sa (Int32.toNatClampNeg t_at)) s_p_drags s_drags s_p_speeds s_speeds s_p_settings s_settings s_shut s_coresIn s_loaded s_hot s_made s_width s_p_taught, wk2 g t_p_trial r_p_has q_11.2.1 r_p_firstAt q_11.2.2.1 r_p_fullAt q_11.2.2.2.1 r_p_pressures q_11.2.2.2.2.1 q_11.2.2.2.2.2.1 q_11.2.2.2.2.2.2.1 q_11.2.2.2.2.2.2.2.1 q_11.2.2.2.2.2.2.2.2.1 q_11.2.2.2.2.2.2.2.2.2]) (L := [[t_p, t_p_states, t_p_shots], [t_p_plan, n_p_volumes, n_p_drags, n_p_freezes, n_p_ahead, n_p_places, n_p_speeds, n_p_settings], [(t_sa (Int32.toNatClampNeg t_at)), s_p_drags, s_p_speeds, s_p_settings], [t_p_trial, r_p_has, r_p_firstAt, r_p_fullAt, r_p_pressures]]) (va_runV (As := [.int v4]) (rest := []) ⟨hx, hb, hml, hown, hts⟩ (c5_balanceWith l g t_p t_p_text t_p_plan t_p_draft t_p_states t_sa t_at t_undoable t_p_shots t_ha t_p_trial n_cavities n_p_volumes n_volumes n_p_drags n_drags n_p_freezes n_freezes n_cores n_p_ahead n_ahead n_stages n_p_places n_places n_p_speeds n_speeds n_p_settings n_settings s_p_drags s_drags s_p_speeds s_speeds s_p_settings s_settings s_shut s_coresIn s_loaded s_hot s_made s_width s_p_taught r_p_has r_has r_p_firstAt r_firstAt r_p_fullAt r_fullAt r_p_pressures r_pressures r_place r_fillTicks r_ticks r_coolTicks r_why v4 H.size N q_11 hq_11) (cwV 1 hts gX5_even_X5_balanceWith rfl rfl rfl ⟨rfl, nh5.1, nh5.2, pd_2⟩ ⟨Nat.le_of_ble_eq_true rfl, Nat.le_of_ble_eq_true rfl⟩) (qPV hK hG hP hD hS hA [0, 1, 2, 3] (by decide) rfl (va_recv hK.1 hP (ci := 5) (q0 := 0) rfl rfl)) rfl rfl hl.1 rfl (lv_room (Nat.le_of_ble_eq_true rfl)) dX5_even_52 ⟨Nat.zero_le _, Nat.zero_le _⟩) hP hD hS hA [0, 1, 2, 3] rfl rfl rfl rfl (fun r_12 H locs hw hP hD hS => ?_)
    replace hw := hw.symm
    subst hw
    refine lv_istore (lv' := [(6, .int q_11.1), (0, .ref t_p), (1, .int v1), (2, .int v2), (3, .int v3), (4, .int v4)]) hx hb dX5_even_55 hl (by decide) rfl (fun ls hl => ?_)
    refine lv_iload hx hb dX5_even_57 (lv_at hl 0 rfl) ?_
    refine lv_iload_n hx hb dX5_even_59 rfl (lv_at hl 4 rfl) ?_
    refine lv_icmp_ge (tgt := 69) hx hb dX5_even_60 (by decide) (fun c_13 => ?_) (fun c_13 => ?_)
    · replace hf := (if_pos c_13).symm.trans hf
      refine lv_iinc (v := v4 + 1) (lv' := [(4, .int (v4 + 1)), (6, .int q_11.1), (0, .ref t_p), (1, .int v1), (2, .int v2), (3, .int v3)]) hx hb dX5_even_69 hl (k := 5) rfl rfl (by decide) rfl (fun ls hl => ?_)
      refine lv_goto (tgt := 20) hx hb dX5_even_72 (by decide) ?_
      exact hk_20 v1 v2 v3 (v4 + 1) q_11.2.1 q_11.2.2.1 q_11.2.2.2.1 q_11.2.2.2.2.1 q_11.2.2.2.2.2.1 q_11.2.2.2.2.2.2.1 q_11.2.2.2.2.2.2.2.1 q_11.2.2.2.2.2.2.2.2.1 q_11.2.2.2.2.2.2.2.2.2 H locs ls hf hP hD hS (lv_sub hl [2, 3, 4, 5, 0] rfl)
    · replace hf := (if_neg c_13).symm.trans hf
      refine lv_iload hx hb dX5_even_63 (lv_at hl 5 rfl) ?_
      refine lv_istore_n (lv' := [(2, .int v4), (6, .int q_11.1), (0, .ref t_p), (1, .int v1), (3, .int v3), (4, .int v4)]) hx hb dX5_even_65 rfl hl (by decide) rfl (fun ls hl => ?_)
      refine lv_iload hx hb dX5_even_66 (lv_at hl 1 rfl) ?_
      refine lv_istore_n (lv' := [(3, .int q_11.1), (2, .int v4), (6, .int q_11.1), (0, .ref t_p), (1, .int v1), (4, .int v4)]) hx hb dX5_even_68 rfl hl (by decide) rfl (fun ls hl => ?_)
      refine lv_iinc (v := v4 + 1) (lv' := [(4, .int (v4 + 1)), (3, .int q_11.1), (2, .int v4), (6, .int q_11.1), (0, .ref t_p), (1, .int v1)]) hx hb dX5_even_69 hl (k := 5) rfl rfl (by decide) rfl (fun ls hl => ?_)
      refine lv_goto (tgt := 20) hx hb dX5_even_72 (by decide) ?_
      exact hk_20 v1 v4 q_11.1 (v4 + 1) q_11.2.1 q_11.2.2.1 q_11.2.2.2.1 q_11.2.2.2.2.1 q_11.2.2.2.2.2.1 q_11.2.2.2.2.2.2.1 q_11.2.2.2.2.2.2.2.1 q_11.2.2.2.2.2.2.2.2.1 q_11.2.2.2.2.2.2.2.2.2 H locs ls hf hP hD hS (lv_sub hl [4, 5, 2, 1, 0] rfl)
  have w_20 : ∀ n : Nat, ∀ (v1 : Int32) (v2 : Int32) (v3 : Int32) (v4 : Int32) (r_has : (Nat → Int32)) (r_firstAt : (Nat → Int32)) (r_fullAt : (Nat → Int32)) (r_pressures : (Nat → Int32)) (r_place : Int32) (r_fillTicks : Int32) (r_ticks : Int32) (r_coolTicks : Int32) (r_why : Int32) (H : Heap) (locs : List Loc) (ls : Array Slot), f5_even_20  N n v1 v2 v3 v4 n_cavities n_volumes n_freezes n_stages n_places s_drags s_speeds s_settings r_has r_firstAt r_fullAt r_pressures r_place r_fillTicks r_ticks r_coolTicks r_why = some res → va_P g.1 vwCl (fl [wk5 g t_p t_p_text t_p_plan t_p_draft t_p_states (fun i => some (t_sa i)) t_at t_undoable (t_sa (Int32.toNatClampNeg t_at)) t_p_shots (fun i => some (t_ha i)) t_p_trial, wk1 g t_p_plan n_cavities n_p_volumes n_volumes n_p_drags n_drags n_p_freezes n_freezes n_cores n_p_ahead n_ahead n_stages n_p_places n_places n_p_speeds n_speeds n_p_settings n_settings, wk3 g (t_sa (Int32.toNatClampNeg t_at)) s_p_drags s_drags s_p_speeds s_speeds s_p_settings s_settings s_shut s_coresIn s_loaded s_hot s_made s_width s_p_taught, wk2 g t_p_trial r_p_has r_has r_p_firstAt r_firstAt r_p_fullAt r_fullAt r_p_pressures r_pressures r_place r_fillTicks r_ticks r_coolTicks r_why]) H → va_D A (fl [wk5 g t_p t_p_text t_p_plan t_p_draft t_p_states (fun i => some (t_sa i)) t_at t_undoable (t_sa (Int32.toNatClampNeg t_at)) t_p_shots (fun i => some (t_ha i)) t_p_trial, wk1 g t_p_plan n_cavities n_p_volumes n_volumes n_p_drags n_drags n_p_freezes n_freezes n_cores n_p_ahead n_ahead n_stages n_p_places n_places n_p_speeds n_speeds n_p_settings n_settings, wk3 g (t_sa (Int32.toNatClampNeg t_at)) s_p_drags s_drags s_p_speeds s_speeds s_p_settings s_settings s_shut s_coresIn s_loaded s_hot s_made s_width s_p_taught, wk2 g t_p_trial r_p_has r_has r_p_firstAt r_firstAt r_p_fullAt r_fullAt r_p_pressures r_pressures r_place r_fillTicks r_ticks r_coolTicks r_why]) → va_S A s.heap H locs → lv_has ls 7 [(0, .ref t_p), (1, .int v1), (2, .int v2), (3, .int v3), (4, .int v4)] → W p l e ({ frames := 5, cells := 0, slots := 0, locals := 122 }) s m ([.ref t_p, .int l1] : List Value).toArray below meth c H locs 0 0 (MQ below (pQi g (fun r => r = res.1) (fl [wk5 g t_p t_p_text t_p_plan t_p_draft t_p_states (fun i => some (t_sa i)) t_at t_undoable (t_sa (Int32.toNatClampNeg t_at)) t_p_shots (fun i => some (t_ha i)) t_p_trial, wk1 g t_p_plan n_cavities n_p_volumes n_volumes n_p_drags n_drags n_p_freezes n_freezes n_cores n_p_ahead n_ahead n_stages n_p_places n_places n_p_speeds n_speeds n_p_settings n_settings, wk3 g (t_sa (Int32.toNatClampNeg t_at)) s_p_drags s_drags s_p_speeds s_speeds s_p_settings s_settings s_shut s_coresIn s_loaded s_hot s_made s_width s_p_taught, wk2 g t_p_trial r_p_has res.2.1 r_p_firstAt res.2.2.1 r_p_fullAt res.2.2.2.1 r_p_pressures res.2.2.2.2.1 res.2.2.2.2.2.1 res.2.2.2.2.2.2.1 res.2.2.2.2.2.2.2.1 res.2.2.2.2.2.2.2.2.1 res.2.2.2.2.2.2.2.2.2]) A) ([.ref t_p, .int l1] : List Value).toArray s 0 0 A) (F0 m 20 ls []) := by
    intro  n
    induction n with
    | zero => intro v1 v2 v3 v4 r_has r_firstAt r_fullAt r_pressures r_place r_fillTicks r_ticks r_coolTicks r_why H locs ls hf; exact no_some hf
    | succ n ih =>
      intro v1 v2 v3 v4 r_has r_firstAt r_fullAt r_pressures r_place r_fillTicks r_ticks r_coolTicks r_why H locs ls hf hP hD hS hl
      rw [f5_even_20] at hf
      refine lv_iload hx hb dX5_even_20 (lv_at hl 4 rfl) ?_
      refine lv_bipush (v := 8) hx hb dX5_even_22 (by decide) ?_
      refine lv_icmp_gt (tgt := 75) hx hb dX5_even_24 (by decide) (fun c_6 => ?_) (fun c_6 => ?_)
      · replace hf := (if_pos c_6).symm.trans hf
        refine lv_iload_n hx hb dX5_even_75 rfl (lv_at hl 1 rfl) ?_
        refine lv_if_ne (tgt := 86) hx hb dX5_even_76 (by decide) (fun c_7 => ?_) (fun c_7 => ?_)
        · replace hf := (if_neg c_7).symm.trans hf
          refine lv_iload_n hx hb dX5_even_86 rfl (lv_at hl 3 rfl) ?_
          replace hf := Option.some.inj hf
          subst hf
          exact W.iret (v := v3) hx hb hr (fun t ht hW => ⟨⟨_, (), rfl, rfl, by show va_P g.1 vwCl _ t.heap; rw [ht]; exact hP⟩, hS.F ht⟩) hS.2.2 dX5_even_87 hlocks
        · replace hf := (if_pos c_7).symm.trans hf
          refine lv_iload_n hx hb dX5_even_79 rfl (lv_at hl 2 rfl) ?_
          refine lv_bipush (v := 8) hx hb dX5_even_80 (by decide) ?_
          refine lv_iadd hx hb dX5_even_82 ?_
          refine lv_goto (tgt := 87) hx hb dX5_even_83 (by decide) ?_
          replace hf := Option.some.inj hf
          subst hf
          exact W.iret (v := v2 + 8) hx hb hr (fun t ht hW => ⟨⟨_, (), rfl, rfl, by show va_P g.1 vwCl _ t.heap; rw [ht]; exact hP⟩, hS.F ht⟩) hS.2.2 dX5_even_87 hlocks
      · replace hf := (if_neg c_6).symm.trans hf
        refine lv_aload_n hx hb dX5_even_27 rfl (lv_at hl 0 rfl) ?_
        refine lv_iload hx hb dX5_even_28 (lv_at hl 4 rfl) ?_
        refine lv_ineg hx hb dX5_even_30 ?_
        obtain ⟨q_8, hq_8, hf⟩ := bd_some hf
        refine bft_i (bn := [wk5 g t_p t_p_text t_p_plan t_p_draft t_p_states (fun i => some (t_sa i)) t_at t_undoable (t_sa (Int32.toNatClampNeg t_at)) t_p_shots (fun i => some (t_ha i)) t_p_trial, wk1 g t_p_plan n_cavities n_p_volumes n_volumes n_p_drags n_drags n_p_freezes n_freezes n_cores n_p_ahead n_ahead n_stages n_p_places n_places n_p_speeds n_speeds n_p_settings n_settings, wk3 g (t_sa (Int32.toNatClampNeg t_at)) s_p_drags s_drags s_p_speeds s_speeds s_p_settings s_settings s_shut s_coresIn s_loaded s_hot s_made s_width s_p_taught, wk2 g t_p_trial r_p_has q_8.2.1 r_p_firstAt q_8.2.2.1 r_p_fullAt q_8.2.2.2.1 r_p_pressures q_8.2.2.2.2.1 q_8.2.2.2.2.2.1 q_8.2.2.2.2.2.2.1 q_8.2.2.2.2.2.2.2.1 q_8.2.2.2.2.2.2.2.2.1 q_8.2.2.2.2.2.2.2.2.2]) (L := [[t_p, t_p_states, t_p_shots], [t_p_plan, n_p_volumes, n_p_drags, n_p_freezes, n_p_ahead, n_p_places, n_p_speeds, n_p_settings], [(t_sa (Int32.toNatClampNeg t_at)), s_p_drags, s_p_speeds, s_p_settings], [t_p_trial, r_p_has, r_p_firstAt, r_p_fullAt, r_p_pressures]]) (va_runV (As := [.int (-v4)]) (rest := []) ⟨hx, hb, hml, hown, hts⟩ (c5_balanceWith l g t_p t_p_text t_p_plan t_p_draft t_p_states t_sa t_at t_undoable t_p_shots t_ha t_p_trial n_cavities n_p_volumes n_volumes n_p_drags n_drags n_p_freezes n_freezes n_cores n_p_ahead n_ahead n_stages n_p_places n_places n_p_speeds n_speeds n_p_settings n_settings s_p_drags s_drags s_p_speeds s_speeds s_p_settings s_settings s_shut s_coresIn s_loaded s_hot s_made s_width s_p_taught r_p_has r_has r_p_firstAt r_firstAt r_p_fullAt r_fullAt r_p_pressures r_pressures r_place r_fillTicks r_ticks r_coolTicks r_why (-v4) H.size N q_8 hq_8) (cwV 1 hts gX5_even_X5_balanceWith rfl rfl rfl ⟨rfl, nh5.1, nh5.2, pd_2⟩ ⟨Nat.le_of_ble_eq_true rfl, Nat.le_of_ble_eq_true rfl⟩) (qPV hK hG hP hD hS hA [0, 1, 2, 3] (by decide) rfl (va_recv hK.1 hP (ci := 5) (q0 := 0) rfl rfl)) rfl rfl hl.1 rfl (lv_room (Nat.le_of_ble_eq_true rfl)) dX5_even_31 ⟨Nat.zero_le _, Nat.zero_le _⟩) hP hD hS hA [0, 1, 2, 3] rfl rfl rfl rfl (fun r_9 H locs hw hP hD hS => ?_)
        replace hw := hw.symm
        subst hw
        refine lv_istore (lv' := [(5, .int q_8.1), (0, .ref t_p), (1, .int v1), (2, .int v2), (3, .int v3), (4, .int v4)]) hx hb dX5_even_34 hl (by decide) rfl (fun ls hl => ?_)
        refine lv_iload hx hb dX5_even_36 (lv_at hl 0 rfl) ?_
        refine lv_iload_n hx hb dX5_even_38 rfl (lv_at hl 4 rfl) ?_
        refine lv_icmp_ge (tgt := 49) hx hb dX5_even_39 (by decide) (fun c_10 => ?_) (fun c_10 => ?_)
        · replace hf := (if_pos c_10).symm.trans hf
          exact w_49 (fun a0 a1 a2 a3 a4 a5 a6 a7 a8 a9 a10 a11 a12 a13 a14 a15 a16 a17 a18 a19 a20 => f5_even_20 N n a0 a1 a2 a3 a4 a5 a6 a7 a8 a9 a10 a11 a12 a13 a14 a15 a16 a17 a18 a19 a20) ih v1 v2 v3 v4 q_8.2.1 q_8.2.2.1 q_8.2.2.2.1 q_8.2.2.2.2.1 q_8.2.2.2.2.2.1 q_8.2.2.2.2.2.2.1 q_8.2.2.2.2.2.2.2.1 q_8.2.2.2.2.2.2.2.2.1 q_8.2.2.2.2.2.2.2.2.2 H locs ls hf hP hD hS (lv_sub hl [1, 2, 3, 4, 5] rfl)
        · replace hf := (if_neg c_10).symm.trans hf
          refine lv_iload hx hb dX5_even_42 (lv_at hl 5 rfl) ?_
          refine lv_ineg hx hb dX5_even_44 ?_
          refine lv_istore_n (lv' := [(2, .int (-v4)), (5, .int q_8.1), (0, .ref t_p), (1, .int v1), (3, .int v3), (4, .int v4)]) hx hb dX5_even_45 rfl hl (by decide) rfl (fun ls hl => ?_)
          refine lv_iload hx hb dX5_even_46 (lv_at hl 1 rfl) ?_
          refine lv_istore_n (lv' := [(3, .int q_8.1), (2, .int (-v4)), (5, .int q_8.1), (0, .ref t_p), (1, .int v1), (4, .int v4)]) hx hb dX5_even_48 rfl hl (by decide) rfl (fun ls hl => ?_)
          exact w_49 (fun a0 a1 a2 a3 a4 a5 a6 a7 a8 a9 a10 a11 a12 a13 a14 a15 a16 a17 a18 a19 a20 => f5_even_20 N n a0 a1 a2 a3 a4 a5 a6 a7 a8 a9 a10 a11 a12 a13 a14 a15 a16 a17 a18 a19 a20) ih v1 (-v4) q_8.1 v4 q_8.2.1 q_8.2.2.1 q_8.2.2.2.1 q_8.2.2.2.2.1 q_8.2.2.2.2.2.1 q_8.2.2.2.2.2.2.1 q_8.2.2.2.2.2.2.2.1 q_8.2.2.2.2.2.2.2.2.1 q_8.2.2.2.2.2.2.2.2.2 H locs ls hf hP hD hS (lv_sub hl [3, 4, 1, 0, 5] rfl)
  have hl := lv_entry ([.ref t_p, .int l1]) (n := 7) (Nat.le_of_ble_eq_true rfl)
  rw [lg_entry_eq]
  generalize (lg_sl ([.ref t_p, .int l1]) ++ List.replicate (7 - (lg_sl ([.ref t_p, .int l1])).length) Slot.unset).toArray = ls at hl ⊢
  replace hl : lv_has ls 7 [(0, .ref t_p), (1, .int l1)] := hl
  rw [f5_even] at hf
  have hgo : ∀ (H : Heap) (locs : List Loc), H = s.heap → locs = [] → va_P g.1 vwCl (fl [wk5 g t_p t_p_text t_p_plan t_p_draft t_p_states (fun i => some (t_sa i)) t_at t_undoable (t_sa (Int32.toNatClampNeg t_at)) t_p_shots (fun i => some (t_ha i)) t_p_trial, wk1 g t_p_plan n_cavities n_p_volumes n_volumes n_p_drags n_drags n_p_freezes n_freezes n_cores n_p_ahead n_ahead n_stages n_p_places n_places n_p_speeds n_speeds n_p_settings n_settings, wk3 g (t_sa (Int32.toNatClampNeg t_at)) s_p_drags s_drags s_p_speeds s_speeds s_p_settings s_settings s_shut s_coresIn s_loaded s_hot s_made s_width s_p_taught, wk2 g t_p_trial r_p_has r_has r_p_firstAt r_firstAt r_p_fullAt r_fullAt r_p_pressures r_pressures r_place r_fillTicks r_ticks r_coolTicks r_why]) H → va_S A s.heap H locs → W p l e ({ frames := 5, cells := 0, slots := 0, locals := 122 }) s m ([.ref t_p, .int l1] : List Value).toArray below meth c H locs 0 0 (MQ below (pQi g (fun r => r = res.1) (fl [wk5 g t_p t_p_text t_p_plan t_p_draft t_p_states (fun i => some (t_sa i)) t_at t_undoable (t_sa (Int32.toNatClampNeg t_at)) t_p_shots (fun i => some (t_ha i)) t_p_trial, wk1 g t_p_plan n_cavities n_p_volumes n_volumes n_p_drags n_drags n_p_freezes n_freezes n_cores n_p_ahead n_ahead n_stages n_p_places n_places n_p_speeds n_speeds n_p_settings n_settings, wk3 g (t_sa (Int32.toNatClampNeg t_at)) s_p_drags s_drags s_p_speeds s_speeds s_p_settings s_settings s_shut s_coresIn s_loaded s_hot s_made s_width s_p_taught, wk2 g t_p_trial r_p_has res.2.1 r_p_firstAt res.2.2.1 r_p_fullAt res.2.2.2.1 r_p_pressures res.2.2.2.2.1 res.2.2.2.2.2.1 res.2.2.2.2.2.2.1 res.2.2.2.2.2.2.2.1 res.2.2.2.2.2.2.2.2.1 res.2.2.2.2.2.2.2.2.2]) A) ([.ref t_p, .int l1] : List Value).toArray s 0 0 A) (F0 m 0 ls []) := by
    intro H locs hH hL hP hS
    refine lv_iload_n hx hb dX5_even_0 rfl (lv_at hl 1 rfl) ?_
    obtain ⟨q_1, hq_1, hf⟩ := bd_some hf
    refine aft_i (wn := (fl [wk5 g t_p t_p_text t_p_plan t_p_draft t_p_states (fun i => some (t_sa i)) t_at t_undoable (t_sa (Int32.toNatClampNeg t_at)) t_p_shots (fun i => some (t_ha i)) t_p_trial, wk1 g t_p_plan n_cavities n_p_volumes n_volumes n_p_drags n_drags n_p_freezes n_freezes n_cores n_p_ahead n_ahead n_stages n_p_places n_places n_p_speeds n_speeds n_p_settings n_settings, wk3 g (t_sa (Int32.toNatClampNeg t_at)) s_p_drags s_drags s_p_speeds s_speeds s_p_settings s_settings s_shut s_coresIn s_loaded s_hot s_made s_width s_p_taught, wk2 g t_p_trial r_p_has r_has r_p_firstAt r_firstAt r_p_fullAt r_fullAt r_p_pressures r_pressures r_place r_fillTicks r_ticks r_coolTicks r_why])) (va_runS (As := [.int l1]) (rest := []) ⟨hx, hb, hml, hown, hts⟩ (c5_isFlag l g l1 H.size N q_1 hq_1) (va_cwS 1 hts gX5_even_X5_isFlag rfl rfl rfl ⟨nh5.1, nh5.2, pd_1⟩ ⟨Nat.le_of_ble_eq_true rfl, Nat.le_of_ble_eq_true rfl⟩) (pPS hK hG hP hD hS hA [] (by decide) rfl) rfl rfl hl.1 rfl (lv_room (Nat.le_of_ble_eq_true rfl)) dX5_even_1 ⟨Nat.zero_le _, Nat.zero_le _⟩) hP hD hS hA [] rfl rfl rfl (fun r_2 H locs hw hP hD hS => ?_)
    replace hw := hw.symm
    subst hw
    refine lv_if_ne (tgt := 9) hx hb dX5_even_4 (by decide) (fun c_3 => ?_) (fun c_3 => ?_)
    · replace hf := (if_neg c_3).symm.trans hf
      refine lv_iconst (v := 0) hx hb dX5_even_9 (by decide) ?_
      refine lv_istore_n (lv' := [(2, .int 0), (0, .ref t_p), (1, .int l1)]) hx hb dX5_even_10 rfl hl (by decide) rfl (fun ls hl => ?_)
      refine lv_aload_n hx hb dX5_even_11 rfl (lv_at hl 1 rfl) ?_
      refine lv_iconst (v := 0) hx hb dX5_even_12 (by decide) ?_
      obtain ⟨q_4, hq_4, hf⟩ := bd_some hf
      refine bft_i (bn := [wk5 g t_p t_p_text t_p_plan t_p_draft t_p_states (fun i => some (t_sa i)) t_at t_undoable (t_sa (Int32.toNatClampNeg t_at)) t_p_shots (fun i => some (t_ha i)) t_p_trial, wk1 g t_p_plan n_cavities n_p_volumes n_volumes n_p_drags n_drags n_p_freezes n_freezes n_cores n_p_ahead n_ahead n_stages n_p_places n_places n_p_speeds n_speeds n_p_settings n_settings, wk3 g (t_sa (Int32.toNatClampNeg t_at)) s_p_drags s_drags s_p_speeds s_speeds s_p_settings s_settings s_shut s_coresIn s_loaded s_hot s_made s_width s_p_taught, wk2 g t_p_trial r_p_has q_4.2.1 r_p_firstAt q_4.2.2.1 r_p_fullAt q_4.2.2.2.1 r_p_pressures q_4.2.2.2.2.1 q_4.2.2.2.2.2.1 q_4.2.2.2.2.2.2.1 q_4.2.2.2.2.2.2.2.1 q_4.2.2.2.2.2.2.2.2.1 q_4.2.2.2.2.2.2.2.2.2]) (L := [[t_p, t_p_states, t_p_shots], [t_p_plan, n_p_volumes, n_p_drags, n_p_freezes, n_p_ahead, n_p_places, n_p_speeds, n_p_settings], [(t_sa (Int32.toNatClampNeg t_at)), s_p_drags, s_p_speeds, s_p_settings], [t_p_trial, r_p_has, r_p_firstAt, r_p_fullAt, r_p_pressures]]) (va_runV (As := [.int 0]) (rest := []) ⟨hx, hb, hml, hown, hts⟩ (c5_balanceWith l g t_p t_p_text t_p_plan t_p_draft t_p_states t_sa t_at t_undoable t_p_shots t_ha t_p_trial n_cavities n_p_volumes n_volumes n_p_drags n_drags n_p_freezes n_freezes n_cores n_p_ahead n_ahead n_stages n_p_places n_places n_p_speeds n_speeds n_p_settings n_settings s_p_drags s_drags s_p_speeds s_speeds s_p_settings s_settings s_shut s_coresIn s_loaded s_hot s_made s_width s_p_taught r_p_has r_has r_p_firstAt r_firstAt r_p_fullAt r_fullAt r_p_pressures r_pressures r_place r_fillTicks r_ticks r_coolTicks r_why 0 H.size N q_4 hq_4) (cwV 1 hts gX5_even_X5_balanceWith rfl rfl rfl ⟨rfl, nh5.1, nh5.2, pd_2⟩ ⟨Nat.le_of_ble_eq_true rfl, Nat.le_of_ble_eq_true rfl⟩) (qPV hK hG hP hD hS hA [0, 1, 2, 3] (by decide) rfl (va_recv hK.1 hP (ci := 5) (q0 := 0) rfl rfl)) rfl rfl hl.1 rfl (lv_room (Nat.le_of_ble_eq_true rfl)) dX5_even_13 ⟨Nat.zero_le _, Nat.zero_le _⟩) hP hD hS hA [0, 1, 2, 3] rfl rfl rfl rfl (fun r_5 H locs hw hP hD hS => ?_)
      replace hw := hw.symm
      subst hw
      refine lv_istore_n (lv' := [(3, .int q_4.1), (2, .int 0), (0, .ref t_p), (1, .int l1)]) hx hb dX5_even_16 rfl hl (by decide) rfl (fun ls hl => ?_)
      refine lv_iconst (v := 1) hx hb dX5_even_17 (by decide) ?_
      refine lv_istore (lv' := [(4, .int 1), (3, .int q_4.1), (2, .int 0), (0, .ref t_p), (1, .int l1)]) hx hb dX5_even_18 hl (by decide) rfl (fun ls hl => ?_)
      exact w_20  N l1 0 q_4.1 1 q_4.2.1 q_4.2.2.1 q_4.2.2.2.1 q_4.2.2.2.2.1 q_4.2.2.2.2.2.1 q_4.2.2.2.2.2.2.1 q_4.2.2.2.2.2.2.2.1 q_4.2.2.2.2.2.2.2.2.1 q_4.2.2.2.2.2.2.2.2.2 H locs ls hf hP hD hS (lv_sub hl [3, 4, 2, 1, 0] rfl)
    · replace hf := (if_pos c_3).symm.trans hf
      refine lv_iconst (v := (-1)) hx hb dX5_even_7 (by decide) ?_
      replace hf := Option.some.inj hf
      subst hf
      exact W.iret (v := (-1)) hx hb hr (fun t ht hW => ⟨⟨_, (), rfl, rfl, by show va_P g.1 vwCl _ t.heap; rw [ht]; exact hP⟩, hS.F ht⟩) hS.2.2 dX5_even_8 hlocks
  exact hgo s.heap [] rfl rfl hP hS

set_option maxHeartbeats 4000000 in
set_option maxRecDepth 100000 in
theorem c5_earlier (l : Launch) (g : gG) (t_p : Nat) (t_p_text : Nat) (t_p_plan : Nat) (t_p_draft : Nat) (t_p_states : Nat) (t_sa : (Nat → Nat)) (t_at : Int32) (t_undoable : Int32) (t_p_shots : Nat) (t_ha : (Nat → Nat)) (t_p_trial : Nat) (n_cavities : Int32) (n_p_volumes : Nat) (n_volumes : (Nat → Int32)) (n_p_drags : Nat) (n_drags : (Nat → Int32)) (n_p_freezes : Nat) (n_freezes : (Nat → Int32)) (n_cores : Int32) (n_p_ahead : Nat) (n_ahead : (Nat → Int32)) (n_stages : Int32) (n_p_places : Nat) (n_places : (Nat → Int32)) (n_p_speeds : Nat) (n_speeds : (Nat → Int32)) (n_p_settings : Nat) (n_settings : (Nat → Int32)) (l1 : Int32) (sz : Nat) (N : Nat) (res : (Int32)) (hf : f5_earlier N l1 n_cores n_ahead = some res) : Met l yX5_earlier wsX5_earlier ({ frames := 1, cells := 0, slots := 0, locals := 21 }) (pP g [.ref t_p, .int l1] sz (fl [wk5 g t_p t_p_text t_p_plan t_p_draft t_p_states (fun i => some (t_sa i)) t_at t_undoable (t_sa (Int32.toNatClampNeg t_at)) t_p_shots (fun i => some (t_ha i)) t_p_trial, wk1 g t_p_plan n_cavities n_p_volumes n_volumes n_p_drags n_drags n_p_freezes n_freezes n_cores n_p_ahead n_ahead n_stages n_p_places n_places n_p_speeds n_speeds n_p_settings n_settings])) (pQi g (fun r => r = res) (fl [wk5 g t_p t_p_text t_p_plan t_p_draft t_p_states (fun i => some (t_sa i)) t_at t_undoable (t_sa (Int32.toNatClampNeg t_at)) t_p_shots (fun i => some (t_ha i)) t_p_trial, wk1 g t_p_plan n_cavities n_p_volumes n_volumes n_p_drags n_drags n_p_freezes n_freezes n_cores n_p_ahead n_ahead n_stages n_p_places n_places n_p_speeds n_speeds n_p_settings n_settings]) (va_A (fl [wk5 g t_p t_p_text t_p_plan t_p_draft t_p_states (fun i => some (t_sa i)) t_at t_undoable (t_sa (Int32.toNatClampNeg t_at)) t_p_shots (fun i => some (t_ha i)) t_p_trial, wk1 g t_p_plan n_cavities n_p_volumes n_volumes n_p_drags n_drags n_p_freezes n_freezes n_cores n_p_ahead n_ahead n_stages n_p_places n_places n_p_speeds n_speeds n_p_settings n_settings]) sz)) 0 0 (va_A (fl [wk5 g t_p t_p_text t_p_plan t_p_draft t_p_states (fun i => some (t_sa i)) t_at t_undoable (t_sa (Int32.toNatClampNeg t_at)) t_p_shots (fun i => some (t_ha i)) t_p_trial, wk1 g t_p_plan n_cavities n_p_volumes n_volumes n_p_drags n_drags n_p_freezes n_freezes n_cores n_p_ahead n_ahead n_stages n_p_places n_places n_p_speeds n_speeds n_p_settings n_settings]) sz) := by
  refine Met.ofW (cc := cX5_earlier) (maxL := 2) (ret := (some .int)) (by decide) rfl ?_
  intro p e s m args below meth c s₁ B hml hv
  obtain ⟨rfl, hsz, hP, hK, hD0, hG⟩ := hv
  have hx := B.exec
  have hb := B.bytes
  have hr := B.returns
  have hts := atoms_spec (ws := wsX5_earlier) B.pre
  have hown : s.vm.findClass RX5 = some m.cls := findClass_of_methodNamed B.named
  have hlocks := B.notSynchronized
  subst hsz
  have hD := hD0.self (sz := s.heap.size)
  generalize hAe : va_A (fl [wk5 g t_p t_p_text t_p_plan t_p_draft t_p_states (fun i => some (t_sa i)) t_at t_undoable (t_sa (Int32.toNatClampNeg t_at)) t_p_shots (fun i => some (t_ha i)) t_p_trial, wk1 g t_p_plan n_cavities n_p_volumes n_volumes n_p_drags n_drags n_p_freezes n_freezes n_cores n_p_ahead n_ahead n_stages n_p_places n_places n_p_speeds n_speeds n_p_settings n_settings]) s.heap.size = A at hD hG ⊢
  have hA : ∀ q : Nat, s.heap.size ≤ q → A q := fun q h => by rw [← hAe]; exact Or.inr h
  have hS : va_S A s.heap s.heap [] := va_S.rf
  have hin1 : ∀ w ∈ u_ws RX1 TX1 10, w ∈ wsX5_earlier := by decide +kernel
  have hin5 : ∀ w ∈ u_ws RX5 TX5 9, w ∈ wsX5_earlier := by decide +kernel
  have L1 := hts (Cond.fieldLink RX5 19 "MouldShots" "plan" "LMouldShots$Plan;") (by decide +kernel)
  have hl := lv_entry ([.ref t_p, .int l1]) (n := 2) (Nat.le_of_ble_eq_true rfl)
  rw [lg_entry_eq]
  generalize (lg_sl ([.ref t_p, .int l1]) ++ List.replicate (2 - (lg_sl ([.ref t_p, .int l1])).length) Slot.unset).toArray = ls at hl ⊢
  replace hl : lv_has ls 2 [(0, .ref t_p), (1, .int l1)] := hl
  rw [f5_earlier] at hf
  have hgo : ∀ (H : Heap) (locs : List Loc), H = s.heap → locs = [] → va_P g.1 vwCl (fl [wk5 g t_p t_p_text t_p_plan t_p_draft t_p_states (fun i => some (t_sa i)) t_at t_undoable (t_sa (Int32.toNatClampNeg t_at)) t_p_shots (fun i => some (t_ha i)) t_p_trial, wk1 g t_p_plan n_cavities n_p_volumes n_volumes n_p_drags n_drags n_p_freezes n_freezes n_cores n_p_ahead n_ahead n_stages n_p_places n_places n_p_speeds n_speeds n_p_settings n_settings]) H → va_S A s.heap H locs → W p l e ({ frames := 1, cells := 0, slots := 0, locals := 21 }) s m ([.ref t_p, .int l1] : List Value).toArray below meth c H locs 0 0 (MQ below (pQi g (fun r => r = res) (fl [wk5 g t_p t_p_text t_p_plan t_p_draft t_p_states (fun i => some (t_sa i)) t_at t_undoable (t_sa (Int32.toNatClampNeg t_at)) t_p_shots (fun i => some (t_ha i)) t_p_trial, wk1 g t_p_plan n_cavities n_p_volumes n_volumes n_p_drags n_drags n_p_freezes n_freezes n_cores n_p_ahead n_ahead n_stages n_p_places n_places n_p_speeds n_speeds n_p_settings n_settings]) A) ([.ref t_p, .int l1] : List Value).toArray s 0 0 A) (F0 m 0 ls []) := by
    intro H locs hH hL hP hS
    refine lv_aload_n hx hb dX5_earlier_0 rfl (lv_at hl 0 rfl) ?_
    refine lv_iload_n hx hb dX5_earlier_1 rfl (lv_at hl 1 rfl) ?_
    obtain ⟨q_1, hq_1, hf⟩ := bd_some hf
    refine bft_i (bn := [wk5 g t_p t_p_text t_p_plan t_p_draft t_p_states (fun i => some (t_sa i)) t_at t_undoable (t_sa (Int32.toNatClampNeg t_at)) t_p_shots (fun i => some (t_ha i)) t_p_trial, wk1 g t_p_plan n_cavities n_p_volumes n_volumes n_p_drags n_drags n_p_freezes n_freezes n_cores n_p_ahead n_ahead n_stages n_p_places n_places n_p_speeds n_speeds n_p_settings n_settings]) (L := [[t_p, t_p_states, t_p_shots], [t_p_plan, n_p_volumes, n_p_drags, n_p_freezes, n_p_ahead, n_p_places, n_p_speeds, n_p_settings]]) (va_runV (As := [.int l1]) (rest := []) ⟨hx, hb, hml, hown, hts⟩ (c5_isCore l g t_p t_p_text t_p_plan t_p_draft t_p_states t_sa t_at t_undoable t_p_shots t_ha t_p_trial n_cavities n_p_volumes n_volumes n_p_drags n_drags n_p_freezes n_freezes n_cores n_p_ahead n_ahead n_stages n_p_places n_places n_p_speeds n_speeds n_p_settings n_settings l1 H.size N q_1 hq_1) (cwV 1 hts gX5_earlier_X5_isCore rfl rfl rfl ⟨rfl, nh5.1, nh5.2, pd_1⟩ ⟨Nat.le_of_ble_eq_true rfl, Nat.le_of_ble_eq_true rfl⟩) (qPV hK hG hP hD hS hA [0, 1] (by decide) rfl (va_recv hK.1 hP (ci := 5) (q0 := 0) rfl rfl)) rfl rfl hl.1 rfl (lv_room (Nat.le_of_ble_eq_true rfl)) dX5_earlier_2 ⟨Nat.zero_le _, Nat.zero_le _⟩) hP hD hS hA [0, 1] rfl rfl rfl rfl (fun r_2 H locs hw hP hD hS => ?_)
    replace hw := hw.symm
    subst hw
    refine lv_if_ne (tgt := 10) hx hb dX5_earlier_5 (by decide) (fun c_3 => ?_) (fun c_3 => ?_)
    · replace hf := (if_neg c_3).symm.trans hf
      refine lv_aload_n hx hb dX5_earlier_10 rfl (lv_at hl 0 rfl) ?_
      refine va_get (D := g.1) (ci := 5) (v := .ref t_p_plan) (C := RX5) (T := TX5) (N := 9) hx hb hts hin5 hown hK.1 hP 0 rfl rfl 1 (by decide) L1 (fun _ h9 => h9) rfl dX5_earlier_11 ?_
      refine va_getN (D := g.1) (ci := 1) (v := .ref n_p_ahead) (C := RX1) (T := TX1) (N := 10) hx hb hts hin1 hown hK.1 hP 3 rfl rfl 5 (by decide) (hK.use _ 4 rfl) (fun _ h9 => h9) rfl dX5_earlier_14 ?_
      refine lv_iload_n hx hb dX5_earlier_17 rfl (lv_at hl 1 rfl) ?_
      obtain ⟨h_4, hf⟩ := if_some hf
      refine va_iald hx hb hK.1 hP 7 0 rfl rfl (ok_in h_4) dX5_earlier_18 ?_
      refine lv_bipush (v := 9) hx hb dX5_earlier_19 (by decide) ?_
      refine lv_icmp_ne (tgt := 29) hx hb dX5_earlier_21 (by decide) (fun c_5 => ?_) (fun c_5 => ?_)
      · replace hf := (if_neg c_5).symm.trans hf
        refine lv_aload_n hx hb dX5_earlier_29 rfl (lv_at hl 0 rfl) ?_
        refine va_get (D := g.1) (ci := 5) (v := .ref t_p_plan) (C := RX5) (T := TX5) (N := 9) hx hb hts hin5 hown hK.1 hP 0 rfl rfl 1 (by decide) L1 (fun _ h9 => h9) rfl dX5_earlier_30 ?_
        refine va_getN (D := g.1) (ci := 1) (v := .ref n_p_ahead) (C := RX1) (T := TX1) (N := 10) hx hb hts hin1 hown hK.1 hP 3 rfl rfl 5 (by decide) (hK.use _ 4 rfl) (fun _ h9 => h9) rfl dX5_earlier_33 ?_
        refine lv_iload_n hx hb dX5_earlier_36 rfl (lv_at hl 1 rfl) ?_
        obtain ⟨h_6, hf⟩ := if_some hf
        refine va_iald hx hb hK.1 hP 7 0 rfl rfl (ok_in h_6) dX5_earlier_37 ?_
        replace hf := Option.some.inj hf
        subst hf
        exact W.iret (v := n_ahead (Int32.toNatClampNeg l1)) hx hb hr (fun t ht hW => ⟨⟨_, (), rfl, rfl, by show va_P g.1 vwCl _ t.heap; rw [ht]; exact hP⟩, hS.F ht⟩) hS.2.2 dX5_earlier_38 hlocks
      · replace hf := (if_pos c_5).symm.trans hf
        refine lv_bipush (v := (-4)) hx hb dX5_earlier_24 (by decide) ?_
        refine lv_goto (tgt := 38) hx hb dX5_earlier_26 (by decide) ?_
        replace hf := Option.some.inj hf
        subst hf
        exact W.iret (v := (-4)) hx hb hr (fun t ht hW => ⟨⟨_, (), rfl, rfl, by show va_P g.1 vwCl _ t.heap; rw [ht]; exact hP⟩, hS.F ht⟩) hS.2.2 dX5_earlier_38 hlocks
    · replace hf := (if_pos c_3).symm.trans hf
      refine lv_iconst (v := (-1)) hx hb dX5_earlier_8 (by decide) ?_
      replace hf := Option.some.inj hf
      subst hf
      exact W.iret (v := (-1)) hx hb hr (fun t ht hW => ⟨⟨_, (), rfl, rfl, by show va_P g.1 vwCl _ t.heap; rw [ht]; exact hP⟩, hS.F ht⟩) hS.2.2 dX5_earlier_9 hlocks
  exact hgo s.heap [] rfl rfl hP hS

set_option maxHeartbeats 4000000 in
set_option maxRecDepth 100000 in
theorem c5_order (l : Launch) (g : gG) (t_p : Nat) (t_p_text : Nat) (t_p_plan : Nat) (t_p_draft : Nat) (t_p_states : Nat) (t_sa : (Nat → Nat)) (t_at : Int32) (t_undoable : Int32) (t_p_shots : Nat) (t_ha : (Nat → Nat)) (t_p_trial : Nat) (n_cavities : Int32) (n_p_volumes : Nat) (n_volumes : (Nat → Int32)) (n_p_drags : Nat) (n_drags : (Nat → Int32)) (n_p_freezes : Nat) (n_freezes : (Nat → Int32)) (n_cores : Int32) (n_p_ahead : Nat) (n_ahead : (Nat → Int32)) (n_stages : Int32) (n_p_places : Nat) (n_places : (Nat → Int32)) (n_p_speeds : Nat) (n_speeds : (Nat → Int32)) (n_p_settings : Nat) (n_settings : (Nat → Int32)) (l1 : Int32) (sz : Nat) (N : Nat) (res : (Int32)) (hf : f5_order N l1 n_cores n_ahead = some res) : Met l yX5_order wsX5_order ({ frames := 2, cells := 0, slots := 0, locals := 47 }) (pP g [.ref t_p, .int l1] sz (fl [wk5 g t_p t_p_text t_p_plan t_p_draft t_p_states (fun i => some (t_sa i)) t_at t_undoable (t_sa (Int32.toNatClampNeg t_at)) t_p_shots (fun i => some (t_ha i)) t_p_trial, wk1 g t_p_plan n_cavities n_p_volumes n_volumes n_p_drags n_drags n_p_freezes n_freezes n_cores n_p_ahead n_ahead n_stages n_p_places n_places n_p_speeds n_speeds n_p_settings n_settings])) (pQi g (fun r => r = res) (fl [wk5 g t_p t_p_text t_p_plan t_p_draft t_p_states (fun i => some (t_sa i)) t_at t_undoable (t_sa (Int32.toNatClampNeg t_at)) t_p_shots (fun i => some (t_ha i)) t_p_trial, wk1 g t_p_plan n_cavities n_p_volumes n_volumes n_p_drags n_drags n_p_freezes n_freezes n_cores n_p_ahead n_ahead n_stages n_p_places n_places n_p_speeds n_speeds n_p_settings n_settings]) (va_A (fl [wk5 g t_p t_p_text t_p_plan t_p_draft t_p_states (fun i => some (t_sa i)) t_at t_undoable (t_sa (Int32.toNatClampNeg t_at)) t_p_shots (fun i => some (t_ha i)) t_p_trial, wk1 g t_p_plan n_cavities n_p_volumes n_volumes n_p_drags n_drags n_p_freezes n_freezes n_cores n_p_ahead n_ahead n_stages n_p_places n_places n_p_speeds n_speeds n_p_settings n_settings]) sz)) 0 0 (va_A (fl [wk5 g t_p t_p_text t_p_plan t_p_draft t_p_states (fun i => some (t_sa i)) t_at t_undoable (t_sa (Int32.toNatClampNeg t_at)) t_p_shots (fun i => some (t_ha i)) t_p_trial, wk1 g t_p_plan n_cavities n_p_volumes n_volumes n_p_drags n_drags n_p_freezes n_freezes n_cores n_p_ahead n_ahead n_stages n_p_places n_places n_p_speeds n_speeds n_p_settings n_settings]) sz) := by
  refine Met.ofW (cc := cX5_order) (maxL := 2) (ret := (some .int)) (by decide) rfl ?_
  intro p e s m args below meth c s₁ B hml hv
  obtain ⟨rfl, hsz, hP, hK, hD0, hG⟩ := hv
  have hx := B.exec
  have hb := B.bytes
  have hr := B.returns
  have hts := atoms_spec (ws := wsX5_order) B.pre
  have hown : s.vm.findClass RX5 = some m.cls := findClass_of_methodNamed B.named
  have hlocks := B.notSynchronized
  subst hsz
  have hD := hD0.self (sz := s.heap.size)
  generalize hAe : va_A (fl [wk5 g t_p t_p_text t_p_plan t_p_draft t_p_states (fun i => some (t_sa i)) t_at t_undoable (t_sa (Int32.toNatClampNeg t_at)) t_p_shots (fun i => some (t_ha i)) t_p_trial, wk1 g t_p_plan n_cavities n_p_volumes n_volumes n_p_drags n_drags n_p_freezes n_freezes n_cores n_p_ahead n_ahead n_stages n_p_places n_places n_p_speeds n_speeds n_p_settings n_settings]) s.heap.size = A at hD hG ⊢
  have hA : ∀ q : Nat, s.heap.size ≤ q → A q := fun q h => by rw [← hAe]; exact Or.inr h
  have hS : va_S A s.heap s.heap [] := va_S.rf
  have hin1 : ∀ w ∈ u_ws RX1 TX1 10, w ∈ wsX5_order := by decide +kernel
  have hin5 : ∀ w ∈ u_ws RX5 TX5 9, w ∈ wsX5_order := by decide +kernel
  have L1 := hts (Cond.fieldLink RX5 19 "MouldShots" "plan" "LMouldShots$Plan;") (by decide +kernel)
  have L2 := hts (Cond.initialized RX1) (by decide +kernel)
  have L3 := hts (Cond.instanceMethod yX1_coreInTurn) (by decide +kernel)
  have L4 := hts (Cond.selects RX1 yX1_coreInTurn yX1_coreInTurn) (by decide +kernel)
  have hl := lv_entry ([.ref t_p, .int l1]) (n := 2) (Nat.le_of_ble_eq_true rfl)
  rw [lg_entry_eq]
  generalize (lg_sl ([.ref t_p, .int l1]) ++ List.replicate (2 - (lg_sl ([.ref t_p, .int l1])).length) Slot.unset).toArray = ls at hl ⊢
  replace hl : lv_has ls 2 [(0, .ref t_p), (1, .int l1)] := hl
  rw [f5_order] at hf
  have hgo : ∀ (H : Heap) (locs : List Loc), H = s.heap → locs = [] → va_P g.1 vwCl (fl [wk5 g t_p t_p_text t_p_plan t_p_draft t_p_states (fun i => some (t_sa i)) t_at t_undoable (t_sa (Int32.toNatClampNeg t_at)) t_p_shots (fun i => some (t_ha i)) t_p_trial, wk1 g t_p_plan n_cavities n_p_volumes n_volumes n_p_drags n_drags n_p_freezes n_freezes n_cores n_p_ahead n_ahead n_stages n_p_places n_places n_p_speeds n_speeds n_p_settings n_settings]) H → va_S A s.heap H locs → W p l e ({ frames := 2, cells := 0, slots := 0, locals := 47 }) s m ([.ref t_p, .int l1] : List Value).toArray below meth c H locs 0 0 (MQ below (pQi g (fun r => r = res) (fl [wk5 g t_p t_p_text t_p_plan t_p_draft t_p_states (fun i => some (t_sa i)) t_at t_undoable (t_sa (Int32.toNatClampNeg t_at)) t_p_shots (fun i => some (t_ha i)) t_p_trial, wk1 g t_p_plan n_cavities n_p_volumes n_volumes n_p_drags n_drags n_p_freezes n_freezes n_cores n_p_ahead n_ahead n_stages n_p_places n_places n_p_speeds n_speeds n_p_settings n_settings]) A) ([.ref t_p, .int l1] : List Value).toArray s 0 0 A) (F0 m 0 ls []) := by
    intro H locs hH hL hP hS
    refine lv_iload_n hx hb dX5_order_0 rfl (lv_at hl 1 rfl) ?_
    refine lv_if_ge (tgt := 6) hx hb dX5_order_1 (by decide) (fun c_1 => ?_) (fun c_1 => ?_)
    · replace hf := (if_pos c_1).symm.trans hf
      refine lv_iload_n hx hb dX5_order_6 rfl (lv_at hl 1 rfl) ?_
      refine lv_aload_n hx hb dX5_order_7 rfl (lv_at hl 0 rfl) ?_
      refine va_get (D := g.1) (ci := 5) (v := .ref t_p_plan) (C := RX5) (T := TX5) (N := 9) hx hb hts hin5 hown hK.1 hP 0 rfl rfl 1 (by decide) L1 (fun _ h9 => h9) rfl dX5_order_8 ?_
      refine va_getN (D := g.1) (ci := 1) (v := .int n_cores) (C := RX1) (T := TX1) (N := 10) hx hb hts hin1 hown hK.1 hP 3 rfl rfl 4 (by decide) (hK.use _ 5 rfl) (fun _ h9 => h9) rfl dX5_order_11 ?_
      refine lv_icmp_lt (tgt := 22) hx hb dX5_order_14 (by decide) (fun c_2 => ?_) (fun c_2 => ?_)
      · replace hf := (if_pos c_2).symm.trans hf
        refine lv_aload_n hx hb dX5_order_22 rfl (lv_at hl 0 rfl) ?_
        refine va_get (D := g.1) (ci := 5) (v := .ref t_p_plan) (C := RX5) (T := TX5) (N := 9) hx hb hts hin5 hown hK.1 hP 0 rfl rfl 1 (by decide) L1 (fun _ h9 => h9) rfl dX5_order_23 ?_
        refine lv_iload_n hx hb dX5_order_26 rfl (lv_at hl 1 rfl) ?_
        obtain ⟨q_3, hq_3, hf⟩ := bd_some hf
        refine bft_i (bn := [wk5 g t_p t_p_text t_p_plan t_p_draft t_p_states (fun i => some (t_sa i)) t_at t_undoable (t_sa (Int32.toNatClampNeg t_at)) t_p_shots (fun i => some (t_ha i)) t_p_trial, wk1 g t_p_plan n_cavities n_p_volumes n_volumes n_p_drags n_drags n_p_freezes n_freezes n_cores n_p_ahead n_ahead n_stages n_p_places n_places n_p_speeds n_speeds n_p_settings n_settings]) (L := [[t_p_plan, n_p_volumes, n_p_drags, n_p_freezes, n_p_ahead, n_p_places, n_p_speeds, n_p_settings]]) (va_runVN (As := [.int l1]) (rest := []) ⟨hx, hb, hml, hown, hts⟩ (c1_coreInTurn l g t_p_plan n_cavities n_p_volumes n_volumes n_p_drags n_drags n_p_freezes n_freezes n_cores n_p_ahead n_ahead n_stages n_p_places n_places n_p_speeds n_speeds n_p_settings n_settings l1 H.size N q_3 hq_3) ⟨va_cnB 1 hts gX5_order_X1_coreInTurn_n285 rfl rfl rfl (hK.nw _ 57 rfl) L2 ⟨nh1.1, nh1.2, pd_2⟩ ⟨Nat.le_of_ble_eq_true rfl, Nat.le_of_ble_eq_true rfl⟩, L3, L4⟩ (qPV hK hG hP hD hS hA [1] (by decide) rfl (va_recv hK.1 hP (ci := 1) (q0 := 3) rfl rfl)) rfl rfl hl.1 rfl (lv_room (Nat.le_of_ble_eq_true rfl)) dX5_order_27 ⟨Nat.zero_le _, Nat.zero_le _⟩) hP hD hS hA [1] rfl rfl rfl rfl (fun r_4 H locs hw hP hD hS => ?_)
        replace hw := hw.symm
        subst hw
        replace hf := Option.some.inj hf
        subst hf
        exact W.iret (v := q_3) hx hb hr (fun t ht hW => ⟨⟨_, (), rfl, rfl, by show va_P g.1 vwCl _ t.heap; rw [ht]; exact hP⟩, hS.F ht⟩) hS.2.2 dX5_order_30 hlocks
      · replace hf := (if_neg c_2).symm.trans hf
        refine lv_bipush (v := (-4)) hx hb dX5_order_17 (by decide) ?_
        refine lv_goto (tgt := 30) hx hb dX5_order_19 (by decide) ?_
        replace hf := Option.some.inj hf
        subst hf
        exact W.iret (v := (-4)) hx hb hr (fun t ht hW => ⟨⟨_, (), rfl, rfl, by show va_P g.1 vwCl _ t.heap; rw [ht]; exact hP⟩, hS.F ht⟩) hS.2.2 dX5_order_30 hlocks
    · replace hf := (if_neg c_1).symm.trans hf
      refine lv_iconst (v := (-1)) hx hb dX5_order_4 (by decide) ?_
      replace hf := Option.some.inj hf
      subst hf
      exact W.iret (v := (-1)) hx hb hr (fun t ht hW => ⟨⟨_, (), rfl, rfl, by show va_P g.1 vwCl _ t.heap; rw [ht]; exact hP⟩, hS.F ht⟩) hS.2.2 dX5_order_5 hlocks
  exact hgo s.heap [] rfl rfl hP hS
